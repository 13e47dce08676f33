def F_Dir_isOneOf_9 (t0_0 : Int32) (t0_1 : Int32) (t0_2 : Int32) (t0_3 : Int32) (t0_4 : Int32) (t0_5 : Int32) (t0_6 : Int32) : Int32 := if t0_4 < (0 : Int32) then ((0 : Int32)) else (if ((F_jStr_indexOf_II_9 ((t0_4.toUInt32 % 65536).toInt32 : Int32)) : Int32) < (0 : Int32) then ((0 : Int32)) else ((1 : Int32)))
set_option maxRecDepth 100000 in
set_option maxHeartbeats 4000000 in
theorem X_Dir_isOneOf_9 (l : Launch) (D : va_G) (g : Nat → ClassId) (q : Nat → Nat) (ws : va_W) (hI : q_I (nsh g q) q ws) (t0_0 : Int32) (t0_1 : Int32) (t0_2 : Int32) (t0_3 : Int32) (t0_4 : Int32) (t0_5 : Int32) (t0_6 : Int32) (hT0 : ws[47]? = (some (q 47, .inr (10, [.int t0_0, .int t0_1, .int t0_2, .int t0_3, .int t0_4, .int t0_5, .ref (q 1), .int t0_6])) : Option (Nat × va_E))) : q_mI l y_Dir_isOneOf prog_6_method_9_code 2 (.boolean) 5 0 0 D g [.ref (q 47), .ref (g (8 + 2 * 9))] ws (fun r u => ws = u ∧ (0 ≤ r.toInt) ∧ (r.toInt ≤ 1) ∧ r = (F_Dir_isOneOf_9 t0_0 t0_1 t0_2 t0_3 t0_4 t0_5 t0_6)) := by
  intro sz
  refine q_into (by decide) (Nat.le_of_ble_eq_true rfl) ?_
  intro p e s m below meth c ls hsz C0 V hl
  have hx := C0.1
  have hb := C0.2.1
  obtain ⟨yy0_0, yy0_1, yy0_2, yy0_3, yy0_4, yy0_5, yy0_6, hh0, btt0_2, btt0_3, btt0_6⟩ := n_o47 hI
  obtain ⟨rfl, rfl, rfl, rfl, rfl, rfl, rfl⟩ : t0_0 = yy0_0 ∧ t0_1 = yy0_1 ∧ t0_2 = yy0_2 ∧ t0_3 = yy0_3 ∧ t0_4 = yy0_4 ∧ t0_5 = yy0_5 ∧ t0_6 = yy0_6 := by have z := Option.some.inj (hT0.symm.trans hh0); simpa using z
  replace btt0_2 : q_F (-1 ≤ t0_2.toInt ∧ t0_2.toInt ≤ 9999) := btt0_2
  replace btt0_3 : q_F (-1 ≤ t0_3.toInt ∧ t0_3.toInt ≤ 9999) := btt0_3
  replace btt0_6 : q_F (0 ≤ t0_6.toInt ∧ t0_6.toInt ≤ 1) := btt0_6
  have hl : lv_has ls 2 [(0, .ref (q 47)), (1, .ref (g (8 + 2 * 9)))] := hl
  refine lv_aload_n hx hb d_6_9_0 rfl (lv_at hl 0 rfl) ?_
  refine q_get (ci := 10) (j := 4) (v := .int t0_4) C0 V i_Dir rfl rfl hT0 (by decide) w_361 rfl d_6_9_1 ?_
  refine lv_if_lt (tgt := 23) hx hb d_6_9_4 (by decide) (fun c12 => ?_) (fun c12 => ?_)
  ·
    have b13 : q_F (t0_4.toInt < 0) := (q_ltI c12)
    refine lv_iconst (v := 0) hx hb d_6_9_23 (by decide) ?_
    exact q_retz C0 V (by decide) (⟨rfl, (show 0 ≤ (0 : Int32).toInt from (by have z7 : (0 : Int32).toInt = 0 := rfl; omega)), (show (0 : Int32).toInt ≤ 1 from (by have z7 : (0 : Int32).toInt = 0 := rfl; omega)), (show (0 : Int32) = (F_Dir_isOneOf_9 t0_0 t0_1 t0_2 t0_3 t0_4 t0_5 t0_6) from (by rw [F_Dir_isOneOf_9.eq_1, if_pos c12]))⟩) d_6_9_24
  ·
    have b14 : q_F (0 ≤ t0_4.toInt) := (q_nltI c12)
    refine lv_aload_n hx hb d_6_9_7 rfl (lv_at hl 1 rfl) ?_
    refine lv_aload_n hx hb d_6_9_8 rfl (lv_at hl 0 rfl) ?_
    refine q_get (ci := 10) (j := 4) (v := .int t0_4) C0 V i_Dir rfl rfl hT0 (by decide) w_361 rfl d_6_9_9 ?_
    refine lv_i2c hx hb d_6_9_12 rfl ?_
    obtain ⟨a15, e16⟩ := q_nm ((t0_4.toUInt32 % 65536).toInt32 : Int32)
    refine q_ti (v := a15) e16 ?_
    have b17 : q_F (0 ≤ a15.toInt ∧ a15.toInt ≤ 65535) := (by rw [← e16]; show 0 ≤ ((t0_4.toUInt32 % 65536).toInt32 : Int32).toInt ∧ ((t0_4.toUInt32 % 65536).toInt32 : Int32).toInt ≤ 65535; exact ⟨(n_i2c (x := t0_4)).1, (n_i2c (x := t0_4)).2.1⟩)
    refine q_goi V (q_runVs (As := [.int a15]) (rest := []) (d := 4) (mc := 0) (ms := 0) (i := 9) C0 V rfl LV_Dir_63 (X_jStr_indexOf_II_9 l D g q ws  a15 hI   _) rfl rfl rfl hl.1 rfl (Nat.le_of_ble_eq_true rfl) ⟨by decide, by decide⟩ ⟨Nat.le_of_ble_eq_true rfl, Nat.le_of_ble_eq_true rfl⟩ d_6_9_13) (fun a20 u18 H locs hp19 V => ?_)
    obtain ⟨rfl, b21, b22, hE23⟩ := hp19
    have e24 : a20 = (F_jStr_indexOf_II_9 a15) := hE23
    replace b21 : q_F (0 ≤ a20.toInt + 1) := b21
    replace b22 : q_F (a20.toInt ≤ 1) := b22
    refine lv_if_lt (tgt := 23) hx hb d_6_9_16 (by decide) (fun c25 => ?_) (fun c25 => ?_)
    ·
      have b26 : q_F (a20.toInt < 0) := (q_ltI c25)
      refine lv_iconst (v := 0) hx hb d_6_9_23 (by decide) ?_
      exact q_retz C0 V (by decide) (⟨rfl, (show 0 ≤ (0 : Int32).toInt from (by have z7 : (0 : Int32).toInt = 0 := rfl; omega)), (show (0 : Int32).toInt ≤ 1 from (by have z7 : (0 : Int32).toInt = 0 := rfl; omega)), (show (0 : Int32) = (F_Dir_isOneOf_9 t0_0 t0_1 t0_2 t0_3 t0_4 t0_5 t0_6) from (by have c25x := c25; rw [e24, ← e16] at c25x; rw [F_Dir_isOneOf_9.eq_1, if_neg c12, if_pos c25x]))⟩) d_6_9_24
    ·
      have b27 : q_F (0 ≤ a20.toInt) := (q_nltI c25)
      refine lv_iconst (v := 1) hx hb d_6_9_19 (by decide) ?_
      refine lv_goto (tgt := 24) hx hb d_6_9_20 (by decide) ?_
      exact q_retz C0 V (by decide) (⟨rfl, (show 0 ≤ (1 : Int32).toInt from (by have z7 : (1 : Int32).toInt = 1 := rfl; omega)), (show (1 : Int32).toInt ≤ 1 from (by have z7 : (1 : Int32).toInt = 1 := rfl; omega)), (show (1 : Int32) = (F_Dir_isOneOf_9 t0_0 t0_1 t0_2 t0_3 t0_4 t0_5 t0_6) from (by have c25x := c25; rw [e24, ← e16] at c25x; rw [F_Dir_isOneOf_9.eq_1, if_neg c12, if_neg c25x]))⟩) d_6_9_24
def F_jLat_indexOfChar_10_L7 (x2 : Int32) (x3 : Int32) (x4 : Int32) (a1 : Int32) : Nat → Int32 → Int32
  | 0, _ => default
  | fm + 1, lx4 => if x4 ≤ lx4 then ((-1 : Int32)) else (if ((([100, 111, 120, 88] : List Int32).getD lx4.toNatClampNeg 0) : Int32) = a1 then (lx4) else (F_jLat_indexOfChar_10_L7 x2 x3 x4 a1 fm (lx4 + 1 : Int32)))
def F_jLat_indexOfChar_10 (x2 : Int32) (x3 : Int32) (x4 : Int32) : Int32 := F_jLat_indexOfChar_10_L7 x2 x3 x4 (x2.toInt8.toInt32 : Int32) ((4 - x3.toInt).toNat + 1) x3
set_option maxRecDepth 100000 in
set_option maxHeartbeats 4000000 in
theorem X_jLat_indexOfChar_10 (l : Launch) (D : va_G) (g : Nat → ClassId) (q : Nat → Nat) (ws : va_W) (x2 : Int32) (x3 : Int32) (x4 : Int32) (hI : q_I (nsh g q) q ws) (pre0 : 0 ≤ x3.toInt) (pre1 : x4.toInt ≤ 4) : q_mI l y_jLat_indexOfChar prog_33_method_23_code 6 (.int) 1 0 0 D g [.ref (g (9 + 2 * 10)), .int x2, .int x3, .int x4] ws (fun r u => ws = u ∧ (0 ≤ r.toInt + 1) ∧ (r.toInt ≤ 3) ∧ r = (F_jLat_indexOfChar_10 x2 x3 x4)) := by
  intro sz
  refine q_into (by decide) (Nat.le_of_ble_eq_true rfl) ?_
  intro p e s m below meth c ls hsz C0 V hl
  have hx := C0.1
  have hb := C0.2.1
  replace pre0 : q_F (0 ≤ x3.toInt) := pre0
  replace pre1 : q_F (x4.toInt ≤ 4) := pre1
  have hl : lv_has ls 6 [(0, .ref (g (9 + 2 * 10))), (1, .int x2), (2, .int x3), (3, .int x4)] := hl
  refine lv_iload_n hx hb d_33_23_0 rfl (lv_at hl 1 rfl) ?_
  refine lv_i2b hx hb d_33_23_1 rfl ?_
  obtain ⟨a1, e2⟩ := q_nm (x2.toInt8.toInt32 : Int32)
  refine q_ti (v := a1) e2 ?_
  refine lv_istore (lv' := [(4, .int a1), (0, .ref (g (9 + 2 * 10))), (1, .int x2), (2, .int x3), (3, .int x4)]) hx hb d_33_23_2 hl (by decide) rfl (fun ls hl => ?_)
  refine lv_iload_n hx hb d_33_23_4 rfl (lv_at hl 3 rfl) ?_
  refine lv_istore (lv' := [(5, .int x3), (4, .int a1), (0, .ref (g (9 + 2 * 10))), (1, .int x2), (2, .int x3), (3, .int x4)]) hx hb d_33_23_5 hl (by decide) rfl (fun ls hl => ?_)
  refine q_loop (X := Int32) (fun z H locs ls _ => q_F (x3.toInt ≤ z.toInt) ∧ q_Wd D g (va_A ws sz) s ws H locs ∧ lv_has ls 6 [(5, .int z), (4, .int a1), (0, .ref (g (9 + 2 * 10))), (3, .int x4)] ∧ (∃ n, (4 - z.toInt).toNat < n ∧ F_jLat_indexOfChar_10_L7 x2 x3 x4 a1 n z = (F_jLat_indexOfChar_10 x2 x3 x4))) (fun z => (4 - z.toInt).toNat) ?_ ((x3 : Int32)) _ _ _ ws ⟨(show q_F (x3.toInt ≤ x3.toInt) from (show x3.toInt ≤ x3.toInt from by omega)), V, q_lw hl (q_lw1 0 rfl (q_lw1 1 rfl (q_lw1 2 rfl (q_lw1 5 rfl q_lw0)))), ⟨((4 - x3.toInt).toNat + 1), Nat.lt_succ_self _, (show F_jLat_indexOfChar_10_L7 x2 x3 x4 a1 ((4 - x3.toInt).toNat + 1) x3 = (F_jLat_indexOfChar_10 x2 x3 x4) from (by rw [← e2, F_jLat_indexOfChar_10.eq_1]))⟩⟩
  rintro lx4 H locs ls _ ⟨i5, V, hl, ⟨fu9, hf10, hR7⟩⟩ ih6
  obtain ⟨fm11, rfl⟩ : ∃ m, fu9 = m + 1 := ⟨fu9 - 1, by omega⟩
  replace i5 : q_F (x3.toInt ≤ lx4.toInt) := i5
  replace hl : lv_has ls 6 [(5, .int lx4), (4, .int a1), (0, .ref (g (9 + 2 * 10))), (3, .int x4)] := hl
  refine lv_iload hx hb d_33_23_7 (lv_at hl 0 rfl) ?_
  refine lv_iload_n hx hb d_33_23_9 rfl (lv_at hl 3 rfl) ?_
  refine lv_icmp_ge (tgt := 31) hx hb d_33_23_10 (by decide) (fun c12 => ?_) (fun c12 => ?_)
  ·
    have b13 : q_F (x4.toInt ≤ lx4.toInt) := (q_leI c12)
    refine lv_iconst (v := (-1)) hx hb d_33_23_31 (by decide) ?_
    exact q_reti C0 V (⟨rfl, (show 0 ≤ (-1 : Int32).toInt + 1 from (by have z3 : (-1 : Int32).toInt = -1 := rfl; omega)), (show (-1 : Int32).toInt ≤ 3 from (by have z3 : (-1 : Int32).toInt = -1 := rfl; omega)), (show (-1 : Int32) = (F_jLat_indexOfChar_10 x2 x3 x4) from Eq.trans (by rw [F_jLat_indexOfChar_10_L7.eq_2, if_pos c12]) hR7)⟩) d_33_23_32
  ·
    have b14 : q_F (lx4.toInt < x4.toInt) := (q_nleI c12)
    refine lv_aload_n hx hb d_33_23_13 rfl (lv_at hl 2 rfl) ?_
    refine lv_iload hx hb d_33_23_14 (lv_at hl 0 rfl) ?_
    refine q_sbal (i := 10) (v := (([100, 111, 120, 88] : List Int32).getD lx4.toNatClampNeg 0)) C0 V rfl (show vp_in lx4 4 from q_ix (x := lx4.toInt) rfl (by have t1 : 0 ≤ x3.toInt := pre0; have t2 : x3.toInt ≤ lx4.toInt := i5; omega) (by have t1 : 0 ≤ x3.toInt := pre0; have t2 : x3.toInt ≤ lx4.toInt := i5; have t3 : x4.toInt ≤ 4 := pre1; have t4 : lx4.toInt < x4.toInt := b14; omega)) rfl d_33_23_16 ?_
    obtain ⟨a15, e16⟩ := q_nm ((([100, 111, 120, 88] : List Int32).getD lx4.toNatClampNeg 0) : Int32)
    refine q_ti (v := a15) e16 ?_
    refine lv_iload hx hb d_33_23_17 (lv_at hl 1 rfl) ?_
    refine lv_icmp_ne (tgt := 25) hx hb d_33_23_19 (by decide) (fun c17 => ?_) (fun c17 => ?_)
    ·
      have b18 : q_F (a15.toInt ≠ a1.toInt) := (q_neI c17)
      obtain ⟨a19, e20⟩ := q_nm (lx4 + 1 : Int32)
      have b21 : q_F (a19.toInt = lx4.toInt + 1) := (by rw [← e20]; exact q_addI (y := 1) rfl (by decide) (by have _ := q_lo32 (x := lx4); have _ := q_hi32 (x := lx4); have t1 : lx4.toInt < x4.toInt := b14; have _ := q_lo32 (x := x4); have _ := q_hi32 (x := x4); omega) (by have _ := q_lo32 (x := lx4); have _ := q_hi32 (x := lx4); have t1 : lx4.toInt < x4.toInt := b14; have _ := q_lo32 (x := x4); have _ := q_hi32 (x := x4); omega))
      refine lv_iinc (v := a19) (lv' := [(5, .int a19), (4, .int a1), (0, .ref (g (9 + 2 * 10))), (3, .int x4)]) hx hb d_33_23_25 hl (k := 0) rfl (e20) (by decide) rfl (fun ls hl => ?_)
      refine lv_goto (tgt := 7) hx hb d_33_23_28 (by decide) ?_
      exact ih6 ((a19 : Int32)) _ _ _ ws (show (4 - a19.toInt).toNat < (4 - lx4.toInt).toNat from by have t1 : a19.toInt = lx4.toInt + 1 := b21; have t2 : x4.toInt ≤ 4 := pre1; have t3 : lx4.toInt < x4.toInt := b14; omega) ⟨(show q_F (x3.toInt ≤ a19.toInt) from (show x3.toInt ≤ a19.toInt from by have t1 : x3.toInt ≤ lx4.toInt := i5; have t2 : a19.toInt = lx4.toInt + 1 := b21; omega)), V, q_lw hl (q_lw1 0 rfl (q_lw1 1 rfl (q_lw1 2 rfl (q_lw1 3 rfl q_lw0)))), ⟨fm11, Nat.lt_of_lt_of_le (show (4 - a19.toInt).toNat < (4 - lx4.toInt).toNat from by have t1 : a19.toInt = lx4.toInt + 1 := b21; have t2 : x4.toInt ≤ 4 := pre1; have t3 : lx4.toInt < x4.toInt := b14; omega) (Nat.le_of_lt_succ hf10), (show F_jLat_indexOfChar_10_L7 x2 x3 x4 a1 fm11 a19 = (F_jLat_indexOfChar_10 x2 x3 x4) from Eq.trans (by have c17x := c17; rw [← e16] at c17x; rw [← e20, F_jLat_indexOfChar_10_L7.eq_2, if_neg c12, if_neg c17x]) hR7)⟩⟩
    ·
      have b22 : q_F (a15.toInt = a1.toInt) := (q_eqI c17)
      refine lv_iload hx hb d_33_23_22 (lv_at hl 0 rfl) ?_
      exact q_reti C0 V (⟨rfl, (show 0 ≤ lx4.toInt + 1 from (by have t1 : 0 ≤ x3.toInt := pre0; have t2 : x3.toInt ≤ lx4.toInt := i5; omega)), (show lx4.toInt ≤ 3 from (by have t1 : x4.toInt ≤ 4 := pre1; have t2 : lx4.toInt < x4.toInt := b14; omega)), (show lx4 = (F_jLat_indexOfChar_10 x2 x3 x4) from Eq.trans (by have c17x := c17; rw [← e16] at c17x; rw [F_jLat_indexOfChar_10_L7.eq_2, if_neg c12, if_pos c17x]) hR7)⟩) d_33_23_24
def F_jLat_indexOf_10 (x2 : Int32) (x3 : Int32) (x4 : Int32) : Int32 := if ((F_jLat_canEncode x2) : Int32) = (0 : Int32) then ((-1 : Int32)) else (if (if x3 < 0 then 0 else x3 : Int32) < (if 4 < x4 then 4 else x4 : Int32) then (((F_jLat_indexOfChar_10 x2 (if x3 < 0 then 0 else x3 : Int32) (if 4 < x4 then 4 else x4 : Int32)) : Int32)) else ((-1 : Int32)))
set_option maxRecDepth 100000 in
set_option maxHeartbeats 4000000 in
theorem X_jLat_indexOf_10 (l : Launch) (D : va_G) (g : Nat → ClassId) (q : Nat → Nat) (ws : va_W) (x2 : Int32) (x3 : Int32) (x4 : Int32) (hI : q_I (nsh g q) q ws) (pre0 : 0 ≤ x3.toInt) (pre1 : x4.toInt ≤ 4) : q_mI l y_jLat_indexOf prog_33_method_22_code 4 (.int) 2 0 0 D g [.ref (g (9 + 2 * 10)), .int x2, .int x3, .int x4] ws (fun r u => ws = u ∧ (0 ≤ r.toInt + 1) ∧ (r.toInt ≤ 3) ∧ r = (F_jLat_indexOf_10 x2 x3 x4)) := by
  intro sz
  refine q_into (by decide) (Nat.le_of_ble_eq_true rfl) ?_
  intro p e s m below meth c ls hsz C0 V hl
  have hx := C0.1
  have hb := C0.2.1
  replace pre0 : q_F (0 ≤ x3.toInt) := pre0
  replace pre1 : q_F (x4.toInt ≤ 4) := pre1
  have hl : lv_has ls 4 [(0, .ref (g (9 + 2 * 10))), (1, .int x2), (2, .int x3), (3, .int x4)] := hl
  refine lv_iload_n hx hb d_33_22_0 rfl (lv_at hl 1 rfl) ?_
  refine q_goi V (q_runS (As := [.int x2]) (rest := []) (d := 1) (mc := 0) (ms := 0) C0 V rfl LS_jLat_88 (X_jLat_canEncode l D g q ws  x2 hI   _) rfl hl.1 rfl (Nat.le_of_ble_eq_true rfl) ⟨by decide, by decide⟩ ⟨Nat.le_of_ble_eq_true rfl, Nat.le_of_ble_eq_true rfl⟩ d_33_22_1) (fun a3 u1 H locs hp2 V => ?_)
  obtain ⟨rfl, b4, b5, hE6⟩ := hp2
  have e7 : a3 = (F_jLat_canEncode x2) := hE6
  replace b4 : q_F (0 ≤ a3.toInt) := b4
  replace b5 : q_F (a3.toInt ≤ 1) := b5
  refine lv_if_ne (tgt := 9) hx hb d_33_22_4 (by decide) (fun c8 => ?_) (fun c8 => ?_)
  ·
    have b9 : q_F (a3.toInt ≠ 0) := (q_neI c8)
    refine lv_iload_n hx hb d_33_22_9 rfl (lv_at hl 2 rfl) ?_
    refine lv_iconst (v := 0) hx hb d_33_22_10 (by decide) ?_
    refine q_max C0 hl.1 rfl w_1773 w_803 w_7 w_804 ⟨Nat.le_of_ble_eq_true rfl, Nat.le_of_ble_eq_true rfl⟩ ⟨Nat.le_of_ble_eq_true rfl, Nat.le_of_ble_eq_true rfl⟩ d_33_22_11 ?_
    obtain ⟨a10, e11⟩ := q_nm (if x3 < 0 then 0 else x3 : Int32)
    refine q_ti (v := a10) e11 ?_
    have b12 : q_F (x3.toInt ≤ a10.toInt ∧ 0 ≤ a10.toInt ∧ (a10.toInt = x3.toInt ∨ a10.toInt = 0)) := (by rw [← e11]; show x3.toInt ≤ (if x3 < 0 then 0 else x3 : Int32).toInt ∧ 0 ≤ (if x3 < 0 then 0 else x3 : Int32).toInt ∧ ((if x3 < 0 then 0 else x3 : Int32).toInt = x3.toInt ∨ (if x3 < 0 then 0 else x3 : Int32).toInt = 0); exact (by have y1 : (0 : Int32).toInt = 0 := rfl; have z := s_max (a := x3) (b := 0); omega))
    refine lv_istore_n (lv' := [(2, .int a10), (0, .ref (g (9 + 2 * 10))), (1, .int x2), (3, .int x4)]) hx hb d_33_22_14 rfl hl (by decide) rfl (fun ls hl => ?_)
    refine lv_iload_n hx hb d_33_22_15 rfl (lv_at hl 3 rfl) ?_
    refine lv_aload_n hx hb d_33_22_16 rfl (lv_at hl 1 rfl) ?_
    refine q_slen (i := 10) (v := 4) C0 V rfl (by decide) d_33_22_17 ?_
    refine q_min C0 hl.1 rfl w_1774 w_774 w_7 w_775 ⟨Nat.le_of_ble_eq_true rfl, Nat.le_of_ble_eq_true rfl⟩ ⟨Nat.le_of_ble_eq_true rfl, Nat.le_of_ble_eq_true rfl⟩ d_33_22_18 ?_
    obtain ⟨a13, e14⟩ := q_nm (if 4 < x4 then 4 else x4 : Int32)
    refine q_ti (v := a13) e14 ?_
    have b15 : q_F (a13.toInt ≤ x4.toInt ∧ a13.toInt ≤ 4 ∧ (a13.toInt = x4.toInt ∨ a13.toInt = 4)) := (by rw [← e14]; show (if 4 < x4 then 4 else x4 : Int32).toInt ≤ x4.toInt ∧ (if 4 < x4 then 4 else x4 : Int32).toInt ≤ 4 ∧ ((if 4 < x4 then 4 else x4 : Int32).toInt = x4.toInt ∨ (if 4 < x4 then 4 else x4 : Int32).toInt = 4); exact (by have y1 : (4 : Int32).toInt = 4 := rfl; have z := s_min (a := x4) (b := 4); omega))
    refine lv_istore_n (lv' := [(3, .int a13), (2, .int a10), (0, .ref (g (9 + 2 * 10))), (1, .int x2)]) hx hb d_33_22_21 rfl hl (by decide) rfl (fun ls hl => ?_)
    refine lv_iload_n hx hb d_33_22_22 rfl (lv_at hl 1 rfl) ?_
    refine lv_iload_n hx hb d_33_22_23 rfl (lv_at hl 0 rfl) ?_
    refine lv_icmp_lt (tgt := 29) hx hb d_33_22_24 (by decide) (fun c16 => ?_) (fun c16 => ?_)
    ·
      have b17 : q_F (a10.toInt < a13.toInt) := (q_ltI c16)
      refine lv_aload_n hx hb d_33_22_29 rfl (lv_at hl 2 rfl) ?_
      refine lv_iload_n hx hb d_33_22_30 rfl (lv_at hl 3 rfl) ?_
      refine lv_iload_n hx hb d_33_22_31 rfl (lv_at hl 1 rfl) ?_
      refine lv_iload_n hx hb d_33_22_32 rfl (lv_at hl 0 rfl) ?_
      refine q_goi V (q_runS (As := [.ref (g (9 + 2 * 10)), .int x2, .int a10, .int a13]) (rest := []) (d := 1) (mc := 0) (ms := 0) C0 V rfl LS_jLat_95 (X_jLat_indexOfChar_10 l D g q ws  x2 a10 a13 hI  (by have t1 : x3.toInt ≤ a10.toInt ∧ 0 ≤ a10.toInt ∧ (a10.toInt = x3.toInt ∨ a10.toInt = 0) := b12; omega) (by have t1 : a13.toInt ≤ x4.toInt ∧ a13.toInt ≤ 4 ∧ (a13.toInt = x4.toInt ∨ a13.toInt = 4) := b15; omega) _) rfl hl.1 rfl (Nat.le_of_ble_eq_true rfl) ⟨by decide, by decide⟩ ⟨Nat.le_of_ble_eq_true rfl, Nat.le_of_ble_eq_true rfl⟩ d_33_22_33) (fun a20 u18 H locs hp19 V => ?_)
      obtain ⟨rfl, b21, b22, hE23⟩ := hp19
      have e24 : a20 = (F_jLat_indexOfChar_10 x2 a10 a13) := hE23
      replace b21 : q_F (0 ≤ a20.toInt + 1) := b21
      replace b22 : q_F (a20.toInt ≤ 3) := b22
      exact q_reti C0 V (⟨rfl, (show 0 ≤ a20.toInt + 1 from (by have t1 : 0 ≤ a20.toInt + 1 := b21; omega)), (show a20.toInt ≤ 3 from (by have t1 : a20.toInt ≤ 3 := b22; omega)), (show a20 = (F_jLat_indexOf_10 x2 x3 x4) from (by have c8x := c8; rw [e7] at c8x; have c16x := c16; rw [← e14, ← e11] at c16x; rw [e24, ← e14, ← e11, F_jLat_indexOf_10.eq_1, if_neg c8x, if_pos c16x]))⟩) d_33_22_36
    ·
      have b25 : q_F (a13.toInt ≤ a10.toInt) := (q_nltI c16)
      refine lv_iconst (v := (-1)) hx hb d_33_22_27 (by decide) ?_
      exact q_reti C0 V (⟨rfl, (show 0 ≤ (-1 : Int32).toInt + 1 from (by have z3 : (-1 : Int32).toInt = -1 := rfl; omega)), (show (-1 : Int32).toInt ≤ 3 from (by have z3 : (-1 : Int32).toInt = -1 := rfl; omega)), (show (-1 : Int32) = (F_jLat_indexOf_10 x2 x3 x4) from (by have c8x := c8; rw [e7] at c8x; have c16x := c16; rw [← e14, ← e11] at c16x; rw [F_jLat_indexOf_10.eq_1, if_neg c8x, if_neg c16x]))⟩) d_33_22_28
  ·
    have b26 : q_F (a3.toInt = 0) := (q_eqI c8)
    refine lv_iconst (v := (-1)) hx hb d_33_22_7 (by decide) ?_
    exact q_reti C0 V (⟨rfl, (show 0 ≤ (-1 : Int32).toInt + 1 from (by have z3 : (-1 : Int32).toInt = -1 := rfl; omega)), (show (-1 : Int32).toInt ≤ 3 from (by have z3 : (-1 : Int32).toInt = -1 := rfl; omega)), (show (-1 : Int32) = (F_jLat_indexOf_10 x2 x3 x4) from (by have c8x := c8; rw [e7] at c8x; rw [F_jLat_indexOf_10.eq_1, if_pos c8x]))⟩) d_33_22_8
def F_jStr_indexOf_III_10 (x2 : Int32) (x3 : Int32) : Int32 := ((F_jLat_indexOf_10 x2 x3 (4 : Int32)) : Int32)
set_option maxRecDepth 100000 in
set_option maxHeartbeats 4000000 in
theorem X_jStr_indexOf_III_10 (l : Launch) (D : va_G) (g : Nat → ClassId) (q : Nat → Nat) (ws : va_W) (x2 : Int32) (x3 : Int32) (hI : q_I (nsh g q) q ws) (pre0 : 0 ≤ x3.toInt) : q_mI l y_jStr_indexOf_III prog_31_method_80_code 3 (.int) 3 0 0 D g [.ref (g (8 + 2 * 10)), .int x2, .int x3] ws (fun r u => ws = u ∧ (0 ≤ r.toInt + 1) ∧ (r.toInt ≤ 3) ∧ r = (F_jStr_indexOf_III_10 x2 x3)) := by
  intro sz
  refine q_into (by decide) (Nat.le_of_ble_eq_true rfl) ?_
  intro p e s m below meth c ls hsz C0 V hl
  have hx := C0.1
  have hb := C0.2.1
  replace pre0 : q_F (0 ≤ x3.toInt) := pre0
  have hl : lv_has ls 3 [(0, .ref (g (8 + 2 * 10))), (1, .int x2), (2, .int x3)] := hl
  refine lv_aload_n hx hb d_31_80_0 rfl (lv_at hl 0 rfl) ?_
  refine q_goi V (q_runVs (As := []) (rest := []) (d := 1) (mc := 0) (ms := 0) (i := 10) C0 V rfl LV_jStr_492 (T_jStr_isLatin1_10 l D g q ws   hI   _) rfl rfl rfl hl.1 rfl (Nat.le_of_ble_eq_true rfl) ⟨by decide, by decide⟩ ⟨Nat.le_of_ble_eq_true rfl, Nat.le_of_ble_eq_true rfl⟩ d_31_80_1) (fun a3 u1 H locs hp2 V => ?_)
  obtain ⟨rfl, b4, b5⟩ := hp2
  replace b4 : q_F (1 ≤ a3.toInt) := b4
  replace b5 : q_F (a3.toInt ≤ 1) := b5
  obtain rfl : a3 = (1 : Int32) := q_Ieq (x := a3.toInt) (y := 1) rfl (by decide) (by have t1 : 1 ≤ a3.toInt := b4; have t2 : a3.toInt ≤ 1 := b5; omega)
  refine lv_if_eq (tgt := 23) hx hb d_31_80_4 (by decide) (fun c7 => absurd c7 (by decide)) (fun c7 => ?_)
  refine lv_aload_n hx hb d_31_80_7 rfl (lv_at hl 0 rfl) ?_
  refine q_sval (i := 10) C0 V rfl rfl w_1018 d_31_80_8 ?_
  refine lv_iload_n hx hb d_31_80_11 rfl (lv_at hl 1 rfl) ?_
  refine lv_iload_n hx hb d_31_80_12 rfl (lv_at hl 2 rfl) ?_
  refine lv_aload_n hx hb d_31_80_13 rfl (lv_at hl 0 rfl) ?_
  refine q_goi V (q_runVs (As := []) (rest := [.int x3, .int x2, .ref (g (9 + 2 * 10))]) (d := 2) (mc := 0) (ms := 0) (i := 10) C0 V rfl LV_jStr_505 (T_jStr_length_10 l D g q ws   hI   _) rfl rfl rfl hl.1 rfl (Nat.le_of_ble_eq_true rfl) ⟨by decide, by decide⟩ ⟨Nat.le_of_ble_eq_true rfl, Nat.le_of_ble_eq_true rfl⟩ d_31_80_14) (fun a10 u8 H locs hp9 V => ?_)
  obtain ⟨rfl, b11, b12⟩ := hp9
  replace b11 : q_F (4 ≤ a10.toInt) := b11
  replace b12 : q_F (a10.toInt ≤ 4) := b12
  obtain rfl : a10 = (4 : Int32) := q_Ieq (x := a10.toInt) (y := 4) rfl (by decide) (by have t1 : 4 ≤ a10.toInt := b11; have t2 : a10.toInt ≤ 4 := b12; omega)
  refine q_goi V (q_runS (As := [.ref (g (9 + 2 * 10)), .int x2, .int x3, .int 4]) (rest := []) (d := 2) (mc := 0) (ms := 0) C0 V rfl LS_jStr_637 (X_jLat_indexOf_10 l D g q ws  x2 x3 4 hI  (by have y0 : (4 : Int32).toInt = 4 := rfl; have t1 : 0 ≤ x3.toInt := pre0; omega) (by have y0 : (4 : Int32).toInt = 4 := rfl; omega) _) rfl hl.1 rfl (Nat.le_of_ble_eq_true rfl) ⟨by decide, by decide⟩ ⟨Nat.le_of_ble_eq_true rfl, Nat.le_of_ble_eq_true rfl⟩ d_31_80_17) (fun a16 u14 H locs hp15 V => ?_)
  obtain ⟨rfl, b17, b18, hE19⟩ := hp15
  have e20 : a16 = (F_jLat_indexOf_10 x2 x3 (4 : Int32)) := hE19
  replace b17 : q_F (0 ≤ a16.toInt + 1) := b17
  replace b18 : q_F (a16.toInt ≤ 3) := b18
  refine lv_goto (tgt := 36) hx hb d_31_80_20 (by decide) ?_
  exact q_reti C0 V (⟨rfl, (show 0 ≤ a16.toInt + 1 from (by have t1 : 0 ≤ a16.toInt + 1 := b17; omega)), (show a16.toInt ≤ 3 from (by have t1 : a16.toInt ≤ 3 := b18; omega)), (show a16 = (F_jStr_indexOf_III_10 x2 x3) from (by rw [e20, F_jStr_indexOf_III_10.eq_1]))⟩) d_31_80_36
def F_jStr_indexOf_II_10 (x2 : Int32) : Int32 := ((F_jStr_indexOf_III_10 x2 (0 : Int32)) : Int32)
set_option maxRecDepth 100000 in
set_option maxHeartbeats 4000000 in
theorem X_jStr_indexOf_II_10 (l : Launch) (D : va_G) (g : Nat → ClassId) (q : Nat → Nat) (ws : va_W) (x2 : Int32) (hI : q_I (nsh g q) q ws) : q_mI l y_jStr_indexOf_II prog_31_method_79_code 2 (.int) 4 0 0 D g [.ref (g (8 + 2 * 10)), .int x2] ws (fun r u => ws = u ∧ (0 ≤ r.toInt + 1) ∧ (r.toInt ≤ 3) ∧ r = (F_jStr_indexOf_II_10 x2)) := by
  intro sz
  refine q_into (by decide) (Nat.le_of_ble_eq_true rfl) ?_
  intro p e s m below meth c ls hsz C0 V hl
  have hx := C0.1
  have hb := C0.2.1
  have hl : lv_has ls 2 [(0, .ref (g (8 + 2 * 10))), (1, .int x2)] := hl
  refine lv_aload_n hx hb d_31_79_0 rfl (lv_at hl 0 rfl) ?_
  refine lv_iload_n hx hb d_31_79_1 rfl (lv_at hl 1 rfl) ?_
  refine lv_iconst (v := 0) hx hb d_31_79_2 (by decide) ?_
  refine q_goi V (q_runVs (As := [.int x2, .int 0]) (rest := []) (d := 3) (mc := 0) (ms := 0) (i := 10) C0 V rfl LV_jStr_633 (X_jStr_indexOf_III_10 l D g q ws  x2 0 hI  (by have y0 : (0 : Int32).toInt = 0 := rfl; omega) _) rfl rfl rfl hl.1 rfl (Nat.le_of_ble_eq_true rfl) ⟨by decide, by decide⟩ ⟨Nat.le_of_ble_eq_true rfl, Nat.le_of_ble_eq_true rfl⟩ d_31_79_3) (fun a3 u1 H locs hp2 V => ?_)
  obtain ⟨rfl, b4, b5, hE6⟩ := hp2
  have e7 : a3 = (F_jStr_indexOf_III_10 x2 (0 : Int32)) := hE6
  replace b4 : q_F (0 ≤ a3.toInt + 1) := b4
  replace b5 : q_F (a3.toInt ≤ 3) := b5
  exact q_reti C0 V (⟨rfl, (show 0 ≤ a3.toInt + 1 from (by have t1 : 0 ≤ a3.toInt + 1 := b4; omega)), (show a3.toInt ≤ 3 from (by have t1 : a3.toInt ≤ 3 := b5; omega)), (show a3 = (F_jStr_indexOf_II_10 x2) from (by rw [e7, F_jStr_indexOf_II_10.eq_1]))⟩) d_31_79_6
def F_Dir_isOneOf_10 (t0_0 : Int32) (t0_1 : Int32) (t0_2 : Int32) (t0_3 : Int32) (t0_4 : Int32) (t0_5 : Int32) (t0_6 : Int32) : Int32 := if t0_4 < (0 : Int32) then ((0 : Int32)) else (if ((F_jStr_indexOf_II_10 ((t0_4.toUInt32 % 65536).toInt32 : Int32)) : Int32) < (0 : Int32) then ((0 : Int32)) else ((1 : Int32)))
set_option maxRecDepth 100000 in
set_option maxHeartbeats 4000000 in
theorem X_Dir_isOneOf_10 (l : Launch) (D : va_G) (g : Nat → ClassId) (q : Nat → Nat) (ws : va_W) (hI : q_I (nsh g q) q ws) (t0_0 : Int32) (t0_1 : Int32) (t0_2 : Int32) (t0_3 : Int32) (t0_4 : Int32) (t0_5 : Int32) (t0_6 : Int32) (hT0 : ws[47]? = (some (q 47, .inr (10, [.int t0_0, .int t0_1, .int t0_2, .int t0_3, .int t0_4, .int t0_5, .ref (q 1), .int t0_6])) : Option (Nat × va_E))) : q_mI l y_Dir_isOneOf prog_6_method_9_code 2 (.boolean) 5 0 0 D g [.ref (q 47), .ref (g (8 + 2 * 10))] ws (fun r u => ws = u ∧ (0 ≤ r.toInt) ∧ (r.toInt ≤ 1) ∧ r = (F_Dir_isOneOf_10 t0_0 t0_1 t0_2 t0_3 t0_4 t0_5 t0_6)) := by
  intro sz
  refine q_into (by decide) (Nat.le_of_ble_eq_true rfl) ?_
  intro p e s m below meth c ls hsz C0 V hl
  have hx := C0.1
  have hb := C0.2.1
  obtain ⟨yy0_0, yy0_1, yy0_2, yy0_3, yy0_4, yy0_5, yy0_6, hh0, btt0_2, btt0_3, btt0_6⟩ := n_o47 hI
  obtain ⟨rfl, rfl, rfl, rfl, rfl, rfl, rfl⟩ : t0_0 = yy0_0 ∧ t0_1 = yy0_1 ∧ t0_2 = yy0_2 ∧ t0_3 = yy0_3 ∧ t0_4 = yy0_4 ∧ t0_5 = yy0_5 ∧ t0_6 = yy0_6 := by have z := Option.some.inj (hT0.symm.trans hh0); simpa using z
  replace btt0_2 : q_F (-1 ≤ t0_2.toInt ∧ t0_2.toInt ≤ 9999) := btt0_2
  replace btt0_3 : q_F (-1 ≤ t0_3.toInt ∧ t0_3.toInt ≤ 9999) := btt0_3
  replace btt0_6 : q_F (0 ≤ t0_6.toInt ∧ t0_6.toInt ≤ 1) := btt0_6
  have hl : lv_has ls 2 [(0, .ref (q 47)), (1, .ref (g (8 + 2 * 10)))] := hl
  refine lv_aload_n hx hb d_6_9_0 rfl (lv_at hl 0 rfl) ?_
  refine q_get (ci := 10) (j := 4) (v := .int t0_4) C0 V i_Dir rfl rfl hT0 (by decide) w_361 rfl d_6_9_1 ?_
  refine lv_if_lt (tgt := 23) hx hb d_6_9_4 (by decide) (fun c12 => ?_) (fun c12 => ?_)
  ·
    have b13 : q_F (t0_4.toInt < 0) := (q_ltI c12)
    refine lv_iconst (v := 0) hx hb d_6_9_23 (by decide) ?_
    exact q_retz C0 V (by decide) (⟨rfl, (show 0 ≤ (0 : Int32).toInt from (by have z7 : (0 : Int32).toInt = 0 := rfl; omega)), (show (0 : Int32).toInt ≤ 1 from (by have z7 : (0 : Int32).toInt = 0 := rfl; omega)), (show (0 : Int32) = (F_Dir_isOneOf_10 t0_0 t0_1 t0_2 t0_3 t0_4 t0_5 t0_6) from (by rw [F_Dir_isOneOf_10.eq_1, if_pos c12]))⟩) d_6_9_24
  ·
    have b14 : q_F (0 ≤ t0_4.toInt) := (q_nltI c12)
    refine lv_aload_n hx hb d_6_9_7 rfl (lv_at hl 1 rfl) ?_
    refine lv_aload_n hx hb d_6_9_8 rfl (lv_at hl 0 rfl) ?_
    refine q_get (ci := 10) (j := 4) (v := .int t0_4) C0 V i_Dir rfl rfl hT0 (by decide) w_361 rfl d_6_9_9 ?_
    refine lv_i2c hx hb d_6_9_12 rfl ?_
    obtain ⟨a15, e16⟩ := q_nm ((t0_4.toUInt32 % 65536).toInt32 : Int32)
    refine q_ti (v := a15) e16 ?_
    have b17 : q_F (0 ≤ a15.toInt ∧ a15.toInt ≤ 65535) := (by rw [← e16]; show 0 ≤ ((t0_4.toUInt32 % 65536).toInt32 : Int32).toInt ∧ ((t0_4.toUInt32 % 65536).toInt32 : Int32).toInt ≤ 65535; exact ⟨(n_i2c (x := t0_4)).1, (n_i2c (x := t0_4)).2.1⟩)
    refine q_goi V (q_runVs (As := [.int a15]) (rest := []) (d := 4) (mc := 0) (ms := 0) (i := 10) C0 V rfl LV_Dir_63 (X_jStr_indexOf_II_10 l D g q ws  a15 hI   _) rfl rfl rfl hl.1 rfl (Nat.le_of_ble_eq_true rfl) ⟨by decide, by decide⟩ ⟨Nat.le_of_ble_eq_true rfl, Nat.le_of_ble_eq_true rfl⟩ d_6_9_13) (fun a20 u18 H locs hp19 V => ?_)
    obtain ⟨rfl, b21, b22, hE23⟩ := hp19
    have e24 : a20 = (F_jStr_indexOf_II_10 a15) := hE23
    replace b21 : q_F (0 ≤ a20.toInt + 1) := b21
    replace b22 : q_F (a20.toInt ≤ 3) := b22
    refine lv_if_lt (tgt := 23) hx hb d_6_9_16 (by decide) (fun c25 => ?_) (fun c25 => ?_)
    ·
      have b26 : q_F (a20.toInt < 0) := (q_ltI c25)
      refine lv_iconst (v := 0) hx hb d_6_9_23 (by decide) ?_
      exact q_retz C0 V (by decide) (⟨rfl, (show 0 ≤ (0 : Int32).toInt from (by have z7 : (0 : Int32).toInt = 0 := rfl; omega)), (show (0 : Int32).toInt ≤ 1 from (by have z7 : (0 : Int32).toInt = 0 := rfl; omega)), (show (0 : Int32) = (F_Dir_isOneOf_10 t0_0 t0_1 t0_2 t0_3 t0_4 t0_5 t0_6) from (by have c25x := c25; rw [e24, ← e16] at c25x; rw [F_Dir_isOneOf_10.eq_1, if_neg c12, if_pos c25x]))⟩) d_6_9_24
    ·
      have b27 : q_F (0 ≤ a20.toInt) := (q_nltI c25)
      refine lv_iconst (v := 1) hx hb d_6_9_19 (by decide) ?_
      refine lv_goto (tgt := 24) hx hb d_6_9_20 (by decide) ?_
      exact q_retz C0 V (by decide) (⟨rfl, (show 0 ≤ (1 : Int32).toInt from (by have z7 : (1 : Int32).toInt = 1 := rfl; omega)), (show (1 : Int32).toInt ≤ 1 from (by have z7 : (1 : Int32).toInt = 1 := rfl; omega)), (show (1 : Int32) = (F_Dir_isOneOf_10 t0_0 t0_1 t0_2 t0_3 t0_4 t0_5 t0_6) from (by have c25x := c25; rw [e24, ← e16] at c25x; rw [F_Dir_isOneOf_10.eq_1, if_neg c12, if_neg c25x]))⟩) d_6_9_24
def F_jLat_indexOfChar_11_L7 (x2 : Int32) (x3 : Int32) (x4 : Int32) (a1 : Int32) : Nat → Int32 → Int32
  | 0, _ => default
  | fm + 1, lx4 => if x4 ≤ lx4 then ((-1 : Int32)) else (if ((([98, 66] : List Int32).getD lx4.toNatClampNeg 0) : Int32) = a1 then (lx4) else (F_jLat_indexOfChar_11_L7 x2 x3 x4 a1 fm (lx4 + 1 : Int32)))
def F_jLat_indexOfChar_11 (x2 : Int32) (x3 : Int32) (x4 : Int32) : Int32 := F_jLat_indexOfChar_11_L7 x2 x3 x4 (x2.toInt8.toInt32 : Int32) ((2 - x3.toInt).toNat + 1) x3
set_option maxRecDepth 100000 in
set_option maxHeartbeats 4000000 in
theorem X_jLat_indexOfChar_11 (l : Launch) (D : va_G) (g : Nat → ClassId) (q : Nat → Nat) (ws : va_W) (x2 : Int32) (x3 : Int32) (x4 : Int32) (hI : q_I (nsh g q) q ws) (pre0 : 0 ≤ x3.toInt) (pre1 : x4.toInt ≤ 2) : q_mI l y_jLat_indexOfChar prog_33_method_23_code 6 (.int) 1 0 0 D g [.ref (g (9 + 2 * 11)), .int x2, .int x3, .int x4] ws (fun r u => ws = u ∧ (0 ≤ r.toInt + 1) ∧ (r.toInt ≤ 1) ∧ r = (F_jLat_indexOfChar_11 x2 x3 x4)) := by
  intro sz
  refine q_into (by decide) (Nat.le_of_ble_eq_true rfl) ?_
  intro p e s m below meth c ls hsz C0 V hl
  have hx := C0.1
  have hb := C0.2.1
  replace pre0 : q_F (0 ≤ x3.toInt) := pre0
  replace pre1 : q_F (x4.toInt ≤ 2) := pre1
  have hl : lv_has ls 6 [(0, .ref (g (9 + 2 * 11))), (1, .int x2), (2, .int x3), (3, .int x4)] := hl
  refine lv_iload_n hx hb d_33_23_0 rfl (lv_at hl 1 rfl) ?_
  refine lv_i2b hx hb d_33_23_1 rfl ?_
  obtain ⟨a1, e2⟩ := q_nm (x2.toInt8.toInt32 : Int32)
  refine q_ti (v := a1) e2 ?_
  refine lv_istore (lv' := [(4, .int a1), (0, .ref (g (9 + 2 * 11))), (1, .int x2), (2, .int x3), (3, .int x4)]) hx hb d_33_23_2 hl (by decide) rfl (fun ls hl => ?_)
  refine lv_iload_n hx hb d_33_23_4 rfl (lv_at hl 3 rfl) ?_
  refine lv_istore (lv' := [(5, .int x3), (4, .int a1), (0, .ref (g (9 + 2 * 11))), (1, .int x2), (2, .int x3), (3, .int x4)]) hx hb d_33_23_5 hl (by decide) rfl (fun ls hl => ?_)
  refine q_loop (X := Int32) (fun z H locs ls _ => q_F (x3.toInt ≤ z.toInt) ∧ q_Wd D g (va_A ws sz) s ws H locs ∧ lv_has ls 6 [(5, .int z), (4, .int a1), (0, .ref (g (9 + 2 * 11))), (3, .int x4)] ∧ (∃ n, (2 - z.toInt).toNat < n ∧ F_jLat_indexOfChar_11_L7 x2 x3 x4 a1 n z = (F_jLat_indexOfChar_11 x2 x3 x4))) (fun z => (2 - z.toInt).toNat) ?_ ((x3 : Int32)) _ _ _ ws ⟨(show q_F (x3.toInt ≤ x3.toInt) from (show x3.toInt ≤ x3.toInt from by omega)), V, q_lw hl (q_lw1 0 rfl (q_lw1 1 rfl (q_lw1 2 rfl (q_lw1 5 rfl q_lw0)))), ⟨((2 - x3.toInt).toNat + 1), Nat.lt_succ_self _, (show F_jLat_indexOfChar_11_L7 x2 x3 x4 a1 ((2 - x3.toInt).toNat + 1) x3 = (F_jLat_indexOfChar_11 x2 x3 x4) from (by rw [← e2, F_jLat_indexOfChar_11.eq_1]))⟩⟩
  rintro lx4 H locs ls _ ⟨i5, V, hl, ⟨fu9, hf10, hR7⟩⟩ ih6
  obtain ⟨fm11, rfl⟩ : ∃ m, fu9 = m + 1 := ⟨fu9 - 1, by omega⟩
  replace i5 : q_F (x3.toInt ≤ lx4.toInt) := i5
  replace hl : lv_has ls 6 [(5, .int lx4), (4, .int a1), (0, .ref (g (9 + 2 * 11))), (3, .int x4)] := hl
  refine lv_iload hx hb d_33_23_7 (lv_at hl 0 rfl) ?_
  refine lv_iload_n hx hb d_33_23_9 rfl (lv_at hl 3 rfl) ?_
  refine lv_icmp_ge (tgt := 31) hx hb d_33_23_10 (by decide) (fun c12 => ?_) (fun c12 => ?_)
  ·
    have b13 : q_F (x4.toInt ≤ lx4.toInt) := (q_leI c12)
    refine lv_iconst (v := (-1)) hx hb d_33_23_31 (by decide) ?_
    exact q_reti C0 V (⟨rfl, (show 0 ≤ (-1 : Int32).toInt + 1 from (by have z3 : (-1 : Int32).toInt = -1 := rfl; omega)), (show (-1 : Int32).toInt ≤ 1 from (by have z3 : (-1 : Int32).toInt = -1 := rfl; omega)), (show (-1 : Int32) = (F_jLat_indexOfChar_11 x2 x3 x4) from Eq.trans (by rw [F_jLat_indexOfChar_11_L7.eq_2, if_pos c12]) hR7)⟩) d_33_23_32
  ·
    have b14 : q_F (lx4.toInt < x4.toInt) := (q_nleI c12)
    refine lv_aload_n hx hb d_33_23_13 rfl (lv_at hl 2 rfl) ?_
    refine lv_iload hx hb d_33_23_14 (lv_at hl 0 rfl) ?_
    refine q_sbal (i := 11) (v := (([98, 66] : List Int32).getD lx4.toNatClampNeg 0)) C0 V rfl (show vp_in lx4 2 from q_ix (x := lx4.toInt) rfl (by have t1 : 0 ≤ x3.toInt := pre0; have t2 : x3.toInt ≤ lx4.toInt := i5; omega) (by have t1 : 0 ≤ x3.toInt := pre0; have t2 : x3.toInt ≤ lx4.toInt := i5; have t3 : x4.toInt ≤ 2 := pre1; have t4 : lx4.toInt < x4.toInt := b14; omega)) rfl d_33_23_16 ?_
    obtain ⟨a15, e16⟩ := q_nm ((([98, 66] : List Int32).getD lx4.toNatClampNeg 0) : Int32)
    refine q_ti (v := a15) e16 ?_
    refine lv_iload hx hb d_33_23_17 (lv_at hl 1 rfl) ?_
    refine lv_icmp_ne (tgt := 25) hx hb d_33_23_19 (by decide) (fun c17 => ?_) (fun c17 => ?_)
    ·
      have b18 : q_F (a15.toInt ≠ a1.toInt) := (q_neI c17)
      obtain ⟨a19, e20⟩ := q_nm (lx4 + 1 : Int32)
      have b21 : q_F (a19.toInt = lx4.toInt + 1) := (by rw [← e20]; exact q_addI (y := 1) rfl (by decide) (by have _ := q_lo32 (x := lx4); have _ := q_hi32 (x := lx4); have t1 : lx4.toInt < x4.toInt := b14; have _ := q_lo32 (x := x4); have _ := q_hi32 (x := x4); omega) (by have _ := q_lo32 (x := lx4); have _ := q_hi32 (x := lx4); have t1 : lx4.toInt < x4.toInt := b14; have _ := q_lo32 (x := x4); have _ := q_hi32 (x := x4); omega))
      refine lv_iinc (v := a19) (lv' := [(5, .int a19), (4, .int a1), (0, .ref (g (9 + 2 * 11))), (3, .int x4)]) hx hb d_33_23_25 hl (k := 0) rfl (e20) (by decide) rfl (fun ls hl => ?_)
      refine lv_goto (tgt := 7) hx hb d_33_23_28 (by decide) ?_
      exact ih6 ((a19 : Int32)) _ _ _ ws (show (2 - a19.toInt).toNat < (2 - lx4.toInt).toNat from by have t1 : a19.toInt = lx4.toInt + 1 := b21; have t2 : x4.toInt ≤ 2 := pre1; have t3 : lx4.toInt < x4.toInt := b14; omega) ⟨(show q_F (x3.toInt ≤ a19.toInt) from (show x3.toInt ≤ a19.toInt from by have t1 : x3.toInt ≤ lx4.toInt := i5; have t2 : a19.toInt = lx4.toInt + 1 := b21; omega)), V, q_lw hl (q_lw1 0 rfl (q_lw1 1 rfl (q_lw1 2 rfl (q_lw1 3 rfl q_lw0)))), ⟨fm11, Nat.lt_of_lt_of_le (show (2 - a19.toInt).toNat < (2 - lx4.toInt).toNat from by have t1 : a19.toInt = lx4.toInt + 1 := b21; have t2 : x4.toInt ≤ 2 := pre1; have t3 : lx4.toInt < x4.toInt := b14; omega) (Nat.le_of_lt_succ hf10), (show F_jLat_indexOfChar_11_L7 x2 x3 x4 a1 fm11 a19 = (F_jLat_indexOfChar_11 x2 x3 x4) from Eq.trans (by have c17x := c17; rw [← e16] at c17x; rw [← e20, F_jLat_indexOfChar_11_L7.eq_2, if_neg c12, if_neg c17x]) hR7)⟩⟩
    ·
      have b22 : q_F (a15.toInt = a1.toInt) := (q_eqI c17)
      refine lv_iload hx hb d_33_23_22 (lv_at hl 0 rfl) ?_
      exact q_reti C0 V (⟨rfl, (show 0 ≤ lx4.toInt + 1 from (by have t1 : 0 ≤ x3.toInt := pre0; have t2 : x3.toInt ≤ lx4.toInt := i5; omega)), (show lx4.toInt ≤ 1 from (by have t1 : x4.toInt ≤ 2 := pre1; have t2 : lx4.toInt < x4.toInt := b14; omega)), (show lx4 = (F_jLat_indexOfChar_11 x2 x3 x4) from Eq.trans (by have c17x := c17; rw [← e16] at c17x; rw [F_jLat_indexOfChar_11_L7.eq_2, if_neg c12, if_pos c17x]) hR7)⟩) d_33_23_24
def F_jLat_indexOf_11 (x2 : Int32) (x3 : Int32) (x4 : Int32) : Int32 := if ((F_jLat_canEncode x2) : Int32) = (0 : Int32) then ((-1 : Int32)) else (if (if x3 < 0 then 0 else x3 : Int32) < (if 2 < x4 then 2 else x4 : Int32) then (((F_jLat_indexOfChar_11 x2 (if x3 < 0 then 0 else x3 : Int32) (if 2 < x4 then 2 else x4 : Int32)) : Int32)) else ((-1 : Int32)))
set_option maxRecDepth 100000 in
set_option maxHeartbeats 4000000 in
theorem X_jLat_indexOf_11 (l : Launch) (D : va_G) (g : Nat → ClassId) (q : Nat → Nat) (ws : va_W) (x2 : Int32) (x3 : Int32) (x4 : Int32) (hI : q_I (nsh g q) q ws) (pre0 : 0 ≤ x3.toInt) (pre1 : x4.toInt ≤ 2) : q_mI l y_jLat_indexOf prog_33_method_22_code 4 (.int) 2 0 0 D g [.ref (g (9 + 2 * 11)), .int x2, .int x3, .int x4] ws (fun r u => ws = u ∧ (0 ≤ r.toInt + 1) ∧ (r.toInt ≤ 1) ∧ r = (F_jLat_indexOf_11 x2 x3 x4)) := by
  intro sz
  refine q_into (by decide) (Nat.le_of_ble_eq_true rfl) ?_
  intro p e s m below meth c ls hsz C0 V hl
  have hx := C0.1
  have hb := C0.2.1
  replace pre0 : q_F (0 ≤ x3.toInt) := pre0
  replace pre1 : q_F (x4.toInt ≤ 2) := pre1
  have hl : lv_has ls 4 [(0, .ref (g (9 + 2 * 11))), (1, .int x2), (2, .int x3), (3, .int x4)] := hl
  refine lv_iload_n hx hb d_33_22_0 rfl (lv_at hl 1 rfl) ?_
  refine q_goi V (q_runS (As := [.int x2]) (rest := []) (d := 1) (mc := 0) (ms := 0) C0 V rfl LS_jLat_88 (X_jLat_canEncode l D g q ws  x2 hI   _) rfl hl.1 rfl (Nat.le_of_ble_eq_true rfl) ⟨by decide, by decide⟩ ⟨Nat.le_of_ble_eq_true rfl, Nat.le_of_ble_eq_true rfl⟩ d_33_22_1) (fun a3 u1 H locs hp2 V => ?_)
  obtain ⟨rfl, b4, b5, hE6⟩ := hp2
  have e7 : a3 = (F_jLat_canEncode x2) := hE6
  replace b4 : q_F (0 ≤ a3.toInt) := b4
  replace b5 : q_F (a3.toInt ≤ 1) := b5
  refine lv_if_ne (tgt := 9) hx hb d_33_22_4 (by decide) (fun c8 => ?_) (fun c8 => ?_)
  ·
    have b9 : q_F (a3.toInt ≠ 0) := (q_neI c8)
    refine lv_iload_n hx hb d_33_22_9 rfl (lv_at hl 2 rfl) ?_
    refine lv_iconst (v := 0) hx hb d_33_22_10 (by decide) ?_
    refine q_max C0 hl.1 rfl w_1773 w_803 w_7 w_804 ⟨Nat.le_of_ble_eq_true rfl, Nat.le_of_ble_eq_true rfl⟩ ⟨Nat.le_of_ble_eq_true rfl, Nat.le_of_ble_eq_true rfl⟩ d_33_22_11 ?_
    obtain ⟨a10, e11⟩ := q_nm (if x3 < 0 then 0 else x3 : Int32)
    refine q_ti (v := a10) e11 ?_
    have b12 : q_F (x3.toInt ≤ a10.toInt ∧ 0 ≤ a10.toInt ∧ (a10.toInt = x3.toInt ∨ a10.toInt = 0)) := (by rw [← e11]; show x3.toInt ≤ (if x3 < 0 then 0 else x3 : Int32).toInt ∧ 0 ≤ (if x3 < 0 then 0 else x3 : Int32).toInt ∧ ((if x3 < 0 then 0 else x3 : Int32).toInt = x3.toInt ∨ (if x3 < 0 then 0 else x3 : Int32).toInt = 0); exact (by have y1 : (0 : Int32).toInt = 0 := rfl; have z := s_max (a := x3) (b := 0); omega))
    refine lv_istore_n (lv' := [(2, .int a10), (0, .ref (g (9 + 2 * 11))), (1, .int x2), (3, .int x4)]) hx hb d_33_22_14 rfl hl (by decide) rfl (fun ls hl => ?_)
    refine lv_iload_n hx hb d_33_22_15 rfl (lv_at hl 3 rfl) ?_
    refine lv_aload_n hx hb d_33_22_16 rfl (lv_at hl 1 rfl) ?_
    refine q_slen (i := 11) (v := 2) C0 V rfl (by decide) d_33_22_17 ?_
    refine q_min C0 hl.1 rfl w_1774 w_774 w_7 w_775 ⟨Nat.le_of_ble_eq_true rfl, Nat.le_of_ble_eq_true rfl⟩ ⟨Nat.le_of_ble_eq_true rfl, Nat.le_of_ble_eq_true rfl⟩ d_33_22_18 ?_
    obtain ⟨a13, e14⟩ := q_nm (if 2 < x4 then 2 else x4 : Int32)
    refine q_ti (v := a13) e14 ?_
    have b15 : q_F (a13.toInt ≤ x4.toInt ∧ a13.toInt ≤ 2 ∧ (a13.toInt = x4.toInt ∨ a13.toInt = 2)) := (by rw [← e14]; show (if 2 < x4 then 2 else x4 : Int32).toInt ≤ x4.toInt ∧ (if 2 < x4 then 2 else x4 : Int32).toInt ≤ 2 ∧ ((if 2 < x4 then 2 else x4 : Int32).toInt = x4.toInt ∨ (if 2 < x4 then 2 else x4 : Int32).toInt = 2); exact (by have y1 : (2 : Int32).toInt = 2 := rfl; have z := s_min (a := x4) (b := 2); omega))
    refine lv_istore_n (lv' := [(3, .int a13), (2, .int a10), (0, .ref (g (9 + 2 * 11))), (1, .int x2)]) hx hb d_33_22_21 rfl hl (by decide) rfl (fun ls hl => ?_)
    refine lv_iload_n hx hb d_33_22_22 rfl (lv_at hl 1 rfl) ?_
    refine lv_iload_n hx hb d_33_22_23 rfl (lv_at hl 0 rfl) ?_
    refine lv_icmp_lt (tgt := 29) hx hb d_33_22_24 (by decide) (fun c16 => ?_) (fun c16 => ?_)
    ·
      have b17 : q_F (a10.toInt < a13.toInt) := (q_ltI c16)
      refine lv_aload_n hx hb d_33_22_29 rfl (lv_at hl 2 rfl) ?_
      refine lv_iload_n hx hb d_33_22_30 rfl (lv_at hl 3 rfl) ?_
      refine lv_iload_n hx hb d_33_22_31 rfl (lv_at hl 1 rfl) ?_
      refine lv_iload_n hx hb d_33_22_32 rfl (lv_at hl 0 rfl) ?_
      refine q_goi V (q_runS (As := [.ref (g (9 + 2 * 11)), .int x2, .int a10, .int a13]) (rest := []) (d := 1) (mc := 0) (ms := 0) C0 V rfl LS_jLat_95 (X_jLat_indexOfChar_11 l D g q ws  x2 a10 a13 hI  (by have t1 : x3.toInt ≤ a10.toInt ∧ 0 ≤ a10.toInt ∧ (a10.toInt = x3.toInt ∨ a10.toInt = 0) := b12; omega) (by have t1 : a13.toInt ≤ x4.toInt ∧ a13.toInt ≤ 2 ∧ (a13.toInt = x4.toInt ∨ a13.toInt = 2) := b15; omega) _) rfl hl.1 rfl (Nat.le_of_ble_eq_true rfl) ⟨by decide, by decide⟩ ⟨Nat.le_of_ble_eq_true rfl, Nat.le_of_ble_eq_true rfl⟩ d_33_22_33) (fun a20 u18 H locs hp19 V => ?_)
      obtain ⟨rfl, b21, b22, hE23⟩ := hp19
      have e24 : a20 = (F_jLat_indexOfChar_11 x2 a10 a13) := hE23
      replace b21 : q_F (0 ≤ a20.toInt + 1) := b21
      replace b22 : q_F (a20.toInt ≤ 1) := b22
      exact q_reti C0 V (⟨rfl, (show 0 ≤ a20.toInt + 1 from (by have t1 : 0 ≤ a20.toInt + 1 := b21; omega)), (show a20.toInt ≤ 1 from (by have t1 : a20.toInt ≤ 1 := b22; omega)), (show a20 = (F_jLat_indexOf_11 x2 x3 x4) from (by have c8x := c8; rw [e7] at c8x; have c16x := c16; rw [← e14, ← e11] at c16x; rw [e24, ← e14, ← e11, F_jLat_indexOf_11.eq_1, if_neg c8x, if_pos c16x]))⟩) d_33_22_36
    ·
      have b25 : q_F (a13.toInt ≤ a10.toInt) := (q_nltI c16)
      refine lv_iconst (v := (-1)) hx hb d_33_22_27 (by decide) ?_
      exact q_reti C0 V (⟨rfl, (show 0 ≤ (-1 : Int32).toInt + 1 from (by have z3 : (-1 : Int32).toInt = -1 := rfl; omega)), (show (-1 : Int32).toInt ≤ 1 from (by have z3 : (-1 : Int32).toInt = -1 := rfl; omega)), (show (-1 : Int32) = (F_jLat_indexOf_11 x2 x3 x4) from (by have c8x := c8; rw [e7] at c8x; have c16x := c16; rw [← e14, ← e11] at c16x; rw [F_jLat_indexOf_11.eq_1, if_neg c8x, if_neg c16x]))⟩) d_33_22_28
  ·
    have b26 : q_F (a3.toInt = 0) := (q_eqI c8)
    refine lv_iconst (v := (-1)) hx hb d_33_22_7 (by decide) ?_
    exact q_reti C0 V (⟨rfl, (show 0 ≤ (-1 : Int32).toInt + 1 from (by have z3 : (-1 : Int32).toInt = -1 := rfl; omega)), (show (-1 : Int32).toInt ≤ 1 from (by have z3 : (-1 : Int32).toInt = -1 := rfl; omega)), (show (-1 : Int32) = (F_jLat_indexOf_11 x2 x3 x4) from (by have c8x := c8; rw [e7] at c8x; rw [F_jLat_indexOf_11.eq_1, if_pos c8x]))⟩) d_33_22_8
def F_jStr_indexOf_III_11 (x2 : Int32) (x3 : Int32) : Int32 := ((F_jLat_indexOf_11 x2 x3 (2 : Int32)) : Int32)
set_option maxRecDepth 100000 in
set_option maxHeartbeats 4000000 in
theorem X_jStr_indexOf_III_11 (l : Launch) (D : va_G) (g : Nat → ClassId) (q : Nat → Nat) (ws : va_W) (x2 : Int32) (x3 : Int32) (hI : q_I (nsh g q) q ws) (pre0 : 0 ≤ x3.toInt) : q_mI l y_jStr_indexOf_III prog_31_method_80_code 3 (.int) 3 0 0 D g [.ref (g (8 + 2 * 11)), .int x2, .int x3] ws (fun r u => ws = u ∧ (0 ≤ r.toInt + 1) ∧ (r.toInt ≤ 1) ∧ r = (F_jStr_indexOf_III_11 x2 x3)) := by
  intro sz
  refine q_into (by decide) (Nat.le_of_ble_eq_true rfl) ?_
  intro p e s m below meth c ls hsz C0 V hl
  have hx := C0.1
  have hb := C0.2.1
  replace pre0 : q_F (0 ≤ x3.toInt) := pre0
  have hl : lv_has ls 3 [(0, .ref (g (8 + 2 * 11))), (1, .int x2), (2, .int x3)] := hl
  refine lv_aload_n hx hb d_31_80_0 rfl (lv_at hl 0 rfl) ?_
  refine q_goi V (q_runVs (As := []) (rest := []) (d := 1) (mc := 0) (ms := 0) (i := 11) C0 V rfl LV_jStr_492 (T_jStr_isLatin1_11 l D g q ws   hI   _) rfl rfl rfl hl.1 rfl (Nat.le_of_ble_eq_true rfl) ⟨by decide, by decide⟩ ⟨Nat.le_of_ble_eq_true rfl, Nat.le_of_ble_eq_true rfl⟩ d_31_80_1) (fun a3 u1 H locs hp2 V => ?_)
  obtain ⟨rfl, b4, b5⟩ := hp2
  replace b4 : q_F (1 ≤ a3.toInt) := b4
  replace b5 : q_F (a3.toInt ≤ 1) := b5
  obtain rfl : a3 = (1 : Int32) := q_Ieq (x := a3.toInt) (y := 1) rfl (by decide) (by have t1 : 1 ≤ a3.toInt := b4; have t2 : a3.toInt ≤ 1 := b5; omega)
  refine lv_if_eq (tgt := 23) hx hb d_31_80_4 (by decide) (fun c7 => absurd c7 (by decide)) (fun c7 => ?_)
  refine lv_aload_n hx hb d_31_80_7 rfl (lv_at hl 0 rfl) ?_
  refine q_sval (i := 11) C0 V rfl rfl w_1018 d_31_80_8 ?_
  refine lv_iload_n hx hb d_31_80_11 rfl (lv_at hl 1 rfl) ?_
  refine lv_iload_n hx hb d_31_80_12 rfl (lv_at hl 2 rfl) ?_
  refine lv_aload_n hx hb d_31_80_13 rfl (lv_at hl 0 rfl) ?_
  refine q_goi V (q_runVs (As := []) (rest := [.int x3, .int x2, .ref (g (9 + 2 * 11))]) (d := 2) (mc := 0) (ms := 0) (i := 11) C0 V rfl LV_jStr_505 (T_jStr_length_11 l D g q ws   hI   _) rfl rfl rfl hl.1 rfl (Nat.le_of_ble_eq_true rfl) ⟨by decide, by decide⟩ ⟨Nat.le_of_ble_eq_true rfl, Nat.le_of_ble_eq_true rfl⟩ d_31_80_14) (fun a10 u8 H locs hp9 V => ?_)
  obtain ⟨rfl, b11, b12⟩ := hp9
  replace b11 : q_F (2 ≤ a10.toInt) := b11
  replace b12 : q_F (a10.toInt ≤ 2) := b12
  obtain rfl : a10 = (2 : Int32) := q_Ieq (x := a10.toInt) (y := 2) rfl (by decide) (by have t1 : 2 ≤ a10.toInt := b11; have t2 : a10.toInt ≤ 2 := b12; omega)
  refine q_goi V (q_runS (As := [.ref (g (9 + 2 * 11)), .int x2, .int x3, .int 2]) (rest := []) (d := 2) (mc := 0) (ms := 0) C0 V rfl LS_jStr_637 (X_jLat_indexOf_11 l D g q ws  x2 x3 2 hI  (by have y0 : (2 : Int32).toInt = 2 := rfl; have t1 : 0 ≤ x3.toInt := pre0; omega) (by have y0 : (2 : Int32).toInt = 2 := rfl; omega) _) rfl hl.1 rfl (Nat.le_of_ble_eq_true rfl) ⟨by decide, by decide⟩ ⟨Nat.le_of_ble_eq_true rfl, Nat.le_of_ble_eq_true rfl⟩ d_31_80_17) (fun a16 u14 H locs hp15 V => ?_)
  obtain ⟨rfl, b17, b18, hE19⟩ := hp15
  have e20 : a16 = (F_jLat_indexOf_11 x2 x3 (2 : Int32)) := hE19
  replace b17 : q_F (0 ≤ a16.toInt + 1) := b17
  replace b18 : q_F (a16.toInt ≤ 1) := b18
  refine lv_goto (tgt := 36) hx hb d_31_80_20 (by decide) ?_
  exact q_reti C0 V (⟨rfl, (show 0 ≤ a16.toInt + 1 from (by have t1 : 0 ≤ a16.toInt + 1 := b17; omega)), (show a16.toInt ≤ 1 from (by have t1 : a16.toInt ≤ 1 := b18; omega)), (show a16 = (F_jStr_indexOf_III_11 x2 x3) from (by rw [e20, F_jStr_indexOf_III_11.eq_1]))⟩) d_31_80_36
def F_jStr_indexOf_II_11 (x2 : Int32) : Int32 := ((F_jStr_indexOf_III_11 x2 (0 : Int32)) : Int32)
set_option maxRecDepth 100000 in
set_option maxHeartbeats 4000000 in
theorem X_jStr_indexOf_II_11 (l : Launch) (D : va_G) (g : Nat → ClassId) (q : Nat → Nat) (ws : va_W) (x2 : Int32) (hI : q_I (nsh g q) q ws) : q_mI l y_jStr_indexOf_II prog_31_method_79_code 2 (.int) 4 0 0 D g [.ref (g (8 + 2 * 11)), .int x2] ws (fun r u => ws = u ∧ (0 ≤ r.toInt + 1) ∧ (r.toInt ≤ 1) ∧ r = (F_jStr_indexOf_II_11 x2)) := by
  intro sz
  refine q_into (by decide) (Nat.le_of_ble_eq_true rfl) ?_
  intro p e s m below meth c ls hsz C0 V hl
  have hx := C0.1
  have hb := C0.2.1
  have hl : lv_has ls 2 [(0, .ref (g (8 + 2 * 11))), (1, .int x2)] := hl
  refine lv_aload_n hx hb d_31_79_0 rfl (lv_at hl 0 rfl) ?_
  refine lv_iload_n hx hb d_31_79_1 rfl (lv_at hl 1 rfl) ?_
  refine lv_iconst (v := 0) hx hb d_31_79_2 (by decide) ?_
  refine q_goi V (q_runVs (As := [.int x2, .int 0]) (rest := []) (d := 3) (mc := 0) (ms := 0) (i := 11) C0 V rfl LV_jStr_633 (X_jStr_indexOf_III_11 l D g q ws  x2 0 hI  (by have y0 : (0 : Int32).toInt = 0 := rfl; omega) _) rfl rfl rfl hl.1 rfl (Nat.le_of_ble_eq_true rfl) ⟨by decide, by decide⟩ ⟨Nat.le_of_ble_eq_true rfl, Nat.le_of_ble_eq_true rfl⟩ d_31_79_3) (fun a3 u1 H locs hp2 V => ?_)
  obtain ⟨rfl, b4, b5, hE6⟩ := hp2
  have e7 : a3 = (F_jStr_indexOf_III_11 x2 (0 : Int32)) := hE6
  replace b4 : q_F (0 ≤ a3.toInt + 1) := b4
  replace b5 : q_F (a3.toInt ≤ 1) := b5
  exact q_reti C0 V (⟨rfl, (show 0 ≤ a3.toInt + 1 from (by have t1 : 0 ≤ a3.toInt + 1 := b4; omega)), (show a3.toInt ≤ 1 from (by have t1 : a3.toInt ≤ 1 := b5; omega)), (show a3 = (F_jStr_indexOf_II_11 x2) from (by rw [e7, F_jStr_indexOf_II_11.eq_1]))⟩) d_31_79_6
def F_Dir_isOneOf_11 (t0_0 : Int32) (t0_1 : Int32) (t0_2 : Int32) (t0_3 : Int32) (t0_4 : Int32) (t0_5 : Int32) (t0_6 : Int32) : Int32 := if t0_4 < (0 : Int32) then ((0 : Int32)) else (if ((F_jStr_indexOf_II_11 ((t0_4.toUInt32 % 65536).toInt32 : Int32)) : Int32) < (0 : Int32) then ((0 : Int32)) else ((1 : Int32)))
set_option maxRecDepth 100000 in
set_option maxHeartbeats 4000000 in
theorem X_Dir_isOneOf_11 (l : Launch) (D : va_G) (g : Nat → ClassId) (q : Nat → Nat) (ws : va_W) (hI : q_I (nsh g q) q ws) (t0_0 : Int32) (t0_1 : Int32) (t0_2 : Int32) (t0_3 : Int32) (t0_4 : Int32) (t0_5 : Int32) (t0_6 : Int32) (hT0 : ws[47]? = (some (q 47, .inr (10, [.int t0_0, .int t0_1, .int t0_2, .int t0_3, .int t0_4, .int t0_5, .ref (q 1), .int t0_6])) : Option (Nat × va_E))) : q_mI l y_Dir_isOneOf prog_6_method_9_code 2 (.boolean) 5 0 0 D g [.ref (q 47), .ref (g (8 + 2 * 11))] ws (fun r u => ws = u ∧ (0 ≤ r.toInt) ∧ (r.toInt ≤ 1) ∧ r = (F_Dir_isOneOf_11 t0_0 t0_1 t0_2 t0_3 t0_4 t0_5 t0_6)) := by
  intro sz
  refine q_into (by decide) (Nat.le_of_ble_eq_true rfl) ?_
  intro p e s m below meth c ls hsz C0 V hl
  have hx := C0.1
  have hb := C0.2.1
  obtain ⟨yy0_0, yy0_1, yy0_2, yy0_3, yy0_4, yy0_5, yy0_6, hh0, btt0_2, btt0_3, btt0_6⟩ := n_o47 hI
  obtain ⟨rfl, rfl, rfl, rfl, rfl, rfl, rfl⟩ : t0_0 = yy0_0 ∧ t0_1 = yy0_1 ∧ t0_2 = yy0_2 ∧ t0_3 = yy0_3 ∧ t0_4 = yy0_4 ∧ t0_5 = yy0_5 ∧ t0_6 = yy0_6 := by have z := Option.some.inj (hT0.symm.trans hh0); simpa using z
  replace btt0_2 : q_F (-1 ≤ t0_2.toInt ∧ t0_2.toInt ≤ 9999) := btt0_2
  replace btt0_3 : q_F (-1 ≤ t0_3.toInt ∧ t0_3.toInt ≤ 9999) := btt0_3
  replace btt0_6 : q_F (0 ≤ t0_6.toInt ∧ t0_6.toInt ≤ 1) := btt0_6
  have hl : lv_has ls 2 [(0, .ref (q 47)), (1, .ref (g (8 + 2 * 11)))] := hl
  refine lv_aload_n hx hb d_6_9_0 rfl (lv_at hl 0 rfl) ?_
  refine q_get (ci := 10) (j := 4) (v := .int t0_4) C0 V i_Dir rfl rfl hT0 (by decide) w_361 rfl d_6_9_1 ?_
  refine lv_if_lt (tgt := 23) hx hb d_6_9_4 (by decide) (fun c12 => ?_) (fun c12 => ?_)
  ·
    have b13 : q_F (t0_4.toInt < 0) := (q_ltI c12)
    refine lv_iconst (v := 0) hx hb d_6_9_23 (by decide) ?_
    exact q_retz C0 V (by decide) (⟨rfl, (show 0 ≤ (0 : Int32).toInt from (by have z7 : (0 : Int32).toInt = 0 := rfl; omega)), (show (0 : Int32).toInt ≤ 1 from (by have z7 : (0 : Int32).toInt = 0 := rfl; omega)), (show (0 : Int32) = (F_Dir_isOneOf_11 t0_0 t0_1 t0_2 t0_3 t0_4 t0_5 t0_6) from (by rw [F_Dir_isOneOf_11.eq_1, if_pos c12]))⟩) d_6_9_24
  ·
    have b14 : q_F (0 ≤ t0_4.toInt) := (q_nltI c12)
    refine lv_aload_n hx hb d_6_9_7 rfl (lv_at hl 1 rfl) ?_
    refine lv_aload_n hx hb d_6_9_8 rfl (lv_at hl 0 rfl) ?_
    refine q_get (ci := 10) (j := 4) (v := .int t0_4) C0 V i_Dir rfl rfl hT0 (by decide) w_361 rfl d_6_9_9 ?_
    refine lv_i2c hx hb d_6_9_12 rfl ?_
    obtain ⟨a15, e16⟩ := q_nm ((t0_4.toUInt32 % 65536).toInt32 : Int32)
    refine q_ti (v := a15) e16 ?_
    have b17 : q_F (0 ≤ a15.toInt ∧ a15.toInt ≤ 65535) := (by rw [← e16]; show 0 ≤ ((t0_4.toUInt32 % 65536).toInt32 : Int32).toInt ∧ ((t0_4.toUInt32 % 65536).toInt32 : Int32).toInt ≤ 65535; exact ⟨(n_i2c (x := t0_4)).1, (n_i2c (x := t0_4)).2.1⟩)
    refine q_goi V (q_runVs (As := [.int a15]) (rest := []) (d := 4) (mc := 0) (ms := 0) (i := 11) C0 V rfl LV_Dir_63 (X_jStr_indexOf_II_11 l D g q ws  a15 hI   _) rfl rfl rfl hl.1 rfl (Nat.le_of_ble_eq_true rfl) ⟨by decide, by decide⟩ ⟨Nat.le_of_ble_eq_true rfl, Nat.le_of_ble_eq_true rfl⟩ d_6_9_13) (fun a20 u18 H locs hp19 V => ?_)
    obtain ⟨rfl, b21, b22, hE23⟩ := hp19
    have e24 : a20 = (F_jStr_indexOf_II_11 a15) := hE23
    replace b21 : q_F (0 ≤ a20.toInt + 1) := b21
    replace b22 : q_F (a20.toInt ≤ 1) := b22
    refine lv_if_lt (tgt := 23) hx hb d_6_9_16 (by decide) (fun c25 => ?_) (fun c25 => ?_)
    ·
      have b26 : q_F (a20.toInt < 0) := (q_ltI c25)
      refine lv_iconst (v := 0) hx hb d_6_9_23 (by decide) ?_
      exact q_retz C0 V (by decide) (⟨rfl, (show 0 ≤ (0 : Int32).toInt from (by have z7 : (0 : Int32).toInt = 0 := rfl; omega)), (show (0 : Int32).toInt ≤ 1 from (by have z7 : (0 : Int32).toInt = 0 := rfl; omega)), (show (0 : Int32) = (F_Dir_isOneOf_11 t0_0 t0_1 t0_2 t0_3 t0_4 t0_5 t0_6) from (by have c25x := c25; rw [e24, ← e16] at c25x; rw [F_Dir_isOneOf_11.eq_1, if_neg c12, if_pos c25x]))⟩) d_6_9_24
    ·
      have b27 : q_F (0 ≤ a20.toInt) := (q_nltI c25)
      refine lv_iconst (v := 1) hx hb d_6_9_19 (by decide) ?_
      refine lv_goto (tgt := 24) hx hb d_6_9_20 (by decide) ?_
      exact q_retz C0 V (by decide) (⟨rfl, (show 0 ≤ (1 : Int32).toInt from (by have z7 : (1 : Int32).toInt = 1 := rfl; omega)), (show (1 : Int32).toInt ≤ 1 from (by have z7 : (1 : Int32).toInt = 1 := rfl; omega)), (show (1 : Int32) = (F_Dir_isOneOf_11 t0_0 t0_1 t0_2 t0_3 t0_4 t0_5 t0_6) from (by have c25x := c25; rw [e24, ← e16] at c25x; rw [F_Dir_isOneOf_11.eq_1, if_neg c12, if_neg c25x]))⟩) d_6_9_24
def F_jLat_indexOfChar_14_L7 (x2 : Int32) (x3 : Int32) (x4 : Int32) (a1 : Int32) : Nat → Int32 → Int32
  | 0, _ => default
  | fm + 1, lx4 => if x4 ≤ lx4 then ((-1 : Int32)) else (if ((([115, 83] : List Int32).getD lx4.toNatClampNeg 0) : Int32) = a1 then (lx4) else (F_jLat_indexOfChar_14_L7 x2 x3 x4 a1 fm (lx4 + 1 : Int32)))
def F_jLat_indexOfChar_14 (x2 : Int32) (x3 : Int32) (x4 : Int32) : Int32 := F_jLat_indexOfChar_14_L7 x2 x3 x4 (x2.toInt8.toInt32 : Int32) ((2 - x3.toInt).toNat + 1) x3
set_option maxRecDepth 100000 in
set_option maxHeartbeats 4000000 in
theorem X_jLat_indexOfChar_14 (l : Launch) (D : va_G) (g : Nat → ClassId) (q : Nat → Nat) (ws : va_W) (x2 : Int32) (x3 : Int32) (x4 : Int32) (hI : q_I (nsh g q) q ws) (pre0 : 0 ≤ x3.toInt) (pre1 : x4.toInt ≤ 2) : q_mI l y_jLat_indexOfChar prog_33_method_23_code 6 (.int) 1 0 0 D g [.ref (g (9 + 2 * 14)), .int x2, .int x3, .int x4] ws (fun r u => ws = u ∧ (0 ≤ r.toInt + 1) ∧ (r.toInt ≤ 1) ∧ r = (F_jLat_indexOfChar_14 x2 x3 x4)) := by
  intro sz
  refine q_into (by decide) (Nat.le_of_ble_eq_true rfl) ?_
  intro p e s m below meth c ls hsz C0 V hl
  have hx := C0.1
  have hb := C0.2.1
  replace pre0 : q_F (0 ≤ x3.toInt) := pre0
  replace pre1 : q_F (x4.toInt ≤ 2) := pre1
  have hl : lv_has ls 6 [(0, .ref (g (9 + 2 * 14))), (1, .int x2), (2, .int x3), (3, .int x4)] := hl
  refine lv_iload_n hx hb d_33_23_0 rfl (lv_at hl 1 rfl) ?_
  refine lv_i2b hx hb d_33_23_1 rfl ?_
  obtain ⟨a1, e2⟩ := q_nm (x2.toInt8.toInt32 : Int32)
  refine q_ti (v := a1) e2 ?_
  refine lv_istore (lv' := [(4, .int a1), (0, .ref (g (9 + 2 * 14))), (1, .int x2), (2, .int x3), (3, .int x4)]) hx hb d_33_23_2 hl (by decide) rfl (fun ls hl => ?_)
  refine lv_iload_n hx hb d_33_23_4 rfl (lv_at hl 3 rfl) ?_
  refine lv_istore (lv' := [(5, .int x3), (4, .int a1), (0, .ref (g (9 + 2 * 14))), (1, .int x2), (2, .int x3), (3, .int x4)]) hx hb d_33_23_5 hl (by decide) rfl (fun ls hl => ?_)
  refine q_loop (X := Int32) (fun z H locs ls _ => q_F (x3.toInt ≤ z.toInt) ∧ q_Wd D g (va_A ws sz) s ws H locs ∧ lv_has ls 6 [(5, .int z), (4, .int a1), (0, .ref (g (9 + 2 * 14))), (3, .int x4)] ∧ (∃ n, (2 - z.toInt).toNat < n ∧ F_jLat_indexOfChar_14_L7 x2 x3 x4 a1 n z = (F_jLat_indexOfChar_14 x2 x3 x4))) (fun z => (2 - z.toInt).toNat) ?_ ((x3 : Int32)) _ _ _ ws ⟨(show q_F (x3.toInt ≤ x3.toInt) from (show x3.toInt ≤ x3.toInt from by omega)), V, q_lw hl (q_lw1 0 rfl (q_lw1 1 rfl (q_lw1 2 rfl (q_lw1 5 rfl q_lw0)))), ⟨((2 - x3.toInt).toNat + 1), Nat.lt_succ_self _, (show F_jLat_indexOfChar_14_L7 x2 x3 x4 a1 ((2 - x3.toInt).toNat + 1) x3 = (F_jLat_indexOfChar_14 x2 x3 x4) from (by rw [← e2, F_jLat_indexOfChar_14.eq_1]))⟩⟩
  rintro lx4 H locs ls _ ⟨i5, V, hl, ⟨fu9, hf10, hR7⟩⟩ ih6
  obtain ⟨fm11, rfl⟩ : ∃ m, fu9 = m + 1 := ⟨fu9 - 1, by omega⟩
  replace i5 : q_F (x3.toInt ≤ lx4.toInt) := i5
  replace hl : lv_has ls 6 [(5, .int lx4), (4, .int a1), (0, .ref (g (9 + 2 * 14))), (3, .int x4)] := hl
  refine lv_iload hx hb d_33_23_7 (lv_at hl 0 rfl) ?_
  refine lv_iload_n hx hb d_33_23_9 rfl (lv_at hl 3 rfl) ?_
  refine lv_icmp_ge (tgt := 31) hx hb d_33_23_10 (by decide) (fun c12 => ?_) (fun c12 => ?_)
  ·
    have b13 : q_F (x4.toInt ≤ lx4.toInt) := (q_leI c12)
    refine lv_iconst (v := (-1)) hx hb d_33_23_31 (by decide) ?_
    exact q_reti C0 V (⟨rfl, (show 0 ≤ (-1 : Int32).toInt + 1 from (by have z3 : (-1 : Int32).toInt = -1 := rfl; omega)), (show (-1 : Int32).toInt ≤ 1 from (by have z3 : (-1 : Int32).toInt = -1 := rfl; omega)), (show (-1 : Int32) = (F_jLat_indexOfChar_14 x2 x3 x4) from Eq.trans (by rw [F_jLat_indexOfChar_14_L7.eq_2, if_pos c12]) hR7)⟩) d_33_23_32
  ·
    have b14 : q_F (lx4.toInt < x4.toInt) := (q_nleI c12)
    refine lv_aload_n hx hb d_33_23_13 rfl (lv_at hl 2 rfl) ?_
    refine lv_iload hx hb d_33_23_14 (lv_at hl 0 rfl) ?_
    refine q_sbal (i := 14) (v := (([115, 83] : List Int32).getD lx4.toNatClampNeg 0)) C0 V rfl (show vp_in lx4 2 from q_ix (x := lx4.toInt) rfl (by have t1 : 0 ≤ x3.toInt := pre0; have t2 : x3.toInt ≤ lx4.toInt := i5; omega) (by have t1 : 0 ≤ x3.toInt := pre0; have t2 : x3.toInt ≤ lx4.toInt := i5; have t3 : x4.toInt ≤ 2 := pre1; have t4 : lx4.toInt < x4.toInt := b14; omega)) rfl d_33_23_16 ?_
    obtain ⟨a15, e16⟩ := q_nm ((([115, 83] : List Int32).getD lx4.toNatClampNeg 0) : Int32)
    refine q_ti (v := a15) e16 ?_
    refine lv_iload hx hb d_33_23_17 (lv_at hl 1 rfl) ?_
    refine lv_icmp_ne (tgt := 25) hx hb d_33_23_19 (by decide) (fun c17 => ?_) (fun c17 => ?_)
    ·
      have b18 : q_F (a15.toInt ≠ a1.toInt) := (q_neI c17)
      obtain ⟨a19, e20⟩ := q_nm (lx4 + 1 : Int32)
      have b21 : q_F (a19.toInt = lx4.toInt + 1) := (by rw [← e20]; exact q_addI (y := 1) rfl (by decide) (by have _ := q_lo32 (x := lx4); have _ := q_hi32 (x := lx4); have t1 : lx4.toInt < x4.toInt := b14; have _ := q_lo32 (x := x4); have _ := q_hi32 (x := x4); omega) (by have _ := q_lo32 (x := lx4); have _ := q_hi32 (x := lx4); have t1 : lx4.toInt < x4.toInt := b14; have _ := q_lo32 (x := x4); have _ := q_hi32 (x := x4); omega))
      refine lv_iinc (v := a19) (lv' := [(5, .int a19), (4, .int a1), (0, .ref (g (9 + 2 * 14))), (3, .int x4)]) hx hb d_33_23_25 hl (k := 0) rfl (e20) (by decide) rfl (fun ls hl => ?_)
      refine lv_goto (tgt := 7) hx hb d_33_23_28 (by decide) ?_
      exact ih6 ((a19 : Int32)) _ _ _ ws (show (2 - a19.toInt).toNat < (2 - lx4.toInt).toNat from by have t1 : a19.toInt = lx4.toInt + 1 := b21; have t2 : x4.toInt ≤ 2 := pre1; have t3 : lx4.toInt < x4.toInt := b14; omega) ⟨(show q_F (x3.toInt ≤ a19.toInt) from (show x3.toInt ≤ a19.toInt from by have t1 : x3.toInt ≤ lx4.toInt := i5; have t2 : a19.toInt = lx4.toInt + 1 := b21; omega)), V, q_lw hl (q_lw1 0 rfl (q_lw1 1 rfl (q_lw1 2 rfl (q_lw1 3 rfl q_lw0)))), ⟨fm11, Nat.lt_of_lt_of_le (show (2 - a19.toInt).toNat < (2 - lx4.toInt).toNat from by have t1 : a19.toInt = lx4.toInt + 1 := b21; have t2 : x4.toInt ≤ 2 := pre1; have t3 : lx4.toInt < x4.toInt := b14; omega) (Nat.le_of_lt_succ hf10), (show F_jLat_indexOfChar_14_L7 x2 x3 x4 a1 fm11 a19 = (F_jLat_indexOfChar_14 x2 x3 x4) from Eq.trans (by have c17x := c17; rw [← e16] at c17x; rw [← e20, F_jLat_indexOfChar_14_L7.eq_2, if_neg c12, if_neg c17x]) hR7)⟩⟩
    ·
      have b22 : q_F (a15.toInt = a1.toInt) := (q_eqI c17)
      refine lv_iload hx hb d_33_23_22 (lv_at hl 0 rfl) ?_
      exact q_reti C0 V (⟨rfl, (show 0 ≤ lx4.toInt + 1 from (by have t1 : 0 ≤ x3.toInt := pre0; have t2 : x3.toInt ≤ lx4.toInt := i5; omega)), (show lx4.toInt ≤ 1 from (by have t1 : x4.toInt ≤ 2 := pre1; have t2 : lx4.toInt < x4.toInt := b14; omega)), (show lx4 = (F_jLat_indexOfChar_14 x2 x3 x4) from Eq.trans (by have c17x := c17; rw [← e16] at c17x; rw [F_jLat_indexOfChar_14_L7.eq_2, if_neg c12, if_pos c17x]) hR7)⟩) d_33_23_24
def F_jLat_indexOf_14 (x2 : Int32) (x3 : Int32) (x4 : Int32) : Int32 := if ((F_jLat_canEncode x2) : Int32) = (0 : Int32) then ((-1 : Int32)) else (if (if x3 < 0 then 0 else x3 : Int32) < (if 2 < x4 then 2 else x4 : Int32) then (((F_jLat_indexOfChar_14 x2 (if x3 < 0 then 0 else x3 : Int32) (if 2 < x4 then 2 else x4 : Int32)) : Int32)) else ((-1 : Int32)))
set_option maxRecDepth 100000 in
set_option maxHeartbeats 4000000 in
theorem X_jLat_indexOf_14 (l : Launch) (D : va_G) (g : Nat → ClassId) (q : Nat → Nat) (ws : va_W) (x2 : Int32) (x3 : Int32) (x4 : Int32) (hI : q_I (nsh g q) q ws) (pre0 : 0 ≤ x3.toInt) (pre1 : x4.toInt ≤ 2) : q_mI l y_jLat_indexOf prog_33_method_22_code 4 (.int) 2 0 0 D g [.ref (g (9 + 2 * 14)), .int x2, .int x3, .int x4] ws (fun r u => ws = u ∧ (0 ≤ r.toInt + 1) ∧ (r.toInt ≤ 1) ∧ r = (F_jLat_indexOf_14 x2 x3 x4)) := by
  intro sz
  refine q_into (by decide) (Nat.le_of_ble_eq_true rfl) ?_
  intro p e s m below meth c ls hsz C0 V hl
  have hx := C0.1
  have hb := C0.2.1
  replace pre0 : q_F (0 ≤ x3.toInt) := pre0
  replace pre1 : q_F (x4.toInt ≤ 2) := pre1
  have hl : lv_has ls 4 [(0, .ref (g (9 + 2 * 14))), (1, .int x2), (2, .int x3), (3, .int x4)] := hl
  refine lv_iload_n hx hb d_33_22_0 rfl (lv_at hl 1 rfl) ?_
  refine q_goi V (q_runS (As := [.int x2]) (rest := []) (d := 1) (mc := 0) (ms := 0) C0 V rfl LS_jLat_88 (X_jLat_canEncode l D g q ws  x2 hI   _) rfl hl.1 rfl (Nat.le_of_ble_eq_true rfl) ⟨by decide, by decide⟩ ⟨Nat.le_of_ble_eq_true rfl, Nat.le_of_ble_eq_true rfl⟩ d_33_22_1) (fun a3 u1 H locs hp2 V => ?_)
  obtain ⟨rfl, b4, b5, hE6⟩ := hp2
  have e7 : a3 = (F_jLat_canEncode x2) := hE6
  replace b4 : q_F (0 ≤ a3.toInt) := b4
  replace b5 : q_F (a3.toInt ≤ 1) := b5
  refine lv_if_ne (tgt := 9) hx hb d_33_22_4 (by decide) (fun c8 => ?_) (fun c8 => ?_)
  ·
    have b9 : q_F (a3.toInt ≠ 0) := (q_neI c8)
    refine lv_iload_n hx hb d_33_22_9 rfl (lv_at hl 2 rfl) ?_
    refine lv_iconst (v := 0) hx hb d_33_22_10 (by decide) ?_
    refine q_max C0 hl.1 rfl w_1773 w_803 w_7 w_804 ⟨Nat.le_of_ble_eq_true rfl, Nat.le_of_ble_eq_true rfl⟩ ⟨Nat.le_of_ble_eq_true rfl, Nat.le_of_ble_eq_true rfl⟩ d_33_22_11 ?_
    obtain ⟨a10, e11⟩ := q_nm (if x3 < 0 then 0 else x3 : Int32)
    refine q_ti (v := a10) e11 ?_
    have b12 : q_F (x3.toInt ≤ a10.toInt ∧ 0 ≤ a10.toInt ∧ (a10.toInt = x3.toInt ∨ a10.toInt = 0)) := (by rw [← e11]; show x3.toInt ≤ (if x3 < 0 then 0 else x3 : Int32).toInt ∧ 0 ≤ (if x3 < 0 then 0 else x3 : Int32).toInt ∧ ((if x3 < 0 then 0 else x3 : Int32).toInt = x3.toInt ∨ (if x3 < 0 then 0 else x3 : Int32).toInt = 0); exact (by have y1 : (0 : Int32).toInt = 0 := rfl; have z := s_max (a := x3) (b := 0); omega))
    refine lv_istore_n (lv' := [(2, .int a10), (0, .ref (g (9 + 2 * 14))), (1, .int x2), (3, .int x4)]) hx hb d_33_22_14 rfl hl (by decide) rfl (fun ls hl => ?_)
    refine lv_iload_n hx hb d_33_22_15 rfl (lv_at hl 3 rfl) ?_
    refine lv_aload_n hx hb d_33_22_16 rfl (lv_at hl 1 rfl) ?_
    refine q_slen (i := 14) (v := 2) C0 V rfl (by decide) d_33_22_17 ?_
    refine q_min C0 hl.1 rfl w_1774 w_774 w_7 w_775 ⟨Nat.le_of_ble_eq_true rfl, Nat.le_of_ble_eq_true rfl⟩ ⟨Nat.le_of_ble_eq_true rfl, Nat.le_of_ble_eq_true rfl⟩ d_33_22_18 ?_
    obtain ⟨a13, e14⟩ := q_nm (if 2 < x4 then 2 else x4 : Int32)
    refine q_ti (v := a13) e14 ?_
    have b15 : q_F (a13.toInt ≤ x4.toInt ∧ a13.toInt ≤ 2 ∧ (a13.toInt = x4.toInt ∨ a13.toInt = 2)) := (by rw [← e14]; show (if 2 < x4 then 2 else x4 : Int32).toInt ≤ x4.toInt ∧ (if 2 < x4 then 2 else x4 : Int32).toInt ≤ 2 ∧ ((if 2 < x4 then 2 else x4 : Int32).toInt = x4.toInt ∨ (if 2 < x4 then 2 else x4 : Int32).toInt = 2); exact (by have y1 : (2 : Int32).toInt = 2 := rfl; have z := s_min (a := x4) (b := 2); omega))
    refine lv_istore_n (lv' := [(3, .int a13), (2, .int a10), (0, .ref (g (9 + 2 * 14))), (1, .int x2)]) hx hb d_33_22_21 rfl hl (by decide) rfl (fun ls hl => ?_)
    refine lv_iload_n hx hb d_33_22_22 rfl (lv_at hl 1 rfl) ?_
    refine lv_iload_n hx hb d_33_22_23 rfl (lv_at hl 0 rfl) ?_
    refine lv_icmp_lt (tgt := 29) hx hb d_33_22_24 (by decide) (fun c16 => ?_) (fun c16 => ?_)
    ·
      have b17 : q_F (a10.toInt < a13.toInt) := (q_ltI c16)
      refine lv_aload_n hx hb d_33_22_29 rfl (lv_at hl 2 rfl) ?_
      refine lv_iload_n hx hb d_33_22_30 rfl (lv_at hl 3 rfl) ?_
      refine lv_iload_n hx hb d_33_22_31 rfl (lv_at hl 1 rfl) ?_
      refine lv_iload_n hx hb d_33_22_32 rfl (lv_at hl 0 rfl) ?_
      refine q_goi V (q_runS (As := [.ref (g (9 + 2 * 14)), .int x2, .int a10, .int a13]) (rest := []) (d := 1) (mc := 0) (ms := 0) C0 V rfl LS_jLat_95 (X_jLat_indexOfChar_14 l D g q ws  x2 a10 a13 hI  (by have t1 : x3.toInt ≤ a10.toInt ∧ 0 ≤ a10.toInt ∧ (a10.toInt = x3.toInt ∨ a10.toInt = 0) := b12; omega) (by have t1 : a13.toInt ≤ x4.toInt ∧ a13.toInt ≤ 2 ∧ (a13.toInt = x4.toInt ∨ a13.toInt = 2) := b15; omega) _) rfl hl.1 rfl (Nat.le_of_ble_eq_true rfl) ⟨by decide, by decide⟩ ⟨Nat.le_of_ble_eq_true rfl, Nat.le_of_ble_eq_true rfl⟩ d_33_22_33) (fun a20 u18 H locs hp19 V => ?_)
      obtain ⟨rfl, b21, b22, hE23⟩ := hp19
      have e24 : a20 = (F_jLat_indexOfChar_14 x2 a10 a13) := hE23
      replace b21 : q_F (0 ≤ a20.toInt + 1) := b21
      replace b22 : q_F (a20.toInt ≤ 1) := b22
      exact q_reti C0 V (⟨rfl, (show 0 ≤ a20.toInt + 1 from (by have t1 : 0 ≤ a20.toInt + 1 := b21; omega)), (show a20.toInt ≤ 1 from (by have t1 : a20.toInt ≤ 1 := b22; omega)), (show a20 = (F_jLat_indexOf_14 x2 x3 x4) from (by have c8x := c8; rw [e7] at c8x; have c16x := c16; rw [← e14, ← e11] at c16x; rw [e24, ← e14, ← e11, F_jLat_indexOf_14.eq_1, if_neg c8x, if_pos c16x]))⟩) d_33_22_36
    ·
      have b25 : q_F (a13.toInt ≤ a10.toInt) := (q_nltI c16)
      refine lv_iconst (v := (-1)) hx hb d_33_22_27 (by decide) ?_
      exact q_reti C0 V (⟨rfl, (show 0 ≤ (-1 : Int32).toInt + 1 from (by have z3 : (-1 : Int32).toInt = -1 := rfl; omega)), (show (-1 : Int32).toInt ≤ 1 from (by have z3 : (-1 : Int32).toInt = -1 := rfl; omega)), (show (-1 : Int32) = (F_jLat_indexOf_14 x2 x3 x4) from (by have c8x := c8; rw [e7] at c8x; have c16x := c16; rw [← e14, ← e11] at c16x; rw [F_jLat_indexOf_14.eq_1, if_neg c8x, if_neg c16x]))⟩) d_33_22_28
  ·
    have b26 : q_F (a3.toInt = 0) := (q_eqI c8)
    refine lv_iconst (v := (-1)) hx hb d_33_22_7 (by decide) ?_
    exact q_reti C0 V (⟨rfl, (show 0 ≤ (-1 : Int32).toInt + 1 from (by have z3 : (-1 : Int32).toInt = -1 := rfl; omega)), (show (-1 : Int32).toInt ≤ 1 from (by have z3 : (-1 : Int32).toInt = -1 := rfl; omega)), (show (-1 : Int32) = (F_jLat_indexOf_14 x2 x3 x4) from (by have c8x := c8; rw [e7] at c8x; rw [F_jLat_indexOf_14.eq_1, if_pos c8x]))⟩) d_33_22_8
def F_jStr_indexOf_III_14 (x2 : Int32) (x3 : Int32) : Int32 := ((F_jLat_indexOf_14 x2 x3 (2 : Int32)) : Int32)
set_option maxRecDepth 100000 in
set_option maxHeartbeats 4000000 in
theorem X_jStr_indexOf_III_14 (l : Launch) (D : va_G) (g : Nat → ClassId) (q : Nat → Nat) (ws : va_W) (x2 : Int32) (x3 : Int32) (hI : q_I (nsh g q) q ws) (pre0 : 0 ≤ x3.toInt) : q_mI l y_jStr_indexOf_III prog_31_method_80_code 3 (.int) 3 0 0 D g [.ref (g (8 + 2 * 14)), .int x2, .int x3] ws (fun r u => ws = u ∧ (0 ≤ r.toInt + 1) ∧ (r.toInt ≤ 1) ∧ r = (F_jStr_indexOf_III_14 x2 x3)) := by
  intro sz
  refine q_into (by decide) (Nat.le_of_ble_eq_true rfl) ?_
  intro p e s m below meth c ls hsz C0 V hl
  have hx := C0.1
  have hb := C0.2.1
  replace pre0 : q_F (0 ≤ x3.toInt) := pre0
  have hl : lv_has ls 3 [(0, .ref (g (8 + 2 * 14))), (1, .int x2), (2, .int x3)] := hl
  refine lv_aload_n hx hb d_31_80_0 rfl (lv_at hl 0 rfl) ?_
  refine q_goi V (q_runVs (As := []) (rest := []) (d := 1) (mc := 0) (ms := 0) (i := 14) C0 V rfl LV_jStr_492 (T_jStr_isLatin1_14 l D g q ws   hI   _) rfl rfl rfl hl.1 rfl (Nat.le_of_ble_eq_true rfl) ⟨by decide, by decide⟩ ⟨Nat.le_of_ble_eq_true rfl, Nat.le_of_ble_eq_true rfl⟩ d_31_80_1) (fun a3 u1 H locs hp2 V => ?_)
  obtain ⟨rfl, b4, b5⟩ := hp2
  replace b4 : q_F (1 ≤ a3.toInt) := b4
  replace b5 : q_F (a3.toInt ≤ 1) := b5
  obtain rfl : a3 = (1 : Int32) := q_Ieq (x := a3.toInt) (y := 1) rfl (by decide) (by have t1 : 1 ≤ a3.toInt := b4; have t2 : a3.toInt ≤ 1 := b5; omega)
  refine lv_if_eq (tgt := 23) hx hb d_31_80_4 (by decide) (fun c7 => absurd c7 (by decide)) (fun c7 => ?_)
  refine lv_aload_n hx hb d_31_80_7 rfl (lv_at hl 0 rfl) ?_
  refine q_sval (i := 14) C0 V rfl rfl w_1018 d_31_80_8 ?_
  refine lv_iload_n hx hb d_31_80_11 rfl (lv_at hl 1 rfl) ?_
  refine lv_iload_n hx hb d_31_80_12 rfl (lv_at hl 2 rfl) ?_
  refine lv_aload_n hx hb d_31_80_13 rfl (lv_at hl 0 rfl) ?_
  refine q_goi V (q_runVs (As := []) (rest := [.int x3, .int x2, .ref (g (9 + 2 * 14))]) (d := 2) (mc := 0) (ms := 0) (i := 14) C0 V rfl LV_jStr_505 (T_jStr_length_14 l D g q ws   hI   _) rfl rfl rfl hl.1 rfl (Nat.le_of_ble_eq_true rfl) ⟨by decide, by decide⟩ ⟨Nat.le_of_ble_eq_true rfl, Nat.le_of_ble_eq_true rfl⟩ d_31_80_14) (fun a10 u8 H locs hp9 V => ?_)
  obtain ⟨rfl, b11, b12⟩ := hp9
  replace b11 : q_F (2 ≤ a10.toInt) := b11
  replace b12 : q_F (a10.toInt ≤ 2) := b12
  obtain rfl : a10 = (2 : Int32) := q_Ieq (x := a10.toInt) (y := 2) rfl (by decide) (by have t1 : 2 ≤ a10.toInt := b11; have t2 : a10.toInt ≤ 2 := b12; omega)
  refine q_goi V (q_runS (As := [.ref (g (9 + 2 * 14)), .int x2, .int x3, .int 2]) (rest := []) (d := 2) (mc := 0) (ms := 0) C0 V rfl LS_jStr_637 (X_jLat_indexOf_14 l D g q ws  x2 x3 2 hI  (by have y0 : (2 : Int32).toInt = 2 := rfl; have t1 : 0 ≤ x3.toInt := pre0; omega) (by have y0 : (2 : Int32).toInt = 2 := rfl; omega) _) rfl hl.1 rfl (Nat.le_of_ble_eq_true rfl) ⟨by decide, by decide⟩ ⟨Nat.le_of_ble_eq_true rfl, Nat.le_of_ble_eq_true rfl⟩ d_31_80_17) (fun a16 u14 H locs hp15 V => ?_)
  obtain ⟨rfl, b17, b18, hE19⟩ := hp15
  have e20 : a16 = (F_jLat_indexOf_14 x2 x3 (2 : Int32)) := hE19
  replace b17 : q_F (0 ≤ a16.toInt + 1) := b17
  replace b18 : q_F (a16.toInt ≤ 1) := b18
  refine lv_goto (tgt := 36) hx hb d_31_80_20 (by decide) ?_
  exact q_reti C0 V (⟨rfl, (show 0 ≤ a16.toInt + 1 from (by have t1 : 0 ≤ a16.toInt + 1 := b17; omega)), (show a16.toInt ≤ 1 from (by have t1 : a16.toInt ≤ 1 := b18; omega)), (show a16 = (F_jStr_indexOf_III_14 x2 x3) from (by rw [e20, F_jStr_indexOf_III_14.eq_1]))⟩) d_31_80_36
def F_jStr_indexOf_II_14 (x2 : Int32) : Int32 := ((F_jStr_indexOf_III_14 x2 (0 : Int32)) : Int32)
set_option maxRecDepth 100000 in
set_option maxHeartbeats 4000000 in
theorem X_jStr_indexOf_II_14 (l : Launch) (D : va_G) (g : Nat → ClassId) (q : Nat → Nat) (ws : va_W) (x2 : Int32) (hI : q_I (nsh g q) q ws) : q_mI l y_jStr_indexOf_II prog_31_method_79_code 2 (.int) 4 0 0 D g [.ref (g (8 + 2 * 14)), .int x2] ws (fun r u => ws = u ∧ (0 ≤ r.toInt + 1) ∧ (r.toInt ≤ 1) ∧ r = (F_jStr_indexOf_II_14 x2)) := by
  intro sz
  refine q_into (by decide) (Nat.le_of_ble_eq_true rfl) ?_
  intro p e s m below meth c ls hsz C0 V hl
  have hx := C0.1
  have hb := C0.2.1
  have hl : lv_has ls 2 [(0, .ref (g (8 + 2 * 14))), (1, .int x2)] := hl
  refine lv_aload_n hx hb d_31_79_0 rfl (lv_at hl 0 rfl) ?_
  refine lv_iload_n hx hb d_31_79_1 rfl (lv_at hl 1 rfl) ?_
  refine lv_iconst (v := 0) hx hb d_31_79_2 (by decide) ?_
  refine q_goi V (q_runVs (As := [.int x2, .int 0]) (rest := []) (d := 3) (mc := 0) (ms := 0) (i := 14) C0 V rfl LV_jStr_633 (X_jStr_indexOf_III_14 l D g q ws  x2 0 hI  (by have y0 : (0 : Int32).toInt = 0 := rfl; omega) _) rfl rfl rfl hl.1 rfl (Nat.le_of_ble_eq_true rfl) ⟨by decide, by decide⟩ ⟨Nat.le_of_ble_eq_true rfl, Nat.le_of_ble_eq_true rfl⟩ d_31_79_3) (fun a3 u1 H locs hp2 V => ?_)
  obtain ⟨rfl, b4, b5, hE6⟩ := hp2
  have e7 : a3 = (F_jStr_indexOf_III_14 x2 (0 : Int32)) := hE6
  replace b4 : q_F (0 ≤ a3.toInt + 1) := b4
  replace b5 : q_F (a3.toInt ≤ 1) := b5
  exact q_reti C0 V (⟨rfl, (show 0 ≤ a3.toInt + 1 from (by have t1 : 0 ≤ a3.toInt + 1 := b4; omega)), (show a3.toInt ≤ 1 from (by have t1 : a3.toInt ≤ 1 := b5; omega)), (show a3 = (F_jStr_indexOf_II_14 x2) from (by rw [e7, F_jStr_indexOf_II_14.eq_1]))⟩) d_31_79_6
def F_Dir_isOneOf_14 (t0_0 : Int32) (t0_1 : Int32) (t0_2 : Int32) (t0_3 : Int32) (t0_4 : Int32) (t0_5 : Int32) (t0_6 : Int32) : Int32 := if t0_4 < (0 : Int32) then ((0 : Int32)) else (if ((F_jStr_indexOf_II_14 ((t0_4.toUInt32 % 65536).toInt32 : Int32)) : Int32) < (0 : Int32) then ((0 : Int32)) else ((1 : Int32)))
set_option maxRecDepth 100000 in
set_option maxHeartbeats 4000000 in
theorem X_Dir_isOneOf_14 (l : Launch) (D : va_G) (g : Nat → ClassId) (q : Nat → Nat) (ws : va_W) (hI : q_I (nsh g q) q ws) (t0_0 : Int32) (t0_1 : Int32) (t0_2 : Int32) (t0_3 : Int32) (t0_4 : Int32) (t0_5 : Int32) (t0_6 : Int32) (hT0 : ws[47]? = (some (q 47, .inr (10, [.int t0_0, .int t0_1, .int t0_2, .int t0_3, .int t0_4, .int t0_5, .ref (q 1), .int t0_6])) : Option (Nat × va_E))) : q_mI l y_Dir_isOneOf prog_6_method_9_code 2 (.boolean) 5 0 0 D g [.ref (q 47), .ref (g (8 + 2 * 14))] ws (fun r u => ws = u ∧ (0 ≤ r.toInt) ∧ (r.toInt ≤ 1) ∧ r = (F_Dir_isOneOf_14 t0_0 t0_1 t0_2 t0_3 t0_4 t0_5 t0_6)) := by
  intro sz
  refine q_into (by decide) (Nat.le_of_ble_eq_true rfl) ?_
  intro p e s m below meth c ls hsz C0 V hl
  have hx := C0.1
  have hb := C0.2.1
  obtain ⟨yy0_0, yy0_1, yy0_2, yy0_3, yy0_4, yy0_5, yy0_6, hh0, btt0_2, btt0_3, btt0_6⟩ := n_o47 hI
  obtain ⟨rfl, rfl, rfl, rfl, rfl, rfl, rfl⟩ : t0_0 = yy0_0 ∧ t0_1 = yy0_1 ∧ t0_2 = yy0_2 ∧ t0_3 = yy0_3 ∧ t0_4 = yy0_4 ∧ t0_5 = yy0_5 ∧ t0_6 = yy0_6 := by have z := Option.some.inj (hT0.symm.trans hh0); simpa using z
  replace btt0_2 : q_F (-1 ≤ t0_2.toInt ∧ t0_2.toInt ≤ 9999) := btt0_2
  replace btt0_3 : q_F (-1 ≤ t0_3.toInt ∧ t0_3.toInt ≤ 9999) := btt0_3
  replace btt0_6 : q_F (0 ≤ t0_6.toInt ∧ t0_6.toInt ≤ 1) := btt0_6
  have hl : lv_has ls 2 [(0, .ref (q 47)), (1, .ref (g (8 + 2 * 14)))] := hl
  refine lv_aload_n hx hb d_6_9_0 rfl (lv_at hl 0 rfl) ?_
  refine q_get (ci := 10) (j := 4) (v := .int t0_4) C0 V i_Dir rfl rfl hT0 (by decide) w_361 rfl d_6_9_1 ?_
  refine lv_if_lt (tgt := 23) hx hb d_6_9_4 (by decide) (fun c12 => ?_) (fun c12 => ?_)
  ·
    have b13 : q_F (t0_4.toInt < 0) := (q_ltI c12)
    refine lv_iconst (v := 0) hx hb d_6_9_23 (by decide) ?_
    exact q_retz C0 V (by decide) (⟨rfl, (show 0 ≤ (0 : Int32).toInt from (by have z7 : (0 : Int32).toInt = 0 := rfl; omega)), (show (0 : Int32).toInt ≤ 1 from (by have z7 : (0 : Int32).toInt = 0 := rfl; omega)), (show (0 : Int32) = (F_Dir_isOneOf_14 t0_0 t0_1 t0_2 t0_3 t0_4 t0_5 t0_6) from (by rw [F_Dir_isOneOf_14.eq_1, if_pos c12]))⟩) d_6_9_24
  ·
    have b14 : q_F (0 ≤ t0_4.toInt) := (q_nltI c12)
    refine lv_aload_n hx hb d_6_9_7 rfl (lv_at hl 1 rfl) ?_
    refine lv_aload_n hx hb d_6_9_8 rfl (lv_at hl 0 rfl) ?_
    refine q_get (ci := 10) (j := 4) (v := .int t0_4) C0 V i_Dir rfl rfl hT0 (by decide) w_361 rfl d_6_9_9 ?_
    refine lv_i2c hx hb d_6_9_12 rfl ?_
    obtain ⟨a15, e16⟩ := q_nm ((t0_4.toUInt32 % 65536).toInt32 : Int32)
    refine q_ti (v := a15) e16 ?_
    have b17 : q_F (0 ≤ a15.toInt ∧ a15.toInt ≤ 65535) := (by rw [← e16]; show 0 ≤ ((t0_4.toUInt32 % 65536).toInt32 : Int32).toInt ∧ ((t0_4.toUInt32 % 65536).toInt32 : Int32).toInt ≤ 65535; exact ⟨(n_i2c (x := t0_4)).1, (n_i2c (x := t0_4)).2.1⟩)
    refine q_goi V (q_runVs (As := [.int a15]) (rest := []) (d := 4) (mc := 0) (ms := 0) (i := 14) C0 V rfl LV_Dir_63 (X_jStr_indexOf_II_14 l D g q ws  a15 hI   _) rfl rfl rfl hl.1 rfl (Nat.le_of_ble_eq_true rfl) ⟨by decide, by decide⟩ ⟨Nat.le_of_ble_eq_true rfl, Nat.le_of_ble_eq_true rfl⟩ d_6_9_13) (fun a20 u18 H locs hp19 V => ?_)
    obtain ⟨rfl, b21, b22, hE23⟩ := hp19
    have e24 : a20 = (F_jStr_indexOf_II_14 a15) := hE23
    replace b21 : q_F (0 ≤ a20.toInt + 1) := b21
    replace b22 : q_F (a20.toInt ≤ 1) := b22
    refine lv_if_lt (tgt := 23) hx hb d_6_9_16 (by decide) (fun c25 => ?_) (fun c25 => ?_)
    ·
      have b26 : q_F (a20.toInt < 0) := (q_ltI c25)
      refine lv_iconst (v := 0) hx hb d_6_9_23 (by decide) ?_
      exact q_retz C0 V (by decide) (⟨rfl, (show 0 ≤ (0 : Int32).toInt from (by have z7 : (0 : Int32).toInt = 0 := rfl; omega)), (show (0 : Int32).toInt ≤ 1 from (by have z7 : (0 : Int32).toInt = 0 := rfl; omega)), (show (0 : Int32) = (F_Dir_isOneOf_14 t0_0 t0_1 t0_2 t0_3 t0_4 t0_5 t0_6) from (by have c25x := c25; rw [e24, ← e16] at c25x; rw [F_Dir_isOneOf_14.eq_1, if_neg c12, if_pos c25x]))⟩) d_6_9_24
    ·
      have b27 : q_F (0 ≤ a20.toInt) := (q_nltI c25)
      refine lv_iconst (v := 1) hx hb d_6_9_19 (by decide) ?_
      refine lv_goto (tgt := 24) hx hb d_6_9_20 (by decide) ?_
      exact q_retz C0 V (by decide) (⟨rfl, (show 0 ≤ (1 : Int32).toInt from (by have z7 : (1 : Int32).toInt = 1 := rfl; omega)), (show (1 : Int32).toInt ≤ 1 from (by have z7 : (1 : Int32).toInt = 1 := rfl; omega)), (show (1 : Int32) = (F_Dir_isOneOf_14 t0_0 t0_1 t0_2 t0_3 t0_4 t0_5 t0_6) from (by have c25x := c25; rw [e24, ← e16] at c25x; rw [F_Dir_isOneOf_14.eq_1, if_neg c12, if_neg c25x]))⟩) d_6_9_24
def F_jLat_indexOfChar_16_L7 (x2 : Int32) (x3 : Int32) (x4 : Int32) (a1 : Int32) : Nat → Int32 → Int32
  | 0, _ => default
  | fm + 1, lx4 => if x4 ≤ lx4 then ((-1 : Int32)) else (if ((([111, 120, 88] : List Int32).getD lx4.toNatClampNeg 0) : Int32) = a1 then (lx4) else (F_jLat_indexOfChar_16_L7 x2 x3 x4 a1 fm (lx4 + 1 : Int32)))
def F_jLat_indexOfChar_16 (x2 : Int32) (x3 : Int32) (x4 : Int32) : Int32 := F_jLat_indexOfChar_16_L7 x2 x3 x4 (x2.toInt8.toInt32 : Int32) ((3 - x3.toInt).toNat + 1) x3
set_option maxRecDepth 100000 in
set_option maxHeartbeats 4000000 in
theorem X_jLat_indexOfChar_16 (l : Launch) (D : va_G) (g : Nat → ClassId) (q : Nat → Nat) (ws : va_W) (x2 : Int32) (x3 : Int32) (x4 : Int32) (hI : q_I (nsh g q) q ws) (pre0 : 0 ≤ x3.toInt) (pre1 : x4.toInt ≤ 3) : q_mI l y_jLat_indexOfChar prog_33_method_23_code 6 (.int) 1 0 0 D g [.ref (g (9 + 2 * 16)), .int x2, .int x3, .int x4] ws (fun r u => ws = u ∧ (0 ≤ r.toInt + 1) ∧ (r.toInt ≤ 2) ∧ r = (F_jLat_indexOfChar_16 x2 x3 x4)) := by
  intro sz
  refine q_into (by decide) (Nat.le_of_ble_eq_true rfl) ?_
  intro p e s m below meth c ls hsz C0 V hl
  have hx := C0.1
  have hb := C0.2.1
  replace pre0 : q_F (0 ≤ x3.toInt) := pre0
  replace pre1 : q_F (x4.toInt ≤ 3) := pre1
  have hl : lv_has ls 6 [(0, .ref (g (9 + 2 * 16))), (1, .int x2), (2, .int x3), (3, .int x4)] := hl
  refine lv_iload_n hx hb d_33_23_0 rfl (lv_at hl 1 rfl) ?_
  refine lv_i2b hx hb d_33_23_1 rfl ?_
  obtain ⟨a1, e2⟩ := q_nm (x2.toInt8.toInt32 : Int32)
  refine q_ti (v := a1) e2 ?_
  refine lv_istore (lv' := [(4, .int a1), (0, .ref (g (9 + 2 * 16))), (1, .int x2), (2, .int x3), (3, .int x4)]) hx hb d_33_23_2 hl (by decide) rfl (fun ls hl => ?_)
  refine lv_iload_n hx hb d_33_23_4 rfl (lv_at hl 3 rfl) ?_
  refine lv_istore (lv' := [(5, .int x3), (4, .int a1), (0, .ref (g (9 + 2 * 16))), (1, .int x2), (2, .int x3), (3, .int x4)]) hx hb d_33_23_5 hl (by decide) rfl (fun ls hl => ?_)
  refine q_loop (X := Int32) (fun z H locs ls _ => q_F (x3.toInt ≤ z.toInt) ∧ q_Wd D g (va_A ws sz) s ws H locs ∧ lv_has ls 6 [(5, .int z), (4, .int a1), (0, .ref (g (9 + 2 * 16))), (3, .int x4)] ∧ (∃ n, (3 - z.toInt).toNat < n ∧ F_jLat_indexOfChar_16_L7 x2 x3 x4 a1 n z = (F_jLat_indexOfChar_16 x2 x3 x4))) (fun z => (3 - z.toInt).toNat) ?_ ((x3 : Int32)) _ _ _ ws ⟨(show q_F (x3.toInt ≤ x3.toInt) from (show x3.toInt ≤ x3.toInt from by omega)), V, q_lw hl (q_lw1 0 rfl (q_lw1 1 rfl (q_lw1 2 rfl (q_lw1 5 rfl q_lw0)))), ⟨((3 - x3.toInt).toNat + 1), Nat.lt_succ_self _, (show F_jLat_indexOfChar_16_L7 x2 x3 x4 a1 ((3 - x3.toInt).toNat + 1) x3 = (F_jLat_indexOfChar_16 x2 x3 x4) from (by rw [← e2, F_jLat_indexOfChar_16.eq_1]))⟩⟩
  rintro lx4 H locs ls _ ⟨i5, V, hl, ⟨fu9, hf10, hR7⟩⟩ ih6
  obtain ⟨fm11, rfl⟩ : ∃ m, fu9 = m + 1 := ⟨fu9 - 1, by omega⟩
  replace i5 : q_F (x3.toInt ≤ lx4.toInt) := i5
  replace hl : lv_has ls 6 [(5, .int lx4), (4, .int a1), (0, .ref (g (9 + 2 * 16))), (3, .int x4)] := hl
  refine lv_iload hx hb d_33_23_7 (lv_at hl 0 rfl) ?_
  refine lv_iload_n hx hb d_33_23_9 rfl (lv_at hl 3 rfl) ?_
  refine lv_icmp_ge (tgt := 31) hx hb d_33_23_10 (by decide) (fun c12 => ?_) (fun c12 => ?_)
  ·
    have b13 : q_F (x4.toInt ≤ lx4.toInt) := (q_leI c12)
    refine lv_iconst (v := (-1)) hx hb d_33_23_31 (by decide) ?_
    exact q_reti C0 V (⟨rfl, (show 0 ≤ (-1 : Int32).toInt + 1 from (by have z3 : (-1 : Int32).toInt = -1 := rfl; omega)), (show (-1 : Int32).toInt ≤ 2 from (by have z3 : (-1 : Int32).toInt = -1 := rfl; omega)), (show (-1 : Int32) = (F_jLat_indexOfChar_16 x2 x3 x4) from Eq.trans (by rw [F_jLat_indexOfChar_16_L7.eq_2, if_pos c12]) hR7)⟩) d_33_23_32
  ·
    have b14 : q_F (lx4.toInt < x4.toInt) := (q_nleI c12)
    refine lv_aload_n hx hb d_33_23_13 rfl (lv_at hl 2 rfl) ?_
    refine lv_iload hx hb d_33_23_14 (lv_at hl 0 rfl) ?_
    refine q_sbal (i := 16) (v := (([111, 120, 88] : List Int32).getD lx4.toNatClampNeg 0)) C0 V rfl (show vp_in lx4 3 from q_ix (x := lx4.toInt) rfl (by have t1 : 0 ≤ x3.toInt := pre0; have t2 : x3.toInt ≤ lx4.toInt := i5; omega) (by have t1 : 0 ≤ x3.toInt := pre0; have t2 : x3.toInt ≤ lx4.toInt := i5; have t3 : x4.toInt ≤ 3 := pre1; have t4 : lx4.toInt < x4.toInt := b14; omega)) rfl d_33_23_16 ?_
    obtain ⟨a15, e16⟩ := q_nm ((([111, 120, 88] : List Int32).getD lx4.toNatClampNeg 0) : Int32)
    refine q_ti (v := a15) e16 ?_
    refine lv_iload hx hb d_33_23_17 (lv_at hl 1 rfl) ?_
    refine lv_icmp_ne (tgt := 25) hx hb d_33_23_19 (by decide) (fun c17 => ?_) (fun c17 => ?_)
    ·
      have b18 : q_F (a15.toInt ≠ a1.toInt) := (q_neI c17)
      obtain ⟨a19, e20⟩ := q_nm (lx4 + 1 : Int32)
      have b21 : q_F (a19.toInt = lx4.toInt + 1) := (by rw [← e20]; exact q_addI (y := 1) rfl (by decide) (by have _ := q_lo32 (x := lx4); have _ := q_hi32 (x := lx4); have t1 : lx4.toInt < x4.toInt := b14; have _ := q_lo32 (x := x4); have _ := q_hi32 (x := x4); omega) (by have _ := q_lo32 (x := lx4); have _ := q_hi32 (x := lx4); have t1 : lx4.toInt < x4.toInt := b14; have _ := q_lo32 (x := x4); have _ := q_hi32 (x := x4); omega))
      refine lv_iinc (v := a19) (lv' := [(5, .int a19), (4, .int a1), (0, .ref (g (9 + 2 * 16))), (3, .int x4)]) hx hb d_33_23_25 hl (k := 0) rfl (e20) (by decide) rfl (fun ls hl => ?_)
      refine lv_goto (tgt := 7) hx hb d_33_23_28 (by decide) ?_
      exact ih6 ((a19 : Int32)) _ _ _ ws (show (3 - a19.toInt).toNat < (3 - lx4.toInt).toNat from by have t1 : a19.toInt = lx4.toInt + 1 := b21; have t2 : x4.toInt ≤ 3 := pre1; have t3 : lx4.toInt < x4.toInt := b14; omega) ⟨(show q_F (x3.toInt ≤ a19.toInt) from (show x3.toInt ≤ a19.toInt from by have t1 : x3.toInt ≤ lx4.toInt := i5; have t2 : a19.toInt = lx4.toInt + 1 := b21; omega)), V, q_lw hl (q_lw1 0 rfl (q_lw1 1 rfl (q_lw1 2 rfl (q_lw1 3 rfl q_lw0)))), ⟨fm11, Nat.lt_of_lt_of_le (show (3 - a19.toInt).toNat < (3 - lx4.toInt).toNat from by have t1 : a19.toInt = lx4.toInt + 1 := b21; have t2 : x4.toInt ≤ 3 := pre1; have t3 : lx4.toInt < x4.toInt := b14; omega) (Nat.le_of_lt_succ hf10), (show F_jLat_indexOfChar_16_L7 x2 x3 x4 a1 fm11 a19 = (F_jLat_indexOfChar_16 x2 x3 x4) from Eq.trans (by have c17x := c17; rw [← e16] at c17x; rw [← e20, F_jLat_indexOfChar_16_L7.eq_2, if_neg c12, if_neg c17x]) hR7)⟩⟩
    ·
      have b22 : q_F (a15.toInt = a1.toInt) := (q_eqI c17)
      refine lv_iload hx hb d_33_23_22 (lv_at hl 0 rfl) ?_
      exact q_reti C0 V (⟨rfl, (show 0 ≤ lx4.toInt + 1 from (by have t1 : 0 ≤ x3.toInt := pre0; have t2 : x3.toInt ≤ lx4.toInt := i5; omega)), (show lx4.toInt ≤ 2 from (by have t1 : x4.toInt ≤ 3 := pre1; have t2 : lx4.toInt < x4.toInt := b14; omega)), (show lx4 = (F_jLat_indexOfChar_16 x2 x3 x4) from Eq.trans (by have c17x := c17; rw [← e16] at c17x; rw [F_jLat_indexOfChar_16_L7.eq_2, if_neg c12, if_pos c17x]) hR7)⟩) d_33_23_24
def F_jLat_indexOf_16 (x2 : Int32) (x3 : Int32) (x4 : Int32) : Int32 := if ((F_jLat_canEncode x2) : Int32) = (0 : Int32) then ((-1 : Int32)) else (if (if x3 < 0 then 0 else x3 : Int32) < (if 3 < x4 then 3 else x4 : Int32) then (((F_jLat_indexOfChar_16 x2 (if x3 < 0 then 0 else x3 : Int32) (if 3 < x4 then 3 else x4 : Int32)) : Int32)) else ((-1 : Int32)))
set_option maxRecDepth 100000 in
set_option maxHeartbeats 4000000 in
theorem X_jLat_indexOf_16 (l : Launch) (D : va_G) (g : Nat → ClassId) (q : Nat → Nat) (ws : va_W) (x2 : Int32) (x3 : Int32) (x4 : Int32) (hI : q_I (nsh g q) q ws) (pre0 : 0 ≤ x3.toInt) (pre1 : x4.toInt ≤ 3) : q_mI l y_jLat_indexOf prog_33_method_22_code 4 (.int) 2 0 0 D g [.ref (g (9 + 2 * 16)), .int x2, .int x3, .int x4] ws (fun r u => ws = u ∧ (0 ≤ r.toInt + 1) ∧ (r.toInt ≤ 2) ∧ r = (F_jLat_indexOf_16 x2 x3 x4)) := by
  intro sz
  refine q_into (by decide) (Nat.le_of_ble_eq_true rfl) ?_
  intro p e s m below meth c ls hsz C0 V hl
  have hx := C0.1
  have hb := C0.2.1
  replace pre0 : q_F (0 ≤ x3.toInt) := pre0
  replace pre1 : q_F (x4.toInt ≤ 3) := pre1
  have hl : lv_has ls 4 [(0, .ref (g (9 + 2 * 16))), (1, .int x2), (2, .int x3), (3, .int x4)] := hl
  refine lv_iload_n hx hb d_33_22_0 rfl (lv_at hl 1 rfl) ?_
  refine q_goi V (q_runS (As := [.int x2]) (rest := []) (d := 1) (mc := 0) (ms := 0) C0 V rfl LS_jLat_88 (X_jLat_canEncode l D g q ws  x2 hI   _) rfl hl.1 rfl (Nat.le_of_ble_eq_true rfl) ⟨by decide, by decide⟩ ⟨Nat.le_of_ble_eq_true rfl, Nat.le_of_ble_eq_true rfl⟩ d_33_22_1) (fun a3 u1 H locs hp2 V => ?_)
  obtain ⟨rfl, b4, b5, hE6⟩ := hp2
  have e7 : a3 = (F_jLat_canEncode x2) := hE6
  replace b4 : q_F (0 ≤ a3.toInt) := b4
  replace b5 : q_F (a3.toInt ≤ 1) := b5
  refine lv_if_ne (tgt := 9) hx hb d_33_22_4 (by decide) (fun c8 => ?_) (fun c8 => ?_)
  ·
    have b9 : q_F (a3.toInt ≠ 0) := (q_neI c8)
    refine lv_iload_n hx hb d_33_22_9 rfl (lv_at hl 2 rfl) ?_
    refine lv_iconst (v := 0) hx hb d_33_22_10 (by decide) ?_
    refine q_max C0 hl.1 rfl w_1773 w_803 w_7 w_804 ⟨Nat.le_of_ble_eq_true rfl, Nat.le_of_ble_eq_true rfl⟩ ⟨Nat.le_of_ble_eq_true rfl, Nat.le_of_ble_eq_true rfl⟩ d_33_22_11 ?_
    obtain ⟨a10, e11⟩ := q_nm (if x3 < 0 then 0 else x3 : Int32)
    refine q_ti (v := a10) e11 ?_
    have b12 : q_F (x3.toInt ≤ a10.toInt ∧ 0 ≤ a10.toInt ∧ (a10.toInt = x3.toInt ∨ a10.toInt = 0)) := (by rw [← e11]; show x3.toInt ≤ (if x3 < 0 then 0 else x3 : Int32).toInt ∧ 0 ≤ (if x3 < 0 then 0 else x3 : Int32).toInt ∧ ((if x3 < 0 then 0 else x3 : Int32).toInt = x3.toInt ∨ (if x3 < 0 then 0 else x3 : Int32).toInt = 0); exact (by have y1 : (0 : Int32).toInt = 0 := rfl; have z := s_max (a := x3) (b := 0); omega))
    refine lv_istore_n (lv' := [(2, .int a10), (0, .ref (g (9 + 2 * 16))), (1, .int x2), (3, .int x4)]) hx hb d_33_22_14 rfl hl (by decide) rfl (fun ls hl => ?_)
    refine lv_iload_n hx hb d_33_22_15 rfl (lv_at hl 3 rfl) ?_
    refine lv_aload_n hx hb d_33_22_16 rfl (lv_at hl 1 rfl) ?_
    refine q_slen (i := 16) (v := 3) C0 V rfl (by decide) d_33_22_17 ?_
    refine q_min C0 hl.1 rfl w_1774 w_774 w_7 w_775 ⟨Nat.le_of_ble_eq_true rfl, Nat.le_of_ble_eq_true rfl⟩ ⟨Nat.le_of_ble_eq_true rfl, Nat.le_of_ble_eq_true rfl⟩ d_33_22_18 ?_
    obtain ⟨a13, e14⟩ := q_nm (if 3 < x4 then 3 else x4 : Int32)
    refine q_ti (v := a13) e14 ?_
    have b15 : q_F (a13.toInt ≤ x4.toInt ∧ a13.toInt ≤ 3 ∧ (a13.toInt = x4.toInt ∨ a13.toInt = 3)) := (by rw [← e14]; show (if 3 < x4 then 3 else x4 : Int32).toInt ≤ x4.toInt ∧ (if 3 < x4 then 3 else x4 : Int32).toInt ≤ 3 ∧ ((if 3 < x4 then 3 else x4 : Int32).toInt = x4.toInt ∨ (if 3 < x4 then 3 else x4 : Int32).toInt = 3); exact (by have y1 : (3 : Int32).toInt = 3 := rfl; have z := s_min (a := x4) (b := 3); omega))
    refine lv_istore_n (lv' := [(3, .int a13), (2, .int a10), (0, .ref (g (9 + 2 * 16))), (1, .int x2)]) hx hb d_33_22_21 rfl hl (by decide) rfl (fun ls hl => ?_)
    refine lv_iload_n hx hb d_33_22_22 rfl (lv_at hl 1 rfl) ?_
    refine lv_iload_n hx hb d_33_22_23 rfl (lv_at hl 0 rfl) ?_
    refine lv_icmp_lt (tgt := 29) hx hb d_33_22_24 (by decide) (fun c16 => ?_) (fun c16 => ?_)
    ·
      have b17 : q_F (a10.toInt < a13.toInt) := (q_ltI c16)
      refine lv_aload_n hx hb d_33_22_29 rfl (lv_at hl 2 rfl) ?_
      refine lv_iload_n hx hb d_33_22_30 rfl (lv_at hl 3 rfl) ?_
      refine lv_iload_n hx hb d_33_22_31 rfl (lv_at hl 1 rfl) ?_
      refine lv_iload_n hx hb d_33_22_32 rfl (lv_at hl 0 rfl) ?_
      refine q_goi V (q_runS (As := [.ref (g (9 + 2 * 16)), .int x2, .int a10, .int a13]) (rest := []) (d := 1) (mc := 0) (ms := 0) C0 V rfl LS_jLat_95 (X_jLat_indexOfChar_16 l D g q ws  x2 a10 a13 hI  (by have t1 : x3.toInt ≤ a10.toInt ∧ 0 ≤ a10.toInt ∧ (a10.toInt = x3.toInt ∨ a10.toInt = 0) := b12; omega) (by have t1 : a13.toInt ≤ x4.toInt ∧ a13.toInt ≤ 3 ∧ (a13.toInt = x4.toInt ∨ a13.toInt = 3) := b15; omega) _) rfl hl.1 rfl (Nat.le_of_ble_eq_true rfl) ⟨by decide, by decide⟩ ⟨Nat.le_of_ble_eq_true rfl, Nat.le_of_ble_eq_true rfl⟩ d_33_22_33) (fun a20 u18 H locs hp19 V => ?_)
      obtain ⟨rfl, b21, b22, hE23⟩ := hp19
      have e24 : a20 = (F_jLat_indexOfChar_16 x2 a10 a13) := hE23
      replace b21 : q_F (0 ≤ a20.toInt + 1) := b21
      replace b22 : q_F (a20.toInt ≤ 2) := b22
      exact q_reti C0 V (⟨rfl, (show 0 ≤ a20.toInt + 1 from (by have t1 : 0 ≤ a20.toInt + 1 := b21; omega)), (show a20.toInt ≤ 2 from (by have t1 : a20.toInt ≤ 2 := b22; omega)), (show a20 = (F_jLat_indexOf_16 x2 x3 x4) from (by have c8x := c8; rw [e7] at c8x; have c16x := c16; rw [← e14, ← e11] at c16x; rw [e24, ← e14, ← e11, F_jLat_indexOf_16.eq_1, if_neg c8x, if_pos c16x]))⟩) d_33_22_36
    ·
      have b25 : q_F (a13.toInt ≤ a10.toInt) := (q_nltI c16)
      refine lv_iconst (v := (-1)) hx hb d_33_22_27 (by decide) ?_
      exact q_reti C0 V (⟨rfl, (show 0 ≤ (-1 : Int32).toInt + 1 from (by have z3 : (-1 : Int32).toInt = -1 := rfl; omega)), (show (-1 : Int32).toInt ≤ 2 from (by have z3 : (-1 : Int32).toInt = -1 := rfl; omega)), (show (-1 : Int32) = (F_jLat_indexOf_16 x2 x3 x4) from (by have c8x := c8; rw [e7] at c8x; have c16x := c16; rw [← e14, ← e11] at c16x; rw [F_jLat_indexOf_16.eq_1, if_neg c8x, if_neg c16x]))⟩) d_33_22_28
  ·
    have b26 : q_F (a3.toInt = 0) := (q_eqI c8)
    refine lv_iconst (v := (-1)) hx hb d_33_22_7 (by decide) ?_
    exact q_reti C0 V (⟨rfl, (show 0 ≤ (-1 : Int32).toInt + 1 from (by have z3 : (-1 : Int32).toInt = -1 := rfl; omega)), (show (-1 : Int32).toInt ≤ 2 from (by have z3 : (-1 : Int32).toInt = -1 := rfl; omega)), (show (-1 : Int32) = (F_jLat_indexOf_16 x2 x3 x4) from (by have c8x := c8; rw [e7] at c8x; rw [F_jLat_indexOf_16.eq_1, if_pos c8x]))⟩) d_33_22_8
def F_jStr_indexOf_III_16 (x2 : Int32) (x3 : Int32) : Int32 := ((F_jLat_indexOf_16 x2 x3 (3 : Int32)) : Int32)
set_option maxRecDepth 100000 in
set_option maxHeartbeats 4000000 in
theorem X_jStr_indexOf_III_16 (l : Launch) (D : va_G) (g : Nat → ClassId) (q : Nat → Nat) (ws : va_W) (x2 : Int32) (x3 : Int32) (hI : q_I (nsh g q) q ws) (pre0 : 0 ≤ x3.toInt) : q_mI l y_jStr_indexOf_III prog_31_method_80_code 3 (.int) 3 0 0 D g [.ref (g (8 + 2 * 16)), .int x2, .int x3] ws (fun r u => ws = u ∧ (0 ≤ r.toInt + 1) ∧ (r.toInt ≤ 2) ∧ r = (F_jStr_indexOf_III_16 x2 x3)) := by
  intro sz
  refine q_into (by decide) (Nat.le_of_ble_eq_true rfl) ?_
  intro p e s m below meth c ls hsz C0 V hl
  have hx := C0.1
  have hb := C0.2.1
  replace pre0 : q_F (0 ≤ x3.toInt) := pre0
  have hl : lv_has ls 3 [(0, .ref (g (8 + 2 * 16))), (1, .int x2), (2, .int x3)] := hl
  refine lv_aload_n hx hb d_31_80_0 rfl (lv_at hl 0 rfl) ?_
  refine q_goi V (q_runVs (As := []) (rest := []) (d := 1) (mc := 0) (ms := 0) (i := 16) C0 V rfl LV_jStr_492 (T_jStr_isLatin1_16 l D g q ws   hI   _) rfl rfl rfl hl.1 rfl (Nat.le_of_ble_eq_true rfl) ⟨by decide, by decide⟩ ⟨Nat.le_of_ble_eq_true rfl, Nat.le_of_ble_eq_true rfl⟩ d_31_80_1) (fun a3 u1 H locs hp2 V => ?_)
  obtain ⟨rfl, b4, b5⟩ := hp2
  replace b4 : q_F (1 ≤ a3.toInt) := b4
  replace b5 : q_F (a3.toInt ≤ 1) := b5
  obtain rfl : a3 = (1 : Int32) := q_Ieq (x := a3.toInt) (y := 1) rfl (by decide) (by have t1 : 1 ≤ a3.toInt := b4; have t2 : a3.toInt ≤ 1 := b5; omega)
  refine lv_if_eq (tgt := 23) hx hb d_31_80_4 (by decide) (fun c7 => absurd c7 (by decide)) (fun c7 => ?_)
  refine lv_aload_n hx hb d_31_80_7 rfl (lv_at hl 0 rfl) ?_
  refine q_sval (i := 16) C0 V rfl rfl w_1018 d_31_80_8 ?_
  refine lv_iload_n hx hb d_31_80_11 rfl (lv_at hl 1 rfl) ?_
  refine lv_iload_n hx hb d_31_80_12 rfl (lv_at hl 2 rfl) ?_
  refine lv_aload_n hx hb d_31_80_13 rfl (lv_at hl 0 rfl) ?_
  refine q_goi V (q_runVs (As := []) (rest := [.int x3, .int x2, .ref (g (9 + 2 * 16))]) (d := 2) (mc := 0) (ms := 0) (i := 16) C0 V rfl LV_jStr_505 (T_jStr_length_16 l D g q ws   hI   _) rfl rfl rfl hl.1 rfl (Nat.le_of_ble_eq_true rfl) ⟨by decide, by decide⟩ ⟨Nat.le_of_ble_eq_true rfl, Nat.le_of_ble_eq_true rfl⟩ d_31_80_14) (fun a10 u8 H locs hp9 V => ?_)
  obtain ⟨rfl, b11, b12⟩ := hp9
  replace b11 : q_F (3 ≤ a10.toInt) := b11
  replace b12 : q_F (a10.toInt ≤ 3) := b12
  obtain rfl : a10 = (3 : Int32) := q_Ieq (x := a10.toInt) (y := 3) rfl (by decide) (by have t1 : 3 ≤ a10.toInt := b11; have t2 : a10.toInt ≤ 3 := b12; omega)
  refine q_goi V (q_runS (As := [.ref (g (9 + 2 * 16)), .int x2, .int x3, .int 3]) (rest := []) (d := 2) (mc := 0) (ms := 0) C0 V rfl LS_jStr_637 (X_jLat_indexOf_16 l D g q ws  x2 x3 3 hI  (by have y0 : (3 : Int32).toInt = 3 := rfl; have t1 : 0 ≤ x3.toInt := pre0; omega) (by have y0 : (3 : Int32).toInt = 3 := rfl; omega) _) rfl hl.1 rfl (Nat.le_of_ble_eq_true rfl) ⟨by decide, by decide⟩ ⟨Nat.le_of_ble_eq_true rfl, Nat.le_of_ble_eq_true rfl⟩ d_31_80_17) (fun a16 u14 H locs hp15 V => ?_)
  obtain ⟨rfl, b17, b18, hE19⟩ := hp15
  have e20 : a16 = (F_jLat_indexOf_16 x2 x3 (3 : Int32)) := hE19
  replace b17 : q_F (0 ≤ a16.toInt + 1) := b17
  replace b18 : q_F (a16.toInt ≤ 2) := b18
  refine lv_goto (tgt := 36) hx hb d_31_80_20 (by decide) ?_
  exact q_reti C0 V (⟨rfl, (show 0 ≤ a16.toInt + 1 from (by have t1 : 0 ≤ a16.toInt + 1 := b17; omega)), (show a16.toInt ≤ 2 from (by have t1 : a16.toInt ≤ 2 := b18; omega)), (show a16 = (F_jStr_indexOf_III_16 x2 x3) from (by rw [e20, F_jStr_indexOf_III_16.eq_1]))⟩) d_31_80_36
def F_jStr_indexOf_II_16 (x2 : Int32) : Int32 := ((F_jStr_indexOf_III_16 x2 (0 : Int32)) : Int32)
set_option maxRecDepth 100000 in
set_option maxHeartbeats 4000000 in
theorem X_jStr_indexOf_II_16 (l : Launch) (D : va_G) (g : Nat → ClassId) (q : Nat → Nat) (ws : va_W) (x2 : Int32) (hI : q_I (nsh g q) q ws) : q_mI l y_jStr_indexOf_II prog_31_method_79_code 2 (.int) 4 0 0 D g [.ref (g (8 + 2 * 16)), .int x2] ws (fun r u => ws = u ∧ (0 ≤ r.toInt + 1) ∧ (r.toInt ≤ 2) ∧ r = (F_jStr_indexOf_II_16 x2)) := by
  intro sz
  refine q_into (by decide) (Nat.le_of_ble_eq_true rfl) ?_
  intro p e s m below meth c ls hsz C0 V hl
  have hx := C0.1
  have hb := C0.2.1
  have hl : lv_has ls 2 [(0, .ref (g (8 + 2 * 16))), (1, .int x2)] := hl
  refine lv_aload_n hx hb d_31_79_0 rfl (lv_at hl 0 rfl) ?_
  refine lv_iload_n hx hb d_31_79_1 rfl (lv_at hl 1 rfl) ?_
  refine lv_iconst (v := 0) hx hb d_31_79_2 (by decide) ?_
  refine q_goi V (q_runVs (As := [.int x2, .int 0]) (rest := []) (d := 3) (mc := 0) (ms := 0) (i := 16) C0 V rfl LV_jStr_633 (X_jStr_indexOf_III_16 l D g q ws  x2 0 hI  (by have y0 : (0 : Int32).toInt = 0 := rfl; omega) _) rfl rfl rfl hl.1 rfl (Nat.le_of_ble_eq_true rfl) ⟨by decide, by decide⟩ ⟨Nat.le_of_ble_eq_true rfl, Nat.le_of_ble_eq_true rfl⟩ d_31_79_3) (fun a3 u1 H locs hp2 V => ?_)
  obtain ⟨rfl, b4, b5, hE6⟩ := hp2
  have e7 : a3 = (F_jStr_indexOf_III_16 x2 (0 : Int32)) := hE6
  replace b4 : q_F (0 ≤ a3.toInt + 1) := b4
  replace b5 : q_F (a3.toInt ≤ 2) := b5
  exact q_reti C0 V (⟨rfl, (show 0 ≤ a3.toInt + 1 from (by have t1 : 0 ≤ a3.toInt + 1 := b4; omega)), (show a3.toInt ≤ 2 from (by have t1 : a3.toInt ≤ 2 := b5; omega)), (show a3 = (F_jStr_indexOf_II_16 x2) from (by rw [e7, F_jStr_indexOf_II_16.eq_1]))⟩) d_31_79_6
def F_Dir_isOneOf_16 (t0_0 : Int32) (t0_1 : Int32) (t0_2 : Int32) (t0_3 : Int32) (t0_4 : Int32) (t0_5 : Int32) (t0_6 : Int32) : Int32 := if t0_4 < (0 : Int32) then ((0 : Int32)) else (if ((F_jStr_indexOf_II_16 ((t0_4.toUInt32 % 65536).toInt32 : Int32)) : Int32) < (0 : Int32) then ((0 : Int32)) else ((1 : Int32)))
set_option maxRecDepth 100000 in
set_option maxHeartbeats 4000000 in
theorem X_Dir_isOneOf_16 (l : Launch) (D : va_G) (g : Nat → ClassId) (q : Nat → Nat) (ws : va_W) (hI : q_I (nsh g q) q ws) (t0_0 : Int32) (t0_1 : Int32) (t0_2 : Int32) (t0_3 : Int32) (t0_4 : Int32) (t0_5 : Int32) (t0_6 : Int32) (hT0 : ws[47]? = (some (q 47, .inr (10, [.int t0_0, .int t0_1, .int t0_2, .int t0_3, .int t0_4, .int t0_5, .ref (q 1), .int t0_6])) : Option (Nat × va_E))) : q_mI l y_Dir_isOneOf prog_6_method_9_code 2 (.boolean) 5 0 0 D g [.ref (q 47), .ref (g (8 + 2 * 16))] ws (fun r u => ws = u ∧ (0 ≤ r.toInt) ∧ (r.toInt ≤ 1) ∧ r = (F_Dir_isOneOf_16 t0_0 t0_1 t0_2 t0_3 t0_4 t0_5 t0_6)) := by
  intro sz
  refine q_into (by decide) (Nat.le_of_ble_eq_true rfl) ?_
  intro p e s m below meth c ls hsz C0 V hl
  have hx := C0.1
  have hb := C0.2.1
  obtain ⟨yy0_0, yy0_1, yy0_2, yy0_3, yy0_4, yy0_5, yy0_6, hh0, btt0_2, btt0_3, btt0_6⟩ := n_o47 hI
  obtain ⟨rfl, rfl, rfl, rfl, rfl, rfl, rfl⟩ : t0_0 = yy0_0 ∧ t0_1 = yy0_1 ∧ t0_2 = yy0_2 ∧ t0_3 = yy0_3 ∧ t0_4 = yy0_4 ∧ t0_5 = yy0_5 ∧ t0_6 = yy0_6 := by have z := Option.some.inj (hT0.symm.trans hh0); simpa using z
  replace btt0_2 : q_F (-1 ≤ t0_2.toInt ∧ t0_2.toInt ≤ 9999) := btt0_2
  replace btt0_3 : q_F (-1 ≤ t0_3.toInt ∧ t0_3.toInt ≤ 9999) := btt0_3
  replace btt0_6 : q_F (0 ≤ t0_6.toInt ∧ t0_6.toInt ≤ 1) := btt0_6
  have hl : lv_has ls 2 [(0, .ref (q 47)), (1, .ref (g (8 + 2 * 16)))] := hl
  refine lv_aload_n hx hb d_6_9_0 rfl (lv_at hl 0 rfl) ?_
  refine q_get (ci := 10) (j := 4) (v := .int t0_4) C0 V i_Dir rfl rfl hT0 (by decide) w_361 rfl d_6_9_1 ?_
  refine lv_if_lt (tgt := 23) hx hb d_6_9_4 (by decide) (fun c12 => ?_) (fun c12 => ?_)
  ·
    have b13 : q_F (t0_4.toInt < 0) := (q_ltI c12)
    refine lv_iconst (v := 0) hx hb d_6_9_23 (by decide) ?_
    exact q_retz C0 V (by decide) (⟨rfl, (show 0 ≤ (0 : Int32).toInt from (by have z7 : (0 : Int32).toInt = 0 := rfl; omega)), (show (0 : Int32).toInt ≤ 1 from (by have z7 : (0 : Int32).toInt = 0 := rfl; omega)), (show (0 : Int32) = (F_Dir_isOneOf_16 t0_0 t0_1 t0_2 t0_3 t0_4 t0_5 t0_6) from (by rw [F_Dir_isOneOf_16.eq_1, if_pos c12]))⟩) d_6_9_24
  ·
    have b14 : q_F (0 ≤ t0_4.toInt) := (q_nltI c12)
    refine lv_aload_n hx hb d_6_9_7 rfl (lv_at hl 1 rfl) ?_
    refine lv_aload_n hx hb d_6_9_8 rfl (lv_at hl 0 rfl) ?_
    refine q_get (ci := 10) (j := 4) (v := .int t0_4) C0 V i_Dir rfl rfl hT0 (by decide) w_361 rfl d_6_9_9 ?_
    refine lv_i2c hx hb d_6_9_12 rfl ?_
    obtain ⟨a15, e16⟩ := q_nm ((t0_4.toUInt32 % 65536).toInt32 : Int32)
    refine q_ti (v := a15) e16 ?_
    have b17 : q_F (0 ≤ a15.toInt ∧ a15.toInt ≤ 65535) := (by rw [← e16]; show 0 ≤ ((t0_4.toUInt32 % 65536).toInt32 : Int32).toInt ∧ ((t0_4.toUInt32 % 65536).toInt32 : Int32).toInt ≤ 65535; exact ⟨(n_i2c (x := t0_4)).1, (n_i2c (x := t0_4)).2.1⟩)
    refine q_goi V (q_runVs (As := [.int a15]) (rest := []) (d := 4) (mc := 0) (ms := 0) (i := 16) C0 V rfl LV_Dir_63 (X_jStr_indexOf_II_16 l D g q ws  a15 hI   _) rfl rfl rfl hl.1 rfl (Nat.le_of_ble_eq_true rfl) ⟨by decide, by decide⟩ ⟨Nat.le_of_ble_eq_true rfl, Nat.le_of_ble_eq_true rfl⟩ d_6_9_13) (fun a20 u18 H locs hp19 V => ?_)
    obtain ⟨rfl, b21, b22, hE23⟩ := hp19
    have e24 : a20 = (F_jStr_indexOf_II_16 a15) := hE23
    replace b21 : q_F (0 ≤ a20.toInt + 1) := b21
    replace b22 : q_F (a20.toInt ≤ 2) := b22
    refine lv_if_lt (tgt := 23) hx hb d_6_9_16 (by decide) (fun c25 => ?_) (fun c25 => ?_)
    ·
      have b26 : q_F (a20.toInt < 0) := (q_ltI c25)
      refine lv_iconst (v := 0) hx hb d_6_9_23 (by decide) ?_
      exact q_retz C0 V (by decide) (⟨rfl, (show 0 ≤ (0 : Int32).toInt from (by have z7 : (0 : Int32).toInt = 0 := rfl; omega)), (show (0 : Int32).toInt ≤ 1 from (by have z7 : (0 : Int32).toInt = 0 := rfl; omega)), (show (0 : Int32) = (F_Dir_isOneOf_16 t0_0 t0_1 t0_2 t0_3 t0_4 t0_5 t0_6) from (by have c25x := c25; rw [e24, ← e16] at c25x; rw [F_Dir_isOneOf_16.eq_1, if_neg c12, if_pos c25x]))⟩) d_6_9_24
    ·
      have b27 : q_F (0 ≤ a20.toInt) := (q_nltI c25)
      refine lv_iconst (v := 1) hx hb d_6_9_19 (by decide) ?_
      refine lv_goto (tgt := 24) hx hb d_6_9_20 (by decide) ?_
      exact q_retz C0 V (by decide) (⟨rfl, (show 0 ≤ (1 : Int32).toInt from (by have z7 : (1 : Int32).toInt = 1 := rfl; omega)), (show (1 : Int32).toInt ≤ 1 from (by have z7 : (1 : Int32).toInt = 1 := rfl; omega)), (show (1 : Int32) = (F_Dir_isOneOf_16 t0_0 t0_1 t0_2 t0_3 t0_4 t0_5 t0_6) from (by have c25x := c25; rw [e24, ← e16] at c25x; rw [F_Dir_isOneOf_16.eq_1, if_neg c12, if_neg c25x]))⟩) d_6_9_24
def F_Dir_figureAt (x2 : Int32) (t0_0 : Int32) (t1_0 : (Nat → Int64)) : Int32 := if ((F_She_at_p (4100 : Int32) (513 : Int32) (4100 : Int32) (x2.toInt64 : Int64) t0_0 t1_0) : Int32) < (48 : Int32) then ((-1 : Int32)) else (if (57 : Int32) < ((F_She_at_p (4100 : Int32) (513 : Int32) (4100 : Int32) (x2.toInt64 : Int64) t0_0 t1_0) : Int32) then ((-1 : Int32)) else ((((F_She_at_p (4100 : Int32) (513 : Int32) (4100 : Int32) (x2.toInt64 : Int64) t0_0 t1_0) : Int32) - 48 : Int32)))
set_option maxRecDepth 100000 in
set_option maxHeartbeats 4000000 in
theorem X_Dir_figureAt (l : Launch) (D : va_G) (g : Nat → ClassId) (q : Nat → Nat) (ws : va_W) (x2 : Int32) (hI : q_I (nsh g q) q ws) (t0_0 : Int32) (hT0 : ws[1]? = (some (q 1, .inr (1, [.ref (q 2), .int 4100, .int t0_0])) : Option (Nat × va_E))) (t1_0 : (Nat → Int64)) (hT1 : ws[2]? = (some (q 2, .inl (g 1, (513 : Int32).toNatClampNeg, .inr (.inl t1_0))) : Option (Nat × va_E))) : q_mI l y_Dir_figureAt prog_6_method_7_code 3 (.int) 2 0 0 D g [.ref (q 47), .int x2] ws (fun r u => ws = u ∧ (0 ≤ r.toInt + 1) ∧ (r.toInt ≤ 9) ∧ r = (F_Dir_figureAt x2 t0_0 t1_0)) := by
  intro sz
  refine q_into (by decide) (Nat.le_of_ble_eq_true rfl) ?_
  intro p e s m below meth c ls hsz C0 V hl
  have hx := C0.1
  have hb := C0.2.1
  obtain ⟨yy0_0, hh0, btt0_0⟩ := n_shO hI (n_h1 g q)
  obtain ⟨rfl⟩ : t0_0 = yy0_0 := by have z := Option.some.inj (hT0.symm.trans hh0); simpa using z
  replace btt0_0 : q_F (0 ≤ t0_0.toInt ∧ t0_0.toInt ≤ 4100) := btt0_0
  have hl : lv_has ls 3 [(0, .ref (q 47)), (1, .int x2)] := hl
  refine lv_aload_n hx hb d_6_7_0 rfl (lv_at hl 0 rfl) ?_
  obtain ⟨y7, y8, y9, y11, y13, y14, y15, hO6, b10, b12, b16⟩ := n_o47 hI
  replace b10 : q_F (-1 ≤ y9.toInt ∧ y9.toInt ≤ 9999) := b10
  replace b12 : q_F (-1 ≤ y11.toInt ∧ y11.toInt ≤ 9999) := b12
  replace b16 : q_F (0 ≤ y15.toInt ∧ y15.toInt ≤ 1) := b16
  refine q_get (ci := 10) (j := 6) (v := .ref (q 1)) C0 V i_Dir rfl rfl hO6 (by decide) w_365 rfl d_6_7_1 ?_
  refine lv_iload_n hx hb d_6_7_4 rfl (lv_at hl 1 rfl) ?_
  refine lv_i2l hx hb d_6_7_5 rfl ?_
  obtain ⟨j17, e18⟩ := q_nm (x2.toInt64 : Int64)
  refine q_tl (v := j17) e18 ?_
  have b19 : q_F (j17.toInt = x2.toInt) := (by rw [← e18]; show (x2.toInt64 : Int64).toInt = x2.toInt; exact q_i2l rfl)
  refine q_goi V (q_runV (As := [.long j17]) (rest := []) (d := 1) (mc := 0) (ms := 0) (ci := 1) C0 V rfl LV_Dir_46 (X_She_at_p l D g q ws 1 4100 513 4100 (n_h1 g q) j17 hI t0_0 hT0 t1_0 hT1  _) rfl rfl hT0 rfl hl.1 rfl (Nat.le_of_ble_eq_true rfl) ⟨by decide, by decide⟩ ⟨Nat.le_of_ble_eq_true rfl, Nat.le_of_ble_eq_true rfl⟩ d_6_7_6) (fun a22 u20 H locs hp21 V => ?_)
  obtain ⟨rfl, b23, b24, b25, hE26⟩ := hp21
  have e27 : a22 = (F_She_at_p (4100 : Int32) (513 : Int32) (4100 : Int32) j17 t0_0 t1_0) := hE26
  replace b23 : q_F (0 ≤ a22.toInt) := b23
  replace b24 : q_F (a22.toInt ≤ 255) := b24
  replace b25 : q_F (a22.toInt ≤ t0_0.toInt + 254) := b25
  refine lv_istore_n (lv' := [(2, .int a22), (0, .ref (q 47)), (1, .int x2)]) hx hb d_6_7_9 rfl hl (by decide) rfl (fun ls hl => ?_)
  refine lv_iload_n hx hb d_6_7_10 rfl (lv_at hl 0 rfl) ?_
  refine lv_bipush (v := 48) hx hb d_6_7_11 (by decide) ?_
  refine lv_icmp_lt (tgt := 29) hx hb d_6_7_13 (by decide) (fun c28 => ?_) (fun c28 => ?_)
  ·
    have b29 : q_F (a22.toInt < 48) := (q_ltI c28)
    refine lv_iconst (v := (-1)) hx hb d_6_7_29 (by decide) ?_
    exact q_reti C0 V (⟨rfl, (show 0 ≤ (-1 : Int32).toInt + 1 from (by have z3 : (-1 : Int32).toInt = -1 := rfl; omega)), (show (-1 : Int32).toInt ≤ 9 from (by have z3 : (-1 : Int32).toInt = -1 := rfl; omega)), (show (-1 : Int32) = (F_Dir_figureAt x2 t0_0 t1_0) from (by have c28x := c28; rw [e27, ← e18] at c28x; rw [F_Dir_figureAt.eq_1, if_pos c28x]))⟩) d_6_7_30
  ·
    have b30 : q_F (48 ≤ a22.toInt) := (q_nltI c28)
    refine lv_iload_n hx hb d_6_7_16 rfl (lv_at hl 0 rfl) ?_
    refine lv_bipush (v := 57) hx hb d_6_7_17 (by decide) ?_
    refine lv_icmp_gt (tgt := 29) hx hb d_6_7_19 (by decide) (fun c31 => ?_) (fun c31 => ?_)
    ·
      have b32 : q_F (57 < a22.toInt) := (q_ltI c31)
      refine lv_iconst (v := (-1)) hx hb d_6_7_29 (by decide) ?_
      exact q_reti C0 V (⟨rfl, (show 0 ≤ (-1 : Int32).toInt + 1 from (by have z3 : (-1 : Int32).toInt = -1 := rfl; omega)), (show (-1 : Int32).toInt ≤ 9 from (by have z3 : (-1 : Int32).toInt = -1 := rfl; omega)), (show (-1 : Int32) = (F_Dir_figureAt x2 t0_0 t1_0) from (by have c28x := c28; rw [e27, ← e18] at c28x; have c31x := c31; rw [e27, ← e18] at c31x; rw [F_Dir_figureAt.eq_1, if_neg c28x, if_pos c31x]))⟩) d_6_7_30
    ·
      have b33 : q_F (a22.toInt ≤ 57) := (q_nltI c31)
      refine lv_iload_n hx hb d_6_7_22 rfl (lv_at hl 0 rfl) ?_
      refine lv_bipush (v := 48) hx hb d_6_7_23 (by decide) ?_
      refine lv_isub hx hb d_6_7_25 ?_
      obtain ⟨a34, e35⟩ := q_nm (a22 - 48 : Int32)
      refine q_ti (v := a34) e35 ?_
      have b36 : q_F (a34.toInt = a22.toInt - 48) := (by rw [← e35]; show (a22 - 48 : Int32).toInt = a22.toInt - 48; exact q_subI (x := a22.toInt) (y := 48) rfl (by decide) (by have t1 : 0 ≤ a22.toInt := b23; have t2 : a22.toInt ≤ 255 := b24; omega) (by have t1 : 0 ≤ a22.toInt := b23; have t2 : a22.toInt ≤ 255 := b24; omega))
      refine lv_goto (tgt := 30) hx hb d_6_7_26 (by decide) ?_
      exact q_reti C0 V (⟨rfl, (show 0 ≤ a34.toInt + 1 from (by have t1 : 48 ≤ a22.toInt := b30; have t2 : a34.toInt = a22.toInt - 48 := b36; omega)), (show a34.toInt ≤ 9 from (by have t1 : a22.toInt ≤ 57 := b33; have t2 : a34.toInt = a22.toInt - 48 := b36; omega)), (show a34 = (F_Dir_figureAt x2 t0_0 t1_0) from (by have c28x := c28; rw [e27, ← e18] at c28x; have c31x := c31; rw [e27, ← e18] at c31x; rw [← e35, e27, ← e18, F_Dir_figureAt.eq_1, if_neg c28x, if_neg c31x]))⟩) d_6_7_30
def F_Dir_has (x2 : Int32) (t0_0 : Int32) (t0_1 : Int32) (t0_2 : Int32) (t0_3 : Int32) (t0_4 : Int32) (t0_5 : Int32) (t0_6 : Int32) : Int32 := if (t0_1 &&& x2 : Int32) = (0 : Int32) then ((0 : Int32)) else ((1 : Int32))
set_option maxRecDepth 100000 in
set_option maxHeartbeats 4000000 in
theorem X_Dir_has (l : Launch) (D : va_G) (g : Nat → ClassId) (q : Nat → Nat) (ws : va_W) (x2 : Int32) (hI : q_I (nsh g q) q ws) (t0_0 : Int32) (t0_1 : Int32) (t0_2 : Int32) (t0_3 : Int32) (t0_4 : Int32) (t0_5 : Int32) (t0_6 : Int32) (hT0 : ws[47]? = (some (q 47, .inr (10, [.int t0_0, .int t0_1, .int t0_2, .int t0_3, .int t0_4, .int t0_5, .ref (q 1), .int t0_6])) : Option (Nat × va_E))) : q_mI l y_Dir_has prog_6_method_8_code 2 (.boolean) 1 0 0 D g [.ref (q 47), .int x2] ws (fun r u => ws = u ∧ (0 ≤ r.toInt) ∧ (r.toInt ≤ 1) ∧ r = (F_Dir_has x2 t0_0 t0_1 t0_2 t0_3 t0_4 t0_5 t0_6)) := by
  intro sz
  refine q_into (by decide) (Nat.le_of_ble_eq_true rfl) ?_
  intro p e s m below meth c ls hsz C0 V hl
  have hx := C0.1
  have hb := C0.2.1
  obtain ⟨yy0_0, yy0_1, yy0_2, yy0_3, yy0_4, yy0_5, yy0_6, hh0, btt0_2, btt0_3, btt0_6⟩ := n_o47 hI
  obtain ⟨rfl, rfl, rfl, rfl, rfl, rfl, rfl⟩ : t0_0 = yy0_0 ∧ t0_1 = yy0_1 ∧ t0_2 = yy0_2 ∧ t0_3 = yy0_3 ∧ t0_4 = yy0_4 ∧ t0_5 = yy0_5 ∧ t0_6 = yy0_6 := by have z := Option.some.inj (hT0.symm.trans hh0); simpa using z
  replace btt0_2 : q_F (-1 ≤ t0_2.toInt ∧ t0_2.toInt ≤ 9999) := btt0_2
  replace btt0_3 : q_F (-1 ≤ t0_3.toInt ∧ t0_3.toInt ≤ 9999) := btt0_3
  replace btt0_6 : q_F (0 ≤ t0_6.toInt ∧ t0_6.toInt ≤ 1) := btt0_6
  have hl : lv_has ls 2 [(0, .ref (q 47)), (1, .int x2)] := hl
  refine lv_aload_n hx hb d_6_8_0 rfl (lv_at hl 0 rfl) ?_
  refine q_get (ci := 10) (j := 1) (v := .int t0_1) C0 V i_Dir rfl rfl hT0 (by decide) w_356 rfl d_6_8_1 ?_
  refine lv_iload_n hx hb d_6_8_4 rfl (lv_at hl 1 rfl) ?_
  refine lv_iand hx hb d_6_8_5 ?_
  obtain ⟨a12, e13⟩ := q_nm (t0_1 &&& x2 : Int32)
  refine q_ti (v := a12) e13 ?_
  refine lv_if_eq (tgt := 13) hx hb d_6_8_6 (by decide) (fun c14 => ?_) (fun c14 => ?_)
  ·
    have b15 : q_F (a12.toInt = 0) := (q_eqI c14)
    refine lv_iconst (v := 0) hx hb d_6_8_13 (by decide) ?_
    exact q_retz C0 V (by decide) (⟨rfl, (show 0 ≤ (0 : Int32).toInt from (by have z8 : (0 : Int32).toInt = 0 := rfl; omega)), (show (0 : Int32).toInt ≤ 1 from (by have z8 : (0 : Int32).toInt = 0 := rfl; omega)), (show (0 : Int32) = (F_Dir_has x2 t0_0 t0_1 t0_2 t0_3 t0_4 t0_5 t0_6) from (by have c14x := c14; rw [← e13] at c14x; rw [F_Dir_has.eq_1, if_pos c14x]))⟩) d_6_8_14
  ·
    have b16 : q_F (a12.toInt ≠ 0) := (q_neI c14)
    refine lv_iconst (v := 1) hx hb d_6_8_9 (by decide) ?_
    refine lv_goto (tgt := 14) hx hb d_6_8_10 (by decide) ?_
    exact q_retz C0 V (by decide) (⟨rfl, (show 0 ≤ (1 : Int32).toInt from (by have z8 : (1 : Int32).toInt = 1 := rfl; omega)), (show (1 : Int32).toInt ≤ 1 from (by have z8 : (1 : Int32).toInt = 1 := rfl; omega)), (show (1 : Int32) = (F_Dir_has x2 t0_0 t0_1 t0_2 t0_3 t0_4 t0_5 t0_6) from (by have c14x := c14; rw [← e13] at c14x; rw [F_Dir_has.eq_1, if_neg c14x]))⟩) d_6_8_14
def F_Dir_isLarge (t0_0 : Int32) (t0_1 : Int32) (t0_2 : Int32) (t0_3 : Int32) (t0_4 : Int32) (t0_5 : Int32) (t0_6 : Int32) : Int32 := if t0_4 < (65 : Int32) then ((0 : Int32)) else (if (90 : Int32) < t0_4 then ((0 : Int32)) else ((1 : Int32)))
set_option maxRecDepth 100000 in
set_option maxHeartbeats 4000000 in
theorem X_Dir_isLarge (l : Launch) (D : va_G) (g : Nat → ClassId) (q : Nat → Nat) (ws : va_W) (hI : q_I (nsh g q) q ws) (t0_0 : Int32) (t0_1 : Int32) (t0_2 : Int32) (t0_3 : Int32) (t0_4 : Int32) (t0_5 : Int32) (t0_6 : Int32) (hT0 : ws[47]? = (some (q 47, .inr (10, [.int t0_0, .int t0_1, .int t0_2, .int t0_3, .int t0_4, .int t0_5, .ref (q 1), .int t0_6])) : Option (Nat × va_E))) : q_mI l y_Dir_isLarge prog_6_method_10_code 1 (.boolean) 1 0 0 D g [.ref (q 47)] ws (fun r u => ws = u ∧ (0 ≤ r.toInt) ∧ (r.toInt ≤ 1) ∧ r = (F_Dir_isLarge t0_0 t0_1 t0_2 t0_3 t0_4 t0_5 t0_6)) := by
  intro sz
  refine q_into (by decide) (Nat.le_of_ble_eq_true rfl) ?_
  intro p e s m below meth c ls hsz C0 V hl
  have hx := C0.1
  have hb := C0.2.1
  obtain ⟨yy0_0, yy0_1, yy0_2, yy0_3, yy0_4, yy0_5, yy0_6, hh0, btt0_2, btt0_3, btt0_6⟩ := n_o47 hI
  obtain ⟨rfl, rfl, rfl, rfl, rfl, rfl, rfl⟩ : t0_0 = yy0_0 ∧ t0_1 = yy0_1 ∧ t0_2 = yy0_2 ∧ t0_3 = yy0_3 ∧ t0_4 = yy0_4 ∧ t0_5 = yy0_5 ∧ t0_6 = yy0_6 := by have z := Option.some.inj (hT0.symm.trans hh0); simpa using z
  replace btt0_2 : q_F (-1 ≤ t0_2.toInt ∧ t0_2.toInt ≤ 9999) := btt0_2
  replace btt0_3 : q_F (-1 ≤ t0_3.toInt ∧ t0_3.toInt ≤ 9999) := btt0_3
  replace btt0_6 : q_F (0 ≤ t0_6.toInt ∧ t0_6.toInt ≤ 1) := btt0_6
  have hl : lv_has ls 1 [(0, .ref (q 47))] := hl
  refine lv_aload_n hx hb d_6_10_0 rfl (lv_at hl 0 rfl) ?_
  refine q_get (ci := 10) (j := 4) (v := .int t0_4) C0 V i_Dir rfl rfl hT0 (by decide) w_361 rfl d_6_10_1 ?_
  refine lv_bipush (v := 65) hx hb d_6_10_4 (by decide) ?_
  refine lv_icmp_lt (tgt := 22) hx hb d_6_10_6 (by decide) (fun c12 => ?_) (fun c12 => ?_)
  ·
    have b13 : q_F (t0_4.toInt < 65) := (q_ltI c12)
    refine lv_iconst (v := 0) hx hb d_6_10_22 (by decide) ?_
    exact q_retz C0 V (by decide) (⟨rfl, (show 0 ≤ (0 : Int32).toInt from (by have z7 : (0 : Int32).toInt = 0 := rfl; omega)), (show (0 : Int32).toInt ≤ 1 from (by have z7 : (0 : Int32).toInt = 0 := rfl; omega)), (show (0 : Int32) = (F_Dir_isLarge t0_0 t0_1 t0_2 t0_3 t0_4 t0_5 t0_6) from (by rw [F_Dir_isLarge.eq_1, if_pos c12]))⟩) d_6_10_23
  ·
    have b14 : q_F (65 ≤ t0_4.toInt) := (q_nltI c12)
    refine lv_aload_n hx hb d_6_10_9 rfl (lv_at hl 0 rfl) ?_
    refine q_get (ci := 10) (j := 4) (v := .int t0_4) C0 V i_Dir rfl rfl hT0 (by decide) w_361 rfl d_6_10_10 ?_
    refine lv_bipush (v := 90) hx hb d_6_10_13 (by decide) ?_
    refine lv_icmp_gt (tgt := 22) hx hb d_6_10_15 (by decide) (fun c15 => ?_) (fun c15 => ?_)
    ·
      have b16 : q_F (90 < t0_4.toInt) := (q_ltI c15)
      refine lv_iconst (v := 0) hx hb d_6_10_22 (by decide) ?_
      exact q_retz C0 V (by decide) (⟨rfl, (show 0 ≤ (0 : Int32).toInt from (by have z7 : (0 : Int32).toInt = 0 := rfl; omega)), (show (0 : Int32).toInt ≤ 1 from (by have z7 : (0 : Int32).toInt = 0 := rfl; omega)), (show (0 : Int32) = (F_Dir_isLarge t0_0 t0_1 t0_2 t0_3 t0_4 t0_5 t0_6) from (by rw [F_Dir_isLarge.eq_1, if_neg c12, if_pos c15]))⟩) d_6_10_23
    ·
      have b17 : q_F (t0_4.toInt ≤ 90) := (q_nltI c15)
      refine lv_iconst (v := 1) hx hb d_6_10_18 (by decide) ?_
      refine lv_goto (tgt := 23) hx hb d_6_10_19 (by decide) ?_
      exact q_retz C0 V (by decide) (⟨rfl, (show 0 ≤ (1 : Int32).toInt from (by have z7 : (1 : Int32).toInt = 1 := rfl; omega)), (show (1 : Int32).toInt ≤ 1 from (by have z7 : (1 : Int32).toInt = 1 := rfl; omega)), (show (1 : Int32) = (F_Dir_isLarge t0_0 t0_1 t0_2 t0_3 t0_4 t0_5 t0_6) from (by rw [F_Dir_isLarge.eq_1, if_neg c12, if_neg c15]))⟩) d_6_10_23
