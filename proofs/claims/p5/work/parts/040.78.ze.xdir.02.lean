def F_Dir_isOneOf_9 (t0_0 : Int32) (t0_1 : Int32) (t0_2 : Int32) (t0_3 : Int32) (t0_4 : Int32) (t0_5 : Int32) (t0_6 : Int32) : Int32 := if t0_4 < (0 : Int32) then ((0 : Int32)) else (if ((F_jStr_indexOf_II_9 ((t0_4.toUInt32 % 65536).toInt32 : Int32)) : Int32) < (0 : Int32) then ((0 : Int32)) else ((1 : Int32)))
set_option maxRecDepth 100000 in
set_option maxHeartbeats 4000000 in
theorem X_Dir_isOneOf_9 (l : Launch) (D : va_G) (g : Nat → ClassId) (q : Nat → Nat) (ws : va_W) (hI : q_I (nsh g q) q ws) (t0_0 : Int32) (t0_1 : Int32) (t0_2 : Int32) (t0_3 : Int32) (t0_4 : Int32) (t0_5 : Int32) (t0_6 : Int32) (hT0 : ws[47]? = (some (q 47, .inr (10, [.int t0_0, .int t0_1, .int t0_2, .int t0_3, .int t0_4, .int t0_5, .ref (q 1), .int t0_6])) : Option (Nat × va_E))) : q_mI l y_Dir_isOneOf prog_6_method_9_code 2 (.boolean) 5 0 0 D g [.ref (q 47), .ref (g (8 + 2 * 9))] ws (fun r u => ws = u ∧ (0 ≤ r.toInt) ∧ (r.toInt ≤ 1) ∧ r = (F_Dir_isOneOf_9 t0_0 t0_1 t0_2 t0_3 t0_4 t0_5 t0_6)) := by
  intro sz
  refine q_into (by decide) (Nat.le_of_ble_eq_true rfl) ?_
  intro p e s m below meth c ls hsz C0 V hl
  have hx := C0.1
  have hb := C0.2.1
  have hZ9 := (n_w47 hI hT0).2
  obtain ⟨-, btt0_6⟩ := hZ9
  clear btt0_6
  have hl : lv_has ls 2 [(0, .ref (q 47)), (1, .ref (g (8 + 2 * 9)))] := hl
  refine lv_aload_n hx hb d_6_9_0 rfl (lv_at hl 0 rfl) ?_
  refine q_get (ci := 10) (j := 4) (v := .int t0_4) C0 V i_Dir rfl rfl hT0 (by decide) w_361 rfl d_6_9_1 ?_
  refine lv_if_lt (tgt := 23) hx hb d_6_9_4 (by decide) (fun c12 => ?_) (fun c12 => ?_)
  ·
    refine lv_iconst (v := 0) hx hb d_6_9_23 (by decide) ?_
    exact q_retz C0 V (by decide) (⟨rfl, (show 0 ≤ (0 : Int32).toInt from (by have z7 : (0 : Int32).toInt = 0 := rfl; omega)), (show (0 : Int32).toInt ≤ 1 from (by have z7 : (0 : Int32).toInt = 0 := rfl; omega)), (show (0 : Int32) = (F_Dir_isOneOf_9 t0_0 t0_1 t0_2 t0_3 t0_4 t0_5 t0_6) from (by rw [F_Dir_isOneOf_9.eq_1, if_pos c12]))⟩) d_6_9_24
  ·
    refine lv_aload_n hx hb d_6_9_7 rfl (lv_at hl 1 rfl) ?_
    refine lv_aload_n hx hb d_6_9_8 rfl (lv_at hl 0 rfl) ?_
    refine q_get (ci := 10) (j := 4) (v := .int t0_4) C0 V i_Dir rfl rfl hT0 (by decide) w_361 rfl d_6_9_9 ?_
    refine lv_i2c hx hb d_6_9_12 rfl ?_
    obtain ⟨a15, e16⟩ := q_nm ((t0_4.toUInt32 % 65536).toInt32 : Int32)
    refine q_ti (v := a15) e16 ?_
    refine q_goi V (q_runVs (As := [.int a15]) (rest := []) (d := 4) (mc := 0) (ms := 0) (i := 9) C0 V rfl LV_Dir_63 (X_jStr_indexOf_II_9 l D g q ws  a15 hI   _) rfl rfl rfl hl.1 rfl (Nat.le_of_ble_eq_true rfl) ⟨by decide, by decide⟩ ⟨Nat.le_of_ble_eq_true rfl, Nat.le_of_ble_eq_true rfl⟩ d_6_9_13) (fun a20 u18 H locs hp19 V => ?_)
    obtain ⟨rfl, b21, b22, hE23⟩ := hp19
    have e24 : a20 = (F_jStr_indexOf_II_9 a15) := hE23
    clear b21
    clear b22
    refine lv_if_lt (tgt := 23) hx hb d_6_9_16 (by decide) (fun c25 => ?_) (fun c25 => ?_)
    ·
      refine lv_iconst (v := 0) hx hb d_6_9_23 (by decide) ?_
      exact q_retz C0 V (by decide) (⟨rfl, (show 0 ≤ (0 : Int32).toInt from (by have z7 : (0 : Int32).toInt = 0 := rfl; omega)), (show (0 : Int32).toInt ≤ 1 from (by have z7 : (0 : Int32).toInt = 0 := rfl; omega)), (show (0 : Int32) = (F_Dir_isOneOf_9 t0_0 t0_1 t0_2 t0_3 t0_4 t0_5 t0_6) from (by have c25x := c25; rw [e24, ← e16] at c25x; rw [F_Dir_isOneOf_9.eq_1, if_neg c12, if_pos c25x]))⟩) d_6_9_24
    ·
      refine lv_iconst (v := 1) hx hb d_6_9_19 (by decide) ?_
      refine lv_goto (tgt := 24) hx hb d_6_9_20 (by decide) ?_
      exact q_retz C0 V (by decide) (⟨rfl, (show 0 ≤ (1 : Int32).toInt from (by have z7 : (1 : Int32).toInt = 1 := rfl; omega)), (show (1 : Int32).toInt ≤ 1 from (by have z7 : (1 : Int32).toInt = 1 := rfl; omega)), (show (1 : Int32) = (F_Dir_isOneOf_9 t0_0 t0_1 t0_2 t0_3 t0_4 t0_5 t0_6) from (by have c25x := c25; rw [e24, ← e16] at c25x; rw [F_Dir_isOneOf_9.eq_1, if_neg c12, if_neg c25x]))⟩) d_6_9_24
def F_jLat_indexOfChar_10_L7 (x2 : Int32) (x3 : Int32) (x4 : Int32) (a1 : Int32) : Nat → Int32 → Int32
  | 0, _ => default
  | fm + 1, lx4 => if x4 ≤ lx4 then ((-1 : Int32)) else (if ((([100, 111, 120, 88] : List Int32).getD lx4.toNatClampNeg 0) : Int32) = a1 then (lx4) else (F_jLat_indexOfChar_10_L7 x2 x3 x4 a1 fm (lx4 + 1 : Int32)))
def F_jLat_indexOfChar_10 (x2 : Int32) (x3 : Int32) (x4 : Int32) : Int32 := F_jLat_indexOfChar_10_L7 x2 x3 x4 (x2.toInt8.toInt32 : Int32) ((4 - x3.toInt).toNat + 1) x3
set_option maxRecDepth 100000 in
set_option maxHeartbeats 4000000 in
theorem X_jLat_indexOfChar_10 (l : Launch) (D : va_G) (g : Nat → ClassId) (q : Nat → Nat) (ws : va_W) (x2 : Int32) (x3 : Int32) (x4 : Int32) (hI : q_I (nsh g q) q ws) (pre0 : 0 ≤ x3.toInt) (pre1 : x4.toInt ≤ 4) : q_mI l y_jLat_indexOfChar prog_33_method_23_code 6 (.int) 1 0 0 D g [.ref (g (9 + 2 * 10)), .int x2, .int x3, .int x4] ws (fun r u => ws = u ∧ (0 ≤ r.toInt + 1) ∧ (r.toInt ≤ 3) ∧ r = (F_jLat_indexOfChar_10 x2 x3 x4)) := by
  intro sz
  refine q_into (by decide) (Nat.le_of_ble_eq_true rfl) ?_
  intro p e s m below meth c ls hsz C0 V hl
  have hx := C0.1
  have hb := C0.2.1
  replace pre0 : q_F (0 ≤ x3.toInt) := pre0
  replace pre1 : q_F (x4.toInt ≤ 4) := pre1
  have hl : lv_has ls 6 [(0, .ref (g (9 + 2 * 10))), (1, .int x2), (2, .int x3), (3, .int x4)] := hl
  refine lv_iload_n hx hb d_33_23_0 rfl (lv_at hl 1 rfl) ?_
  refine lv_i2b hx hb d_33_23_1 rfl ?_
  obtain ⟨a1, e2⟩ := q_nm (x2.toInt8.toInt32 : Int32)
  refine q_ti (v := a1) e2 ?_
  refine lv_istore (lv' := [(4, .int a1), (0, .ref (g (9 + 2 * 10))), (1, .int x2), (2, .int x3), (3, .int x4)]) hx hb d_33_23_2 hl (by decide) rfl (fun ls hl => ?_)
  refine lv_iload_n hx hb d_33_23_4 rfl (lv_at hl 3 rfl) ?_
  refine lv_istore (lv' := [(5, .int x3), (4, .int a1), (0, .ref (g (9 + 2 * 10))), (1, .int x2), (2, .int x3), (3, .int x4)]) hx hb d_33_23_5 hl (by decide) rfl (fun ls hl => ?_)
  refine q_loop (X := Int32) (fun z H locs ls _ => q_F (x3.toInt ≤ z.toInt) ∧ q_Wd D g (va_A ws sz) s ws H locs ∧ lv_has ls 6 [(5, .int z), (4, .int a1), (0, .ref (g (9 + 2 * 10))), (3, .int x4)] ∧ (∃ n, (4 - z.toInt).toNat < n ∧ F_jLat_indexOfChar_10_L7 x2 x3 x4 a1 n z = (F_jLat_indexOfChar_10 x2 x3 x4))) (fun z => (4 - z.toInt).toNat) ?_ ((x3 : Int32)) _ _ _ ws ⟨(show q_F (x3.toInt ≤ x3.toInt) from (show x3.toInt ≤ x3.toInt from by omega)), V, q_lw hl (q_lw1 0 rfl (q_lw1 1 rfl (q_lw1 2 rfl (q_lw1 5 rfl q_lw0)))), ⟨((4 - x3.toInt).toNat + 1), Nat.lt_succ_self _, (show F_jLat_indexOfChar_10_L7 x2 x3 x4 a1 ((4 - x3.toInt).toNat + 1) x3 = (F_jLat_indexOfChar_10 x2 x3 x4) from (by rw [← e2, F_jLat_indexOfChar_10.eq_1]))⟩⟩
  rintro lx4 H locs ls _ ⟨i5, V, hl, ⟨fu9, hf10, hR7⟩⟩ ih6
  obtain ⟨fm11, rfl⟩ : ∃ m, fu9 = m + 1 := ⟨fu9 - 1, by omega⟩
  replace i5 : q_F (x3.toInt ≤ lx4.toInt) := i5
  replace hl : lv_has ls 6 [(5, .int lx4), (4, .int a1), (0, .ref (g (9 + 2 * 10))), (3, .int x4)] := hl
  refine lv_iload hx hb d_33_23_7 (lv_at hl 0 rfl) ?_
  refine lv_iload_n hx hb d_33_23_9 rfl (lv_at hl 3 rfl) ?_
  refine lv_icmp_ge (tgt := 31) hx hb d_33_23_10 (by decide) (fun c12 => ?_) (fun c12 => ?_)
  ·
    refine lv_iconst (v := (-1)) hx hb d_33_23_31 (by decide) ?_
    exact q_reti C0 V (⟨rfl, (show 0 ≤ (-1 : Int32).toInt + 1 from (by have z3 : (-1 : Int32).toInt = -1 := rfl; omega)), (show (-1 : Int32).toInt ≤ 3 from (by have z3 : (-1 : Int32).toInt = -1 := rfl; omega)), (show (-1 : Int32) = (F_jLat_indexOfChar_10 x2 x3 x4) from Eq.trans (by rw [F_jLat_indexOfChar_10_L7.eq_2, if_pos c12]) hR7)⟩) d_33_23_32
  ·
    have b14 : q_F (lx4.toInt < x4.toInt) := (q_nleI c12)
    refine lv_aload_n hx hb d_33_23_13 rfl (lv_at hl 2 rfl) ?_
    refine lv_iload hx hb d_33_23_14 (lv_at hl 0 rfl) ?_
    refine q_sbal (i := 10) (v := (([100, 111, 120, 88] : List Int32).getD lx4.toNatClampNeg 0)) C0 V rfl (show vp_in lx4 4 from q_ix (x := lx4.toInt) rfl (by have t1 : 0 ≤ x3.toInt := pre0; have t2 : x3.toInt ≤ lx4.toInt := i5; omega) (by have t1 : 0 ≤ x3.toInt := pre0; have t2 : x3.toInt ≤ lx4.toInt := i5; have t3 : x4.toInt ≤ 4 := pre1; have t4 : lx4.toInt < x4.toInt := b14; omega)) rfl d_33_23_16 ?_
    obtain ⟨a15, e16⟩ := q_nm ((([100, 111, 120, 88] : List Int32).getD lx4.toNatClampNeg 0) : Int32)
    refine q_ti (v := a15) e16 ?_
    refine lv_iload hx hb d_33_23_17 (lv_at hl 1 rfl) ?_
    refine lv_icmp_ne (tgt := 25) hx hb d_33_23_19 (by decide) (fun c17 => ?_) (fun c17 => ?_)
    ·
      obtain ⟨a19, e20⟩ := q_nm (lx4 + 1 : Int32)
      have b21 : q_F (a19.toInt = lx4.toInt + 1) := (by rw [← e20]; exact q_addI (y := 1) rfl (by decide) (by have _ := q_lo32 (x := lx4); have _ := q_hi32 (x := lx4); have t1 : lx4.toInt < x4.toInt := b14; have _ := q_lo32 (x := x4); have _ := q_hi32 (x := x4); omega) (by have _ := q_lo32 (x := lx4); have _ := q_hi32 (x := lx4); have t1 : lx4.toInt < x4.toInt := b14; have _ := q_lo32 (x := x4); have _ := q_hi32 (x := x4); omega))
      refine lv_iinc (v := a19) (lv' := [(5, .int a19), (4, .int a1), (0, .ref (g (9 + 2 * 10))), (3, .int x4)]) hx hb d_33_23_25 hl (k := 0) rfl (e20) (by decide) rfl (fun ls hl => ?_)
      refine lv_goto (tgt := 7) hx hb d_33_23_28 (by decide) ?_
      exact ih6 ((a19 : Int32)) _ _ _ ws (show (4 - a19.toInt).toNat < (4 - lx4.toInt).toNat from by have t1 : a19.toInt = lx4.toInt + 1 := b21; have t2 : x4.toInt ≤ 4 := pre1; have t3 : lx4.toInt < x4.toInt := b14; omega) ⟨(show q_F (x3.toInt ≤ a19.toInt) from (show x3.toInt ≤ a19.toInt from by have t1 : x3.toInt ≤ lx4.toInt := i5; have t2 : a19.toInt = lx4.toInt + 1 := b21; omega)), V, q_lw hl (q_lw1 0 rfl (q_lw1 1 rfl (q_lw1 2 rfl (q_lw1 3 rfl q_lw0)))), ⟨fm11, Nat.lt_of_lt_of_le (show (4 - a19.toInt).toNat < (4 - lx4.toInt).toNat from by have t1 : a19.toInt = lx4.toInt + 1 := b21; have t2 : x4.toInt ≤ 4 := pre1; have t3 : lx4.toInt < x4.toInt := b14; omega) (Nat.le_of_lt_succ hf10), (show F_jLat_indexOfChar_10_L7 x2 x3 x4 a1 fm11 a19 = (F_jLat_indexOfChar_10 x2 x3 x4) from Eq.trans (by have c17x := c17; rw [← e16] at c17x; rw [← e20, F_jLat_indexOfChar_10_L7.eq_2, if_neg c12, if_neg c17x]) hR7)⟩⟩
    ·
      refine lv_iload hx hb d_33_23_22 (lv_at hl 0 rfl) ?_
      exact q_reti C0 V (⟨rfl, (show 0 ≤ lx4.toInt + 1 from (by have t1 : 0 ≤ x3.toInt := pre0; have t2 : x3.toInt ≤ lx4.toInt := i5; omega)), (show lx4.toInt ≤ 3 from (by have t1 : x4.toInt ≤ 4 := pre1; have t2 : lx4.toInt < x4.toInt := b14; omega)), (show lx4 = (F_jLat_indexOfChar_10 x2 x3 x4) from Eq.trans (by have c17x := c17; rw [← e16] at c17x; rw [F_jLat_indexOfChar_10_L7.eq_2, if_neg c12, if_pos c17x]) hR7)⟩) d_33_23_24
def F_jLat_indexOf_10 (x2 : Int32) (x3 : Int32) (x4 : Int32) : Int32 := if ((F_jLat_canEncode x2) : Int32) = (0 : Int32) then ((-1 : Int32)) else (if (if x3 < 0 then 0 else x3 : Int32) < (if 4 < x4 then 4 else x4 : Int32) then (((F_jLat_indexOfChar_10 x2 (if x3 < 0 then 0 else x3 : Int32) (if 4 < x4 then 4 else x4 : Int32)) : Int32)) else ((-1 : Int32)))
set_option maxRecDepth 100000 in
set_option maxHeartbeats 4000000 in
theorem X_jLat_indexOf_10 (l : Launch) (D : va_G) (g : Nat → ClassId) (q : Nat → Nat) (ws : va_W) (x2 : Int32) (x3 : Int32) (x4 : Int32) (hI : q_I (nsh g q) q ws) (pre0 : 0 ≤ x3.toInt) (pre1 : x4.toInt ≤ 4) : q_mI l y_jLat_indexOf prog_33_method_22_code 4 (.int) 2 0 0 D g [.ref (g (9 + 2 * 10)), .int x2, .int x3, .int x4] ws (fun r u => ws = u ∧ (0 ≤ r.toInt + 1) ∧ (r.toInt ≤ 3) ∧ r = (F_jLat_indexOf_10 x2 x3 x4)) := by
  intro sz
  refine q_into (by decide) (Nat.le_of_ble_eq_true rfl) ?_
  intro p e s m below meth c ls hsz C0 V hl
  have hx := C0.1
  have hb := C0.2.1
  clear pre0
  clear pre1
  have hl : lv_has ls 4 [(0, .ref (g (9 + 2 * 10))), (1, .int x2), (2, .int x3), (3, .int x4)] := hl
  refine lv_iload_n hx hb d_33_22_0 rfl (lv_at hl 1 rfl) ?_
  refine q_goi V (q_runS (As := [.int x2]) (rest := []) (d := 1) (mc := 0) (ms := 0) C0 V rfl LS_jLat_88 (X_jLat_canEncode l D g q ws  x2 hI   _) rfl hl.1 rfl (Nat.le_of_ble_eq_true rfl) ⟨by decide, by decide⟩ ⟨Nat.le_of_ble_eq_true rfl, Nat.le_of_ble_eq_true rfl⟩ d_33_22_1) (fun a3 u1 H locs hp2 V => ?_)
  obtain ⟨rfl, b4, b5, hE6⟩ := hp2
  have e7 : a3 = (F_jLat_canEncode x2) := hE6
  clear b4
  clear b5
  refine lv_if_ne (tgt := 9) hx hb d_33_22_4 (by decide) (fun c8 => ?_) (fun c8 => ?_)
  ·
    refine lv_iload_n hx hb d_33_22_9 rfl (lv_at hl 2 rfl) ?_
    refine lv_iconst (v := 0) hx hb d_33_22_10 (by decide) ?_
    refine q_max C0 hl.1 rfl w_1773 w_803 w_7 w_804 ⟨Nat.le_of_ble_eq_true rfl, Nat.le_of_ble_eq_true rfl⟩ ⟨Nat.le_of_ble_eq_true rfl, Nat.le_of_ble_eq_true rfl⟩ d_33_22_11 ?_
    obtain ⟨a10, e11⟩ := q_nm (if x3 < 0 then 0 else x3 : Int32)
    refine q_ti (v := a10) e11 ?_
    have b12 : q_F (x3.toInt ≤ a10.toInt ∧ 0 ≤ a10.toInt ∧ (a10.toInt = x3.toInt ∨ a10.toInt = 0)) := (by rw [← e11]; show x3.toInt ≤ (if x3 < 0 then 0 else x3 : Int32).toInt ∧ 0 ≤ (if x3 < 0 then 0 else x3 : Int32).toInt ∧ ((if x3 < 0 then 0 else x3 : Int32).toInt = x3.toInt ∨ (if x3 < 0 then 0 else x3 : Int32).toInt = 0); exact (by have y1 : (0 : Int32).toInt = 0 := rfl; have z := s_max (a := x3) (b := 0); omega))
    refine lv_istore_n (lv' := [(2, .int a10), (0, .ref (g (9 + 2 * 10))), (1, .int x2), (3, .int x4)]) hx hb d_33_22_14 rfl hl (by decide) rfl (fun ls hl => ?_)
    refine lv_iload_n hx hb d_33_22_15 rfl (lv_at hl 3 rfl) ?_
    refine lv_aload_n hx hb d_33_22_16 rfl (lv_at hl 1 rfl) ?_
    refine q_slen (i := 10) (v := 4) C0 V rfl (by decide) d_33_22_17 ?_
    refine q_min C0 hl.1 rfl w_1774 w_774 w_7 w_775 ⟨Nat.le_of_ble_eq_true rfl, Nat.le_of_ble_eq_true rfl⟩ ⟨Nat.le_of_ble_eq_true rfl, Nat.le_of_ble_eq_true rfl⟩ d_33_22_18 ?_
    obtain ⟨a13, e14⟩ := q_nm (if 4 < x4 then 4 else x4 : Int32)
    refine q_ti (v := a13) e14 ?_
    have b15 : q_F (a13.toInt ≤ x4.toInt ∧ a13.toInt ≤ 4 ∧ (a13.toInt = x4.toInt ∨ a13.toInt = 4)) := (by rw [← e14]; show (if 4 < x4 then 4 else x4 : Int32).toInt ≤ x4.toInt ∧ (if 4 < x4 then 4 else x4 : Int32).toInt ≤ 4 ∧ ((if 4 < x4 then 4 else x4 : Int32).toInt = x4.toInt ∨ (if 4 < x4 then 4 else x4 : Int32).toInt = 4); exact (by have y1 : (4 : Int32).toInt = 4 := rfl; have z := s_min (a := x4) (b := 4); omega))
    refine lv_istore_n (lv' := [(3, .int a13), (2, .int a10), (0, .ref (g (9 + 2 * 10))), (1, .int x2)]) hx hb d_33_22_21 rfl hl (by decide) rfl (fun ls hl => ?_)
    refine lv_iload_n hx hb d_33_22_22 rfl (lv_at hl 1 rfl) ?_
    refine lv_iload_n hx hb d_33_22_23 rfl (lv_at hl 0 rfl) ?_
    refine lv_icmp_lt (tgt := 29) hx hb d_33_22_24 (by decide) (fun c16 => ?_) (fun c16 => ?_)
    ·
      refine lv_aload_n hx hb d_33_22_29 rfl (lv_at hl 2 rfl) ?_
      refine lv_iload_n hx hb d_33_22_30 rfl (lv_at hl 3 rfl) ?_
      refine lv_iload_n hx hb d_33_22_31 rfl (lv_at hl 1 rfl) ?_
      refine lv_iload_n hx hb d_33_22_32 rfl (lv_at hl 0 rfl) ?_
      refine q_goi V (q_runS (As := [.ref (g (9 + 2 * 10)), .int x2, .int a10, .int a13]) (rest := []) (d := 1) (mc := 0) (ms := 0) C0 V rfl LS_jLat_95 (X_jLat_indexOfChar_10 l D g q ws  x2 a10 a13 hI  (by have t1 : x3.toInt ≤ a10.toInt ∧ 0 ≤ a10.toInt ∧ (a10.toInt = x3.toInt ∨ a10.toInt = 0) := b12; omega) (by have t1 : a13.toInt ≤ x4.toInt ∧ a13.toInt ≤ 4 ∧ (a13.toInt = x4.toInt ∨ a13.toInt = 4) := b15; omega) _) rfl hl.1 rfl (Nat.le_of_ble_eq_true rfl) ⟨by decide, by decide⟩ ⟨Nat.le_of_ble_eq_true rfl, Nat.le_of_ble_eq_true rfl⟩ d_33_22_33) (fun a20 u18 H locs hp19 V => ?_)
      obtain ⟨rfl, b21, b22, hE23⟩ := hp19
      have e24 : a20 = (F_jLat_indexOfChar_10 x2 a10 a13) := hE23
      replace b21 : q_F (0 ≤ a20.toInt + 1) := b21
      replace b22 : q_F (a20.toInt ≤ 3) := b22
      exact q_reti C0 V (⟨rfl, (show 0 ≤ a20.toInt + 1 from (by first | with_reducible exact q_fe b21 | (have t1 : 0 ≤ a20.toInt + 1 := b21; omega))), (show a20.toInt ≤ 3 from (by first | with_reducible exact q_fe b22 | (have t1 : a20.toInt ≤ 3 := b22; omega))), (show a20 = (F_jLat_indexOf_10 x2 x3 x4) from (by have c8x := c8; rw [e7] at c8x; have c16x := c16; rw [← e14, ← e11] at c16x; rw [e24, ← e14, ← e11, F_jLat_indexOf_10.eq_1, if_neg c8x, if_pos c16x]))⟩) d_33_22_36
    ·
      refine lv_iconst (v := (-1)) hx hb d_33_22_27 (by decide) ?_
      exact q_reti C0 V (⟨rfl, (show 0 ≤ (-1 : Int32).toInt + 1 from (by have z3 : (-1 : Int32).toInt = -1 := rfl; omega)), (show (-1 : Int32).toInt ≤ 3 from (by have z3 : (-1 : Int32).toInt = -1 := rfl; omega)), (show (-1 : Int32) = (F_jLat_indexOf_10 x2 x3 x4) from (by have c8x := c8; rw [e7] at c8x; have c16x := c16; rw [← e14, ← e11] at c16x; rw [F_jLat_indexOf_10.eq_1, if_neg c8x, if_neg c16x]))⟩) d_33_22_28
  ·
    refine lv_iconst (v := (-1)) hx hb d_33_22_7 (by decide) ?_
    exact q_reti C0 V (⟨rfl, (show 0 ≤ (-1 : Int32).toInt + 1 from (by have z3 : (-1 : Int32).toInt = -1 := rfl; omega)), (show (-1 : Int32).toInt ≤ 3 from (by have z3 : (-1 : Int32).toInt = -1 := rfl; omega)), (show (-1 : Int32) = (F_jLat_indexOf_10 x2 x3 x4) from (by have c8x := c8; rw [e7] at c8x; rw [F_jLat_indexOf_10.eq_1, if_pos c8x]))⟩) d_33_22_8
def F_jStr_indexOf_III_10 (x2 : Int32) (x3 : Int32) : Int32 := ((F_jLat_indexOf_10 x2 x3 (4 : Int32)) : Int32)
set_option maxRecDepth 100000 in
set_option maxHeartbeats 4000000 in
theorem X_jStr_indexOf_III_10 (l : Launch) (D : va_G) (g : Nat → ClassId) (q : Nat → Nat) (ws : va_W) (x2 : Int32) (x3 : Int32) (hI : q_I (nsh g q) q ws) (pre0 : 0 ≤ x3.toInt) : q_mI l y_jStr_indexOf_III prog_31_method_80_code 3 (.int) 3 0 0 D g [.ref (g (8 + 2 * 10)), .int x2, .int x3] ws (fun r u => ws = u ∧ (0 ≤ r.toInt + 1) ∧ (r.toInt ≤ 3) ∧ r = (F_jStr_indexOf_III_10 x2 x3)) := by
  intro sz
  refine q_into (by decide) (Nat.le_of_ble_eq_true rfl) ?_
  intro p e s m below meth c ls hsz C0 V hl
  have hx := C0.1
  have hb := C0.2.1
  replace pre0 : q_F (0 ≤ x3.toInt) := pre0
  have hl : lv_has ls 3 [(0, .ref (g (8 + 2 * 10))), (1, .int x2), (2, .int x3)] := hl
  refine lv_aload_n hx hb d_31_80_0 rfl (lv_at hl 0 rfl) ?_
  refine q_goi V (q_runVs (As := []) (rest := []) (d := 1) (mc := 0) (ms := 0) (i := 10) C0 V rfl LV_jStr_492 (T_jStr_isLatin1_10 l D g q ws   hI   _) rfl rfl rfl hl.1 rfl (Nat.le_of_ble_eq_true rfl) ⟨by decide, by decide⟩ ⟨Nat.le_of_ble_eq_true rfl, Nat.le_of_ble_eq_true rfl⟩ d_31_80_1) (fun a3 u1 H locs hp2 V => ?_)
  obtain ⟨rfl, b4, b5⟩ := hp2
  replace b4 : q_F (1 ≤ a3.toInt) := b4
  replace b5 : q_F (a3.toInt ≤ 1) := b5
  obtain rfl : a3 = (1 : Int32) := q_Ieq (x := a3.toInt) (y := 1) rfl (by decide) (by have t1 : 1 ≤ a3.toInt := b4; have t2 : a3.toInt ≤ 1 := b5; omega)
  refine lv_if_eq (tgt := 23) hx hb d_31_80_4 (by decide) (fun c7 => absurd c7 (by decide)) (fun c7 => ?_)
  refine lv_aload_n hx hb d_31_80_7 rfl (lv_at hl 0 rfl) ?_
  refine q_sval (i := 10) C0 V rfl rfl w_1018 d_31_80_8 ?_
  refine lv_iload_n hx hb d_31_80_11 rfl (lv_at hl 1 rfl) ?_
  refine lv_iload_n hx hb d_31_80_12 rfl (lv_at hl 2 rfl) ?_
  refine lv_aload_n hx hb d_31_80_13 rfl (lv_at hl 0 rfl) ?_
  refine q_goi V (q_runVs (As := []) (rest := [.int x3, .int x2, .ref (g (9 + 2 * 10))]) (d := 2) (mc := 0) (ms := 0) (i := 10) C0 V rfl LV_jStr_505 (T_jStr_length_10 l D g q ws   hI   _) rfl rfl rfl hl.1 rfl (Nat.le_of_ble_eq_true rfl) ⟨by decide, by decide⟩ ⟨Nat.le_of_ble_eq_true rfl, Nat.le_of_ble_eq_true rfl⟩ d_31_80_14) (fun a10 u8 H locs hp9 V => ?_)
  obtain ⟨rfl, b11, b12⟩ := hp9
  replace b11 : q_F (4 ≤ a10.toInt) := b11
  replace b12 : q_F (a10.toInt ≤ 4) := b12
  obtain rfl : a10 = (4 : Int32) := q_Ieq (x := a10.toInt) (y := 4) rfl (by decide) (by have t1 : 4 ≤ a10.toInt := b11; have t2 : a10.toInt ≤ 4 := b12; omega)
  refine q_goi V (q_runS (As := [.ref (g (9 + 2 * 10)), .int x2, .int x3, .int 4]) (rest := []) (d := 2) (mc := 0) (ms := 0) C0 V rfl LS_jStr_637 (X_jLat_indexOf_10 l D g q ws  x2 x3 4 hI  (by have y0 : (4 : Int32).toInt = 4 := rfl; have t1 : 0 ≤ x3.toInt := pre0; omega) (by have y0 : (4 : Int32).toInt = 4 := rfl; omega) _) rfl hl.1 rfl (Nat.le_of_ble_eq_true rfl) ⟨by decide, by decide⟩ ⟨Nat.le_of_ble_eq_true rfl, Nat.le_of_ble_eq_true rfl⟩ d_31_80_17) (fun a16 u14 H locs hp15 V => ?_)
  obtain ⟨rfl, b17, b18, hE19⟩ := hp15
  have e20 : a16 = (F_jLat_indexOf_10 x2 x3 (4 : Int32)) := hE19
  replace b17 : q_F (0 ≤ a16.toInt + 1) := b17
  replace b18 : q_F (a16.toInt ≤ 3) := b18
  refine lv_goto (tgt := 36) hx hb d_31_80_20 (by decide) ?_
  exact q_reti C0 V (⟨rfl, (show 0 ≤ a16.toInt + 1 from (by first | with_reducible exact q_fe b17 | (have t1 : 0 ≤ a16.toInt + 1 := b17; omega))), (show a16.toInt ≤ 3 from (by first | with_reducible exact q_fe b18 | (have t1 : a16.toInt ≤ 3 := b18; omega))), (show a16 = (F_jStr_indexOf_III_10 x2 x3) from (by rw [e20, F_jStr_indexOf_III_10.eq_1]))⟩) d_31_80_36
def F_jStr_indexOf_II_10 (x2 : Int32) : Int32 := ((F_jStr_indexOf_III_10 x2 (0 : Int32)) : Int32)
set_option maxRecDepth 100000 in
set_option maxHeartbeats 4000000 in
theorem X_jStr_indexOf_II_10 (l : Launch) (D : va_G) (g : Nat → ClassId) (q : Nat → Nat) (ws : va_W) (x2 : Int32) (hI : q_I (nsh g q) q ws) : q_mI l y_jStr_indexOf_II prog_31_method_79_code 2 (.int) 4 0 0 D g [.ref (g (8 + 2 * 10)), .int x2] ws (fun r u => ws = u ∧ (0 ≤ r.toInt + 1) ∧ (r.toInt ≤ 3) ∧ r = (F_jStr_indexOf_II_10 x2)) := by
  intro sz
  refine q_into (by decide) (Nat.le_of_ble_eq_true rfl) ?_
  intro p e s m below meth c ls hsz C0 V hl
  have hx := C0.1
  have hb := C0.2.1
  have hl : lv_has ls 2 [(0, .ref (g (8 + 2 * 10))), (1, .int x2)] := hl
  refine lv_aload_n hx hb d_31_79_0 rfl (lv_at hl 0 rfl) ?_
  refine lv_iload_n hx hb d_31_79_1 rfl (lv_at hl 1 rfl) ?_
  refine lv_iconst (v := 0) hx hb d_31_79_2 (by decide) ?_
  refine q_goi V (q_runVs (As := [.int x2, .int 0]) (rest := []) (d := 3) (mc := 0) (ms := 0) (i := 10) C0 V rfl LV_jStr_633 (X_jStr_indexOf_III_10 l D g q ws  x2 0 hI  (by have y0 : (0 : Int32).toInt = 0 := rfl; omega) _) rfl rfl rfl hl.1 rfl (Nat.le_of_ble_eq_true rfl) ⟨by decide, by decide⟩ ⟨Nat.le_of_ble_eq_true rfl, Nat.le_of_ble_eq_true rfl⟩ d_31_79_3) (fun a3 u1 H locs hp2 V => ?_)
  obtain ⟨rfl, b4, b5, hE6⟩ := hp2
  have e7 : a3 = (F_jStr_indexOf_III_10 x2 (0 : Int32)) := hE6
  replace b4 : q_F (0 ≤ a3.toInt + 1) := b4
  replace b5 : q_F (a3.toInt ≤ 3) := b5
  exact q_reti C0 V (⟨rfl, (show 0 ≤ a3.toInt + 1 from (by first | with_reducible exact q_fe b4 | (have t1 : 0 ≤ a3.toInt + 1 := b4; omega))), (show a3.toInt ≤ 3 from (by first | with_reducible exact q_fe b5 | (have t1 : a3.toInt ≤ 3 := b5; omega))), (show a3 = (F_jStr_indexOf_II_10 x2) from (by rw [e7, F_jStr_indexOf_II_10.eq_1]))⟩) d_31_79_6
def F_Dir_isOneOf_10 (t0_0 : Int32) (t0_1 : Int32) (t0_2 : Int32) (t0_3 : Int32) (t0_4 : Int32) (t0_5 : Int32) (t0_6 : Int32) : Int32 := if t0_4 < (0 : Int32) then ((0 : Int32)) else (if ((F_jStr_indexOf_II_10 ((t0_4.toUInt32 % 65536).toInt32 : Int32)) : Int32) < (0 : Int32) then ((0 : Int32)) else ((1 : Int32)))
set_option maxRecDepth 100000 in
set_option maxHeartbeats 4000000 in
theorem X_Dir_isOneOf_10 (l : Launch) (D : va_G) (g : Nat → ClassId) (q : Nat → Nat) (ws : va_W) (hI : q_I (nsh g q) q ws) (t0_0 : Int32) (t0_1 : Int32) (t0_2 : Int32) (t0_3 : Int32) (t0_4 : Int32) (t0_5 : Int32) (t0_6 : Int32) (hT0 : ws[47]? = (some (q 47, .inr (10, [.int t0_0, .int t0_1, .int t0_2, .int t0_3, .int t0_4, .int t0_5, .ref (q 1), .int t0_6])) : Option (Nat × va_E))) : q_mI l y_Dir_isOneOf prog_6_method_9_code 2 (.boolean) 5 0 0 D g [.ref (q 47), .ref (g (8 + 2 * 10))] ws (fun r u => ws = u ∧ (0 ≤ r.toInt) ∧ (r.toInt ≤ 1) ∧ r = (F_Dir_isOneOf_10 t0_0 t0_1 t0_2 t0_3 t0_4 t0_5 t0_6)) := by
  intro sz
  refine q_into (by decide) (Nat.le_of_ble_eq_true rfl) ?_
  intro p e s m below meth c ls hsz C0 V hl
  have hx := C0.1
  have hb := C0.2.1
  have hZ9 := (n_w47 hI hT0).2
  obtain ⟨-, btt0_6⟩ := hZ9
  clear btt0_6
  have hl : lv_has ls 2 [(0, .ref (q 47)), (1, .ref (g (8 + 2 * 10)))] := hl
  refine lv_aload_n hx hb d_6_9_0 rfl (lv_at hl 0 rfl) ?_
  refine q_get (ci := 10) (j := 4) (v := .int t0_4) C0 V i_Dir rfl rfl hT0 (by decide) w_361 rfl d_6_9_1 ?_
  refine lv_if_lt (tgt := 23) hx hb d_6_9_4 (by decide) (fun c12 => ?_) (fun c12 => ?_)
  ·
    refine lv_iconst (v := 0) hx hb d_6_9_23 (by decide) ?_
    exact q_retz C0 V (by decide) (⟨rfl, (show 0 ≤ (0 : Int32).toInt from (by have z7 : (0 : Int32).toInt = 0 := rfl; omega)), (show (0 : Int32).toInt ≤ 1 from (by have z7 : (0 : Int32).toInt = 0 := rfl; omega)), (show (0 : Int32) = (F_Dir_isOneOf_10 t0_0 t0_1 t0_2 t0_3 t0_4 t0_5 t0_6) from (by rw [F_Dir_isOneOf_10.eq_1, if_pos c12]))⟩) d_6_9_24
  ·
    refine lv_aload_n hx hb d_6_9_7 rfl (lv_at hl 1 rfl) ?_
    refine lv_aload_n hx hb d_6_9_8 rfl (lv_at hl 0 rfl) ?_
    refine q_get (ci := 10) (j := 4) (v := .int t0_4) C0 V i_Dir rfl rfl hT0 (by decide) w_361 rfl d_6_9_9 ?_
    refine lv_i2c hx hb d_6_9_12 rfl ?_
    obtain ⟨a15, e16⟩ := q_nm ((t0_4.toUInt32 % 65536).toInt32 : Int32)
    refine q_ti (v := a15) e16 ?_
    refine q_goi V (q_runVs (As := [.int a15]) (rest := []) (d := 4) (mc := 0) (ms := 0) (i := 10) C0 V rfl LV_Dir_63 (X_jStr_indexOf_II_10 l D g q ws  a15 hI   _) rfl rfl rfl hl.1 rfl (Nat.le_of_ble_eq_true rfl) ⟨by decide, by decide⟩ ⟨Nat.le_of_ble_eq_true rfl, Nat.le_of_ble_eq_true rfl⟩ d_6_9_13) (fun a20 u18 H locs hp19 V => ?_)
    obtain ⟨rfl, b21, b22, hE23⟩ := hp19
    have e24 : a20 = (F_jStr_indexOf_II_10 a15) := hE23
    clear b21
    clear b22
    refine lv_if_lt (tgt := 23) hx hb d_6_9_16 (by decide) (fun c25 => ?_) (fun c25 => ?_)
    ·
      refine lv_iconst (v := 0) hx hb d_6_9_23 (by decide) ?_
      exact q_retz C0 V (by decide) (⟨rfl, (show 0 ≤ (0 : Int32).toInt from (by have z7 : (0 : Int32).toInt = 0 := rfl; omega)), (show (0 : Int32).toInt ≤ 1 from (by have z7 : (0 : Int32).toInt = 0 := rfl; omega)), (show (0 : Int32) = (F_Dir_isOneOf_10 t0_0 t0_1 t0_2 t0_3 t0_4 t0_5 t0_6) from (by have c25x := c25; rw [e24, ← e16] at c25x; rw [F_Dir_isOneOf_10.eq_1, if_neg c12, if_pos c25x]))⟩) d_6_9_24
    ·
      refine lv_iconst (v := 1) hx hb d_6_9_19 (by decide) ?_
      refine lv_goto (tgt := 24) hx hb d_6_9_20 (by decide) ?_
      exact q_retz C0 V (by decide) (⟨rfl, (show 0 ≤ (1 : Int32).toInt from (by have z7 : (1 : Int32).toInt = 1 := rfl; omega)), (show (1 : Int32).toInt ≤ 1 from (by have z7 : (1 : Int32).toInt = 1 := rfl; omega)), (show (1 : Int32) = (F_Dir_isOneOf_10 t0_0 t0_1 t0_2 t0_3 t0_4 t0_5 t0_6) from (by have c25x := c25; rw [e24, ← e16] at c25x; rw [F_Dir_isOneOf_10.eq_1, if_neg c12, if_neg c25x]))⟩) d_6_9_24
def F_jLat_indexOfChar_11_L7 (x2 : Int32) (x3 : Int32) (x4 : Int32) (a1 : Int32) : Nat → Int32 → Int32
  | 0, _ => default
  | fm + 1, lx4 => if x4 ≤ lx4 then ((-1 : Int32)) else (if ((([98, 66] : List Int32).getD lx4.toNatClampNeg 0) : Int32) = a1 then (lx4) else (F_jLat_indexOfChar_11_L7 x2 x3 x4 a1 fm (lx4 + 1 : Int32)))
def F_jLat_indexOfChar_11 (x2 : Int32) (x3 : Int32) (x4 : Int32) : Int32 := F_jLat_indexOfChar_11_L7 x2 x3 x4 (x2.toInt8.toInt32 : Int32) ((2 - x3.toInt).toNat + 1) x3
set_option maxRecDepth 100000 in
set_option maxHeartbeats 4000000 in
theorem X_jLat_indexOfChar_11 (l : Launch) (D : va_G) (g : Nat → ClassId) (q : Nat → Nat) (ws : va_W) (x2 : Int32) (x3 : Int32) (x4 : Int32) (hI : q_I (nsh g q) q ws) (pre0 : 0 ≤ x3.toInt) (pre1 : x4.toInt ≤ 2) : q_mI l y_jLat_indexOfChar prog_33_method_23_code 6 (.int) 1 0 0 D g [.ref (g (9 + 2 * 11)), .int x2, .int x3, .int x4] ws (fun r u => ws = u ∧ (0 ≤ r.toInt + 1) ∧ (r.toInt ≤ 1) ∧ r = (F_jLat_indexOfChar_11 x2 x3 x4)) := by
  intro sz
  refine q_into (by decide) (Nat.le_of_ble_eq_true rfl) ?_
  intro p e s m below meth c ls hsz C0 V hl
  have hx := C0.1
  have hb := C0.2.1
  replace pre0 : q_F (0 ≤ x3.toInt) := pre0
  replace pre1 : q_F (x4.toInt ≤ 2) := pre1
  have hl : lv_has ls 6 [(0, .ref (g (9 + 2 * 11))), (1, .int x2), (2, .int x3), (3, .int x4)] := hl
  refine lv_iload_n hx hb d_33_23_0 rfl (lv_at hl 1 rfl) ?_
  refine lv_i2b hx hb d_33_23_1 rfl ?_
  obtain ⟨a1, e2⟩ := q_nm (x2.toInt8.toInt32 : Int32)
  refine q_ti (v := a1) e2 ?_
  refine lv_istore (lv' := [(4, .int a1), (0, .ref (g (9 + 2 * 11))), (1, .int x2), (2, .int x3), (3, .int x4)]) hx hb d_33_23_2 hl (by decide) rfl (fun ls hl => ?_)
  refine lv_iload_n hx hb d_33_23_4 rfl (lv_at hl 3 rfl) ?_
  refine lv_istore (lv' := [(5, .int x3), (4, .int a1), (0, .ref (g (9 + 2 * 11))), (1, .int x2), (2, .int x3), (3, .int x4)]) hx hb d_33_23_5 hl (by decide) rfl (fun ls hl => ?_)
  refine q_loop (X := Int32) (fun z H locs ls _ => q_F (x3.toInt ≤ z.toInt) ∧ q_Wd D g (va_A ws sz) s ws H locs ∧ lv_has ls 6 [(5, .int z), (4, .int a1), (0, .ref (g (9 + 2 * 11))), (3, .int x4)] ∧ (∃ n, (2 - z.toInt).toNat < n ∧ F_jLat_indexOfChar_11_L7 x2 x3 x4 a1 n z = (F_jLat_indexOfChar_11 x2 x3 x4))) (fun z => (2 - z.toInt).toNat) ?_ ((x3 : Int32)) _ _ _ ws ⟨(show q_F (x3.toInt ≤ x3.toInt) from (show x3.toInt ≤ x3.toInt from by omega)), V, q_lw hl (q_lw1 0 rfl (q_lw1 1 rfl (q_lw1 2 rfl (q_lw1 5 rfl q_lw0)))), ⟨((2 - x3.toInt).toNat + 1), Nat.lt_succ_self _, (show F_jLat_indexOfChar_11_L7 x2 x3 x4 a1 ((2 - x3.toInt).toNat + 1) x3 = (F_jLat_indexOfChar_11 x2 x3 x4) from (by rw [← e2, F_jLat_indexOfChar_11.eq_1]))⟩⟩
  rintro lx4 H locs ls _ ⟨i5, V, hl, ⟨fu9, hf10, hR7⟩⟩ ih6
  obtain ⟨fm11, rfl⟩ : ∃ m, fu9 = m + 1 := ⟨fu9 - 1, by omega⟩
  replace i5 : q_F (x3.toInt ≤ lx4.toInt) := i5
  replace hl : lv_has ls 6 [(5, .int lx4), (4, .int a1), (0, .ref (g (9 + 2 * 11))), (3, .int x4)] := hl
  refine lv_iload hx hb d_33_23_7 (lv_at hl 0 rfl) ?_
  refine lv_iload_n hx hb d_33_23_9 rfl (lv_at hl 3 rfl) ?_
  refine lv_icmp_ge (tgt := 31) hx hb d_33_23_10 (by decide) (fun c12 => ?_) (fun c12 => ?_)
  ·
    refine lv_iconst (v := (-1)) hx hb d_33_23_31 (by decide) ?_
    exact q_reti C0 V (⟨rfl, (show 0 ≤ (-1 : Int32).toInt + 1 from (by have z3 : (-1 : Int32).toInt = -1 := rfl; omega)), (show (-1 : Int32).toInt ≤ 1 from (by have z3 : (-1 : Int32).toInt = -1 := rfl; omega)), (show (-1 : Int32) = (F_jLat_indexOfChar_11 x2 x3 x4) from Eq.trans (by rw [F_jLat_indexOfChar_11_L7.eq_2, if_pos c12]) hR7)⟩) d_33_23_32
  ·
    have b14 : q_F (lx4.toInt < x4.toInt) := (q_nleI c12)
    refine lv_aload_n hx hb d_33_23_13 rfl (lv_at hl 2 rfl) ?_
    refine lv_iload hx hb d_33_23_14 (lv_at hl 0 rfl) ?_
    refine q_sbal (i := 11) (v := (([98, 66] : List Int32).getD lx4.toNatClampNeg 0)) C0 V rfl (show vp_in lx4 2 from q_ix (x := lx4.toInt) rfl (by have t1 : 0 ≤ x3.toInt := pre0; have t2 : x3.toInt ≤ lx4.toInt := i5; omega) (by have t1 : 0 ≤ x3.toInt := pre0; have t2 : x3.toInt ≤ lx4.toInt := i5; have t3 : x4.toInt ≤ 2 := pre1; have t4 : lx4.toInt < x4.toInt := b14; omega)) rfl d_33_23_16 ?_
    obtain ⟨a15, e16⟩ := q_nm ((([98, 66] : List Int32).getD lx4.toNatClampNeg 0) : Int32)
    refine q_ti (v := a15) e16 ?_
    refine lv_iload hx hb d_33_23_17 (lv_at hl 1 rfl) ?_
    refine lv_icmp_ne (tgt := 25) hx hb d_33_23_19 (by decide) (fun c17 => ?_) (fun c17 => ?_)
    ·
      obtain ⟨a19, e20⟩ := q_nm (lx4 + 1 : Int32)
      have b21 : q_F (a19.toInt = lx4.toInt + 1) := (by rw [← e20]; exact q_addI (y := 1) rfl (by decide) (by have _ := q_lo32 (x := lx4); have _ := q_hi32 (x := lx4); have t1 : lx4.toInt < x4.toInt := b14; have _ := q_lo32 (x := x4); have _ := q_hi32 (x := x4); omega) (by have _ := q_lo32 (x := lx4); have _ := q_hi32 (x := lx4); have t1 : lx4.toInt < x4.toInt := b14; have _ := q_lo32 (x := x4); have _ := q_hi32 (x := x4); omega))
      refine lv_iinc (v := a19) (lv' := [(5, .int a19), (4, .int a1), (0, .ref (g (9 + 2 * 11))), (3, .int x4)]) hx hb d_33_23_25 hl (k := 0) rfl (e20) (by decide) rfl (fun ls hl => ?_)
      refine lv_goto (tgt := 7) hx hb d_33_23_28 (by decide) ?_
      exact ih6 ((a19 : Int32)) _ _ _ ws (show (2 - a19.toInt).toNat < (2 - lx4.toInt).toNat from by have t1 : a19.toInt = lx4.toInt + 1 := b21; have t2 : x4.toInt ≤ 2 := pre1; have t3 : lx4.toInt < x4.toInt := b14; omega) ⟨(show q_F (x3.toInt ≤ a19.toInt) from (show x3.toInt ≤ a19.toInt from by have t1 : x3.toInt ≤ lx4.toInt := i5; have t2 : a19.toInt = lx4.toInt + 1 := b21; omega)), V, q_lw hl (q_lw1 0 rfl (q_lw1 1 rfl (q_lw1 2 rfl (q_lw1 3 rfl q_lw0)))), ⟨fm11, Nat.lt_of_lt_of_le (show (2 - a19.toInt).toNat < (2 - lx4.toInt).toNat from by have t1 : a19.toInt = lx4.toInt + 1 := b21; have t2 : x4.toInt ≤ 2 := pre1; have t3 : lx4.toInt < x4.toInt := b14; omega) (Nat.le_of_lt_succ hf10), (show F_jLat_indexOfChar_11_L7 x2 x3 x4 a1 fm11 a19 = (F_jLat_indexOfChar_11 x2 x3 x4) from Eq.trans (by have c17x := c17; rw [← e16] at c17x; rw [← e20, F_jLat_indexOfChar_11_L7.eq_2, if_neg c12, if_neg c17x]) hR7)⟩⟩
    ·
      refine lv_iload hx hb d_33_23_22 (lv_at hl 0 rfl) ?_
      exact q_reti C0 V (⟨rfl, (show 0 ≤ lx4.toInt + 1 from (by have t1 : 0 ≤ x3.toInt := pre0; have t2 : x3.toInt ≤ lx4.toInt := i5; omega)), (show lx4.toInt ≤ 1 from (by have t1 : x4.toInt ≤ 2 := pre1; have t2 : lx4.toInt < x4.toInt := b14; omega)), (show lx4 = (F_jLat_indexOfChar_11 x2 x3 x4) from Eq.trans (by have c17x := c17; rw [← e16] at c17x; rw [F_jLat_indexOfChar_11_L7.eq_2, if_neg c12, if_pos c17x]) hR7)⟩) d_33_23_24
def F_jLat_indexOf_11 (x2 : Int32) (x3 : Int32) (x4 : Int32) : Int32 := if ((F_jLat_canEncode x2) : Int32) = (0 : Int32) then ((-1 : Int32)) else (if (if x3 < 0 then 0 else x3 : Int32) < (if 2 < x4 then 2 else x4 : Int32) then (((F_jLat_indexOfChar_11 x2 (if x3 < 0 then 0 else x3 : Int32) (if 2 < x4 then 2 else x4 : Int32)) : Int32)) else ((-1 : Int32)))
set_option maxRecDepth 100000 in
set_option maxHeartbeats 4000000 in
theorem X_jLat_indexOf_11 (l : Launch) (D : va_G) (g : Nat → ClassId) (q : Nat → Nat) (ws : va_W) (x2 : Int32) (x3 : Int32) (x4 : Int32) (hI : q_I (nsh g q) q ws) (pre0 : 0 ≤ x3.toInt) (pre1 : x4.toInt ≤ 2) : q_mI l y_jLat_indexOf prog_33_method_22_code 4 (.int) 2 0 0 D g [.ref (g (9 + 2 * 11)), .int x2, .int x3, .int x4] ws (fun r u => ws = u ∧ (0 ≤ r.toInt + 1) ∧ (r.toInt ≤ 1) ∧ r = (F_jLat_indexOf_11 x2 x3 x4)) := by
  intro sz
  refine q_into (by decide) (Nat.le_of_ble_eq_true rfl) ?_
  intro p e s m below meth c ls hsz C0 V hl
  have hx := C0.1
  have hb := C0.2.1
  clear pre0
  clear pre1
  have hl : lv_has ls 4 [(0, .ref (g (9 + 2 * 11))), (1, .int x2), (2, .int x3), (3, .int x4)] := hl
  refine lv_iload_n hx hb d_33_22_0 rfl (lv_at hl 1 rfl) ?_
  refine q_goi V (q_runS (As := [.int x2]) (rest := []) (d := 1) (mc := 0) (ms := 0) C0 V rfl LS_jLat_88 (X_jLat_canEncode l D g q ws  x2 hI   _) rfl hl.1 rfl (Nat.le_of_ble_eq_true rfl) ⟨by decide, by decide⟩ ⟨Nat.le_of_ble_eq_true rfl, Nat.le_of_ble_eq_true rfl⟩ d_33_22_1) (fun a3 u1 H locs hp2 V => ?_)
  obtain ⟨rfl, b4, b5, hE6⟩ := hp2
  have e7 : a3 = (F_jLat_canEncode x2) := hE6
  clear b4
  clear b5
  refine lv_if_ne (tgt := 9) hx hb d_33_22_4 (by decide) (fun c8 => ?_) (fun c8 => ?_)
  ·
    refine lv_iload_n hx hb d_33_22_9 rfl (lv_at hl 2 rfl) ?_
    refine lv_iconst (v := 0) hx hb d_33_22_10 (by decide) ?_
    refine q_max C0 hl.1 rfl w_1773 w_803 w_7 w_804 ⟨Nat.le_of_ble_eq_true rfl, Nat.le_of_ble_eq_true rfl⟩ ⟨Nat.le_of_ble_eq_true rfl, Nat.le_of_ble_eq_true rfl⟩ d_33_22_11 ?_
    obtain ⟨a10, e11⟩ := q_nm (if x3 < 0 then 0 else x3 : Int32)
    refine q_ti (v := a10) e11 ?_
    have b12 : q_F (x3.toInt ≤ a10.toInt ∧ 0 ≤ a10.toInt ∧ (a10.toInt = x3.toInt ∨ a10.toInt = 0)) := (by rw [← e11]; show x3.toInt ≤ (if x3 < 0 then 0 else x3 : Int32).toInt ∧ 0 ≤ (if x3 < 0 then 0 else x3 : Int32).toInt ∧ ((if x3 < 0 then 0 else x3 : Int32).toInt = x3.toInt ∨ (if x3 < 0 then 0 else x3 : Int32).toInt = 0); exact (by have y1 : (0 : Int32).toInt = 0 := rfl; have z := s_max (a := x3) (b := 0); omega))
    refine lv_istore_n (lv' := [(2, .int a10), (0, .ref (g (9 + 2 * 11))), (1, .int x2), (3, .int x4)]) hx hb d_33_22_14 rfl hl (by decide) rfl (fun ls hl => ?_)
    refine lv_iload_n hx hb d_33_22_15 rfl (lv_at hl 3 rfl) ?_
    refine lv_aload_n hx hb d_33_22_16 rfl (lv_at hl 1 rfl) ?_
    refine q_slen (i := 11) (v := 2) C0 V rfl (by decide) d_33_22_17 ?_
    refine q_min C0 hl.1 rfl w_1774 w_774 w_7 w_775 ⟨Nat.le_of_ble_eq_true rfl, Nat.le_of_ble_eq_true rfl⟩ ⟨Nat.le_of_ble_eq_true rfl, Nat.le_of_ble_eq_true rfl⟩ d_33_22_18 ?_
    obtain ⟨a13, e14⟩ := q_nm (if 2 < x4 then 2 else x4 : Int32)
    refine q_ti (v := a13) e14 ?_
    have b15 : q_F (a13.toInt ≤ x4.toInt ∧ a13.toInt ≤ 2 ∧ (a13.toInt = x4.toInt ∨ a13.toInt = 2)) := (by rw [← e14]; show (if 2 < x4 then 2 else x4 : Int32).toInt ≤ x4.toInt ∧ (if 2 < x4 then 2 else x4 : Int32).toInt ≤ 2 ∧ ((if 2 < x4 then 2 else x4 : Int32).toInt = x4.toInt ∨ (if 2 < x4 then 2 else x4 : Int32).toInt = 2); exact (by have y1 : (2 : Int32).toInt = 2 := rfl; have z := s_min (a := x4) (b := 2); omega))
    refine lv_istore_n (lv' := [(3, .int a13), (2, .int a10), (0, .ref (g (9 + 2 * 11))), (1, .int x2)]) hx hb d_33_22_21 rfl hl (by decide) rfl (fun ls hl => ?_)
    refine lv_iload_n hx hb d_33_22_22 rfl (lv_at hl 1 rfl) ?_
    refine lv_iload_n hx hb d_33_22_23 rfl (lv_at hl 0 rfl) ?_
    refine lv_icmp_lt (tgt := 29) hx hb d_33_22_24 (by decide) (fun c16 => ?_) (fun c16 => ?_)
    ·
      refine lv_aload_n hx hb d_33_22_29 rfl (lv_at hl 2 rfl) ?_
      refine lv_iload_n hx hb d_33_22_30 rfl (lv_at hl 3 rfl) ?_
      refine lv_iload_n hx hb d_33_22_31 rfl (lv_at hl 1 rfl) ?_
      refine lv_iload_n hx hb d_33_22_32 rfl (lv_at hl 0 rfl) ?_
      refine q_goi V (q_runS (As := [.ref (g (9 + 2 * 11)), .int x2, .int a10, .int a13]) (rest := []) (d := 1) (mc := 0) (ms := 0) C0 V rfl LS_jLat_95 (X_jLat_indexOfChar_11 l D g q ws  x2 a10 a13 hI  (by have t1 : x3.toInt ≤ a10.toInt ∧ 0 ≤ a10.toInt ∧ (a10.toInt = x3.toInt ∨ a10.toInt = 0) := b12; omega) (by have t1 : a13.toInt ≤ x4.toInt ∧ a13.toInt ≤ 2 ∧ (a13.toInt = x4.toInt ∨ a13.toInt = 2) := b15; omega) _) rfl hl.1 rfl (Nat.le_of_ble_eq_true rfl) ⟨by decide, by decide⟩ ⟨Nat.le_of_ble_eq_true rfl, Nat.le_of_ble_eq_true rfl⟩ d_33_22_33) (fun a20 u18 H locs hp19 V => ?_)
      obtain ⟨rfl, b21, b22, hE23⟩ := hp19
      have e24 : a20 = (F_jLat_indexOfChar_11 x2 a10 a13) := hE23
      replace b21 : q_F (0 ≤ a20.toInt + 1) := b21
      replace b22 : q_F (a20.toInt ≤ 1) := b22
      exact q_reti C0 V (⟨rfl, (show 0 ≤ a20.toInt + 1 from (by first | with_reducible exact q_fe b21 | (have t1 : 0 ≤ a20.toInt + 1 := b21; omega))), (show a20.toInt ≤ 1 from (by first | with_reducible exact q_fe b22 | (have t1 : a20.toInt ≤ 1 := b22; omega))), (show a20 = (F_jLat_indexOf_11 x2 x3 x4) from (by have c8x := c8; rw [e7] at c8x; have c16x := c16; rw [← e14, ← e11] at c16x; rw [e24, ← e14, ← e11, F_jLat_indexOf_11.eq_1, if_neg c8x, if_pos c16x]))⟩) d_33_22_36
    ·
      refine lv_iconst (v := (-1)) hx hb d_33_22_27 (by decide) ?_
      exact q_reti C0 V (⟨rfl, (show 0 ≤ (-1 : Int32).toInt + 1 from (by have z3 : (-1 : Int32).toInt = -1 := rfl; omega)), (show (-1 : Int32).toInt ≤ 1 from (by have z3 : (-1 : Int32).toInt = -1 := rfl; omega)), (show (-1 : Int32) = (F_jLat_indexOf_11 x2 x3 x4) from (by have c8x := c8; rw [e7] at c8x; have c16x := c16; rw [← e14, ← e11] at c16x; rw [F_jLat_indexOf_11.eq_1, if_neg c8x, if_neg c16x]))⟩) d_33_22_28
  ·
    refine lv_iconst (v := (-1)) hx hb d_33_22_7 (by decide) ?_
    exact q_reti C0 V (⟨rfl, (show 0 ≤ (-1 : Int32).toInt + 1 from (by have z3 : (-1 : Int32).toInt = -1 := rfl; omega)), (show (-1 : Int32).toInt ≤ 1 from (by have z3 : (-1 : Int32).toInt = -1 := rfl; omega)), (show (-1 : Int32) = (F_jLat_indexOf_11 x2 x3 x4) from (by have c8x := c8; rw [e7] at c8x; rw [F_jLat_indexOf_11.eq_1, if_pos c8x]))⟩) d_33_22_8
def F_jStr_indexOf_III_11 (x2 : Int32) (x3 : Int32) : Int32 := ((F_jLat_indexOf_11 x2 x3 (2 : Int32)) : Int32)
set_option maxRecDepth 100000 in
set_option maxHeartbeats 4000000 in
theorem X_jStr_indexOf_III_11 (l : Launch) (D : va_G) (g : Nat → ClassId) (q : Nat → Nat) (ws : va_W) (x2 : Int32) (x3 : Int32) (hI : q_I (nsh g q) q ws) (pre0 : 0 ≤ x3.toInt) : q_mI l y_jStr_indexOf_III prog_31_method_80_code 3 (.int) 3 0 0 D g [.ref (g (8 + 2 * 11)), .int x2, .int x3] ws (fun r u => ws = u ∧ (0 ≤ r.toInt + 1) ∧ (r.toInt ≤ 1) ∧ r = (F_jStr_indexOf_III_11 x2 x3)) := by
  intro sz
  refine q_into (by decide) (Nat.le_of_ble_eq_true rfl) ?_
  intro p e s m below meth c ls hsz C0 V hl
  have hx := C0.1
  have hb := C0.2.1
  replace pre0 : q_F (0 ≤ x3.toInt) := pre0
  have hl : lv_has ls 3 [(0, .ref (g (8 + 2 * 11))), (1, .int x2), (2, .int x3)] := hl
  refine lv_aload_n hx hb d_31_80_0 rfl (lv_at hl 0 rfl) ?_
  refine q_goi V (q_runVs (As := []) (rest := []) (d := 1) (mc := 0) (ms := 0) (i := 11) C0 V rfl LV_jStr_492 (T_jStr_isLatin1_11 l D g q ws   hI   _) rfl rfl rfl hl.1 rfl (Nat.le_of_ble_eq_true rfl) ⟨by decide, by decide⟩ ⟨Nat.le_of_ble_eq_true rfl, Nat.le_of_ble_eq_true rfl⟩ d_31_80_1) (fun a3 u1 H locs hp2 V => ?_)
  obtain ⟨rfl, b4, b5⟩ := hp2
  replace b4 : q_F (1 ≤ a3.toInt) := b4
  replace b5 : q_F (a3.toInt ≤ 1) := b5
  obtain rfl : a3 = (1 : Int32) := q_Ieq (x := a3.toInt) (y := 1) rfl (by decide) (by have t1 : 1 ≤ a3.toInt := b4; have t2 : a3.toInt ≤ 1 := b5; omega)
  refine lv_if_eq (tgt := 23) hx hb d_31_80_4 (by decide) (fun c7 => absurd c7 (by decide)) (fun c7 => ?_)
  refine lv_aload_n hx hb d_31_80_7 rfl (lv_at hl 0 rfl) ?_
  refine q_sval (i := 11) C0 V rfl rfl w_1018 d_31_80_8 ?_
  refine lv_iload_n hx hb d_31_80_11 rfl (lv_at hl 1 rfl) ?_
  refine lv_iload_n hx hb d_31_80_12 rfl (lv_at hl 2 rfl) ?_
  refine lv_aload_n hx hb d_31_80_13 rfl (lv_at hl 0 rfl) ?_
  refine q_goi V (q_runVs (As := []) (rest := [.int x3, .int x2, .ref (g (9 + 2 * 11))]) (d := 2) (mc := 0) (ms := 0) (i := 11) C0 V rfl LV_jStr_505 (T_jStr_length_11 l D g q ws   hI   _) rfl rfl rfl hl.1 rfl (Nat.le_of_ble_eq_true rfl) ⟨by decide, by decide⟩ ⟨Nat.le_of_ble_eq_true rfl, Nat.le_of_ble_eq_true rfl⟩ d_31_80_14) (fun a10 u8 H locs hp9 V => ?_)
  obtain ⟨rfl, b11, b12⟩ := hp9
  replace b11 : q_F (2 ≤ a10.toInt) := b11
  replace b12 : q_F (a10.toInt ≤ 2) := b12
  obtain rfl : a10 = (2 : Int32) := q_Ieq (x := a10.toInt) (y := 2) rfl (by decide) (by have t1 : 2 ≤ a10.toInt := b11; have t2 : a10.toInt ≤ 2 := b12; omega)
  refine q_goi V (q_runS (As := [.ref (g (9 + 2 * 11)), .int x2, .int x3, .int 2]) (rest := []) (d := 2) (mc := 0) (ms := 0) C0 V rfl LS_jStr_637 (X_jLat_indexOf_11 l D g q ws  x2 x3 2 hI  (by have y0 : (2 : Int32).toInt = 2 := rfl; have t1 : 0 ≤ x3.toInt := pre0; omega) (by have y0 : (2 : Int32).toInt = 2 := rfl; omega) _) rfl hl.1 rfl (Nat.le_of_ble_eq_true rfl) ⟨by decide, by decide⟩ ⟨Nat.le_of_ble_eq_true rfl, Nat.le_of_ble_eq_true rfl⟩ d_31_80_17) (fun a16 u14 H locs hp15 V => ?_)
  obtain ⟨rfl, b17, b18, hE19⟩ := hp15
  have e20 : a16 = (F_jLat_indexOf_11 x2 x3 (2 : Int32)) := hE19
  replace b17 : q_F (0 ≤ a16.toInt + 1) := b17
  replace b18 : q_F (a16.toInt ≤ 1) := b18
  refine lv_goto (tgt := 36) hx hb d_31_80_20 (by decide) ?_
  exact q_reti C0 V (⟨rfl, (show 0 ≤ a16.toInt + 1 from (by first | with_reducible exact q_fe b17 | (have t1 : 0 ≤ a16.toInt + 1 := b17; omega))), (show a16.toInt ≤ 1 from (by first | with_reducible exact q_fe b18 | (have t1 : a16.toInt ≤ 1 := b18; omega))), (show a16 = (F_jStr_indexOf_III_11 x2 x3) from (by rw [e20, F_jStr_indexOf_III_11.eq_1]))⟩) d_31_80_36
def F_jStr_indexOf_II_11 (x2 : Int32) : Int32 := ((F_jStr_indexOf_III_11 x2 (0 : Int32)) : Int32)
set_option maxRecDepth 100000 in
set_option maxHeartbeats 4000000 in
theorem X_jStr_indexOf_II_11 (l : Launch) (D : va_G) (g : Nat → ClassId) (q : Nat → Nat) (ws : va_W) (x2 : Int32) (hI : q_I (nsh g q) q ws) : q_mI l y_jStr_indexOf_II prog_31_method_79_code 2 (.int) 4 0 0 D g [.ref (g (8 + 2 * 11)), .int x2] ws (fun r u => ws = u ∧ (0 ≤ r.toInt + 1) ∧ (r.toInt ≤ 1) ∧ r = (F_jStr_indexOf_II_11 x2)) := by
  intro sz
  refine q_into (by decide) (Nat.le_of_ble_eq_true rfl) ?_
  intro p e s m below meth c ls hsz C0 V hl
  have hx := C0.1
  have hb := C0.2.1
  have hl : lv_has ls 2 [(0, .ref (g (8 + 2 * 11))), (1, .int x2)] := hl
  refine lv_aload_n hx hb d_31_79_0 rfl (lv_at hl 0 rfl) ?_
  refine lv_iload_n hx hb d_31_79_1 rfl (lv_at hl 1 rfl) ?_
  refine lv_iconst (v := 0) hx hb d_31_79_2 (by decide) ?_
  refine q_goi V (q_runVs (As := [.int x2, .int 0]) (rest := []) (d := 3) (mc := 0) (ms := 0) (i := 11) C0 V rfl LV_jStr_633 (X_jStr_indexOf_III_11 l D g q ws  x2 0 hI  (by have y0 : (0 : Int32).toInt = 0 := rfl; omega) _) rfl rfl rfl hl.1 rfl (Nat.le_of_ble_eq_true rfl) ⟨by decide, by decide⟩ ⟨Nat.le_of_ble_eq_true rfl, Nat.le_of_ble_eq_true rfl⟩ d_31_79_3) (fun a3 u1 H locs hp2 V => ?_)
  obtain ⟨rfl, b4, b5, hE6⟩ := hp2
  have e7 : a3 = (F_jStr_indexOf_III_11 x2 (0 : Int32)) := hE6
  replace b4 : q_F (0 ≤ a3.toInt + 1) := b4
  replace b5 : q_F (a3.toInt ≤ 1) := b5
  exact q_reti C0 V (⟨rfl, (show 0 ≤ a3.toInt + 1 from (by first | with_reducible exact q_fe b4 | (have t1 : 0 ≤ a3.toInt + 1 := b4; omega))), (show a3.toInt ≤ 1 from (by first | with_reducible exact q_fe b5 | (have t1 : a3.toInt ≤ 1 := b5; omega))), (show a3 = (F_jStr_indexOf_II_11 x2) from (by rw [e7, F_jStr_indexOf_II_11.eq_1]))⟩) d_31_79_6
def F_Dir_isOneOf_11 (t0_0 : Int32) (t0_1 : Int32) (t0_2 : Int32) (t0_3 : Int32) (t0_4 : Int32) (t0_5 : Int32) (t0_6 : Int32) : Int32 := if t0_4 < (0 : Int32) then ((0 : Int32)) else (if ((F_jStr_indexOf_II_11 ((t0_4.toUInt32 % 65536).toInt32 : Int32)) : Int32) < (0 : Int32) then ((0 : Int32)) else ((1 : Int32)))
set_option maxRecDepth 100000 in
set_option maxHeartbeats 4000000 in
theorem X_Dir_isOneOf_11 (l : Launch) (D : va_G) (g : Nat → ClassId) (q : Nat → Nat) (ws : va_W) (hI : q_I (nsh g q) q ws) (t0_0 : Int32) (t0_1 : Int32) (t0_2 : Int32) (t0_3 : Int32) (t0_4 : Int32) (t0_5 : Int32) (t0_6 : Int32) (hT0 : ws[47]? = (some (q 47, .inr (10, [.int t0_0, .int t0_1, .int t0_2, .int t0_3, .int t0_4, .int t0_5, .ref (q 1), .int t0_6])) : Option (Nat × va_E))) : q_mI l y_Dir_isOneOf prog_6_method_9_code 2 (.boolean) 5 0 0 D g [.ref (q 47), .ref (g (8 + 2 * 11))] ws (fun r u => ws = u ∧ (0 ≤ r.toInt) ∧ (r.toInt ≤ 1) ∧ r = (F_Dir_isOneOf_11 t0_0 t0_1 t0_2 t0_3 t0_4 t0_5 t0_6)) := by
  intro sz
  refine q_into (by decide) (Nat.le_of_ble_eq_true rfl) ?_
  intro p e s m below meth c ls hsz C0 V hl
  have hx := C0.1
  have hb := C0.2.1
  have hZ9 := (n_w47 hI hT0).2
  obtain ⟨-, btt0_6⟩ := hZ9
  clear btt0_6
  have hl : lv_has ls 2 [(0, .ref (q 47)), (1, .ref (g (8 + 2 * 11)))] := hl
  refine lv_aload_n hx hb d_6_9_0 rfl (lv_at hl 0 rfl) ?_
  refine q_get (ci := 10) (j := 4) (v := .int t0_4) C0 V i_Dir rfl rfl hT0 (by decide) w_361 rfl d_6_9_1 ?_
  refine lv_if_lt (tgt := 23) hx hb d_6_9_4 (by decide) (fun c12 => ?_) (fun c12 => ?_)
  ·
    refine lv_iconst (v := 0) hx hb d_6_9_23 (by decide) ?_
    exact q_retz C0 V (by decide) (⟨rfl, (show 0 ≤ (0 : Int32).toInt from (by have z7 : (0 : Int32).toInt = 0 := rfl; omega)), (show (0 : Int32).toInt ≤ 1 from (by have z7 : (0 : Int32).toInt = 0 := rfl; omega)), (show (0 : Int32) = (F_Dir_isOneOf_11 t0_0 t0_1 t0_2 t0_3 t0_4 t0_5 t0_6) from (by rw [F_Dir_isOneOf_11.eq_1, if_pos c12]))⟩) d_6_9_24
  ·
    refine lv_aload_n hx hb d_6_9_7 rfl (lv_at hl 1 rfl) ?_
    refine lv_aload_n hx hb d_6_9_8 rfl (lv_at hl 0 rfl) ?_
    refine q_get (ci := 10) (j := 4) (v := .int t0_4) C0 V i_Dir rfl rfl hT0 (by decide) w_361 rfl d_6_9_9 ?_
    refine lv_i2c hx hb d_6_9_12 rfl ?_
    obtain ⟨a15, e16⟩ := q_nm ((t0_4.toUInt32 % 65536).toInt32 : Int32)
    refine q_ti (v := a15) e16 ?_
    refine q_goi V (q_runVs (As := [.int a15]) (rest := []) (d := 4) (mc := 0) (ms := 0) (i := 11) C0 V rfl LV_Dir_63 (X_jStr_indexOf_II_11 l D g q ws  a15 hI   _) rfl rfl rfl hl.1 rfl (Nat.le_of_ble_eq_true rfl) ⟨by decide, by decide⟩ ⟨Nat.le_of_ble_eq_true rfl, Nat.le_of_ble_eq_true rfl⟩ d_6_9_13) (fun a20 u18 H locs hp19 V => ?_)
    obtain ⟨rfl, b21, b22, hE23⟩ := hp19
    have e24 : a20 = (F_jStr_indexOf_II_11 a15) := hE23
    clear b21
    clear b22
    refine lv_if_lt (tgt := 23) hx hb d_6_9_16 (by decide) (fun c25 => ?_) (fun c25 => ?_)
    ·
      refine lv_iconst (v := 0) hx hb d_6_9_23 (by decide) ?_
      exact q_retz C0 V (by decide) (⟨rfl, (show 0 ≤ (0 : Int32).toInt from (by have z7 : (0 : Int32).toInt = 0 := rfl; omega)), (show (0 : Int32).toInt ≤ 1 from (by have z7 : (0 : Int32).toInt = 0 := rfl; omega)), (show (0 : Int32) = (F_Dir_isOneOf_11 t0_0 t0_1 t0_2 t0_3 t0_4 t0_5 t0_6) from (by have c25x := c25; rw [e24, ← e16] at c25x; rw [F_Dir_isOneOf_11.eq_1, if_neg c12, if_pos c25x]))⟩) d_6_9_24
    ·
      refine lv_iconst (v := 1) hx hb d_6_9_19 (by decide) ?_
      refine lv_goto (tgt := 24) hx hb d_6_9_20 (by decide) ?_
      exact q_retz C0 V (by decide) (⟨rfl, (show 0 ≤ (1 : Int32).toInt from (by have z7 : (1 : Int32).toInt = 1 := rfl; omega)), (show (1 : Int32).toInt ≤ 1 from (by have z7 : (1 : Int32).toInt = 1 := rfl; omega)), (show (1 : Int32) = (F_Dir_isOneOf_11 t0_0 t0_1 t0_2 t0_3 t0_4 t0_5 t0_6) from (by have c25x := c25; rw [e24, ← e16] at c25x; rw [F_Dir_isOneOf_11.eq_1, if_neg c12, if_neg c25x]))⟩) d_6_9_24
def F_jLat_indexOfChar_14_L7 (x2 : Int32) (x3 : Int32) (x4 : Int32) (a1 : Int32) : Nat → Int32 → Int32
  | 0, _ => default
  | fm + 1, lx4 => if x4 ≤ lx4 then ((-1 : Int32)) else (if ((([115, 83] : List Int32).getD lx4.toNatClampNeg 0) : Int32) = a1 then (lx4) else (F_jLat_indexOfChar_14_L7 x2 x3 x4 a1 fm (lx4 + 1 : Int32)))
def F_jLat_indexOfChar_14 (x2 : Int32) (x3 : Int32) (x4 : Int32) : Int32 := F_jLat_indexOfChar_14_L7 x2 x3 x4 (x2.toInt8.toInt32 : Int32) ((2 - x3.toInt).toNat + 1) x3
set_option maxRecDepth 100000 in
set_option maxHeartbeats 4000000 in
theorem X_jLat_indexOfChar_14 (l : Launch) (D : va_G) (g : Nat → ClassId) (q : Nat → Nat) (ws : va_W) (x2 : Int32) (x3 : Int32) (x4 : Int32) (hI : q_I (nsh g q) q ws) (pre0 : 0 ≤ x3.toInt) (pre1 : x4.toInt ≤ 2) : q_mI l y_jLat_indexOfChar prog_33_method_23_code 6 (.int) 1 0 0 D g [.ref (g (9 + 2 * 14)), .int x2, .int x3, .int x4] ws (fun r u => ws = u ∧ (0 ≤ r.toInt + 1) ∧ (r.toInt ≤ 1) ∧ r = (F_jLat_indexOfChar_14 x2 x3 x4)) := by
  intro sz
  refine q_into (by decide) (Nat.le_of_ble_eq_true rfl) ?_
  intro p e s m below meth c ls hsz C0 V hl
  have hx := C0.1
  have hb := C0.2.1
  replace pre0 : q_F (0 ≤ x3.toInt) := pre0
  replace pre1 : q_F (x4.toInt ≤ 2) := pre1
  have hl : lv_has ls 6 [(0, .ref (g (9 + 2 * 14))), (1, .int x2), (2, .int x3), (3, .int x4)] := hl
  refine lv_iload_n hx hb d_33_23_0 rfl (lv_at hl 1 rfl) ?_
  refine lv_i2b hx hb d_33_23_1 rfl ?_
  obtain ⟨a1, e2⟩ := q_nm (x2.toInt8.toInt32 : Int32)
  refine q_ti (v := a1) e2 ?_
  refine lv_istore (lv' := [(4, .int a1), (0, .ref (g (9 + 2 * 14))), (1, .int x2), (2, .int x3), (3, .int x4)]) hx hb d_33_23_2 hl (by decide) rfl (fun ls hl => ?_)
  refine lv_iload_n hx hb d_33_23_4 rfl (lv_at hl 3 rfl) ?_
  refine lv_istore (lv' := [(5, .int x3), (4, .int a1), (0, .ref (g (9 + 2 * 14))), (1, .int x2), (2, .int x3), (3, .int x4)]) hx hb d_33_23_5 hl (by decide) rfl (fun ls hl => ?_)
  refine q_loop (X := Int32) (fun z H locs ls _ => q_F (x3.toInt ≤ z.toInt) ∧ q_Wd D g (va_A ws sz) s ws H locs ∧ lv_has ls 6 [(5, .int z), (4, .int a1), (0, .ref (g (9 + 2 * 14))), (3, .int x4)] ∧ (∃ n, (2 - z.toInt).toNat < n ∧ F_jLat_indexOfChar_14_L7 x2 x3 x4 a1 n z = (F_jLat_indexOfChar_14 x2 x3 x4))) (fun z => (2 - z.toInt).toNat) ?_ ((x3 : Int32)) _ _ _ ws ⟨(show q_F (x3.toInt ≤ x3.toInt) from (show x3.toInt ≤ x3.toInt from by omega)), V, q_lw hl (q_lw1 0 rfl (q_lw1 1 rfl (q_lw1 2 rfl (q_lw1 5 rfl q_lw0)))), ⟨((2 - x3.toInt).toNat + 1), Nat.lt_succ_self _, (show F_jLat_indexOfChar_14_L7 x2 x3 x4 a1 ((2 - x3.toInt).toNat + 1) x3 = (F_jLat_indexOfChar_14 x2 x3 x4) from (by rw [← e2, F_jLat_indexOfChar_14.eq_1]))⟩⟩
  rintro lx4 H locs ls _ ⟨i5, V, hl, ⟨fu9, hf10, hR7⟩⟩ ih6
  obtain ⟨fm11, rfl⟩ : ∃ m, fu9 = m + 1 := ⟨fu9 - 1, by omega⟩
  replace i5 : q_F (x3.toInt ≤ lx4.toInt) := i5
  replace hl : lv_has ls 6 [(5, .int lx4), (4, .int a1), (0, .ref (g (9 + 2 * 14))), (3, .int x4)] := hl
  refine lv_iload hx hb d_33_23_7 (lv_at hl 0 rfl) ?_
  refine lv_iload_n hx hb d_33_23_9 rfl (lv_at hl 3 rfl) ?_
  refine lv_icmp_ge (tgt := 31) hx hb d_33_23_10 (by decide) (fun c12 => ?_) (fun c12 => ?_)
  ·
    refine lv_iconst (v := (-1)) hx hb d_33_23_31 (by decide) ?_
    exact q_reti C0 V (⟨rfl, (show 0 ≤ (-1 : Int32).toInt + 1 from (by have z3 : (-1 : Int32).toInt = -1 := rfl; omega)), (show (-1 : Int32).toInt ≤ 1 from (by have z3 : (-1 : Int32).toInt = -1 := rfl; omega)), (show (-1 : Int32) = (F_jLat_indexOfChar_14 x2 x3 x4) from Eq.trans (by rw [F_jLat_indexOfChar_14_L7.eq_2, if_pos c12]) hR7)⟩) d_33_23_32
  ·
    have b14 : q_F (lx4.toInt < x4.toInt) := (q_nleI c12)
    refine lv_aload_n hx hb d_33_23_13 rfl (lv_at hl 2 rfl) ?_
    refine lv_iload hx hb d_33_23_14 (lv_at hl 0 rfl) ?_
    refine q_sbal (i := 14) (v := (([115, 83] : List Int32).getD lx4.toNatClampNeg 0)) C0 V rfl (show vp_in lx4 2 from q_ix (x := lx4.toInt) rfl (by have t1 : 0 ≤ x3.toInt := pre0; have t2 : x3.toInt ≤ lx4.toInt := i5; omega) (by have t1 : 0 ≤ x3.toInt := pre0; have t2 : x3.toInt ≤ lx4.toInt := i5; have t3 : x4.toInt ≤ 2 := pre1; have t4 : lx4.toInt < x4.toInt := b14; omega)) rfl d_33_23_16 ?_
    obtain ⟨a15, e16⟩ := q_nm ((([115, 83] : List Int32).getD lx4.toNatClampNeg 0) : Int32)
    refine q_ti (v := a15) e16 ?_
    refine lv_iload hx hb d_33_23_17 (lv_at hl 1 rfl) ?_
    refine lv_icmp_ne (tgt := 25) hx hb d_33_23_19 (by decide) (fun c17 => ?_) (fun c17 => ?_)
    ·
      obtain ⟨a19, e20⟩ := q_nm (lx4 + 1 : Int32)
      have b21 : q_F (a19.toInt = lx4.toInt + 1) := (by rw [← e20]; exact q_addI (y := 1) rfl (by decide) (by have _ := q_lo32 (x := lx4); have _ := q_hi32 (x := lx4); have t1 : lx4.toInt < x4.toInt := b14; have _ := q_lo32 (x := x4); have _ := q_hi32 (x := x4); omega) (by have _ := q_lo32 (x := lx4); have _ := q_hi32 (x := lx4); have t1 : lx4.toInt < x4.toInt := b14; have _ := q_lo32 (x := x4); have _ := q_hi32 (x := x4); omega))
      refine lv_iinc (v := a19) (lv' := [(5, .int a19), (4, .int a1), (0, .ref (g (9 + 2 * 14))), (3, .int x4)]) hx hb d_33_23_25 hl (k := 0) rfl (e20) (by decide) rfl (fun ls hl => ?_)
      refine lv_goto (tgt := 7) hx hb d_33_23_28 (by decide) ?_
      exact ih6 ((a19 : Int32)) _ _ _ ws (show (2 - a19.toInt).toNat < (2 - lx4.toInt).toNat from by have t1 : a19.toInt = lx4.toInt + 1 := b21; have t2 : x4.toInt ≤ 2 := pre1; have t3 : lx4.toInt < x4.toInt := b14; omega) ⟨(show q_F (x3.toInt ≤ a19.toInt) from (show x3.toInt ≤ a19.toInt from by have t1 : x3.toInt ≤ lx4.toInt := i5; have t2 : a19.toInt = lx4.toInt + 1 := b21; omega)), V, q_lw hl (q_lw1 0 rfl (q_lw1 1 rfl (q_lw1 2 rfl (q_lw1 3 rfl q_lw0)))), ⟨fm11, Nat.lt_of_lt_of_le (show (2 - a19.toInt).toNat < (2 - lx4.toInt).toNat from by have t1 : a19.toInt = lx4.toInt + 1 := b21; have t2 : x4.toInt ≤ 2 := pre1; have t3 : lx4.toInt < x4.toInt := b14; omega) (Nat.le_of_lt_succ hf10), (show F_jLat_indexOfChar_14_L7 x2 x3 x4 a1 fm11 a19 = (F_jLat_indexOfChar_14 x2 x3 x4) from Eq.trans (by have c17x := c17; rw [← e16] at c17x; rw [← e20, F_jLat_indexOfChar_14_L7.eq_2, if_neg c12, if_neg c17x]) hR7)⟩⟩
    ·
      refine lv_iload hx hb d_33_23_22 (lv_at hl 0 rfl) ?_
      exact q_reti C0 V (⟨rfl, (show 0 ≤ lx4.toInt + 1 from (by have t1 : 0 ≤ x3.toInt := pre0; have t2 : x3.toInt ≤ lx4.toInt := i5; omega)), (show lx4.toInt ≤ 1 from (by have t1 : x4.toInt ≤ 2 := pre1; have t2 : lx4.toInt < x4.toInt := b14; omega)), (show lx4 = (F_jLat_indexOfChar_14 x2 x3 x4) from Eq.trans (by have c17x := c17; rw [← e16] at c17x; rw [F_jLat_indexOfChar_14_L7.eq_2, if_neg c12, if_pos c17x]) hR7)⟩) d_33_23_24
def F_jLat_indexOf_14 (x2 : Int32) (x3 : Int32) (x4 : Int32) : Int32 := if ((F_jLat_canEncode x2) : Int32) = (0 : Int32) then ((-1 : Int32)) else (if (if x3 < 0 then 0 else x3 : Int32) < (if 2 < x4 then 2 else x4 : Int32) then (((F_jLat_indexOfChar_14 x2 (if x3 < 0 then 0 else x3 : Int32) (if 2 < x4 then 2 else x4 : Int32)) : Int32)) else ((-1 : Int32)))
set_option maxRecDepth 100000 in
set_option maxHeartbeats 4000000 in
theorem X_jLat_indexOf_14 (l : Launch) (D : va_G) (g : Nat → ClassId) (q : Nat → Nat) (ws : va_W) (x2 : Int32) (x3 : Int32) (x4 : Int32) (hI : q_I (nsh g q) q ws) (pre0 : 0 ≤ x3.toInt) (pre1 : x4.toInt ≤ 2) : q_mI l y_jLat_indexOf prog_33_method_22_code 4 (.int) 2 0 0 D g [.ref (g (9 + 2 * 14)), .int x2, .int x3, .int x4] ws (fun r u => ws = u ∧ (0 ≤ r.toInt + 1) ∧ (r.toInt ≤ 1) ∧ r = (F_jLat_indexOf_14 x2 x3 x4)) := by
  intro sz
  refine q_into (by decide) (Nat.le_of_ble_eq_true rfl) ?_
  intro p e s m below meth c ls hsz C0 V hl
  have hx := C0.1
  have hb := C0.2.1
  clear pre0
  clear pre1
  have hl : lv_has ls 4 [(0, .ref (g (9 + 2 * 14))), (1, .int x2), (2, .int x3), (3, .int x4)] := hl
  refine lv_iload_n hx hb d_33_22_0 rfl (lv_at hl 1 rfl) ?_
  refine q_goi V (q_runS (As := [.int x2]) (rest := []) (d := 1) (mc := 0) (ms := 0) C0 V rfl LS_jLat_88 (X_jLat_canEncode l D g q ws  x2 hI   _) rfl hl.1 rfl (Nat.le_of_ble_eq_true rfl) ⟨by decide, by decide⟩ ⟨Nat.le_of_ble_eq_true rfl, Nat.le_of_ble_eq_true rfl⟩ d_33_22_1) (fun a3 u1 H locs hp2 V => ?_)
  obtain ⟨rfl, b4, b5, hE6⟩ := hp2
  have e7 : a3 = (F_jLat_canEncode x2) := hE6
  clear b4
  clear b5
  refine lv_if_ne (tgt := 9) hx hb d_33_22_4 (by decide) (fun c8 => ?_) (fun c8 => ?_)
  ·
    refine lv_iload_n hx hb d_33_22_9 rfl (lv_at hl 2 rfl) ?_
    refine lv_iconst (v := 0) hx hb d_33_22_10 (by decide) ?_
    refine q_max C0 hl.1 rfl w_1773 w_803 w_7 w_804 ⟨Nat.le_of_ble_eq_true rfl, Nat.le_of_ble_eq_true rfl⟩ ⟨Nat.le_of_ble_eq_true rfl, Nat.le_of_ble_eq_true rfl⟩ d_33_22_11 ?_
    obtain ⟨a10, e11⟩ := q_nm (if x3 < 0 then 0 else x3 : Int32)
    refine q_ti (v := a10) e11 ?_
    have b12 : q_F (x3.toInt ≤ a10.toInt ∧ 0 ≤ a10.toInt ∧ (a10.toInt = x3.toInt ∨ a10.toInt = 0)) := (by rw [← e11]; show x3.toInt ≤ (if x3 < 0 then 0 else x3 : Int32).toInt ∧ 0 ≤ (if x3 < 0 then 0 else x3 : Int32).toInt ∧ ((if x3 < 0 then 0 else x3 : Int32).toInt = x3.toInt ∨ (if x3 < 0 then 0 else x3 : Int32).toInt = 0); exact (by have y1 : (0 : Int32).toInt = 0 := rfl; have z := s_max (a := x3) (b := 0); omega))
    refine lv_istore_n (lv' := [(2, .int a10), (0, .ref (g (9 + 2 * 14))), (1, .int x2), (3, .int x4)]) hx hb d_33_22_14 rfl hl (by decide) rfl (fun ls hl => ?_)
    refine lv_iload_n hx hb d_33_22_15 rfl (lv_at hl 3 rfl) ?_
    refine lv_aload_n hx hb d_33_22_16 rfl (lv_at hl 1 rfl) ?_
    refine q_slen (i := 14) (v := 2) C0 V rfl (by decide) d_33_22_17 ?_
    refine q_min C0 hl.1 rfl w_1774 w_774 w_7 w_775 ⟨Nat.le_of_ble_eq_true rfl, Nat.le_of_ble_eq_true rfl⟩ ⟨Nat.le_of_ble_eq_true rfl, Nat.le_of_ble_eq_true rfl⟩ d_33_22_18 ?_
    obtain ⟨a13, e14⟩ := q_nm (if 2 < x4 then 2 else x4 : Int32)
    refine q_ti (v := a13) e14 ?_
    have b15 : q_F (a13.toInt ≤ x4.toInt ∧ a13.toInt ≤ 2 ∧ (a13.toInt = x4.toInt ∨ a13.toInt = 2)) := (by rw [← e14]; show (if 2 < x4 then 2 else x4 : Int32).toInt ≤ x4.toInt ∧ (if 2 < x4 then 2 else x4 : Int32).toInt ≤ 2 ∧ ((if 2 < x4 then 2 else x4 : Int32).toInt = x4.toInt ∨ (if 2 < x4 then 2 else x4 : Int32).toInt = 2); exact (by have y1 : (2 : Int32).toInt = 2 := rfl; have z := s_min (a := x4) (b := 2); omega))
    refine lv_istore_n (lv' := [(3, .int a13), (2, .int a10), (0, .ref (g (9 + 2 * 14))), (1, .int x2)]) hx hb d_33_22_21 rfl hl (by decide) rfl (fun ls hl => ?_)
    refine lv_iload_n hx hb d_33_22_22 rfl (lv_at hl 1 rfl) ?_
    refine lv_iload_n hx hb d_33_22_23 rfl (lv_at hl 0 rfl) ?_
    refine lv_icmp_lt (tgt := 29) hx hb d_33_22_24 (by decide) (fun c16 => ?_) (fun c16 => ?_)
    ·
      refine lv_aload_n hx hb d_33_22_29 rfl (lv_at hl 2 rfl) ?_
      refine lv_iload_n hx hb d_33_22_30 rfl (lv_at hl 3 rfl) ?_
      refine lv_iload_n hx hb d_33_22_31 rfl (lv_at hl 1 rfl) ?_
      refine lv_iload_n hx hb d_33_22_32 rfl (lv_at hl 0 rfl) ?_
      refine q_goi V (q_runS (As := [.ref (g (9 + 2 * 14)), .int x2, .int a10, .int a13]) (rest := []) (d := 1) (mc := 0) (ms := 0) C0 V rfl LS_jLat_95 (X_jLat_indexOfChar_14 l D g q ws  x2 a10 a13 hI  (by have t1 : x3.toInt ≤ a10.toInt ∧ 0 ≤ a10.toInt ∧ (a10.toInt = x3.toInt ∨ a10.toInt = 0) := b12; omega) (by have t1 : a13.toInt ≤ x4.toInt ∧ a13.toInt ≤ 2 ∧ (a13.toInt = x4.toInt ∨ a13.toInt = 2) := b15; omega) _) rfl hl.1 rfl (Nat.le_of_ble_eq_true rfl) ⟨by decide, by decide⟩ ⟨Nat.le_of_ble_eq_true rfl, Nat.le_of_ble_eq_true rfl⟩ d_33_22_33) (fun a20 u18 H locs hp19 V => ?_)
      obtain ⟨rfl, b21, b22, hE23⟩ := hp19
      have e24 : a20 = (F_jLat_indexOfChar_14 x2 a10 a13) := hE23
      replace b21 : q_F (0 ≤ a20.toInt + 1) := b21
      replace b22 : q_F (a20.toInt ≤ 1) := b22
      exact q_reti C0 V (⟨rfl, (show 0 ≤ a20.toInt + 1 from (by first | with_reducible exact q_fe b21 | (have t1 : 0 ≤ a20.toInt + 1 := b21; omega))), (show a20.toInt ≤ 1 from (by first | with_reducible exact q_fe b22 | (have t1 : a20.toInt ≤ 1 := b22; omega))), (show a20 = (F_jLat_indexOf_14 x2 x3 x4) from (by have c8x := c8; rw [e7] at c8x; have c16x := c16; rw [← e14, ← e11] at c16x; rw [e24, ← e14, ← e11, F_jLat_indexOf_14.eq_1, if_neg c8x, if_pos c16x]))⟩) d_33_22_36
    ·
      refine lv_iconst (v := (-1)) hx hb d_33_22_27 (by decide) ?_
      exact q_reti C0 V (⟨rfl, (show 0 ≤ (-1 : Int32).toInt + 1 from (by have z3 : (-1 : Int32).toInt = -1 := rfl; omega)), (show (-1 : Int32).toInt ≤ 1 from (by have z3 : (-1 : Int32).toInt = -1 := rfl; omega)), (show (-1 : Int32) = (F_jLat_indexOf_14 x2 x3 x4) from (by have c8x := c8; rw [e7] at c8x; have c16x := c16; rw [← e14, ← e11] at c16x; rw [F_jLat_indexOf_14.eq_1, if_neg c8x, if_neg c16x]))⟩) d_33_22_28
  ·
    refine lv_iconst (v := (-1)) hx hb d_33_22_7 (by decide) ?_
    exact q_reti C0 V (⟨rfl, (show 0 ≤ (-1 : Int32).toInt + 1 from (by have z3 : (-1 : Int32).toInt = -1 := rfl; omega)), (show (-1 : Int32).toInt ≤ 1 from (by have z3 : (-1 : Int32).toInt = -1 := rfl; omega)), (show (-1 : Int32) = (F_jLat_indexOf_14 x2 x3 x4) from (by have c8x := c8; rw [e7] at c8x; rw [F_jLat_indexOf_14.eq_1, if_pos c8x]))⟩) d_33_22_8
def F_jStr_indexOf_III_14 (x2 : Int32) (x3 : Int32) : Int32 := ((F_jLat_indexOf_14 x2 x3 (2 : Int32)) : Int32)
set_option maxRecDepth 100000 in
set_option maxHeartbeats 4000000 in
theorem X_jStr_indexOf_III_14 (l : Launch) (D : va_G) (g : Nat → ClassId) (q : Nat → Nat) (ws : va_W) (x2 : Int32) (x3 : Int32) (hI : q_I (nsh g q) q ws) (pre0 : 0 ≤ x3.toInt) : q_mI l y_jStr_indexOf_III prog_31_method_80_code 3 (.int) 3 0 0 D g [.ref (g (8 + 2 * 14)), .int x2, .int x3] ws (fun r u => ws = u ∧ (0 ≤ r.toInt + 1) ∧ (r.toInt ≤ 1) ∧ r = (F_jStr_indexOf_III_14 x2 x3)) := by
  intro sz
  refine q_into (by decide) (Nat.le_of_ble_eq_true rfl) ?_
  intro p e s m below meth c ls hsz C0 V hl
  have hx := C0.1
  have hb := C0.2.1
  replace pre0 : q_F (0 ≤ x3.toInt) := pre0
  have hl : lv_has ls 3 [(0, .ref (g (8 + 2 * 14))), (1, .int x2), (2, .int x3)] := hl
  refine lv_aload_n hx hb d_31_80_0 rfl (lv_at hl 0 rfl) ?_
  refine q_goi V (q_runVs (As := []) (rest := []) (d := 1) (mc := 0) (ms := 0) (i := 14) C0 V rfl LV_jStr_492 (T_jStr_isLatin1_14 l D g q ws   hI   _) rfl rfl rfl hl.1 rfl (Nat.le_of_ble_eq_true rfl) ⟨by decide, by decide⟩ ⟨Nat.le_of_ble_eq_true rfl, Nat.le_of_ble_eq_true rfl⟩ d_31_80_1) (fun a3 u1 H locs hp2 V => ?_)
  obtain ⟨rfl, b4, b5⟩ := hp2
  replace b4 : q_F (1 ≤ a3.toInt) := b4
  replace b5 : q_F (a3.toInt ≤ 1) := b5
  obtain rfl : a3 = (1 : Int32) := q_Ieq (x := a3.toInt) (y := 1) rfl (by decide) (by have t1 : 1 ≤ a3.toInt := b4; have t2 : a3.toInt ≤ 1 := b5; omega)
  refine lv_if_eq (tgt := 23) hx hb d_31_80_4 (by decide) (fun c7 => absurd c7 (by decide)) (fun c7 => ?_)
  refine lv_aload_n hx hb d_31_80_7 rfl (lv_at hl 0 rfl) ?_
  refine q_sval (i := 14) C0 V rfl rfl w_1018 d_31_80_8 ?_
  refine lv_iload_n hx hb d_31_80_11 rfl (lv_at hl 1 rfl) ?_
  refine lv_iload_n hx hb d_31_80_12 rfl (lv_at hl 2 rfl) ?_
  refine lv_aload_n hx hb d_31_80_13 rfl (lv_at hl 0 rfl) ?_
  refine q_goi V (q_runVs (As := []) (rest := [.int x3, .int x2, .ref (g (9 + 2 * 14))]) (d := 2) (mc := 0) (ms := 0) (i := 14) C0 V rfl LV_jStr_505 (T_jStr_length_14 l D g q ws   hI   _) rfl rfl rfl hl.1 rfl (Nat.le_of_ble_eq_true rfl) ⟨by decide, by decide⟩ ⟨Nat.le_of_ble_eq_true rfl, Nat.le_of_ble_eq_true rfl⟩ d_31_80_14) (fun a10 u8 H locs hp9 V => ?_)
  obtain ⟨rfl, b11, b12⟩ := hp9
  replace b11 : q_F (2 ≤ a10.toInt) := b11
  replace b12 : q_F (a10.toInt ≤ 2) := b12
  obtain rfl : a10 = (2 : Int32) := q_Ieq (x := a10.toInt) (y := 2) rfl (by decide) (by have t1 : 2 ≤ a10.toInt := b11; have t2 : a10.toInt ≤ 2 := b12; omega)
  refine q_goi V (q_runS (As := [.ref (g (9 + 2 * 14)), .int x2, .int x3, .int 2]) (rest := []) (d := 2) (mc := 0) (ms := 0) C0 V rfl LS_jStr_637 (X_jLat_indexOf_14 l D g q ws  x2 x3 2 hI  (by have y0 : (2 : Int32).toInt = 2 := rfl; have t1 : 0 ≤ x3.toInt := pre0; omega) (by have y0 : (2 : Int32).toInt = 2 := rfl; omega) _) rfl hl.1 rfl (Nat.le_of_ble_eq_true rfl) ⟨by decide, by decide⟩ ⟨Nat.le_of_ble_eq_true rfl, Nat.le_of_ble_eq_true rfl⟩ d_31_80_17) (fun a16 u14 H locs hp15 V => ?_)
  obtain ⟨rfl, b17, b18, hE19⟩ := hp15
  have e20 : a16 = (F_jLat_indexOf_14 x2 x3 (2 : Int32)) := hE19
  replace b17 : q_F (0 ≤ a16.toInt + 1) := b17
  replace b18 : q_F (a16.toInt ≤ 1) := b18
  refine lv_goto (tgt := 36) hx hb d_31_80_20 (by decide) ?_
  exact q_reti C0 V (⟨rfl, (show 0 ≤ a16.toInt + 1 from (by first | with_reducible exact q_fe b17 | (have t1 : 0 ≤ a16.toInt + 1 := b17; omega))), (show a16.toInt ≤ 1 from (by first | with_reducible exact q_fe b18 | (have t1 : a16.toInt ≤ 1 := b18; omega))), (show a16 = (F_jStr_indexOf_III_14 x2 x3) from (by rw [e20, F_jStr_indexOf_III_14.eq_1]))⟩) d_31_80_36
def F_jStr_indexOf_II_14 (x2 : Int32) : Int32 := ((F_jStr_indexOf_III_14 x2 (0 : Int32)) : Int32)
set_option maxRecDepth 100000 in
set_option maxHeartbeats 4000000 in
theorem X_jStr_indexOf_II_14 (l : Launch) (D : va_G) (g : Nat → ClassId) (q : Nat → Nat) (ws : va_W) (x2 : Int32) (hI : q_I (nsh g q) q ws) : q_mI l y_jStr_indexOf_II prog_31_method_79_code 2 (.int) 4 0 0 D g [.ref (g (8 + 2 * 14)), .int x2] ws (fun r u => ws = u ∧ (0 ≤ r.toInt + 1) ∧ (r.toInt ≤ 1) ∧ r = (F_jStr_indexOf_II_14 x2)) := by
  intro sz
  refine q_into (by decide) (Nat.le_of_ble_eq_true rfl) ?_
  intro p e s m below meth c ls hsz C0 V hl
  have hx := C0.1
  have hb := C0.2.1
  have hl : lv_has ls 2 [(0, .ref (g (8 + 2 * 14))), (1, .int x2)] := hl
  refine lv_aload_n hx hb d_31_79_0 rfl (lv_at hl 0 rfl) ?_
  refine lv_iload_n hx hb d_31_79_1 rfl (lv_at hl 1 rfl) ?_
  refine lv_iconst (v := 0) hx hb d_31_79_2 (by decide) ?_
  refine q_goi V (q_runVs (As := [.int x2, .int 0]) (rest := []) (d := 3) (mc := 0) (ms := 0) (i := 14) C0 V rfl LV_jStr_633 (X_jStr_indexOf_III_14 l D g q ws  x2 0 hI  (by have y0 : (0 : Int32).toInt = 0 := rfl; omega) _) rfl rfl rfl hl.1 rfl (Nat.le_of_ble_eq_true rfl) ⟨by decide, by decide⟩ ⟨Nat.le_of_ble_eq_true rfl, Nat.le_of_ble_eq_true rfl⟩ d_31_79_3) (fun a3 u1 H locs hp2 V => ?_)
  obtain ⟨rfl, b4, b5, hE6⟩ := hp2
  have e7 : a3 = (F_jStr_indexOf_III_14 x2 (0 : Int32)) := hE6
  replace b4 : q_F (0 ≤ a3.toInt + 1) := b4
  replace b5 : q_F (a3.toInt ≤ 1) := b5
  exact q_reti C0 V (⟨rfl, (show 0 ≤ a3.toInt + 1 from (by first | with_reducible exact q_fe b4 | (have t1 : 0 ≤ a3.toInt + 1 := b4; omega))), (show a3.toInt ≤ 1 from (by first | with_reducible exact q_fe b5 | (have t1 : a3.toInt ≤ 1 := b5; omega))), (show a3 = (F_jStr_indexOf_II_14 x2) from (by rw [e7, F_jStr_indexOf_II_14.eq_1]))⟩) d_31_79_6
def F_Dir_isOneOf_14 (t0_0 : Int32) (t0_1 : Int32) (t0_2 : Int32) (t0_3 : Int32) (t0_4 : Int32) (t0_5 : Int32) (t0_6 : Int32) : Int32 := if t0_4 < (0 : Int32) then ((0 : Int32)) else (if ((F_jStr_indexOf_II_14 ((t0_4.toUInt32 % 65536).toInt32 : Int32)) : Int32) < (0 : Int32) then ((0 : Int32)) else ((1 : Int32)))
set_option maxRecDepth 100000 in
set_option maxHeartbeats 4000000 in
theorem X_Dir_isOneOf_14 (l : Launch) (D : va_G) (g : Nat → ClassId) (q : Nat → Nat) (ws : va_W) (hI : q_I (nsh g q) q ws) (t0_0 : Int32) (t0_1 : Int32) (t0_2 : Int32) (t0_3 : Int32) (t0_4 : Int32) (t0_5 : Int32) (t0_6 : Int32) (hT0 : ws[47]? = (some (q 47, .inr (10, [.int t0_0, .int t0_1, .int t0_2, .int t0_3, .int t0_4, .int t0_5, .ref (q 1), .int t0_6])) : Option (Nat × va_E))) : q_mI l y_Dir_isOneOf prog_6_method_9_code 2 (.boolean) 5 0 0 D g [.ref (q 47), .ref (g (8 + 2 * 14))] ws (fun r u => ws = u ∧ (0 ≤ r.toInt) ∧ (r.toInt ≤ 1) ∧ r = (F_Dir_isOneOf_14 t0_0 t0_1 t0_2 t0_3 t0_4 t0_5 t0_6)) := by
  intro sz
  refine q_into (by decide) (Nat.le_of_ble_eq_true rfl) ?_
  intro p e s m below meth c ls hsz C0 V hl
  have hx := C0.1
  have hb := C0.2.1
  have hZ9 := (n_w47 hI hT0).2
  obtain ⟨-, btt0_6⟩ := hZ9
  clear btt0_6
  have hl : lv_has ls 2 [(0, .ref (q 47)), (1, .ref (g (8 + 2 * 14)))] := hl
  refine lv_aload_n hx hb d_6_9_0 rfl (lv_at hl 0 rfl) ?_
  refine q_get (ci := 10) (j := 4) (v := .int t0_4) C0 V i_Dir rfl rfl hT0 (by decide) w_361 rfl d_6_9_1 ?_
  refine lv_if_lt (tgt := 23) hx hb d_6_9_4 (by decide) (fun c12 => ?_) (fun c12 => ?_)
  ·
    refine lv_iconst (v := 0) hx hb d_6_9_23 (by decide) ?_
    exact q_retz C0 V (by decide) (⟨rfl, (show 0 ≤ (0 : Int32).toInt from (by have z7 : (0 : Int32).toInt = 0 := rfl; omega)), (show (0 : Int32).toInt ≤ 1 from (by have z7 : (0 : Int32).toInt = 0 := rfl; omega)), (show (0 : Int32) = (F_Dir_isOneOf_14 t0_0 t0_1 t0_2 t0_3 t0_4 t0_5 t0_6) from (by rw [F_Dir_isOneOf_14.eq_1, if_pos c12]))⟩) d_6_9_24
  ·
    refine lv_aload_n hx hb d_6_9_7 rfl (lv_at hl 1 rfl) ?_
    refine lv_aload_n hx hb d_6_9_8 rfl (lv_at hl 0 rfl) ?_
    refine q_get (ci := 10) (j := 4) (v := .int t0_4) C0 V i_Dir rfl rfl hT0 (by decide) w_361 rfl d_6_9_9 ?_
    refine lv_i2c hx hb d_6_9_12 rfl ?_
    obtain ⟨a15, e16⟩ := q_nm ((t0_4.toUInt32 % 65536).toInt32 : Int32)
    refine q_ti (v := a15) e16 ?_
    refine q_goi V (q_runVs (As := [.int a15]) (rest := []) (d := 4) (mc := 0) (ms := 0) (i := 14) C0 V rfl LV_Dir_63 (X_jStr_indexOf_II_14 l D g q ws  a15 hI   _) rfl rfl rfl hl.1 rfl (Nat.le_of_ble_eq_true rfl) ⟨by decide, by decide⟩ ⟨Nat.le_of_ble_eq_true rfl, Nat.le_of_ble_eq_true rfl⟩ d_6_9_13) (fun a20 u18 H locs hp19 V => ?_)
    obtain ⟨rfl, b21, b22, hE23⟩ := hp19
    have e24 : a20 = (F_jStr_indexOf_II_14 a15) := hE23
    clear b21
    clear b22
    refine lv_if_lt (tgt := 23) hx hb d_6_9_16 (by decide) (fun c25 => ?_) (fun c25 => ?_)
    ·
      refine lv_iconst (v := 0) hx hb d_6_9_23 (by decide) ?_
      exact q_retz C0 V (by decide) (⟨rfl, (show 0 ≤ (0 : Int32).toInt from (by have z7 : (0 : Int32).toInt = 0 := rfl; omega)), (show (0 : Int32).toInt ≤ 1 from (by have z7 : (0 : Int32).toInt = 0 := rfl; omega)), (show (0 : Int32) = (F_Dir_isOneOf_14 t0_0 t0_1 t0_2 t0_3 t0_4 t0_5 t0_6) from (by have c25x := c25; rw [e24, ← e16] at c25x; rw [F_Dir_isOneOf_14.eq_1, if_neg c12, if_pos c25x]))⟩) d_6_9_24
    ·
      refine lv_iconst (v := 1) hx hb d_6_9_19 (by decide) ?_
      refine lv_goto (tgt := 24) hx hb d_6_9_20 (by decide) ?_
      exact q_retz C0 V (by decide) (⟨rfl, (show 0 ≤ (1 : Int32).toInt from (by have z7 : (1 : Int32).toInt = 1 := rfl; omega)), (show (1 : Int32).toInt ≤ 1 from (by have z7 : (1 : Int32).toInt = 1 := rfl; omega)), (show (1 : Int32) = (F_Dir_isOneOf_14 t0_0 t0_1 t0_2 t0_3 t0_4 t0_5 t0_6) from (by have c25x := c25; rw [e24, ← e16] at c25x; rw [F_Dir_isOneOf_14.eq_1, if_neg c12, if_neg c25x]))⟩) d_6_9_24
def F_jLat_indexOfChar_16_L7 (x2 : Int32) (x3 : Int32) (x4 : Int32) (a1 : Int32) : Nat → Int32 → Int32
  | 0, _ => default
  | fm + 1, lx4 => if x4 ≤ lx4 then ((-1 : Int32)) else (if ((([111, 120, 88] : List Int32).getD lx4.toNatClampNeg 0) : Int32) = a1 then (lx4) else (F_jLat_indexOfChar_16_L7 x2 x3 x4 a1 fm (lx4 + 1 : Int32)))
def F_jLat_indexOfChar_16 (x2 : Int32) (x3 : Int32) (x4 : Int32) : Int32 := F_jLat_indexOfChar_16_L7 x2 x3 x4 (x2.toInt8.toInt32 : Int32) ((3 - x3.toInt).toNat + 1) x3
set_option maxRecDepth 100000 in
set_option maxHeartbeats 4000000 in
theorem X_jLat_indexOfChar_16 (l : Launch) (D : va_G) (g : Nat → ClassId) (q : Nat → Nat) (ws : va_W) (x2 : Int32) (x3 : Int32) (x4 : Int32) (hI : q_I (nsh g q) q ws) (pre0 : 0 ≤ x3.toInt) (pre1 : x4.toInt ≤ 3) : q_mI l y_jLat_indexOfChar prog_33_method_23_code 6 (.int) 1 0 0 D g [.ref (g (9 + 2 * 16)), .int x2, .int x3, .int x4] ws (fun r u => ws = u ∧ (0 ≤ r.toInt + 1) ∧ (r.toInt ≤ 2) ∧ r = (F_jLat_indexOfChar_16 x2 x3 x4)) := by
  intro sz
  refine q_into (by decide) (Nat.le_of_ble_eq_true rfl) ?_
  intro p e s m below meth c ls hsz C0 V hl
  have hx := C0.1
  have hb := C0.2.1
  replace pre0 : q_F (0 ≤ x3.toInt) := pre0
  replace pre1 : q_F (x4.toInt ≤ 3) := pre1
  have hl : lv_has ls 6 [(0, .ref (g (9 + 2 * 16))), (1, .int x2), (2, .int x3), (3, .int x4)] := hl
  refine lv_iload_n hx hb d_33_23_0 rfl (lv_at hl 1 rfl) ?_
  refine lv_i2b hx hb d_33_23_1 rfl ?_
  obtain ⟨a1, e2⟩ := q_nm (x2.toInt8.toInt32 : Int32)
  refine q_ti (v := a1) e2 ?_
  refine lv_istore (lv' := [(4, .int a1), (0, .ref (g (9 + 2 * 16))), (1, .int x2), (2, .int x3), (3, .int x4)]) hx hb d_33_23_2 hl (by decide) rfl (fun ls hl => ?_)
  refine lv_iload_n hx hb d_33_23_4 rfl (lv_at hl 3 rfl) ?_
  refine lv_istore (lv' := [(5, .int x3), (4, .int a1), (0, .ref (g (9 + 2 * 16))), (1, .int x2), (2, .int x3), (3, .int x4)]) hx hb d_33_23_5 hl (by decide) rfl (fun ls hl => ?_)
  refine q_loop (X := Int32) (fun z H locs ls _ => q_F (x3.toInt ≤ z.toInt) ∧ q_Wd D g (va_A ws sz) s ws H locs ∧ lv_has ls 6 [(5, .int z), (4, .int a1), (0, .ref (g (9 + 2 * 16))), (3, .int x4)] ∧ (∃ n, (3 - z.toInt).toNat < n ∧ F_jLat_indexOfChar_16_L7 x2 x3 x4 a1 n z = (F_jLat_indexOfChar_16 x2 x3 x4))) (fun z => (3 - z.toInt).toNat) ?_ ((x3 : Int32)) _ _ _ ws ⟨(show q_F (x3.toInt ≤ x3.toInt) from (show x3.toInt ≤ x3.toInt from by omega)), V, q_lw hl (q_lw1 0 rfl (q_lw1 1 rfl (q_lw1 2 rfl (q_lw1 5 rfl q_lw0)))), ⟨((3 - x3.toInt).toNat + 1), Nat.lt_succ_self _, (show F_jLat_indexOfChar_16_L7 x2 x3 x4 a1 ((3 - x3.toInt).toNat + 1) x3 = (F_jLat_indexOfChar_16 x2 x3 x4) from (by rw [← e2, F_jLat_indexOfChar_16.eq_1]))⟩⟩
  rintro lx4 H locs ls _ ⟨i5, V, hl, ⟨fu9, hf10, hR7⟩⟩ ih6
  obtain ⟨fm11, rfl⟩ : ∃ m, fu9 = m + 1 := ⟨fu9 - 1, by omega⟩
  replace i5 : q_F (x3.toInt ≤ lx4.toInt) := i5
  replace hl : lv_has ls 6 [(5, .int lx4), (4, .int a1), (0, .ref (g (9 + 2 * 16))), (3, .int x4)] := hl
  refine lv_iload hx hb d_33_23_7 (lv_at hl 0 rfl) ?_
  refine lv_iload_n hx hb d_33_23_9 rfl (lv_at hl 3 rfl) ?_
  refine lv_icmp_ge (tgt := 31) hx hb d_33_23_10 (by decide) (fun c12 => ?_) (fun c12 => ?_)
  ·
    refine lv_iconst (v := (-1)) hx hb d_33_23_31 (by decide) ?_
    exact q_reti C0 V (⟨rfl, (show 0 ≤ (-1 : Int32).toInt + 1 from (by have z3 : (-1 : Int32).toInt = -1 := rfl; omega)), (show (-1 : Int32).toInt ≤ 2 from (by have z3 : (-1 : Int32).toInt = -1 := rfl; omega)), (show (-1 : Int32) = (F_jLat_indexOfChar_16 x2 x3 x4) from Eq.trans (by rw [F_jLat_indexOfChar_16_L7.eq_2, if_pos c12]) hR7)⟩) d_33_23_32
  ·
    have b14 : q_F (lx4.toInt < x4.toInt) := (q_nleI c12)
    refine lv_aload_n hx hb d_33_23_13 rfl (lv_at hl 2 rfl) ?_
    refine lv_iload hx hb d_33_23_14 (lv_at hl 0 rfl) ?_
    refine q_sbal (i := 16) (v := (([111, 120, 88] : List Int32).getD lx4.toNatClampNeg 0)) C0 V rfl (show vp_in lx4 3 from q_ix (x := lx4.toInt) rfl (by have t1 : 0 ≤ x3.toInt := pre0; have t2 : x3.toInt ≤ lx4.toInt := i5; omega) (by have t1 : 0 ≤ x3.toInt := pre0; have t2 : x3.toInt ≤ lx4.toInt := i5; have t3 : x4.toInt ≤ 3 := pre1; have t4 : lx4.toInt < x4.toInt := b14; omega)) rfl d_33_23_16 ?_
    obtain ⟨a15, e16⟩ := q_nm ((([111, 120, 88] : List Int32).getD lx4.toNatClampNeg 0) : Int32)
    refine q_ti (v := a15) e16 ?_
    refine lv_iload hx hb d_33_23_17 (lv_at hl 1 rfl) ?_
    refine lv_icmp_ne (tgt := 25) hx hb d_33_23_19 (by decide) (fun c17 => ?_) (fun c17 => ?_)
    ·
      obtain ⟨a19, e20⟩ := q_nm (lx4 + 1 : Int32)
      have b21 : q_F (a19.toInt = lx4.toInt + 1) := (by rw [← e20]; exact q_addI (y := 1) rfl (by decide) (by have _ := q_lo32 (x := lx4); have _ := q_hi32 (x := lx4); have t1 : lx4.toInt < x4.toInt := b14; have _ := q_lo32 (x := x4); have _ := q_hi32 (x := x4); omega) (by have _ := q_lo32 (x := lx4); have _ := q_hi32 (x := lx4); have t1 : lx4.toInt < x4.toInt := b14; have _ := q_lo32 (x := x4); have _ := q_hi32 (x := x4); omega))
      refine lv_iinc (v := a19) (lv' := [(5, .int a19), (4, .int a1), (0, .ref (g (9 + 2 * 16))), (3, .int x4)]) hx hb d_33_23_25 hl (k := 0) rfl (e20) (by decide) rfl (fun ls hl => ?_)
      refine lv_goto (tgt := 7) hx hb d_33_23_28 (by decide) ?_
      exact ih6 ((a19 : Int32)) _ _ _ ws (show (3 - a19.toInt).toNat < (3 - lx4.toInt).toNat from by have t1 : a19.toInt = lx4.toInt + 1 := b21; have t2 : x4.toInt ≤ 3 := pre1; have t3 : lx4.toInt < x4.toInt := b14; omega) ⟨(show q_F (x3.toInt ≤ a19.toInt) from (show x3.toInt ≤ a19.toInt from by have t1 : x3.toInt ≤ lx4.toInt := i5; have t2 : a19.toInt = lx4.toInt + 1 := b21; omega)), V, q_lw hl (q_lw1 0 rfl (q_lw1 1 rfl (q_lw1 2 rfl (q_lw1 3 rfl q_lw0)))), ⟨fm11, Nat.lt_of_lt_of_le (show (3 - a19.toInt).toNat < (3 - lx4.toInt).toNat from by have t1 : a19.toInt = lx4.toInt + 1 := b21; have t2 : x4.toInt ≤ 3 := pre1; have t3 : lx4.toInt < x4.toInt := b14; omega) (Nat.le_of_lt_succ hf10), (show F_jLat_indexOfChar_16_L7 x2 x3 x4 a1 fm11 a19 = (F_jLat_indexOfChar_16 x2 x3 x4) from Eq.trans (by have c17x := c17; rw [← e16] at c17x; rw [← e20, F_jLat_indexOfChar_16_L7.eq_2, if_neg c12, if_neg c17x]) hR7)⟩⟩
    ·
      refine lv_iload hx hb d_33_23_22 (lv_at hl 0 rfl) ?_
      exact q_reti C0 V (⟨rfl, (show 0 ≤ lx4.toInt + 1 from (by have t1 : 0 ≤ x3.toInt := pre0; have t2 : x3.toInt ≤ lx4.toInt := i5; omega)), (show lx4.toInt ≤ 2 from (by have t1 : x4.toInt ≤ 3 := pre1; have t2 : lx4.toInt < x4.toInt := b14; omega)), (show lx4 = (F_jLat_indexOfChar_16 x2 x3 x4) from Eq.trans (by have c17x := c17; rw [← e16] at c17x; rw [F_jLat_indexOfChar_16_L7.eq_2, if_neg c12, if_pos c17x]) hR7)⟩) d_33_23_24
def F_jLat_indexOf_16 (x2 : Int32) (x3 : Int32) (x4 : Int32) : Int32 := if ((F_jLat_canEncode x2) : Int32) = (0 : Int32) then ((-1 : Int32)) else (if (if x3 < 0 then 0 else x3 : Int32) < (if 3 < x4 then 3 else x4 : Int32) then (((F_jLat_indexOfChar_16 x2 (if x3 < 0 then 0 else x3 : Int32) (if 3 < x4 then 3 else x4 : Int32)) : Int32)) else ((-1 : Int32)))
set_option maxRecDepth 100000 in
set_option maxHeartbeats 4000000 in
theorem X_jLat_indexOf_16 (l : Launch) (D : va_G) (g : Nat → ClassId) (q : Nat → Nat) (ws : va_W) (x2 : Int32) (x3 : Int32) (x4 : Int32) (hI : q_I (nsh g q) q ws) (pre0 : 0 ≤ x3.toInt) (pre1 : x4.toInt ≤ 3) : q_mI l y_jLat_indexOf prog_33_method_22_code 4 (.int) 2 0 0 D g [.ref (g (9 + 2 * 16)), .int x2, .int x3, .int x4] ws (fun r u => ws = u ∧ (0 ≤ r.toInt + 1) ∧ (r.toInt ≤ 2) ∧ r = (F_jLat_indexOf_16 x2 x3 x4)) := by
  intro sz
  refine q_into (by decide) (Nat.le_of_ble_eq_true rfl) ?_
  intro p e s m below meth c ls hsz C0 V hl
  have hx := C0.1
  have hb := C0.2.1
  clear pre0
  clear pre1
  have hl : lv_has ls 4 [(0, .ref (g (9 + 2 * 16))), (1, .int x2), (2, .int x3), (3, .int x4)] := hl
  refine lv_iload_n hx hb d_33_22_0 rfl (lv_at hl 1 rfl) ?_
  refine q_goi V (q_runS (As := [.int x2]) (rest := []) (d := 1) (mc := 0) (ms := 0) C0 V rfl LS_jLat_88 (X_jLat_canEncode l D g q ws  x2 hI   _) rfl hl.1 rfl (Nat.le_of_ble_eq_true rfl) ⟨by decide, by decide⟩ ⟨Nat.le_of_ble_eq_true rfl, Nat.le_of_ble_eq_true rfl⟩ d_33_22_1) (fun a3 u1 H locs hp2 V => ?_)
  obtain ⟨rfl, b4, b5, hE6⟩ := hp2
  have e7 : a3 = (F_jLat_canEncode x2) := hE6
  clear b4
  clear b5
  refine lv_if_ne (tgt := 9) hx hb d_33_22_4 (by decide) (fun c8 => ?_) (fun c8 => ?_)
  ·
    refine lv_iload_n hx hb d_33_22_9 rfl (lv_at hl 2 rfl) ?_
    refine lv_iconst (v := 0) hx hb d_33_22_10 (by decide) ?_
    refine q_max C0 hl.1 rfl w_1773 w_803 w_7 w_804 ⟨Nat.le_of_ble_eq_true rfl, Nat.le_of_ble_eq_true rfl⟩ ⟨Nat.le_of_ble_eq_true rfl, Nat.le_of_ble_eq_true rfl⟩ d_33_22_11 ?_
    obtain ⟨a10, e11⟩ := q_nm (if x3 < 0 then 0 else x3 : Int32)
    refine q_ti (v := a10) e11 ?_
    have b12 : q_F (x3.toInt ≤ a10.toInt ∧ 0 ≤ a10.toInt ∧ (a10.toInt = x3.toInt ∨ a10.toInt = 0)) := (by rw [← e11]; show x3.toInt ≤ (if x3 < 0 then 0 else x3 : Int32).toInt ∧ 0 ≤ (if x3 < 0 then 0 else x3 : Int32).toInt ∧ ((if x3 < 0 then 0 else x3 : Int32).toInt = x3.toInt ∨ (if x3 < 0 then 0 else x3 : Int32).toInt = 0); exact (by have y1 : (0 : Int32).toInt = 0 := rfl; have z := s_max (a := x3) (b := 0); omega))
    refine lv_istore_n (lv' := [(2, .int a10), (0, .ref (g (9 + 2 * 16))), (1, .int x2), (3, .int x4)]) hx hb d_33_22_14 rfl hl (by decide) rfl (fun ls hl => ?_)
    refine lv_iload_n hx hb d_33_22_15 rfl (lv_at hl 3 rfl) ?_
    refine lv_aload_n hx hb d_33_22_16 rfl (lv_at hl 1 rfl) ?_
    refine q_slen (i := 16) (v := 3) C0 V rfl (by decide) d_33_22_17 ?_
    refine q_min C0 hl.1 rfl w_1774 w_774 w_7 w_775 ⟨Nat.le_of_ble_eq_true rfl, Nat.le_of_ble_eq_true rfl⟩ ⟨Nat.le_of_ble_eq_true rfl, Nat.le_of_ble_eq_true rfl⟩ d_33_22_18 ?_
    obtain ⟨a13, e14⟩ := q_nm (if 3 < x4 then 3 else x4 : Int32)
    refine q_ti (v := a13) e14 ?_
    have b15 : q_F (a13.toInt ≤ x4.toInt ∧ a13.toInt ≤ 3 ∧ (a13.toInt = x4.toInt ∨ a13.toInt = 3)) := (by rw [← e14]; show (if 3 < x4 then 3 else x4 : Int32).toInt ≤ x4.toInt ∧ (if 3 < x4 then 3 else x4 : Int32).toInt ≤ 3 ∧ ((if 3 < x4 then 3 else x4 : Int32).toInt = x4.toInt ∨ (if 3 < x4 then 3 else x4 : Int32).toInt = 3); exact (by have y1 : (3 : Int32).toInt = 3 := rfl; have z := s_min (a := x4) (b := 3); omega))
    refine lv_istore_n (lv' := [(3, .int a13), (2, .int a10), (0, .ref (g (9 + 2 * 16))), (1, .int x2)]) hx hb d_33_22_21 rfl hl (by decide) rfl (fun ls hl => ?_)
    refine lv_iload_n hx hb d_33_22_22 rfl (lv_at hl 1 rfl) ?_
    refine lv_iload_n hx hb d_33_22_23 rfl (lv_at hl 0 rfl) ?_
    refine lv_icmp_lt (tgt := 29) hx hb d_33_22_24 (by decide) (fun c16 => ?_) (fun c16 => ?_)
    ·
      refine lv_aload_n hx hb d_33_22_29 rfl (lv_at hl 2 rfl) ?_
      refine lv_iload_n hx hb d_33_22_30 rfl (lv_at hl 3 rfl) ?_
      refine lv_iload_n hx hb d_33_22_31 rfl (lv_at hl 1 rfl) ?_
      refine lv_iload_n hx hb d_33_22_32 rfl (lv_at hl 0 rfl) ?_
      refine q_goi V (q_runS (As := [.ref (g (9 + 2 * 16)), .int x2, .int a10, .int a13]) (rest := []) (d := 1) (mc := 0) (ms := 0) C0 V rfl LS_jLat_95 (X_jLat_indexOfChar_16 l D g q ws  x2 a10 a13 hI  (by have t1 : x3.toInt ≤ a10.toInt ∧ 0 ≤ a10.toInt ∧ (a10.toInt = x3.toInt ∨ a10.toInt = 0) := b12; omega) (by have t1 : a13.toInt ≤ x4.toInt ∧ a13.toInt ≤ 3 ∧ (a13.toInt = x4.toInt ∨ a13.toInt = 3) := b15; omega) _) rfl hl.1 rfl (Nat.le_of_ble_eq_true rfl) ⟨by decide, by decide⟩ ⟨Nat.le_of_ble_eq_true rfl, Nat.le_of_ble_eq_true rfl⟩ d_33_22_33) (fun a20 u18 H locs hp19 V => ?_)
      obtain ⟨rfl, b21, b22, hE23⟩ := hp19
      have e24 : a20 = (F_jLat_indexOfChar_16 x2 a10 a13) := hE23
      replace b21 : q_F (0 ≤ a20.toInt + 1) := b21
      replace b22 : q_F (a20.toInt ≤ 2) := b22
      exact q_reti C0 V (⟨rfl, (show 0 ≤ a20.toInt + 1 from (by first | with_reducible exact q_fe b21 | (have t1 : 0 ≤ a20.toInt + 1 := b21; omega))), (show a20.toInt ≤ 2 from (by first | with_reducible exact q_fe b22 | (have t1 : a20.toInt ≤ 2 := b22; omega))), (show a20 = (F_jLat_indexOf_16 x2 x3 x4) from (by have c8x := c8; rw [e7] at c8x; have c16x := c16; rw [← e14, ← e11] at c16x; rw [e24, ← e14, ← e11, F_jLat_indexOf_16.eq_1, if_neg c8x, if_pos c16x]))⟩) d_33_22_36
    ·
      refine lv_iconst (v := (-1)) hx hb d_33_22_27 (by decide) ?_
      exact q_reti C0 V (⟨rfl, (show 0 ≤ (-1 : Int32).toInt + 1 from (by have z3 : (-1 : Int32).toInt = -1 := rfl; omega)), (show (-1 : Int32).toInt ≤ 2 from (by have z3 : (-1 : Int32).toInt = -1 := rfl; omega)), (show (-1 : Int32) = (F_jLat_indexOf_16 x2 x3 x4) from (by have c8x := c8; rw [e7] at c8x; have c16x := c16; rw [← e14, ← e11] at c16x; rw [F_jLat_indexOf_16.eq_1, if_neg c8x, if_neg c16x]))⟩) d_33_22_28
  ·
    refine lv_iconst (v := (-1)) hx hb d_33_22_7 (by decide) ?_
    exact q_reti C0 V (⟨rfl, (show 0 ≤ (-1 : Int32).toInt + 1 from (by have z3 : (-1 : Int32).toInt = -1 := rfl; omega)), (show (-1 : Int32).toInt ≤ 2 from (by have z3 : (-1 : Int32).toInt = -1 := rfl; omega)), (show (-1 : Int32) = (F_jLat_indexOf_16 x2 x3 x4) from (by have c8x := c8; rw [e7] at c8x; rw [F_jLat_indexOf_16.eq_1, if_pos c8x]))⟩) d_33_22_8
def F_jStr_indexOf_III_16 (x2 : Int32) (x3 : Int32) : Int32 := ((F_jLat_indexOf_16 x2 x3 (3 : Int32)) : Int32)
set_option maxRecDepth 100000 in
set_option maxHeartbeats 4000000 in
theorem X_jStr_indexOf_III_16 (l : Launch) (D : va_G) (g : Nat → ClassId) (q : Nat → Nat) (ws : va_W) (x2 : Int32) (x3 : Int32) (hI : q_I (nsh g q) q ws) (pre0 : 0 ≤ x3.toInt) : q_mI l y_jStr_indexOf_III prog_31_method_80_code 3 (.int) 3 0 0 D g [.ref (g (8 + 2 * 16)), .int x2, .int x3] ws (fun r u => ws = u ∧ (0 ≤ r.toInt + 1) ∧ (r.toInt ≤ 2) ∧ r = (F_jStr_indexOf_III_16 x2 x3)) := by
  intro sz
  refine q_into (by decide) (Nat.le_of_ble_eq_true rfl) ?_
  intro p e s m below meth c ls hsz C0 V hl
  have hx := C0.1
  have hb := C0.2.1
  replace pre0 : q_F (0 ≤ x3.toInt) := pre0
  have hl : lv_has ls 3 [(0, .ref (g (8 + 2 * 16))), (1, .int x2), (2, .int x3)] := hl
  refine lv_aload_n hx hb d_31_80_0 rfl (lv_at hl 0 rfl) ?_
  refine q_goi V (q_runVs (As := []) (rest := []) (d := 1) (mc := 0) (ms := 0) (i := 16) C0 V rfl LV_jStr_492 (T_jStr_isLatin1_16 l D g q ws   hI   _) rfl rfl rfl hl.1 rfl (Nat.le_of_ble_eq_true rfl) ⟨by decide, by decide⟩ ⟨Nat.le_of_ble_eq_true rfl, Nat.le_of_ble_eq_true rfl⟩ d_31_80_1) (fun a3 u1 H locs hp2 V => ?_)
  obtain ⟨rfl, b4, b5⟩ := hp2
  replace b4 : q_F (1 ≤ a3.toInt) := b4
  replace b5 : q_F (a3.toInt ≤ 1) := b5
  obtain rfl : a3 = (1 : Int32) := q_Ieq (x := a3.toInt) (y := 1) rfl (by decide) (by have t1 : 1 ≤ a3.toInt := b4; have t2 : a3.toInt ≤ 1 := b5; omega)
  refine lv_if_eq (tgt := 23) hx hb d_31_80_4 (by decide) (fun c7 => absurd c7 (by decide)) (fun c7 => ?_)
  refine lv_aload_n hx hb d_31_80_7 rfl (lv_at hl 0 rfl) ?_
  refine q_sval (i := 16) C0 V rfl rfl w_1018 d_31_80_8 ?_
  refine lv_iload_n hx hb d_31_80_11 rfl (lv_at hl 1 rfl) ?_
  refine lv_iload_n hx hb d_31_80_12 rfl (lv_at hl 2 rfl) ?_
  refine lv_aload_n hx hb d_31_80_13 rfl (lv_at hl 0 rfl) ?_
  refine q_goi V (q_runVs (As := []) (rest := [.int x3, .int x2, .ref (g (9 + 2 * 16))]) (d := 2) (mc := 0) (ms := 0) (i := 16) C0 V rfl LV_jStr_505 (T_jStr_length_16 l D g q ws   hI   _) rfl rfl rfl hl.1 rfl (Nat.le_of_ble_eq_true rfl) ⟨by decide, by decide⟩ ⟨Nat.le_of_ble_eq_true rfl, Nat.le_of_ble_eq_true rfl⟩ d_31_80_14) (fun a10 u8 H locs hp9 V => ?_)
  obtain ⟨rfl, b11, b12⟩ := hp9
  replace b11 : q_F (3 ≤ a10.toInt) := b11
  replace b12 : q_F (a10.toInt ≤ 3) := b12
  obtain rfl : a10 = (3 : Int32) := q_Ieq (x := a10.toInt) (y := 3) rfl (by decide) (by have t1 : 3 ≤ a10.toInt := b11; have t2 : a10.toInt ≤ 3 := b12; omega)
  refine q_goi V (q_runS (As := [.ref (g (9 + 2 * 16)), .int x2, .int x3, .int 3]) (rest := []) (d := 2) (mc := 0) (ms := 0) C0 V rfl LS_jStr_637 (X_jLat_indexOf_16 l D g q ws  x2 x3 3 hI  (by have y0 : (3 : Int32).toInt = 3 := rfl; have t1 : 0 ≤ x3.toInt := pre0; omega) (by have y0 : (3 : Int32).toInt = 3 := rfl; omega) _) rfl hl.1 rfl (Nat.le_of_ble_eq_true rfl) ⟨by decide, by decide⟩ ⟨Nat.le_of_ble_eq_true rfl, Nat.le_of_ble_eq_true rfl⟩ d_31_80_17) (fun a16 u14 H locs hp15 V => ?_)
  obtain ⟨rfl, b17, b18, hE19⟩ := hp15
  have e20 : a16 = (F_jLat_indexOf_16 x2 x3 (3 : Int32)) := hE19
  replace b17 : q_F (0 ≤ a16.toInt + 1) := b17
  replace b18 : q_F (a16.toInt ≤ 2) := b18
  refine lv_goto (tgt := 36) hx hb d_31_80_20 (by decide) ?_
  exact q_reti C0 V (⟨rfl, (show 0 ≤ a16.toInt + 1 from (by first | with_reducible exact q_fe b17 | (have t1 : 0 ≤ a16.toInt + 1 := b17; omega))), (show a16.toInt ≤ 2 from (by first | with_reducible exact q_fe b18 | (have t1 : a16.toInt ≤ 2 := b18; omega))), (show a16 = (F_jStr_indexOf_III_16 x2 x3) from (by rw [e20, F_jStr_indexOf_III_16.eq_1]))⟩) d_31_80_36
def F_jStr_indexOf_II_16 (x2 : Int32) : Int32 := ((F_jStr_indexOf_III_16 x2 (0 : Int32)) : Int32)
set_option maxRecDepth 100000 in
set_option maxHeartbeats 4000000 in
theorem X_jStr_indexOf_II_16 (l : Launch) (D : va_G) (g : Nat → ClassId) (q : Nat → Nat) (ws : va_W) (x2 : Int32) (hI : q_I (nsh g q) q ws) : q_mI l y_jStr_indexOf_II prog_31_method_79_code 2 (.int) 4 0 0 D g [.ref (g (8 + 2 * 16)), .int x2] ws (fun r u => ws = u ∧ (0 ≤ r.toInt + 1) ∧ (r.toInt ≤ 2) ∧ r = (F_jStr_indexOf_II_16 x2)) := by
  intro sz
  refine q_into (by decide) (Nat.le_of_ble_eq_true rfl) ?_
  intro p e s m below meth c ls hsz C0 V hl
  have hx := C0.1
  have hb := C0.2.1
  have hl : lv_has ls 2 [(0, .ref (g (8 + 2 * 16))), (1, .int x2)] := hl
  refine lv_aload_n hx hb d_31_79_0 rfl (lv_at hl 0 rfl) ?_
  refine lv_iload_n hx hb d_31_79_1 rfl (lv_at hl 1 rfl) ?_
  refine lv_iconst (v := 0) hx hb d_31_79_2 (by decide) ?_
  refine q_goi V (q_runVs (As := [.int x2, .int 0]) (rest := []) (d := 3) (mc := 0) (ms := 0) (i := 16) C0 V rfl LV_jStr_633 (X_jStr_indexOf_III_16 l D g q ws  x2 0 hI  (by have y0 : (0 : Int32).toInt = 0 := rfl; omega) _) rfl rfl rfl hl.1 rfl (Nat.le_of_ble_eq_true rfl) ⟨by decide, by decide⟩ ⟨Nat.le_of_ble_eq_true rfl, Nat.le_of_ble_eq_true rfl⟩ d_31_79_3) (fun a3 u1 H locs hp2 V => ?_)
  obtain ⟨rfl, b4, b5, hE6⟩ := hp2
  have e7 : a3 = (F_jStr_indexOf_III_16 x2 (0 : Int32)) := hE6
  replace b4 : q_F (0 ≤ a3.toInt + 1) := b4
  replace b5 : q_F (a3.toInt ≤ 2) := b5
  exact q_reti C0 V (⟨rfl, (show 0 ≤ a3.toInt + 1 from (by first | with_reducible exact q_fe b4 | (have t1 : 0 ≤ a3.toInt + 1 := b4; omega))), (show a3.toInt ≤ 2 from (by first | with_reducible exact q_fe b5 | (have t1 : a3.toInt ≤ 2 := b5; omega))), (show a3 = (F_jStr_indexOf_II_16 x2) from (by rw [e7, F_jStr_indexOf_II_16.eq_1]))⟩) d_31_79_6
def F_Dir_isOneOf_16 (t0_0 : Int32) (t0_1 : Int32) (t0_2 : Int32) (t0_3 : Int32) (t0_4 : Int32) (t0_5 : Int32) (t0_6 : Int32) : Int32 := if t0_4 < (0 : Int32) then ((0 : Int32)) else (if ((F_jStr_indexOf_II_16 ((t0_4.toUInt32 % 65536).toInt32 : Int32)) : Int32) < (0 : Int32) then ((0 : Int32)) else ((1 : Int32)))
set_option maxRecDepth 100000 in
set_option maxHeartbeats 4000000 in
theorem X_Dir_isOneOf_16 (l : Launch) (D : va_G) (g : Nat → ClassId) (q : Nat → Nat) (ws : va_W) (hI : q_I (nsh g q) q ws) (t0_0 : Int32) (t0_1 : Int32) (t0_2 : Int32) (t0_3 : Int32) (t0_4 : Int32) (t0_5 : Int32) (t0_6 : Int32) (hT0 : ws[47]? = (some (q 47, .inr (10, [.int t0_0, .int t0_1, .int t0_2, .int t0_3, .int t0_4, .int t0_5, .ref (q 1), .int t0_6])) : Option (Nat × va_E))) : q_mI l y_Dir_isOneOf prog_6_method_9_code 2 (.boolean) 5 0 0 D g [.ref (q 47), .ref (g (8 + 2 * 16))] ws (fun r u => ws = u ∧ (0 ≤ r.toInt) ∧ (r.toInt ≤ 1) ∧ r = (F_Dir_isOneOf_16 t0_0 t0_1 t0_2 t0_3 t0_4 t0_5 t0_6)) := by
  intro sz
  refine q_into (by decide) (Nat.le_of_ble_eq_true rfl) ?_
  intro p e s m below meth c ls hsz C0 V hl
  have hx := C0.1
  have hb := C0.2.1
  have hZ9 := (n_w47 hI hT0).2
  obtain ⟨-, btt0_6⟩ := hZ9
  clear btt0_6
  have hl : lv_has ls 2 [(0, .ref (q 47)), (1, .ref (g (8 + 2 * 16)))] := hl
  refine lv_aload_n hx hb d_6_9_0 rfl (lv_at hl 0 rfl) ?_
  refine q_get (ci := 10) (j := 4) (v := .int t0_4) C0 V i_Dir rfl rfl hT0 (by decide) w_361 rfl d_6_9_1 ?_
  refine lv_if_lt (tgt := 23) hx hb d_6_9_4 (by decide) (fun c12 => ?_) (fun c12 => ?_)
  ·
    refine lv_iconst (v := 0) hx hb d_6_9_23 (by decide) ?_
    exact q_retz C0 V (by decide) (⟨rfl, (show 0 ≤ (0 : Int32).toInt from (by have z7 : (0 : Int32).toInt = 0 := rfl; omega)), (show (0 : Int32).toInt ≤ 1 from (by have z7 : (0 : Int32).toInt = 0 := rfl; omega)), (show (0 : Int32) = (F_Dir_isOneOf_16 t0_0 t0_1 t0_2 t0_3 t0_4 t0_5 t0_6) from (by rw [F_Dir_isOneOf_16.eq_1, if_pos c12]))⟩) d_6_9_24
  ·
    refine lv_aload_n hx hb d_6_9_7 rfl (lv_at hl 1 rfl) ?_
    refine lv_aload_n hx hb d_6_9_8 rfl (lv_at hl 0 rfl) ?_
    refine q_get (ci := 10) (j := 4) (v := .int t0_4) C0 V i_Dir rfl rfl hT0 (by decide) w_361 rfl d_6_9_9 ?_
    refine lv_i2c hx hb d_6_9_12 rfl ?_
    obtain ⟨a15, e16⟩ := q_nm ((t0_4.toUInt32 % 65536).toInt32 : Int32)
    refine q_ti (v := a15) e16 ?_
    refine q_goi V (q_runVs (As := [.int a15]) (rest := []) (d := 4) (mc := 0) (ms := 0) (i := 16) C0 V rfl LV_Dir_63 (X_jStr_indexOf_II_16 l D g q ws  a15 hI   _) rfl rfl rfl hl.1 rfl (Nat.le_of_ble_eq_true rfl) ⟨by decide, by decide⟩ ⟨Nat.le_of_ble_eq_true rfl, Nat.le_of_ble_eq_true rfl⟩ d_6_9_13) (fun a20 u18 H locs hp19 V => ?_)
    obtain ⟨rfl, b21, b22, hE23⟩ := hp19
    have e24 : a20 = (F_jStr_indexOf_II_16 a15) := hE23
    clear b21
    clear b22
    refine lv_if_lt (tgt := 23) hx hb d_6_9_16 (by decide) (fun c25 => ?_) (fun c25 => ?_)
    ·
      refine lv_iconst (v := 0) hx hb d_6_9_23 (by decide) ?_
      exact q_retz C0 V (by decide) (⟨rfl, (show 0 ≤ (0 : Int32).toInt from (by have z7 : (0 : Int32).toInt = 0 := rfl; omega)), (show (0 : Int32).toInt ≤ 1 from (by have z7 : (0 : Int32).toInt = 0 := rfl; omega)), (show (0 : Int32) = (F_Dir_isOneOf_16 t0_0 t0_1 t0_2 t0_3 t0_4 t0_5 t0_6) from (by have c25x := c25; rw [e24, ← e16] at c25x; rw [F_Dir_isOneOf_16.eq_1, if_neg c12, if_pos c25x]))⟩) d_6_9_24
    ·
      refine lv_iconst (v := 1) hx hb d_6_9_19 (by decide) ?_
      refine lv_goto (tgt := 24) hx hb d_6_9_20 (by decide) ?_
      exact q_retz C0 V (by decide) (⟨rfl, (show 0 ≤ (1 : Int32).toInt from (by have z7 : (1 : Int32).toInt = 1 := rfl; omega)), (show (1 : Int32).toInt ≤ 1 from (by have z7 : (1 : Int32).toInt = 1 := rfl; omega)), (show (1 : Int32) = (F_Dir_isOneOf_16 t0_0 t0_1 t0_2 t0_3 t0_4 t0_5 t0_6) from (by have c25x := c25; rw [e24, ← e16] at c25x; rw [F_Dir_isOneOf_16.eq_1, if_neg c12, if_neg c25x]))⟩) d_6_9_24
def F_Dir_figureAt (x2 : Int32) (t0_0 : Int32) (t1_0 : (Nat → Int64)) : Int32 := if ((F_She_at_p (4100 : Int32) (513 : Int32) (4100 : Int32) (x2.toInt64 : Int64) t0_0 t1_0) : Int32) < (48 : Int32) then ((-1 : Int32)) else (if (57 : Int32) < ((F_She_at_p (4100 : Int32) (513 : Int32) (4100 : Int32) (x2.toInt64 : Int64) t0_0 t1_0) : Int32) then ((-1 : Int32)) else ((((F_She_at_p (4100 : Int32) (513 : Int32) (4100 : Int32) (x2.toInt64 : Int64) t0_0 t1_0) : Int32) - 48 : Int32)))
set_option maxRecDepth 100000 in
set_option maxHeartbeats 4000000 in
theorem X_Dir_figureAt (l : Launch) (D : va_G) (g : Nat → ClassId) (q : Nat → Nat) (ws : va_W) (x2 : Int32) (hI : q_I (nsh g q) q ws) (t0_0 : Int32) (hT0 : ws[1]? = (some (q 1, .inr (1, [.ref (q 2), .int 4100, .int t0_0])) : Option (Nat × va_E))) (t1_0 : (Nat → Int64)) (hT1 : ws[2]? = (some (q 2, .inl (g 1, (513 : Int32).toNatClampNeg, .inr (.inl t1_0))) : Option (Nat × va_E))) : q_mI l y_Dir_figureAt prog_6_method_7_code 3 (.int) 2 0 0 D g [.ref (q 47), .int x2] ws (fun r u => ws = u ∧ (0 ≤ r.toInt + 1) ∧ (r.toInt ≤ 9) ∧ r = (F_Dir_figureAt x2 t0_0 t1_0)) := by
  intro sz
  refine q_into (by decide) (Nat.le_of_ble_eq_true rfl) ?_
  intro p e s m below meth c ls hsz C0 V hl
  have hx := C0.1
  have hb := C0.2.1
  have btt0_0 := n_shW hI (n_h1 g q) hT0
  clear btt0_0
  have hl : lv_has ls 3 [(0, .ref (q 47)), (1, .int x2)] := hl
  refine lv_aload_n hx hb d_6_7_0 rfl (lv_at hl 0 rfl) ?_
  obtain ⟨y7, hZ9⟩ := n_o47 hI
  obtain ⟨y8, hZ9⟩ := hZ9
  obtain ⟨y9, hZ9⟩ := hZ9
  obtain ⟨y11, hZ9⟩ := hZ9
  obtain ⟨y13, hZ9⟩ := hZ9
  obtain ⟨y14, hZ9⟩ := hZ9
  obtain ⟨y15, hZ9⟩ := hZ9
  obtain ⟨hO6, hZ9⟩ := hZ9
  replace hZ9 := hZ9.2
  obtain ⟨-, b16⟩ := hZ9
  clear b16
  refine q_get (ci := 10) (j := 6) (v := .ref (q 1)) C0 V i_Dir rfl rfl hO6 (by decide) w_365 rfl d_6_7_1 ?_
  refine lv_iload_n hx hb d_6_7_4 rfl (lv_at hl 1 rfl) ?_
  refine lv_i2l hx hb d_6_7_5 rfl ?_
  obtain ⟨j17, e18⟩ := q_nm (x2.toInt64 : Int64)
  refine q_tl (v := j17) e18 ?_
  refine q_goi V (q_runV (As := [.long j17]) (rest := []) (d := 1) (mc := 0) (ms := 0) (ci := 1) C0 V rfl LV_Dir_46 (X_She_at_p l D g q ws 1 4100 513 4100 (n_h1 g q) j17 hI t0_0 hT0 t1_0 hT1  _) rfl rfl hT0 rfl hl.1 rfl (Nat.le_of_ble_eq_true rfl) ⟨by decide, by decide⟩ ⟨Nat.le_of_ble_eq_true rfl, Nat.le_of_ble_eq_true rfl⟩ d_6_7_6) (fun a22 u20 H locs hp21 V => ?_)
  obtain ⟨rfl, b23, b24, b25, hE26⟩ := hp21
  have e27 : a22 = (F_She_at_p (4100 : Int32) (513 : Int32) (4100 : Int32) j17 t0_0 t1_0) := hE26
  replace b23 : q_F (0 ≤ a22.toInt) := b23
  replace b24 : q_F (a22.toInt ≤ 255) := b24
  clear b25
  refine lv_istore_n (lv' := [(2, .int a22), (0, .ref (q 47)), (1, .int x2)]) hx hb d_6_7_9 rfl hl (by decide) rfl (fun ls hl => ?_)
  refine lv_iload_n hx hb d_6_7_10 rfl (lv_at hl 0 rfl) ?_
  refine lv_bipush (v := 48) hx hb d_6_7_11 (by decide) ?_
  refine lv_icmp_lt (tgt := 29) hx hb d_6_7_13 (by decide) (fun c28 => ?_) (fun c28 => ?_)
  ·
    refine lv_iconst (v := (-1)) hx hb d_6_7_29 (by decide) ?_
    exact q_reti C0 V (⟨rfl, (show 0 ≤ (-1 : Int32).toInt + 1 from (by have z3 : (-1 : Int32).toInt = -1 := rfl; omega)), (show (-1 : Int32).toInt ≤ 9 from (by have z3 : (-1 : Int32).toInt = -1 := rfl; omega)), (show (-1 : Int32) = (F_Dir_figureAt x2 t0_0 t1_0) from (by have c28x := c28; rw [e27, ← e18] at c28x; rw [F_Dir_figureAt.eq_1, if_pos c28x]))⟩) d_6_7_30
  ·
    have b30 : q_F (48 ≤ a22.toInt) := (q_nltI c28)
    refine lv_iload_n hx hb d_6_7_16 rfl (lv_at hl 0 rfl) ?_
    refine lv_bipush (v := 57) hx hb d_6_7_17 (by decide) ?_
    refine lv_icmp_gt (tgt := 29) hx hb d_6_7_19 (by decide) (fun c31 => ?_) (fun c31 => ?_)
    ·
      refine lv_iconst (v := (-1)) hx hb d_6_7_29 (by decide) ?_
      exact q_reti C0 V (⟨rfl, (show 0 ≤ (-1 : Int32).toInt + 1 from (by have z3 : (-1 : Int32).toInt = -1 := rfl; omega)), (show (-1 : Int32).toInt ≤ 9 from (by have z3 : (-1 : Int32).toInt = -1 := rfl; omega)), (show (-1 : Int32) = (F_Dir_figureAt x2 t0_0 t1_0) from (by have c28x := c28; rw [e27, ← e18] at c28x; have c31x := c31; rw [e27, ← e18] at c31x; rw [F_Dir_figureAt.eq_1, if_neg c28x, if_pos c31x]))⟩) d_6_7_30
    ·
      have b33 : q_F (a22.toInt ≤ 57) := (q_nltI c31)
      refine lv_iload_n hx hb d_6_7_22 rfl (lv_at hl 0 rfl) ?_
      refine lv_bipush (v := 48) hx hb d_6_7_23 (by decide) ?_
      refine lv_isub hx hb d_6_7_25 ?_
      obtain ⟨a34, e35⟩ := q_nm (a22 - 48 : Int32)
      refine q_ti (v := a34) e35 ?_
      have b36 : q_F (a34.toInt = a22.toInt - 48) := (by rw [← e35]; show (a22 - 48 : Int32).toInt = a22.toInt - 48; exact q_subI (x := a22.toInt) (y := 48) rfl (by decide) (by have t1 : 0 ≤ a22.toInt := b23; have t2 : a22.toInt ≤ 255 := b24; omega) (by have t1 : 0 ≤ a22.toInt := b23; have t2 : a22.toInt ≤ 255 := b24; omega))
      refine lv_goto (tgt := 30) hx hb d_6_7_26 (by decide) ?_
      exact q_reti C0 V (⟨rfl, (show 0 ≤ a34.toInt + 1 from (by have t1 : 48 ≤ a22.toInt := b30; have t2 : a34.toInt = a22.toInt - 48 := b36; omega)), (show a34.toInt ≤ 9 from (by have t1 : a22.toInt ≤ 57 := b33; have t2 : a34.toInt = a22.toInt - 48 := b36; omega)), (show a34 = (F_Dir_figureAt x2 t0_0 t1_0) from (by have c28x := c28; rw [e27, ← e18] at c28x; have c31x := c31; rw [e27, ← e18] at c31x; rw [← e35, e27, ← e18, F_Dir_figureAt.eq_1, if_neg c28x, if_neg c31x]))⟩) d_6_7_30
def F_Dir_has (x2 : Int32) (t0_0 : Int32) (t0_1 : Int32) (t0_2 : Int32) (t0_3 : Int32) (t0_4 : Int32) (t0_5 : Int32) (t0_6 : Int32) : Int32 := if (t0_1 &&& x2 : Int32) = (0 : Int32) then ((0 : Int32)) else ((1 : Int32))
set_option maxRecDepth 100000 in
set_option maxHeartbeats 4000000 in
theorem X_Dir_has (l : Launch) (D : va_G) (g : Nat → ClassId) (q : Nat → Nat) (ws : va_W) (x2 : Int32) (hI : q_I (nsh g q) q ws) (t0_0 : Int32) (t0_1 : Int32) (t0_2 : Int32) (t0_3 : Int32) (t0_4 : Int32) (t0_5 : Int32) (t0_6 : Int32) (hT0 : ws[47]? = (some (q 47, .inr (10, [.int t0_0, .int t0_1, .int t0_2, .int t0_3, .int t0_4, .int t0_5, .ref (q 1), .int t0_6])) : Option (Nat × va_E))) : q_mI l y_Dir_has prog_6_method_8_code 2 (.boolean) 1 0 0 D g [.ref (q 47), .int x2] ws (fun r u => ws = u ∧ (0 ≤ r.toInt) ∧ (r.toInt ≤ 1) ∧ r = (F_Dir_has x2 t0_0 t0_1 t0_2 t0_3 t0_4 t0_5 t0_6)) := by
  intro sz
  refine q_into (by decide) (Nat.le_of_ble_eq_true rfl) ?_
  intro p e s m below meth c ls hsz C0 V hl
  have hx := C0.1
  have hb := C0.2.1
  have hZ9 := (n_w47 hI hT0).2
  obtain ⟨-, btt0_6⟩ := hZ9
  clear btt0_6
  have hl : lv_has ls 2 [(0, .ref (q 47)), (1, .int x2)] := hl
  refine lv_aload_n hx hb d_6_8_0 rfl (lv_at hl 0 rfl) ?_
  refine q_get (ci := 10) (j := 1) (v := .int t0_1) C0 V i_Dir rfl rfl hT0 (by decide) w_356 rfl d_6_8_1 ?_
  refine lv_iload_n hx hb d_6_8_4 rfl (lv_at hl 1 rfl) ?_
  refine lv_iand hx hb d_6_8_5 ?_
  obtain ⟨a12, e13⟩ := q_nm (t0_1 &&& x2 : Int32)
  refine q_ti (v := a12) e13 ?_
  refine lv_if_eq (tgt := 13) hx hb d_6_8_6 (by decide) (fun c14 => ?_) (fun c14 => ?_)
  ·
    refine lv_iconst (v := 0) hx hb d_6_8_13 (by decide) ?_
    exact q_retz C0 V (by decide) (⟨rfl, (show 0 ≤ (0 : Int32).toInt from (by have z8 : (0 : Int32).toInt = 0 := rfl; omega)), (show (0 : Int32).toInt ≤ 1 from (by have z8 : (0 : Int32).toInt = 0 := rfl; omega)), (show (0 : Int32) = (F_Dir_has x2 t0_0 t0_1 t0_2 t0_3 t0_4 t0_5 t0_6) from (by have c14x := c14; rw [← e13] at c14x; rw [F_Dir_has.eq_1, if_pos c14x]))⟩) d_6_8_14
  ·
    refine lv_iconst (v := 1) hx hb d_6_8_9 (by decide) ?_
    refine lv_goto (tgt := 14) hx hb d_6_8_10 (by decide) ?_
    exact q_retz C0 V (by decide) (⟨rfl, (show 0 ≤ (1 : Int32).toInt from (by have z8 : (1 : Int32).toInt = 1 := rfl; omega)), (show (1 : Int32).toInt ≤ 1 from (by have z8 : (1 : Int32).toInt = 1 := rfl; omega)), (show (1 : Int32) = (F_Dir_has x2 t0_0 t0_1 t0_2 t0_3 t0_4 t0_5 t0_6) from (by have c14x := c14; rw [← e13] at c14x; rw [F_Dir_has.eq_1, if_neg c14x]))⟩) d_6_8_14
def F_Dir_isLarge (t0_0 : Int32) (t0_1 : Int32) (t0_2 : Int32) (t0_3 : Int32) (t0_4 : Int32) (t0_5 : Int32) (t0_6 : Int32) : Int32 := if t0_4 < (65 : Int32) then ((0 : Int32)) else (if (90 : Int32) < t0_4 then ((0 : Int32)) else ((1 : Int32)))
set_option maxRecDepth 100000 in
set_option maxHeartbeats 4000000 in
theorem X_Dir_isLarge (l : Launch) (D : va_G) (g : Nat → ClassId) (q : Nat → Nat) (ws : va_W) (hI : q_I (nsh g q) q ws) (t0_0 : Int32) (t0_1 : Int32) (t0_2 : Int32) (t0_3 : Int32) (t0_4 : Int32) (t0_5 : Int32) (t0_6 : Int32) (hT0 : ws[47]? = (some (q 47, .inr (10, [.int t0_0, .int t0_1, .int t0_2, .int t0_3, .int t0_4, .int t0_5, .ref (q 1), .int t0_6])) : Option (Nat × va_E))) : q_mI l y_Dir_isLarge prog_6_method_10_code 1 (.boolean) 1 0 0 D g [.ref (q 47)] ws (fun r u => ws = u ∧ (0 ≤ r.toInt) ∧ (r.toInt ≤ 1) ∧ r = (F_Dir_isLarge t0_0 t0_1 t0_2 t0_3 t0_4 t0_5 t0_6)) := by
  intro sz
  refine q_into (by decide) (Nat.le_of_ble_eq_true rfl) ?_
  intro p e s m below meth c ls hsz C0 V hl
  have hx := C0.1
  have hb := C0.2.1
  have hZ9 := (n_w47 hI hT0).2
  obtain ⟨-, btt0_6⟩ := hZ9
  clear btt0_6
  have hl : lv_has ls 1 [(0, .ref (q 47))] := hl
  refine lv_aload_n hx hb d_6_10_0 rfl (lv_at hl 0 rfl) ?_
  refine q_get (ci := 10) (j := 4) (v := .int t0_4) C0 V i_Dir rfl rfl hT0 (by decide) w_361 rfl d_6_10_1 ?_
  refine lv_bipush (v := 65) hx hb d_6_10_4 (by decide) ?_
  refine lv_icmp_lt (tgt := 22) hx hb d_6_10_6 (by decide) (fun c12 => ?_) (fun c12 => ?_)
  ·
    refine lv_iconst (v := 0) hx hb d_6_10_22 (by decide) ?_
    exact q_retz C0 V (by decide) (⟨rfl, (show 0 ≤ (0 : Int32).toInt from (by have z7 : (0 : Int32).toInt = 0 := rfl; omega)), (show (0 : Int32).toInt ≤ 1 from (by have z7 : (0 : Int32).toInt = 0 := rfl; omega)), (show (0 : Int32) = (F_Dir_isLarge t0_0 t0_1 t0_2 t0_3 t0_4 t0_5 t0_6) from (by rw [F_Dir_isLarge.eq_1, if_pos c12]))⟩) d_6_10_23
  ·
    refine lv_aload_n hx hb d_6_10_9 rfl (lv_at hl 0 rfl) ?_
    refine q_get (ci := 10) (j := 4) (v := .int t0_4) C0 V i_Dir rfl rfl hT0 (by decide) w_361 rfl d_6_10_10 ?_
    refine lv_bipush (v := 90) hx hb d_6_10_13 (by decide) ?_
    refine lv_icmp_gt (tgt := 22) hx hb d_6_10_15 (by decide) (fun c15 => ?_) (fun c15 => ?_)
    ·
      refine lv_iconst (v := 0) hx hb d_6_10_22 (by decide) ?_
      exact q_retz C0 V (by decide) (⟨rfl, (show 0 ≤ (0 : Int32).toInt from (by have z7 : (0 : Int32).toInt = 0 := rfl; omega)), (show (0 : Int32).toInt ≤ 1 from (by have z7 : (0 : Int32).toInt = 0 := rfl; omega)), (show (0 : Int32) = (F_Dir_isLarge t0_0 t0_1 t0_2 t0_3 t0_4 t0_5 t0_6) from (by rw [F_Dir_isLarge.eq_1, if_neg c12, if_pos c15]))⟩) d_6_10_23
    ·
      refine lv_iconst (v := 1) hx hb d_6_10_18 (by decide) ?_
      refine lv_goto (tgt := 23) hx hb d_6_10_19 (by decide) ?_
      exact q_retz C0 V (by decide) (⟨rfl, (show 0 ≤ (1 : Int32).toInt from (by have z7 : (1 : Int32).toInt = 1 := rfl; omega)), (show (1 : Int32).toInt ≤ 1 from (by have z7 : (1 : Int32).toInt = 1 := rfl; omega)), (show (1 : Int32) = (F_Dir_isLarge t0_0 t0_1 t0_2 t0_3 t0_4 t0_5 t0_6) from (by rw [F_Dir_isLarge.eq_1, if_neg c12, if_neg c15]))⟩) d_6_10_23

def F_Dir_setPlain (t0_0 : Int32) (t0_1 : Int32) (t0_2 : Int32) (t0_3 : Int32) (t0_4 : Int32) (t0_5 : Int32) (t0_6 : Int32) (t1_0 : Int32) (t2_0 : (Nat → Int64)) : Int32 × Int32 × Int32 × Int32 × Int32 × Int32 × Int32 := (t0_0, (0 : Int32), (-1 : Int32), t0_3, (-1 : Int32), t0_5, t0_6)
set_option maxRecDepth 100000 in
set_option maxHeartbeats 4000000 in
theorem X_Dir_setPlain (l : Launch) (D : va_G) (g : Nat → ClassId) (q : Nat → Nat) (ws : va_W) (hI : q_I (nsh g q) q ws) (t0_0 : Int32) (t0_1 : Int32) (t0_2 : Int32) (t0_3 : Int32) (t0_4 : Int32) (t0_5 : Int32) (t0_6 : Int32) (hT0 : ws[47]? = (some (q 47, .inr (10, [.int t0_0, .int t0_1, .int t0_2, .int t0_3, .int t0_4, .int t0_5, .ref (q 1), .int t0_6])) : Option (Nat × va_E))) (t1_0 : Int32) (hT1 : ws[1]? = (some (q 1, .inr (1, [.ref (q 2), .int 4100, .int t1_0])) : Option (Nat × va_E))) (t2_0 : (Nat → Int64)) (hT2 : ws[2]? = (some (q 2, .inl (g 1, (513 : Int32).toNatClampNeg, .inr (.inl t2_0))) : Option (Nat × va_E))) : q_mV l y_Dir_setPlain prog_6_method_3_code 1 1 0 0 D g [.ref (q 47)] ws (fun u => q_I (nsh g q) q u ∧ q_un ws u [47] ∧ ∃ (u0_0 : Int32) (u0_1 : Int32) (u0_2 : Int32) (u0_3 : Int32) (u0_4 : Int32) (u0_5 : Int32) (u0_6 : Int32), u[47]? = (some (q 47, .inr (10, [.int u0_0, .int u0_1, .int u0_2, .int u0_3, .int u0_4, .int u0_5, .ref (q 1), .int u0_6])) : Option (Nat × va_E)) ∧ (0 ≤ u0_4.toInt + 1) ∧ (u0_4.toInt + 1 ≤ 0) ∧ (t0_0.toInt ≤ u0_0.toInt) ∧ (u0_0.toInt ≤ t0_0.toInt) ∧ (t0_3.toInt ≤ u0_3.toInt) ∧ (u0_3.toInt ≤ t0_3.toInt) ∧ (t0_5.toInt ≤ u0_5.toInt) ∧ (u0_5.toInt ≤ t0_5.toInt) ∧ (t0_6.toInt ≤ u0_6.toInt) ∧ (u0_6.toInt ≤ t0_6.toInt) ∧ (u0_4.toInt + 1 ≤ u0_1.toInt) ∧ (u0_1.toInt ≤ u0_4.toInt + 1) ∧ (u0_4.toInt ≤ u0_2.toInt) ∧ (u0_2.toInt ≤ u0_4.toInt) ∧ (u0_0, u0_1, u0_2, u0_3, u0_4, u0_5, u0_6) = (F_Dir_setPlain t0_0 t0_1 t0_2 t0_3 t0_4 t0_5 t0_6 t1_0 t2_0)) := by
  intro sz
  refine q_into (by decide) (Nat.le_of_ble_eq_true rfl) ?_
  intro p e s m below meth c ls hsz C0 V hl
  have hx := C0.1
  have hb := C0.2.1
  obtain ⟨btt0_2, hZ9⟩ := n_w47 hI hT0
  obtain ⟨btt0_3, btt0_6⟩ := hZ9
  replace btt0_2 : q_F (-1 ≤ t0_2.toInt ∧ t0_2.toInt ≤ 9999) := btt0_2
  replace btt0_3 : q_F (-1 ≤ t0_3.toInt ∧ t0_3.toInt ≤ 9999) := btt0_3
  replace btt0_6 : q_F (0 ≤ t0_6.toInt ∧ t0_6.toInt ≤ 1) := btt0_6
  have btt1_0 := n_shW hI (n_h1 g q) hT1
  clear btt1_0
  have hF : q_un ws ws [47] := q_u0
  have hl : lv_has ls 1 [(0, .ref (q 47))] := hl
  refine lv_aload_n hx hb d_6_3_0 rfl (lv_at hl 0 rfl) ?_
  refine lv_iconst (v := 0) hx hb d_6_3_1 (by decide) ?_
  refine q_put (ci := 10) (j := 1) (v := .int 0) (ty := .int) C0 V i_Dir o_Dir n_Dir rfl rfl hT0 (by decide) w_356 rfl rfl rfl rfl (Nat.le_of_ble_eq_true rfl) d_6_3_2 (fun H locs w17 hu18 hT0 V => ?_)
  replace hT0 : w17[47]? = (some (q 47, .inr (10, [.int t0_0, .int 0, .int t0_2, .int t0_3, .int t0_4, .int t0_5, .ref (q 1), .int t0_6])) : Option (Nat × va_E)) := hT0
  replace hI := n_p47 hI hu18 hT0 (by first | with_reducible exact q_fe btt0_2 | exact ⟨(by have t1 : -1 ≤ t0_2.toInt ∧ t0_2.toInt ≤ 9999 := btt0_2; omega), (by have t1 : -1 ≤ t0_2.toInt ∧ t0_2.toInt ≤ 9999 := btt0_2; omega)⟩) (by first | with_reducible exact q_fe btt0_3 | exact ⟨(by have t1 : -1 ≤ t0_3.toInt ∧ t0_3.toInt ≤ 9999 := btt0_3; omega), (by have t1 : -1 ≤ t0_3.toInt ∧ t0_3.toInt ≤ 9999 := btt0_3; omega)⟩) (by first | with_reducible exact q_fe btt0_6 | exact ⟨(by have t1 : 0 ≤ t0_6.toInt ∧ t0_6.toInt ≤ 1 := btt0_6; omega), (by have t1 : 0 ≤ t0_6.toInt ∧ t0_6.toInt ≤ 1 := btt0_6; omega)⟩)
  replace hF := q_us hF hu18 (by simp)
  refine lv_aload_n hx hb d_6_3_5 rfl (lv_at hl 0 rfl) ?_
  refine lv_iconst (v := (-1)) hx hb d_6_3_6 (by decide) ?_
  refine q_put (ci := 10) (j := 2) (v := .int (-1)) (ty := .int) C0 V i_Dir o_Dir n_Dir rfl rfl hT0 (by decide) w_357 rfl rfl rfl rfl (Nat.le_of_ble_eq_true rfl) d_6_3_7 (fun H locs w19 hu20 hT0 V => ?_)
  replace hT0 : w19[47]? = (some (q 47, .inr (10, [.int t0_0, .int 0, .int (-1), .int t0_3, .int t0_4, .int t0_5, .ref (q 1), .int t0_6])) : Option (Nat × va_E)) := hT0
  replace hI := n_p47 hI hu20 hT0 ⟨(by have z9 : (-1 : Int32).toInt = -1 := rfl; omega), (by have z9 : (-1 : Int32).toInt = -1 := rfl; omega)⟩ (by first | with_reducible exact q_fe btt0_3 | exact ⟨(by have t1 : -1 ≤ t0_3.toInt ∧ t0_3.toInt ≤ 9999 := btt0_3; omega), (by have t1 : -1 ≤ t0_3.toInt ∧ t0_3.toInt ≤ 9999 := btt0_3; omega)⟩) (by first | with_reducible exact q_fe btt0_6 | exact ⟨(by have t1 : 0 ≤ t0_6.toInt ∧ t0_6.toInt ≤ 1 := btt0_6; omega), (by have t1 : 0 ≤ t0_6.toInt ∧ t0_6.toInt ≤ 1 := btt0_6; omega)⟩)
  replace hF := q_us hF hu20 (by simp)
  refine lv_aload_n hx hb d_6_3_10 rfl (lv_at hl 0 rfl) ?_
  refine lv_iconst (v := (-1)) hx hb d_6_3_11 (by decide) ?_
  refine q_put (ci := 10) (j := 4) (v := .int (-1)) (ty := .int) C0 V i_Dir o_Dir n_Dir rfl rfl hT0 (by decide) w_361 rfl rfl rfl rfl (Nat.le_of_ble_eq_true rfl) d_6_3_12 (fun H locs w21 hu22 hT0 V => ?_)
  replace hT0 : w21[47]? = (some (q 47, .inr (10, [.int t0_0, .int 0, .int (-1), .int t0_3, .int (-1), .int t0_5, .ref (q 1), .int t0_6])) : Option (Nat × va_E)) := hT0
  replace hI := n_p47 hI hu22 hT0 ⟨(by have z9 : (-1 : Int32).toInt = -1 := rfl; omega), (by have z9 : (-1 : Int32).toInt = -1 := rfl; omega)⟩ (by first | with_reducible exact q_fe btt0_3 | exact ⟨(by have t1 : -1 ≤ t0_3.toInt ∧ t0_3.toInt ≤ 9999 := btt0_3; omega), (by have t1 : -1 ≤ t0_3.toInt ∧ t0_3.toInt ≤ 9999 := btt0_3; omega)⟩) (by first | with_reducible exact q_fe btt0_6 | exact ⟨(by have t1 : 0 ≤ t0_6.toInt ∧ t0_6.toInt ≤ 1 := btt0_6; omega), (by have t1 : 0 ≤ t0_6.toInt ∧ t0_6.toInt ≤ 1 := btt0_6; omega)⟩)
  replace hF := q_us hF hu22 (by simp)
  exact q_retv C0 V (⟨hI, hF, t0_0, 0, (-1), t0_3, (-1), t0_5, t0_6, hT0, (show 0 ≤ (-1 : Int32).toInt + 1 from (by have z10 : (0 : Int32).toInt = 0 := rfl; have z11 : (-1 : Int32).toInt = -1 := rfl; have z13 : (-1 : Int32).toInt = -1 := rfl; omega)), (show (-1 : Int32).toInt + 1 ≤ 0 from (by have z10 : (0 : Int32).toInt = 0 := rfl; have z11 : (-1 : Int32).toInt = -1 := rfl; have z13 : (-1 : Int32).toInt = -1 := rfl; omega)), (show t0_0.toInt ≤ t0_0.toInt from (by have z10 : (0 : Int32).toInt = 0 := rfl; have z11 : (-1 : Int32).toInt = -1 := rfl; have z13 : (-1 : Int32).toInt = -1 := rfl; omega)), (show t0_0.toInt ≤ t0_0.toInt from (by have z10 : (0 : Int32).toInt = 0 := rfl; have z11 : (-1 : Int32).toInt = -1 := rfl; have z13 : (-1 : Int32).toInt = -1 := rfl; omega)), (show t0_3.toInt ≤ t0_3.toInt from (by have z10 : (0 : Int32).toInt = 0 := rfl; have z11 : (-1 : Int32).toInt = -1 := rfl; have z13 : (-1 : Int32).toInt = -1 := rfl; omega)), (show t0_3.toInt ≤ t0_3.toInt from (by have z10 : (0 : Int32).toInt = 0 := rfl; have z11 : (-1 : Int32).toInt = -1 := rfl; have z13 : (-1 : Int32).toInt = -1 := rfl; omega)), (show t0_5.toInt ≤ t0_5.toInt from (by have z10 : (0 : Int32).toInt = 0 := rfl; have z11 : (-1 : Int32).toInt = -1 := rfl; have z13 : (-1 : Int32).toInt = -1 := rfl; omega)), (show t0_5.toInt ≤ t0_5.toInt from (by have z10 : (0 : Int32).toInt = 0 := rfl; have z11 : (-1 : Int32).toInt = -1 := rfl; have z13 : (-1 : Int32).toInt = -1 := rfl; omega)), (show t0_6.toInt ≤ t0_6.toInt from (by have z10 : (0 : Int32).toInt = 0 := rfl; have z11 : (-1 : Int32).toInt = -1 := rfl; have z13 : (-1 : Int32).toInt = -1 := rfl; omega)), (show t0_6.toInt ≤ t0_6.toInt from (by have z10 : (0 : Int32).toInt = 0 := rfl; have z11 : (-1 : Int32).toInt = -1 := rfl; have z13 : (-1 : Int32).toInt = -1 := rfl; omega)), (show (-1 : Int32).toInt + 1 ≤ (0 : Int32).toInt from (by have z10 : (0 : Int32).toInt = 0 := rfl; have z11 : (-1 : Int32).toInt = -1 := rfl; have z13 : (-1 : Int32).toInt = -1 := rfl; omega)), (show (0 : Int32).toInt ≤ (-1 : Int32).toInt + 1 from (by have z10 : (0 : Int32).toInt = 0 := rfl; have z11 : (-1 : Int32).toInt = -1 := rfl; have z13 : (-1 : Int32).toInt = -1 := rfl; omega)), (show (-1 : Int32).toInt ≤ (-1 : Int32).toInt from (by have z10 : (0 : Int32).toInt = 0 := rfl; have z11 : (-1 : Int32).toInt = -1 := rfl; have z13 : (-1 : Int32).toInt = -1 := rfl; omega)), (show (-1 : Int32).toInt ≤ (-1 : Int32).toInt from (by have z10 : (0 : Int32).toInt = 0 := rfl; have z11 : (-1 : Int32).toInt = -1 := rfl; have z13 : (-1 : Int32).toInt = -1 := rfl; omega)), (show (t0_0, (0 : Int32), (-1 : Int32), t0_3, (-1 : Int32), t0_5, t0_6) = (F_Dir_setPlain t0_0 t0_1 t0_2 t0_3 t0_4 t0_5 t0_6 t1_0 t2_0) from (by rw [F_Dir_setPlain.eq_1]))⟩) d_6_3_15
def F_Dir_takeNumber_L2 (t0_0 : Int32) (t0_1 : Int32) (t0_2 : Int32) (t0_3 : Int32) (t0_4 : Int32) (t0_5 : Int32) (t0_6 : Int32) (t1_0 : Int32) (t2_0 : (Nat → Int64)) : Nat → Int32 → Int32 → (Int32 × Int32 × Int32 × Int32 × Int32 × Int32 × Int32 × Int32)
  | 0, _, _ => default
  | fm + 1, lx20, lx21 => if ((F_Dir_figureAt lx21 t1_0 t2_0) : Int32) < (0 : Int32) then ((lx20, t0_0, t0_1, t0_2, t0_3, t0_4, lx21, t0_6)) else (if t1_0 ≤ lx21 then ((lx20, t0_0, t0_1, t0_2, t0_3, t0_4, lx21, t0_6)) else (F_Dir_takeNumber_L2 t0_0 t0_1 t0_2 t0_3 t0_4 t0_5 t0_6 t1_0 t2_0 fm (if 9999 < ((lx20 * 10 : Int32) + ((F_Dir_figureAt lx21 t1_0 t2_0) : Int32) : Int32) then 9999 else ((lx20 * 10 : Int32) + ((F_Dir_figureAt lx21 t1_0 t2_0) : Int32) : Int32) : Int32) (lx21 + 1 : Int32)))
def F_Dir_takeNumber (t0_0 : Int32) (t0_1 : Int32) (t0_2 : Int32) (t0_3 : Int32) (t0_4 : Int32) (t0_5 : Int32) (t0_6 : Int32) (t1_0 : Int32) (t2_0 : (Nat → Int64)) : Int32 × Int32 × Int32 × Int32 × Int32 × Int32 × Int32 × Int32 := F_Dir_takeNumber_L2 t0_0 t0_1 t0_2 t0_3 t0_4 t0_5 t0_6 t1_0 t2_0 ((4100 - t0_5.toInt).toNat + 1) 0 t0_5
set_option maxRecDepth 100000 in
set_option maxHeartbeats 4000000 in
theorem X_Dir_takeNumber (l : Launch) (D : va_G) (g : Nat → ClassId) (q : Nat → Nat) (ws : va_W) (hI : q_I (nsh g q) q ws) (t0_0 : Int32) (t0_1 : Int32) (t0_2 : Int32) (t0_3 : Int32) (t0_4 : Int32) (t0_5 : Int32) (t0_6 : Int32) (hT0 : ws[47]? = (some (q 47, .inr (10, [.int t0_0, .int t0_1, .int t0_2, .int t0_3, .int t0_4, .int t0_5, .ref (q 1), .int t0_6])) : Option (Nat × va_E))) (t1_0 : Int32) (hT1 : ws[1]? = (some (q 1, .inr (1, [.ref (q 2), .int 4100, .int t1_0])) : Option (Nat × va_E))) (t2_0 : (Nat → Int64)) (hT2 : ws[2]? = (some (q 2, .inl (g 1, (513 : Int32).toNatClampNeg, .inr (.inl t2_0))) : Option (Nat × va_E))) : q_mI l y_Dir_takeNumber prog_6_method_6_code 2 (.int) 3 0 0 D g [.ref (q 47)] ws (fun r u => q_I (nsh g q) q u ∧ q_un ws u [47] ∧ ∃ (u0_0 : Int32) (u0_1 : Int32) (u0_2 : Int32) (u0_3 : Int32) (u0_4 : Int32) (u0_5 : Int32) (u0_6 : Int32), u[47]? = (some (q 47, .inr (10, [.int u0_0, .int u0_1, .int u0_2, .int u0_3, .int u0_4, .int u0_5, .ref (q 1), .int u0_6])) : Option (Nat × va_E)) ∧ (0 ≤ r.toInt) ∧ (r.toInt ≤ 9999) ∧ (t0_0.toInt ≤ u0_0.toInt) ∧ (u0_0.toInt ≤ t0_0.toInt) ∧ (t0_1.toInt ≤ u0_1.toInt) ∧ (u0_1.toInt ≤ t0_1.toInt) ∧ (t0_2.toInt ≤ u0_2.toInt) ∧ (u0_2.toInt ≤ t0_2.toInt) ∧ (t0_3.toInt ≤ u0_3.toInt) ∧ (u0_3.toInt ≤ t0_3.toInt) ∧ (t0_4.toInt ≤ u0_4.toInt) ∧ (u0_4.toInt ≤ t0_4.toInt) ∧ (t0_5.toInt ≤ u0_5.toInt) ∧ (t0_6.toInt ≤ u0_6.toInt) ∧ (u0_6.toInt ≤ t0_6.toInt) ∧ (r, u0_0, u0_1, u0_2, u0_3, u0_4, u0_5, u0_6) = (F_Dir_takeNumber t0_0 t0_1 t0_2 t0_3 t0_4 t0_5 t0_6 t1_0 t2_0)) := by
  intro sz
  refine q_into (by decide) (Nat.le_of_ble_eq_true rfl) ?_
  intro p e s m below meth c ls hsz C0 V hl
  have hx := C0.1
  have hb := C0.2.1
  obtain ⟨btt0_2, hZ9⟩ := n_w47 hI hT0
  obtain ⟨btt0_3, btt0_6⟩ := hZ9
  replace btt0_2 : q_F (-1 ≤ t0_2.toInt ∧ t0_2.toInt ≤ 9999) := btt0_2
  replace btt0_3 : q_F (-1 ≤ t0_3.toInt ∧ t0_3.toInt ≤ 9999) := btt0_3
  replace btt0_6 : q_F (0 ≤ t0_6.toInt ∧ t0_6.toInt ≤ 1) := btt0_6
  have btt1_0 := n_shW hI (n_h1 g q) hT1
  replace btt1_0 : q_F (0 ≤ t1_0.toInt ∧ t1_0.toInt ≤ 4100) := btt1_0
  have hF : q_un ws ws [47] := q_u0
  have hl : lv_has ls 2 [(0, .ref (q 47))] := hl
  refine lv_iconst (v := 0) hx hb d_6_6_0 (by decide) ?_
  refine lv_istore_n (lv' := [(1, .int 0), (0, .ref (q 47))]) hx hb d_6_6_1 rfl hl (by decide) rfl (fun ls hl => ?_)
  refine q_loop (X := Int32 × Int32) (fun z H locs ls w26 => q_F (0 ≤ z.1.toInt) ∧ q_F (z.1.toInt ≤ 9999) ∧ q_F (t0_5.toInt ≤ z.2.toInt) ∧ q_Wd D g (va_A ws sz) s w26 H locs ∧ lv_has ls 2 [(1, .int z.1), (0, .ref (q 47))] ∧ q_I (nsh g q) q w26 ∧ q_un ws w26 [47] ∧ w26[47]? = (some (q 47, .inr (10, [.int t0_0, .int t0_1, .int t0_2, .int t0_3, .int t0_4, .int z.2, .ref (q 1), .int t0_6])) : Option (Nat × va_E)) ∧ w26[1]? = (some (q 1, .inr (1, [.ref (q 2), .int 4100, .int t1_0])) : Option (Nat × va_E)) ∧ w26[2]? = (some (q 2, .inl (g 1, (513 : Int32).toNatClampNeg, .inr (.inl t2_0))) : Option (Nat × va_E)) ∧ (∃ n, (4100 - z.2.toInt).toNat < n ∧ F_Dir_takeNumber_L2 t0_0 t0_1 t0_2 t0_3 t0_4 t0_5 t0_6 t1_0 t2_0 n z.1 z.2 = (F_Dir_takeNumber t0_0 t0_1 t0_2 t0_3 t0_4 t0_5 t0_6 t1_0 t2_0))) (fun z => (4100 - z.2.toInt).toNat) ?_ ((0 : Int32), (t0_5 : Int32)) _ _ _ ws ⟨(show q_F (0 ≤ 0) from (show 0 ≤ 0 from by omega)), (show q_F (0 ≤ 9999) from (show 0 ≤ 9999 from by omega)), (show q_F (t0_5.toInt ≤ t0_5.toInt) from (show t0_5.toInt ≤ t0_5.toInt from by omega)), V, q_lw hl (q_lw1 0 rfl (q_lw1 1 rfl q_lw0)), hI, hF, hT0, hT1, hT2, ⟨((4100 - t0_5.toInt).toNat + 1), Nat.lt_succ_self _, (show F_Dir_takeNumber_L2 t0_0 t0_1 t0_2 t0_3 t0_4 t0_5 t0_6 t1_0 t2_0 ((4100 - t0_5.toInt).toNat + 1) 0 t0_5 = (F_Dir_takeNumber t0_0 t0_1 t0_2 t0_3 t0_4 t0_5 t0_6 t1_0 t2_0) from (by rw [F_Dir_takeNumber.eq_1]))⟩⟩
  rintro ⟨lx20, lx21⟩ H locs ls w26 ⟨i22, i23, i24, V, hl, hI, hF, hO27, hO28, hO29, ⟨fu32, hf33, hR30⟩⟩ ih25
  obtain ⟨fm34, rfl⟩ : ∃ m, fu32 = m + 1 := ⟨fu32 - 1, by omega⟩
  replace i22 : q_F (0 ≤ lx20.toInt) := i22
  replace i23 : q_F (lx20.toInt ≤ 9999) := i23
  replace i24 : q_F (t0_5.toInt ≤ lx21.toInt) := i24
  replace hl : lv_has ls 2 [(1, .int lx20), (0, .ref (q 47))] := hl
  replace hO27 : w26[47]? = (some (q 47, .inr (10, [.int t0_0, .int t0_1, .int t0_2, .int t0_3, .int t0_4, .int lx21, .ref (q 1), .int t0_6])) : Option (Nat × va_E)) := hO27
  replace hO28 : w26[1]? = (some (q 1, .inr (1, [.ref (q 2), .int 4100, .int t1_0])) : Option (Nat × va_E)) := hO28
  replace hO29 : w26[2]? = (some (q 2, .inl (g 1, (513 : Int32).toNatClampNeg, .inr (.inl t2_0))) : Option (Nat × va_E)) := hO29
  refine lv_aload_n hx hb d_6_6_2 rfl (lv_at hl 1 rfl) ?_
  refine lv_aload_n hx hb d_6_6_3 rfl (lv_at hl 1 rfl) ?_
  refine q_get (ci := 10) (j := 5) (v := .int lx21) C0 V i_Dir rfl rfl hO27 (by decide) w_363 rfl d_6_6_4 ?_
  refine q_goi V (q_runV (As := [.int lx21]) (rest := []) (d := 2) (mc := 0) (ms := 0) (ci := 10) C0 V rfl LV_Dir_32 (X_Dir_figureAt l D g q w26  lx21 hI t1_0 hO28 t2_0 hO29  _) rfl rfl hO27 rfl hl.1 rfl (Nat.le_of_ble_eq_true rfl) ⟨by decide, by decide⟩ ⟨Nat.le_of_ble_eq_true rfl, Nat.le_of_ble_eq_true rfl⟩ d_6_6_7) (fun a37 u35 H locs hp36 V => ?_)
  obtain ⟨rfl, b38, b39, hE40⟩ := hp36
  have e41 : a37 = (F_Dir_figureAt lx21 t1_0 t2_0) := hE40
  clear b38
  replace b39 : q_F (a37.toInt ≤ 9) := b39
  refine lv_if_lt (tgt := 60) hx hb d_6_6_10 (by decide) (fun c42 => ?_) (fun c42 => ?_)
  ·
    refine lv_iload_n hx hb d_6_6_60 rfl (lv_at hl 0 rfl) ?_
    exact q_reti C0 V (⟨hI, hF, t0_0, t0_1, t0_2, t0_3, t0_4, lx21, t0_6, hO27, (show 0 ≤ lx20.toInt from (by first | with_reducible exact q_fe i22 | (have t1 : 0 ≤ lx20.toInt := i22; omega))), (show lx20.toInt ≤ 9999 from (by first | with_reducible exact q_fe i23 | (have t1 : lx20.toInt ≤ 9999 := i23; omega))), (show t0_0.toInt ≤ t0_0.toInt from (by omega)), (show t0_0.toInt ≤ t0_0.toInt from (by omega)), (show t0_1.toInt ≤ t0_1.toInt from (by omega)), (show t0_1.toInt ≤ t0_1.toInt from (by omega)), (show t0_2.toInt ≤ t0_2.toInt from (by omega)), (show t0_2.toInt ≤ t0_2.toInt from (by omega)), (show t0_3.toInt ≤ t0_3.toInt from (by omega)), (show t0_3.toInt ≤ t0_3.toInt from (by omega)), (show t0_4.toInt ≤ t0_4.toInt from (by omega)), (show t0_4.toInt ≤ t0_4.toInt from (by omega)), (show t0_5.toInt ≤ lx21.toInt from (by first | with_reducible exact q_fe i24 | (have t1 : t0_5.toInt ≤ lx21.toInt := i24; omega))), (show t0_6.toInt ≤ t0_6.toInt from (by omega)), (show t0_6.toInt ≤ t0_6.toInt from (by omega)), (show (lx20, t0_0, t0_1, t0_2, t0_3, t0_4, lx21, t0_6) = (F_Dir_takeNumber t0_0 t0_1 t0_2 t0_3 t0_4 t0_5 t0_6 t1_0 t2_0) from Eq.trans (by have c42x := c42; rw [e41] at c42x; rw [F_Dir_takeNumber_L2.eq_2, if_pos c42x]) hR30)⟩) d_6_6_61
  ·
    have b44 : q_F (0 ≤ a37.toInt) := (q_nltI c42)
    refine lv_aload_n hx hb d_6_6_13 rfl (lv_at hl 1 rfl) ?_
    refine q_get (ci := 10) (j := 5) (v := .int lx21) C0 V i_Dir rfl rfl hO27 (by decide) w_363 rfl d_6_6_14 ?_
    refine lv_aload_n hx hb d_6_6_17 rfl (lv_at hl 1 rfl) ?_
    refine q_get (ci := 10) (j := 6) (v := .ref (q 1)) C0 V i_Dir rfl rfl hO27 (by decide) w_365 rfl d_6_6_18 ?_
    refine q_get (ci := 1) (j := 2) (v := .int t1_0) C0 V i_She rfl rfl hO28 (by decide) w_57 rfl d_6_6_21 ?_
    refine lv_icmp_ge (tgt := 60) hx hb d_6_6_24 (by decide) (fun c45 => ?_) (fun c45 => ?_)
    ·
      refine lv_iload_n hx hb d_6_6_60 rfl (lv_at hl 0 rfl) ?_
      exact q_reti C0 V (⟨hI, hF, t0_0, t0_1, t0_2, t0_3, t0_4, lx21, t0_6, hO27, (show 0 ≤ lx20.toInt from (by first | with_reducible exact q_fe i22 | (have t1 : 0 ≤ lx20.toInt := i22; omega))), (show lx20.toInt ≤ 9999 from (by first | with_reducible exact q_fe i23 | (have t1 : lx20.toInt ≤ 9999 := i23; omega))), (show t0_0.toInt ≤ t0_0.toInt from (by omega)), (show t0_0.toInt ≤ t0_0.toInt from (by omega)), (show t0_1.toInt ≤ t0_1.toInt from (by omega)), (show t0_1.toInt ≤ t0_1.toInt from (by omega)), (show t0_2.toInt ≤ t0_2.toInt from (by omega)), (show t0_2.toInt ≤ t0_2.toInt from (by omega)), (show t0_3.toInt ≤ t0_3.toInt from (by omega)), (show t0_3.toInt ≤ t0_3.toInt from (by omega)), (show t0_4.toInt ≤ t0_4.toInt from (by omega)), (show t0_4.toInt ≤ t0_4.toInt from (by omega)), (show t0_5.toInt ≤ lx21.toInt from (by first | with_reducible exact q_fe i24 | (have t1 : t0_5.toInt ≤ lx21.toInt := i24; omega))), (show t0_6.toInt ≤ t0_6.toInt from (by omega)), (show t0_6.toInt ≤ t0_6.toInt from (by omega)), (show (lx20, t0_0, t0_1, t0_2, t0_3, t0_4, lx21, t0_6) = (F_Dir_takeNumber t0_0 t0_1 t0_2 t0_3 t0_4 t0_5 t0_6 t1_0 t2_0) from Eq.trans (by have c42x := c42; rw [e41] at c42x; rw [F_Dir_takeNumber_L2.eq_2, if_neg c42x, if_pos c45]) hR30)⟩) d_6_6_61
    ·
      have b47 : q_F (lx21.toInt < t1_0.toInt) := (q_nleI c45)
      refine lv_iload_n hx hb d_6_6_27 rfl (lv_at hl 0 rfl) ?_
      refine lv_bipush (v := 10) hx hb d_6_6_28 (by decide) ?_
      refine lv_imul hx hb d_6_6_30 ?_
      obtain ⟨a48, e49⟩ := q_nm (lx20 * 10 : Int32)
      refine q_ti (v := a48) e49 ?_
      have b50 : q_F (a48.toInt = lx20.toInt * 10) := (by rw [← e49]; show (lx20 * 10 : Int32).toInt = lx20.toInt * 10; exact q_mulI (x := lx20.toInt) (y := 10) rfl (by decide) (by have t1 : 0 ≤ lx20.toInt := i22; have t2 : lx20.toInt ≤ 9999 := i23; omega) (by have t1 : 0 ≤ lx20.toInt := i22; have t2 : lx20.toInt ≤ 9999 := i23; omega))
      refine lv_aload_n hx hb d_6_6_31 rfl (lv_at hl 1 rfl) ?_
      refine lv_aload_n hx hb d_6_6_32 rfl (lv_at hl 1 rfl) ?_
      refine q_get (ci := 10) (j := 5) (v := .int lx21) C0 V i_Dir rfl rfl hO27 (by decide) w_363 rfl d_6_6_33 ?_
      refine q_goi V (q_runV (As := [.int lx21]) (rest := [.int a48]) (d := 2) (mc := 0) (ms := 0) (ci := 10) C0 V rfl LV_Dir_32 (X_Dir_figureAt l D g q w26  lx21 hI t1_0 hO28 t2_0 hO29  _) rfl rfl hO27 rfl hl.1 rfl (Nat.le_of_ble_eq_true rfl) ⟨by decide, by decide⟩ ⟨Nat.le_of_ble_eq_true rfl, Nat.le_of_ble_eq_true rfl⟩ d_6_6_36) (fun a53 u51 H locs hp52 V => ?_)
      obtain ⟨rfl, b54, b55, hE56⟩ := hp52
      have e57 : a53 = (F_Dir_figureAt lx21 t1_0 t2_0) := hE56
      clear b54
      clear b55
      obtain rfl : a37 = a53 := e41.trans e57.symm
      refine lv_iadd hx hb d_6_6_39 ?_
      obtain ⟨a58, e59⟩ := q_nm (a48 + a37 : Int32)
      refine q_ti (v := a58) e59 ?_
      have b60 : q_F (a58.toInt = a48.toInt + a37.toInt) := (by rw [← e59]; show (a48 + a37 : Int32).toInt = a48.toInt + a37.toInt; exact q_addI (x := a48.toInt) (y := a37.toInt) rfl rfl (by have t1 : 0 ≤ a37.toInt := b44; have _ := q_lo32 (x := a48); have _ := q_hi32 (x := a48); have t2 : lx20.toInt ≤ 9999 := i23; have t3 : a37.toInt ≤ 9 := b39; have t4 : a48.toInt = lx20.toInt * 10 := b50; omega) (by have t1 : 0 ≤ a37.toInt := b44; have _ := q_lo32 (x := a48); have _ := q_hi32 (x := a48); have t2 : lx20.toInt ≤ 9999 := i23; have t3 : a37.toInt ≤ 9 := b39; have t4 : a48.toInt = lx20.toInt * 10 := b50; omega))
      refine lv_sipush (v := 9999) hx hb d_6_6_40 (by decide) ?_
      refine q_min C0 hl.1 rfl w_1752 w_774 w_7 w_775 ⟨Nat.le_of_ble_eq_true rfl, Nat.le_of_ble_eq_true rfl⟩ ⟨Nat.le_of_ble_eq_true rfl, Nat.le_of_ble_eq_true rfl⟩ d_6_6_43 ?_
      obtain ⟨a61, e62⟩ := q_nm (if 9999 < a58 then 9999 else a58 : Int32)
      refine q_ti (v := a61) e62 ?_
      have b63 : q_F (a61.toInt ≤ a58.toInt ∧ a61.toInt ≤ 9999 ∧ (a61.toInt = a58.toInt ∨ a61.toInt = 9999)) := (by rw [← e62]; show (if 9999 < a58 then 9999 else a58 : Int32).toInt ≤ a58.toInt ∧ (if 9999 < a58 then 9999 else a58 : Int32).toInt ≤ 9999 ∧ ((if 9999 < a58 then 9999 else a58 : Int32).toInt = a58.toInt ∨ (if 9999 < a58 then 9999 else a58 : Int32).toInt = 9999); exact (by have y1 : (9999 : Int32).toInt = 9999 := rfl; have z := s_min (a := a58) (b := 9999); omega))
      refine lv_istore_n (lv' := [(1, .int a61), (0, .ref (q 47))]) hx hb d_6_6_46 rfl hl (by decide) rfl (fun ls hl => ?_)
      refine lv_aload_n hx hb d_6_6_47 rfl (lv_at hl 1 rfl) ?_
      refine lv_dup hx hb d_6_6_48 rfl ?_
      refine q_get (ci := 10) (j := 5) (v := .int lx21) C0 V i_Dir rfl rfl hO27 (by decide) w_363 rfl d_6_6_49 ?_
      refine lv_iconst (v := 1) hx hb d_6_6_52 (by decide) ?_
      refine lv_iadd hx hb d_6_6_53 ?_
      obtain ⟨a64, e65⟩ := q_nm (lx21 + 1 : Int32)
      refine q_ti (v := a64) e65 ?_
      have b66 : q_F (a64.toInt = lx21.toInt + 1) := (by rw [← e65]; show (lx21 + 1 : Int32).toInt = lx21.toInt + 1; exact q_addI (x := lx21.toInt) (y := 1) rfl (by decide) (by have _ := q_lo32 (x := lx21); have _ := q_hi32 (x := lx21); have t1 : lx21.toInt < t1_0.toInt := b47; have _ := q_lo32 (x := t1_0); have _ := q_hi32 (x := t1_0); omega) (by have _ := q_lo32 (x := lx21); have _ := q_hi32 (x := lx21); have t1 : lx21.toInt < t1_0.toInt := b47; have _ := q_lo32 (x := t1_0); have _ := q_hi32 (x := t1_0); omega))
      refine q_put (ci := 10) (j := 5) (v := .int a64) (ty := .int) C0 V i_Dir o_Dir n_Dir rfl rfl hO27 (by decide) w_363 rfl rfl rfl rfl (Nat.le_of_ble_eq_true rfl) d_6_6_54 (fun H locs w67 hu68 hO27 V => ?_)
      replace hO27 : w67[47]? = (some (q 47, .inr (10, [.int t0_0, .int t0_1, .int t0_2, .int t0_3, .int t0_4, .int a64, .ref (q 1), .int t0_6])) : Option (Nat × va_E)) := hO27
      replace hI := n_p47 hI hu68 hO27 (by first | with_reducible exact q_fe btt0_2 | exact ⟨(by have t1 : -1 ≤ t0_2.toInt ∧ t0_2.toInt ≤ 9999 := btt0_2; omega), (by have t1 : -1 ≤ t0_2.toInt ∧ t0_2.toInt ≤ 9999 := btt0_2; omega)⟩) (by first | with_reducible exact q_fe btt0_3 | exact ⟨(by have t1 : -1 ≤ t0_3.toInt ∧ t0_3.toInt ≤ 9999 := btt0_3; omega), (by have t1 : -1 ≤ t0_3.toInt ∧ t0_3.toInt ≤ 9999 := btt0_3; omega)⟩) (by first | with_reducible exact q_fe btt0_6 | exact ⟨(by have t1 : 0 ≤ t0_6.toInt ∧ t0_6.toInt ≤ 1 := btt0_6; omega), (by have t1 : 0 ≤ t0_6.toInt ∧ t0_6.toInt ≤ 1 := btt0_6; omega)⟩)
      replace hO28 := (hu68 _ (by decide)).trans hO28
      replace hO29 := (hu68 _ (by decide)).trans hO29
      replace hF := q_us hF hu68 (by simp)
      refine lv_goto (tgt := 2) hx hb d_6_6_57 (by decide) ?_
      exact ih25 ((a61 : Int32), (a64 : Int32)) _ _ _ _ (show (4100 - a64.toInt).toNat < (4100 - lx21.toInt).toNat from by have t1 : a64.toInt = lx21.toInt + 1 := b66; have t2 : 0 ≤ t1_0.toInt ∧ t1_0.toInt ≤ 4100 := btt1_0; have t3 : lx21.toInt < t1_0.toInt := b47; omega) ⟨(show q_F (0 ≤ a61.toInt) from (show 0 ≤ a61.toInt from by have t1 : 0 ≤ lx20.toInt := i22; have t2 : 0 ≤ a37.toInt := b44; have t3 : a48.toInt = lx20.toInt * 10 := b50; have t4 : a58.toInt = a48.toInt + a37.toInt := b60; have t5 : a61.toInt ≤ a58.toInt ∧ a61.toInt ≤ 9999 ∧ (a61.toInt = a58.toInt ∨ a61.toInt = 9999) := b63; omega)), (show q_F (a61.toInt ≤ 9999) from (show a61.toInt ≤ 9999 from by have t1 : a61.toInt ≤ a58.toInt ∧ a61.toInt ≤ 9999 ∧ (a61.toInt = a58.toInt ∨ a61.toInt = 9999) := b63; omega)), (show q_F (t0_5.toInt ≤ a64.toInt) from (show t0_5.toInt ≤ a64.toInt from by have t1 : t0_5.toInt ≤ lx21.toInt := i24; have t2 : a64.toInt = lx21.toInt + 1 := b66; omega)), V, q_lw hl (q_lw1 0 rfl (q_lw1 1 rfl q_lw0)), hI, hF, hO27, hO28, hO29, ⟨fm34, Nat.lt_of_lt_of_le (show (4100 - a64.toInt).toNat < (4100 - lx21.toInt).toNat from by have t1 : a64.toInt = lx21.toInt + 1 := b66; have t2 : 0 ≤ t1_0.toInt ∧ t1_0.toInt ≤ 4100 := btt1_0; have t3 : lx21.toInt < t1_0.toInt := b47; omega) (Nat.le_of_lt_succ hf33), (show F_Dir_takeNumber_L2 t0_0 t0_1 t0_2 t0_3 t0_4 t0_5 t0_6 t1_0 t2_0 fm34 a61 a64 = (F_Dir_takeNumber t0_0 t0_1 t0_2 t0_3 t0_4 t0_5 t0_6 t1_0 t2_0) from Eq.trans (by have c42x := c42; rw [e41] at c42x; rw [← e65, ← e62, ← e59, ← e49, e41, F_Dir_takeNumber_L2.eq_2, if_neg c42x, if_neg c45]) hR30)⟩⟩
def F_Dir_takeIndex_J25 (t0_0 : Int32) (t0_1 : Int32) (t0_2 : Int32) (t0_3 : Int32) (t0_4 : Int32) (t0_5 : Int32) (t0_6 : Int32) (t1_0 : Int32) (t2_0 : (Nat → Int64)) (lx24 : Int32) (lx25 : Int32) (lx26 : Int32) (lx27 : Int32) (lx28 : Int32) (lx29 : Int32) (lx30 : Int32) (lx31 : Int32) : Int32 × Int32 × Int32 × Int32 × Int32 × Int32 × Int32 := if lx24 = (-1 : Int32) then (((-1 : Int32), lx26, lx27, lx28, lx29, t0_5, lx31)) else (if ((F_She_at_p (4100 : Int32) (513 : Int32) (4100 : Int32) (lx30.toInt64 : Int64) t1_0 t2_0) : Int32) = (36 : Int32) then ((lx24, lx26, lx27, lx28, lx29, (lx30 + 1 : Int32), lx31)) else (((-1 : Int32), lx26, lx27, lx28, lx29, t0_5, lx31)))
def F_Dir_takeIndex_c18 (t0_0 : Int32) (t0_1 : Int32) (t0_2 : Int32) (t0_3 : Int32) (t0_4 : Int32) (t0_5 : Int32) (t0_6 : Int32) (t1_0 : Int32) (t2_0 : (Nat → Int64)) (p121 : (Int32 × Int32 × Int32 × Int32 × Int32 × Int32 × Int32 × Int32)) : Int32 × Int32 × Int32 × Int32 × Int32 × Int32 × Int32 := F_Dir_takeIndex_J25 t0_0 t0_1 t0_2 t0_3 t0_4 t0_5 t0_6 t1_0 t2_0 (p121.1 : Int32) (p121.2.1 : Int32) (p121.2.2.1 : Int32) (p121.2.2.2.1 : Int32) (p121.2.2.2.2.1 : Int32) (p121.2.2.2.2.2.1 : Int32) (p121.2.2.2.2.2.2.1 : Int32) (p121.2.2.2.2.2.2.2 : Int32)
def F_Dir_takeIndex (t0_0 : Int32) (t0_1 : Int32) (t0_2 : Int32) (t0_3 : Int32) (t0_4 : Int32) (t0_5 : Int32) (t0_6 : Int32) (t1_0 : Int32) (t2_0 : (Nat → Int64)) : Int32 × Int32 × Int32 × Int32 × Int32 × Int32 × Int32 := if ((F_Dir_figureAt t0_5 t1_0 t2_0) : Int32) ≤ (0 : Int32) then (F_Dir_takeIndex_J25 t0_0 t0_1 t0_2 t0_3 t0_4 t0_5 t0_6 t1_0 t2_0 (-1) t0_0 t0_1 t0_2 t0_3 t0_4 t0_5 t0_6) else (F_Dir_takeIndex_c18 t0_0 t0_1 t0_2 t0_3 t0_4 t0_5 t0_6 t1_0 t2_0 ((F_Dir_takeNumber t0_0 t0_1 t0_2 t0_3 t0_4 t0_5 t0_6 t1_0 t2_0) : (Int32 × Int32 × Int32 × Int32 × Int32 × Int32 × Int32 × Int32)))
set_option maxRecDepth 100000 in
set_option maxHeartbeats 4000000 in
theorem X_Dir_takeIndex (l : Launch) (D : va_G) (g : Nat → ClassId) (q : Nat → Nat) (ws : va_W) (hI : q_I (nsh g q) q ws) (t0_0 : Int32) (t0_1 : Int32) (t0_2 : Int32) (t0_3 : Int32) (t0_4 : Int32) (t0_5 : Int32) (t0_6 : Int32) (hT0 : ws[47]? = (some (q 47, .inr (10, [.int t0_0, .int t0_1, .int t0_2, .int t0_3, .int t0_4, .int t0_5, .ref (q 1), .int t0_6])) : Option (Nat × va_E))) (t1_0 : Int32) (hT1 : ws[1]? = (some (q 1, .inr (1, [.ref (q 2), .int 4100, .int t1_0])) : Option (Nat × va_E))) (t2_0 : (Nat → Int64)) (hT2 : ws[2]? = (some (q 2, .inl (g 1, (513 : Int32).toNatClampNeg, .inr (.inl t2_0))) : Option (Nat × va_E))) : q_mV l y_Dir_takeIndex prog_6_method_4_code 2 4 0 0 D g [.ref (q 47)] ws (fun u => q_I (nsh g q) q u ∧ q_un ws u [47] ∧ ∃ (u0_0 : Int32) (u0_1 : Int32) (u0_2 : Int32) (u0_3 : Int32) (u0_4 : Int32) (u0_5 : Int32) (u0_6 : Int32), u[47]? = (some (q 47, .inr (10, [.int u0_0, .int u0_1, .int u0_2, .int u0_3, .int u0_4, .int u0_5, .ref (q 1), .int u0_6])) : Option (Nat × va_E)) ∧ (0 ≤ u0_0.toInt + 1) ∧ (u0_0.toInt ≤ 9999) ∧ (t0_1.toInt ≤ u0_1.toInt) ∧ (u0_1.toInt ≤ t0_1.toInt) ∧ (t0_2.toInt ≤ u0_2.toInt) ∧ (u0_2.toInt ≤ t0_2.toInt) ∧ (t0_3.toInt ≤ u0_3.toInt) ∧ (u0_3.toInt ≤ t0_3.toInt) ∧ (t0_4.toInt ≤ u0_4.toInt) ∧ (u0_4.toInt ≤ t0_4.toInt) ∧ (t0_6.toInt ≤ u0_6.toInt) ∧ (u0_6.toInt ≤ t0_6.toInt) ∧ (u0_0, u0_1, u0_2, u0_3, u0_4, u0_5, u0_6) = (F_Dir_takeIndex t0_0 t0_1 t0_2 t0_3 t0_4 t0_5 t0_6 t1_0 t2_0)) := by
  intro sz
  refine q_into (by decide) (Nat.le_of_ble_eq_true rfl) ?_
  intro p e s m below meth c ls hsz C0 V hl
  have hx := C0.1
  have hb := C0.2.1
  obtain ⟨btt0_2, hZ9⟩ := n_w47 hI hT0
  obtain ⟨btt0_3, btt0_6⟩ := hZ9
  replace btt0_2 : q_F (-1 ≤ t0_2.toInt ∧ t0_2.toInt ≤ 9999) := btt0_2
  replace btt0_3 : q_F (-1 ≤ t0_3.toInt ∧ t0_3.toInt ≤ 9999) := btt0_3
  replace btt0_6 : q_F (0 ≤ t0_6.toInt ∧ t0_6.toInt ≤ 1) := btt0_6
  have btt1_0 := n_shW hI (n_h1 g q) hT1
  clear btt1_0
  have hF : q_un ws ws [47] := q_u0
  have hl : lv_has ls 2 [(0, .ref (q 47))] := hl
  refine lv_aload_n hx hb d_6_4_0 rfl (lv_at hl 0 rfl) ?_
  refine q_get (ci := 10) (j := 5) (v := .int t0_5) C0 V i_Dir rfl rfl hT0 (by decide) w_363 rfl d_6_4_1 ?_
  refine lv_istore_n (lv' := [(1, .int t0_5), (0, .ref (q 47))]) hx hb d_6_4_4 rfl hl (by decide) rfl (fun ls hl => ?_)
  refine lv_aload_n hx hb d_6_4_5 rfl (lv_at hl 1 rfl) ?_
  refine lv_aload_n hx hb d_6_4_6 rfl (lv_at hl 1 rfl) ?_
  refine lv_aload_n hx hb d_6_4_7 rfl (lv_at hl 1 rfl) ?_
  refine q_get (ci := 10) (j := 5) (v := .int t0_5) C0 V i_Dir rfl rfl hT0 (by decide) w_363 rfl d_6_4_8 ?_
  refine q_goi V (q_runV (As := [.int t0_5]) (rest := [.ref (q 47)]) (d := 2) (mc := 0) (ms := 0) (ci := 10) C0 V rfl LV_Dir_32 (X_Dir_figureAt l D g q ws  t0_5 hI t1_0 hT1 t2_0 hT2  _) rfl rfl hT0 rfl hl.1 rfl (Nat.le_of_ble_eq_true rfl) ⟨by decide, by decide⟩ ⟨Nat.le_of_ble_eq_true rfl, Nat.le_of_ble_eq_true rfl⟩ d_6_4_11) (fun a19 u17 H locs hp18 V => ?_)
  obtain ⟨rfl, b20, b21, hE22⟩ := hp18
  have e23 : a19 = (F_Dir_figureAt t0_5 t1_0 t2_0) := hE22
  replace b20 : q_F (0 ≤ a19.toInt + 1) := b20
  replace b21 : q_F (a19.toInt ≤ 9) := b21
  refine q_join (X := Int32 × Int32 × Int32 × Int32 × Int32 × Int32 × Int32 × Int32) (fun z H locs ls w53 => q_F (0 ≤ z.1.toInt + 1) ∧ q_F (z.1.toInt ≤ 9999) ∧ q_F (a19.toInt ≤ z.1.toInt + 9) ∧ q_F (z.1.toInt ≤ a19.toInt + 9998) ∧ q_F (t0_0.toInt ≤ z.2.1.toInt) ∧ q_F (z.2.1.toInt ≤ t0_0.toInt) ∧ q_F (t0_1.toInt ≤ z.2.2.1.toInt) ∧ q_F (z.2.2.1.toInt ≤ t0_1.toInt) ∧ q_F (t0_2.toInt ≤ z.2.2.2.1.toInt) ∧ q_F (z.2.2.2.1.toInt ≤ t0_2.toInt) ∧ q_F (t0_3.toInt ≤ z.2.2.2.2.1.toInt) ∧ q_F (z.2.2.2.2.1.toInt ≤ t0_3.toInt) ∧ q_F (t0_4.toInt ≤ z.2.2.2.2.2.1.toInt) ∧ q_F (z.2.2.2.2.2.1.toInt ≤ t0_4.toInt) ∧ q_F (t0_5.toInt ≤ z.2.2.2.2.2.2.1.toInt) ∧ q_F (t0_6.toInt ≤ z.2.2.2.2.2.2.2.toInt) ∧ q_F (z.2.2.2.2.2.2.2.toInt ≤ t0_6.toInt) ∧ q_Wd D g (va_A ws sz) s w53 H locs ∧ lv_has ls 2 [(1, .int t0_5), (0, .ref (q 47))] ∧ q_I (nsh g q) q w53 ∧ q_un ws w53 [47] ∧ w53[47]? = (some (q 47, .inr (10, [.int z.2.1, .int z.2.2.1, .int z.2.2.2.1, .int z.2.2.2.2.1, .int z.2.2.2.2.2.1, .int z.2.2.2.2.2.2.1, .ref (q 1), .int z.2.2.2.2.2.2.2])) : Option (Nat × va_E)) ∧ w53[1]? = (some (q 1, .inr (1, [.ref (q 2), .int 4100, .int t1_0])) : Option (Nat × va_E)) ∧ w53[2]? = (some (q 2, .inl (g 1, (513 : Int32).toNatClampNeg, .inr (.inl t2_0))) : Option (Nat × va_E)) ∧ F_Dir_takeIndex_J25 t0_0 t0_1 t0_2 t0_3 t0_4 t0_5 t0_6 t1_0 t2_0 z.1 z.2.1 z.2.2.1 z.2.2.2.1 z.2.2.2.2.1 z.2.2.2.2.2.1 z.2.2.2.2.2.2.1 z.2.2.2.2.2.2.2 = (F_Dir_takeIndex t0_0 t0_1 t0_2 t0_3 t0_4 t0_5 t0_6 t1_0 t2_0)) (fun z => [.int z.1, .ref (q 47)]) 25 0 0 ?_ ?_
  ·
    rintro ⟨lx24, lx25, lx26, lx27, lx28, lx29, lx30, lx31⟩ H locs ls w53 ⟨i36, i37, i38, i39, i40, i41, i42, i43, i44, i45, i46, i47, i48, i49, i50, i51, i52, V, hl, hI, hF, hO32, hO33, hA34, hR54⟩
    replace i36 : q_F (0 ≤ lx24.toInt + 1) := i36
    replace i37 : q_F (lx24.toInt ≤ 9999) := i37
    clear i38
    clear i39
    clear i40
    clear i41
    replace i42 : q_F (t0_1.toInt ≤ lx26.toInt) := i42
    replace i43 : q_F (lx26.toInt ≤ t0_1.toInt) := i43
    replace i44 : q_F (t0_2.toInt ≤ lx27.toInt) := i44
    replace i45 : q_F (lx27.toInt ≤ t0_2.toInt) := i45
    replace i46 : q_F (t0_3.toInt ≤ lx28.toInt) := i46
    replace i47 : q_F (lx28.toInt ≤ t0_3.toInt) := i47
    replace i48 : q_F (t0_4.toInt ≤ lx29.toInt) := i48
    replace i49 : q_F (lx29.toInt ≤ t0_4.toInt) := i49
    clear i50
    replace i51 : q_F (t0_6.toInt ≤ lx31.toInt) := i51
    replace i52 : q_F (lx31.toInt ≤ t0_6.toInt) := i52
    replace hl : lv_has ls 2 [(1, .int t0_5), (0, .ref (q 47))] := hl
    replace hO32 : w53[47]? = (some (q 47, .inr (10, [.int lx25, .int lx26, .int lx27, .int lx28, .int lx29, .int lx30, .ref (q 1), .int lx31])) : Option (Nat × va_E)) := hO32
    replace hO33 : w53[1]? = (some (q 1, .inr (1, [.ref (q 2), .int 4100, .int t1_0])) : Option (Nat × va_E)) := hO33
    replace hA34 : w53[2]? = (some (q 2, .inl (g 1, (513 : Int32).toNatClampNeg, .inr (.inl t2_0))) : Option (Nat × va_E)) := hA34
    refine q_put (ci := 10) (j := 0) (v := .int lx24) (ty := .int) C0 V i_Dir o_Dir n_Dir rfl rfl hO32 (by decide) w_354 rfl rfl rfl rfl (Nat.le_of_ble_eq_true rfl) d_6_4_25 (fun H locs w59 hu60 hO32 V => ?_)
    replace hO32 : w59[47]? = (some (q 47, .inr (10, [.int lx24, .int lx26, .int lx27, .int lx28, .int lx29, .int lx30, .ref (q 1), .int lx31])) : Option (Nat × va_E)) := hO32
    replace hI := n_p47 hI hu60 hO32 ⟨(by have t1 : -1 ≤ t0_2.toInt ∧ t0_2.toInt ≤ 9999 := btt0_2; have t2 : t0_2.toInt ≤ lx27.toInt := i44; omega), (by have t1 : -1 ≤ t0_2.toInt ∧ t0_2.toInt ≤ 9999 := btt0_2; have t2 : lx27.toInt ≤ t0_2.toInt := i45; omega)⟩ ⟨(by have t1 : -1 ≤ t0_3.toInt ∧ t0_3.toInt ≤ 9999 := btt0_3; have t2 : t0_3.toInt ≤ lx28.toInt := i46; omega), (by have t1 : -1 ≤ t0_3.toInt ∧ t0_3.toInt ≤ 9999 := btt0_3; have t2 : lx28.toInt ≤ t0_3.toInt := i47; omega)⟩ ⟨(by have t1 : 0 ≤ t0_6.toInt ∧ t0_6.toInt ≤ 1 := btt0_6; have t2 : t0_6.toInt ≤ lx31.toInt := i51; omega), (by have t1 : 0 ≤ t0_6.toInt ∧ t0_6.toInt ≤ 1 := btt0_6; have t2 : lx31.toInt ≤ t0_6.toInt := i52; omega)⟩
    replace hO33 := (hu60 _ (by decide)).trans hO33
    replace hA34 := (hu60 _ (by decide)).trans hA34
    replace hF := q_us hF hu60 (by simp)
    refine lv_aload_n hx hb d_6_4_28 rfl (lv_at hl 1 rfl) ?_
    refine q_get (ci := 10) (j := 0) (v := .int lx24) C0 V i_Dir rfl rfl hO32 (by decide) w_354 rfl d_6_4_29 ?_
    refine lv_iconst (v := (-1)) hx hb d_6_4_32 (by decide) ?_
    refine lv_icmp_eq (tgt := 66) hx hb d_6_4_33 (by decide) (fun c61 => ?_) (fun c61 => ?_)
    ·
      refine lv_aload_n hx hb d_6_4_66 rfl (lv_at hl 1 rfl) ?_
      refine lv_iconst (v := (-1)) hx hb d_6_4_67 (by decide) ?_
      refine q_put (ci := 10) (j := 0) (v := .int (-1)) (ty := .int) C0 V i_Dir o_Dir n_Dir rfl rfl hO32 (by decide) w_354 rfl rfl rfl rfl (Nat.le_of_ble_eq_true rfl) d_6_4_68 (fun H locs w63 hu64 hO32 V => ?_)
      replace hO32 : w63[47]? = (some (q 47, .inr (10, [.int (-1), .int lx26, .int lx27, .int lx28, .int lx29, .int lx30, .ref (q 1), .int lx31])) : Option (Nat × va_E)) := hO32
      replace hI := n_p47 hI hu64 hO32 ⟨(by have t1 : -1 ≤ t0_2.toInt ∧ t0_2.toInt ≤ 9999 := btt0_2; have t2 : t0_2.toInt ≤ lx27.toInt := i44; omega), (by have t1 : -1 ≤ t0_2.toInt ∧ t0_2.toInt ≤ 9999 := btt0_2; have t2 : lx27.toInt ≤ t0_2.toInt := i45; omega)⟩ ⟨(by have t1 : -1 ≤ t0_3.toInt ∧ t0_3.toInt ≤ 9999 := btt0_3; have t2 : t0_3.toInt ≤ lx28.toInt := i46; omega), (by have t1 : -1 ≤ t0_3.toInt ∧ t0_3.toInt ≤ 9999 := btt0_3; have t2 : lx28.toInt ≤ t0_3.toInt := i47; omega)⟩ ⟨(by have t1 : 0 ≤ t0_6.toInt ∧ t0_6.toInt ≤ 1 := btt0_6; have t2 : t0_6.toInt ≤ lx31.toInt := i51; omega), (by have t1 : 0 ≤ t0_6.toInt ∧ t0_6.toInt ≤ 1 := btt0_6; have t2 : lx31.toInt ≤ t0_6.toInt := i52; omega)⟩
      replace hF := q_us hF hu64 (by simp)
      refine lv_aload_n hx hb d_6_4_71 rfl (lv_at hl 1 rfl) ?_
      refine lv_iload_n hx hb d_6_4_72 rfl (lv_at hl 0 rfl) ?_
      refine q_put (ci := 10) (j := 5) (v := .int t0_5) (ty := .int) C0 V i_Dir o_Dir n_Dir rfl rfl hO32 (by decide) w_363 rfl rfl rfl rfl (Nat.le_of_ble_eq_true rfl) d_6_4_73 (fun H locs w65 hu66 hO32 V => ?_)
      replace hO32 : w65[47]? = (some (q 47, .inr (10, [.int (-1), .int lx26, .int lx27, .int lx28, .int lx29, .int t0_5, .ref (q 1), .int lx31])) : Option (Nat × va_E)) := hO32
      replace hI := n_p47 hI hu66 hO32 ⟨(by have t1 : -1 ≤ t0_2.toInt ∧ t0_2.toInt ≤ 9999 := btt0_2; have t2 : t0_2.toInt ≤ lx27.toInt := i44; omega), (by have t1 : -1 ≤ t0_2.toInt ∧ t0_2.toInt ≤ 9999 := btt0_2; have t2 : lx27.toInt ≤ t0_2.toInt := i45; omega)⟩ ⟨(by have t1 : -1 ≤ t0_3.toInt ∧ t0_3.toInt ≤ 9999 := btt0_3; have t2 : t0_3.toInt ≤ lx28.toInt := i46; omega), (by have t1 : -1 ≤ t0_3.toInt ∧ t0_3.toInt ≤ 9999 := btt0_3; have t2 : lx28.toInt ≤ t0_3.toInt := i47; omega)⟩ ⟨(by have t1 : 0 ≤ t0_6.toInt ∧ t0_6.toInt ≤ 1 := btt0_6; have t2 : t0_6.toInt ≤ lx31.toInt := i51; omega), (by have t1 : 0 ≤ t0_6.toInt ∧ t0_6.toInt ≤ 1 := btt0_6; have t2 : lx31.toInt ≤ t0_6.toInt := i52; omega)⟩
      replace hF := q_us hF hu66 (by simp)
      exact q_retv C0 V (⟨hI, hF, (-1), lx26, lx27, lx28, lx29, t0_5, lx31, hO32, (show 0 ≤ (-1 : Int32).toInt + 1 from (by have z9 : (-1 : Int32).toInt = -1 := rfl; omega)), (show (-1 : Int32).toInt ≤ 9999 from (by have z9 : (-1 : Int32).toInt = -1 := rfl; omega)), (show t0_1.toInt ≤ lx26.toInt from (by have z9 : (-1 : Int32).toInt = -1 := rfl; have t1 : t0_1.toInt ≤ lx26.toInt := i42; omega)), (show lx26.toInt ≤ t0_1.toInt from (by have z9 : (-1 : Int32).toInt = -1 := rfl; have t1 : lx26.toInt ≤ t0_1.toInt := i43; omega)), (show t0_2.toInt ≤ lx27.toInt from (by have z9 : (-1 : Int32).toInt = -1 := rfl; have t1 : t0_2.toInt ≤ lx27.toInt := i44; omega)), (show lx27.toInt ≤ t0_2.toInt from (by have z9 : (-1 : Int32).toInt = -1 := rfl; have t1 : lx27.toInt ≤ t0_2.toInt := i45; omega)), (show t0_3.toInt ≤ lx28.toInt from (by have z9 : (-1 : Int32).toInt = -1 := rfl; have t1 : t0_3.toInt ≤ lx28.toInt := i46; omega)), (show lx28.toInt ≤ t0_3.toInt from (by have z9 : (-1 : Int32).toInt = -1 := rfl; have t1 : lx28.toInt ≤ t0_3.toInt := i47; omega)), (show t0_4.toInt ≤ lx29.toInt from (by have z9 : (-1 : Int32).toInt = -1 := rfl; have t1 : t0_4.toInt ≤ lx29.toInt := i48; omega)), (show lx29.toInt ≤ t0_4.toInt from (by have z9 : (-1 : Int32).toInt = -1 := rfl; have t1 : lx29.toInt ≤ t0_4.toInt := i49; omega)), (show t0_6.toInt ≤ lx31.toInt from (by have z9 : (-1 : Int32).toInt = -1 := rfl; have t1 : t0_6.toInt ≤ lx31.toInt := i51; omega)), (show lx31.toInt ≤ t0_6.toInt from (by have z9 : (-1 : Int32).toInt = -1 := rfl; have t1 : lx31.toInt ≤ t0_6.toInt := i52; omega)), (show ((-1 : Int32), lx26, lx27, lx28, lx29, t0_5, lx31) = (F_Dir_takeIndex t0_0 t0_1 t0_2 t0_3 t0_4 t0_5 t0_6 t1_0 t2_0) from Eq.trans (by rw [F_Dir_takeIndex_J25.eq_1, if_pos c61]) hR54)⟩) d_6_4_76
    ·
      refine lv_aload_n hx hb d_6_4_36 rfl (lv_at hl 1 rfl) ?_
      refine q_get (ci := 10) (j := 6) (v := .ref (q 1)) C0 V i_Dir rfl rfl hO32 (by decide) w_365 rfl d_6_4_37 ?_
      refine lv_aload_n hx hb d_6_4_40 rfl (lv_at hl 1 rfl) ?_
      refine q_get (ci := 10) (j := 5) (v := .int lx30) C0 V i_Dir rfl rfl hO32 (by decide) w_363 rfl d_6_4_41 ?_
      refine lv_i2l hx hb d_6_4_44 rfl ?_
      obtain ⟨j68, e69⟩ := q_nm (lx30.toInt64 : Int64)
      refine q_tl (v := j68) e69 ?_
      refine q_goi V (q_runV (As := [.long j68]) (rest := []) (d := 1) (mc := 0) (ms := 0) (ci := 1) C0 V rfl LV_Dir_46 (X_She_at_p l D g q w59 1 4100 513 4100 (n_h1 g q) j68 hI t1_0 hO33 t2_0 hA34  _) rfl rfl hO33 rfl hl.1 rfl (Nat.le_of_ble_eq_true rfl) ⟨by decide, by decide⟩ ⟨Nat.le_of_ble_eq_true rfl, Nat.le_of_ble_eq_true rfl⟩ d_6_4_45) (fun a73 u71 H locs hp72 V => ?_)
      obtain ⟨rfl, b74, b75, b76, hE77⟩ := hp72
      have e78 : a73 = (F_She_at_p (4100 : Int32) (513 : Int32) (4100 : Int32) j68 t1_0 t2_0) := hE77
      clear b74
      clear b75
      clear b76
      refine lv_bipush (v := 36) hx hb d_6_4_48 (by decide) ?_
      refine lv_icmp_ne (tgt := 66) hx hb d_6_4_50 (by decide) (fun c79 => ?_) (fun c79 => ?_)
      ·
        refine lv_aload_n hx hb d_6_4_66 rfl (lv_at hl 1 rfl) ?_
        refine lv_iconst (v := (-1)) hx hb d_6_4_67 (by decide) ?_
        refine q_put (ci := 10) (j := 0) (v := .int (-1)) (ty := .int) C0 V i_Dir o_Dir n_Dir rfl rfl hO32 (by decide) w_354 rfl rfl rfl rfl (Nat.le_of_ble_eq_true rfl) d_6_4_68 (fun H locs w81 hu82 hO32 V => ?_)
        replace hO32 : w81[47]? = (some (q 47, .inr (10, [.int (-1), .int lx26, .int lx27, .int lx28, .int lx29, .int lx30, .ref (q 1), .int lx31])) : Option (Nat × va_E)) := hO32
        replace hI := n_p47 hI hu82 hO32 ⟨(by have t1 : -1 ≤ t0_2.toInt ∧ t0_2.toInt ≤ 9999 := btt0_2; have t2 : t0_2.toInt ≤ lx27.toInt := i44; omega), (by have t1 : -1 ≤ t0_2.toInt ∧ t0_2.toInt ≤ 9999 := btt0_2; have t2 : lx27.toInt ≤ t0_2.toInt := i45; omega)⟩ ⟨(by have t1 : -1 ≤ t0_3.toInt ∧ t0_3.toInt ≤ 9999 := btt0_3; have t2 : t0_3.toInt ≤ lx28.toInt := i46; omega), (by have t1 : -1 ≤ t0_3.toInt ∧ t0_3.toInt ≤ 9999 := btt0_3; have t2 : lx28.toInt ≤ t0_3.toInt := i47; omega)⟩ ⟨(by have t1 : 0 ≤ t0_6.toInt ∧ t0_6.toInt ≤ 1 := btt0_6; have t2 : t0_6.toInt ≤ lx31.toInt := i51; omega), (by have t1 : 0 ≤ t0_6.toInt ∧ t0_6.toInt ≤ 1 := btt0_6; have t2 : lx31.toInt ≤ t0_6.toInt := i52; omega)⟩
        replace hF := q_us hF hu82 (by simp)
        refine lv_aload_n hx hb d_6_4_71 rfl (lv_at hl 1 rfl) ?_
        refine lv_iload_n hx hb d_6_4_72 rfl (lv_at hl 0 rfl) ?_
        refine q_put (ci := 10) (j := 5) (v := .int t0_5) (ty := .int) C0 V i_Dir o_Dir n_Dir rfl rfl hO32 (by decide) w_363 rfl rfl rfl rfl (Nat.le_of_ble_eq_true rfl) d_6_4_73 (fun H locs w83 hu84 hO32 V => ?_)
        replace hO32 : w83[47]? = (some (q 47, .inr (10, [.int (-1), .int lx26, .int lx27, .int lx28, .int lx29, .int t0_5, .ref (q 1), .int lx31])) : Option (Nat × va_E)) := hO32
        replace hI := n_p47 hI hu84 hO32 ⟨(by have t1 : -1 ≤ t0_2.toInt ∧ t0_2.toInt ≤ 9999 := btt0_2; have t2 : t0_2.toInt ≤ lx27.toInt := i44; omega), (by have t1 : -1 ≤ t0_2.toInt ∧ t0_2.toInt ≤ 9999 := btt0_2; have t2 : lx27.toInt ≤ t0_2.toInt := i45; omega)⟩ ⟨(by have t1 : -1 ≤ t0_3.toInt ∧ t0_3.toInt ≤ 9999 := btt0_3; have t2 : t0_3.toInt ≤ lx28.toInt := i46; omega), (by have t1 : -1 ≤ t0_3.toInt ∧ t0_3.toInt ≤ 9999 := btt0_3; have t2 : lx28.toInt ≤ t0_3.toInt := i47; omega)⟩ ⟨(by have t1 : 0 ≤ t0_6.toInt ∧ t0_6.toInt ≤ 1 := btt0_6; have t2 : t0_6.toInt ≤ lx31.toInt := i51; omega), (by have t1 : 0 ≤ t0_6.toInt ∧ t0_6.toInt ≤ 1 := btt0_6; have t2 : lx31.toInt ≤ t0_6.toInt := i52; omega)⟩
        replace hF := q_us hF hu84 (by simp)
        exact q_retv C0 V (⟨hI, hF, (-1), lx26, lx27, lx28, lx29, t0_5, lx31, hO32, (show 0 ≤ (-1 : Int32).toInt + 1 from (by have z9 : (-1 : Int32).toInt = -1 := rfl; omega)), (show (-1 : Int32).toInt ≤ 9999 from (by have z9 : (-1 : Int32).toInt = -1 := rfl; omega)), (show t0_1.toInt ≤ lx26.toInt from (by have z9 : (-1 : Int32).toInt = -1 := rfl; have t1 : t0_1.toInt ≤ lx26.toInt := i42; omega)), (show lx26.toInt ≤ t0_1.toInt from (by have z9 : (-1 : Int32).toInt = -1 := rfl; have t1 : lx26.toInt ≤ t0_1.toInt := i43; omega)), (show t0_2.toInt ≤ lx27.toInt from (by have z9 : (-1 : Int32).toInt = -1 := rfl; have t1 : t0_2.toInt ≤ lx27.toInt := i44; omega)), (show lx27.toInt ≤ t0_2.toInt from (by have z9 : (-1 : Int32).toInt = -1 := rfl; have t1 : lx27.toInt ≤ t0_2.toInt := i45; omega)), (show t0_3.toInt ≤ lx28.toInt from (by have z9 : (-1 : Int32).toInt = -1 := rfl; have t1 : t0_3.toInt ≤ lx28.toInt := i46; omega)), (show lx28.toInt ≤ t0_3.toInt from (by have z9 : (-1 : Int32).toInt = -1 := rfl; have t1 : lx28.toInt ≤ t0_3.toInt := i47; omega)), (show t0_4.toInt ≤ lx29.toInt from (by have z9 : (-1 : Int32).toInt = -1 := rfl; have t1 : t0_4.toInt ≤ lx29.toInt := i48; omega)), (show lx29.toInt ≤ t0_4.toInt from (by have z9 : (-1 : Int32).toInt = -1 := rfl; have t1 : lx29.toInt ≤ t0_4.toInt := i49; omega)), (show t0_6.toInt ≤ lx31.toInt from (by have z9 : (-1 : Int32).toInt = -1 := rfl; have t1 : t0_6.toInt ≤ lx31.toInt := i51; omega)), (show lx31.toInt ≤ t0_6.toInt from (by have z9 : (-1 : Int32).toInt = -1 := rfl; have t1 : lx31.toInt ≤ t0_6.toInt := i52; omega)), (show ((-1 : Int32), lx26, lx27, lx28, lx29, t0_5, lx31) = (F_Dir_takeIndex t0_0 t0_1 t0_2 t0_3 t0_4 t0_5 t0_6 t1_0 t2_0) from Eq.trans (by have c79x := c79; rw [e78, ← e69] at c79x; rw [F_Dir_takeIndex_J25.eq_1, if_neg c61, if_neg c79x]) hR54)⟩) d_6_4_76
      ·
        refine lv_aload_n hx hb d_6_4_53 rfl (lv_at hl 1 rfl) ?_
        refine lv_dup hx hb d_6_4_54 rfl ?_
        refine q_get (ci := 10) (j := 5) (v := .int lx30) C0 V i_Dir rfl rfl hO32 (by decide) w_363 rfl d_6_4_55 ?_
        refine lv_iconst (v := 1) hx hb d_6_4_58 (by decide) ?_
        refine lv_iadd hx hb d_6_4_59 ?_
        obtain ⟨a86, e87⟩ := q_nm (lx30 + 1 : Int32)
        refine q_ti (v := a86) e87 ?_
        refine q_put (ci := 10) (j := 5) (v := .int a86) (ty := .int) C0 V i_Dir o_Dir n_Dir rfl rfl hO32 (by decide) w_363 rfl rfl rfl rfl (Nat.le_of_ble_eq_true rfl) d_6_4_60 (fun H locs w88 hu89 hO32 V => ?_)
        replace hO32 : w88[47]? = (some (q 47, .inr (10, [.int lx24, .int lx26, .int lx27, .int lx28, .int lx29, .int a86, .ref (q 1), .int lx31])) : Option (Nat × va_E)) := hO32
        replace hI := n_p47 hI hu89 hO32 ⟨(by have t1 : -1 ≤ t0_2.toInt ∧ t0_2.toInt ≤ 9999 := btt0_2; have t2 : t0_2.toInt ≤ lx27.toInt := i44; omega), (by have t1 : -1 ≤ t0_2.toInt ∧ t0_2.toInt ≤ 9999 := btt0_2; have t2 : lx27.toInt ≤ t0_2.toInt := i45; omega)⟩ ⟨(by have t1 : -1 ≤ t0_3.toInt ∧ t0_3.toInt ≤ 9999 := btt0_3; have t2 : t0_3.toInt ≤ lx28.toInt := i46; omega), (by have t1 : -1 ≤ t0_3.toInt ∧ t0_3.toInt ≤ 9999 := btt0_3; have t2 : lx28.toInt ≤ t0_3.toInt := i47; omega)⟩ ⟨(by have t1 : 0 ≤ t0_6.toInt ∧ t0_6.toInt ≤ 1 := btt0_6; have t2 : t0_6.toInt ≤ lx31.toInt := i51; omega), (by have t1 : 0 ≤ t0_6.toInt ∧ t0_6.toInt ≤ 1 := btt0_6; have t2 : lx31.toInt ≤ t0_6.toInt := i52; omega)⟩
        replace hF := q_us hF hu89 (by simp)
        refine lv_goto (tgt := 76) hx hb d_6_4_63 (by decide) ?_
        exact q_retv C0 V (⟨hI, hF, lx24, lx26, lx27, lx28, lx29, a86, lx31, hO32, (show 0 ≤ lx24.toInt + 1 from (by first | with_reducible exact q_fe i36 | (have t1 : 0 ≤ lx24.toInt + 1 := i36; omega))), (show lx24.toInt ≤ 9999 from (by first | with_reducible exact q_fe i37 | (have t1 : lx24.toInt ≤ 9999 := i37; omega))), (show t0_1.toInt ≤ lx26.toInt from (by first | with_reducible exact q_fe i42 | (have t1 : t0_1.toInt ≤ lx26.toInt := i42; omega))), (show lx26.toInt ≤ t0_1.toInt from (by first | with_reducible exact q_fe i43 | (have t1 : lx26.toInt ≤ t0_1.toInt := i43; omega))), (show t0_2.toInt ≤ lx27.toInt from (by first | with_reducible exact q_fe i44 | (have t1 : t0_2.toInt ≤ lx27.toInt := i44; omega))), (show lx27.toInt ≤ t0_2.toInt from (by first | with_reducible exact q_fe i45 | (have t1 : lx27.toInt ≤ t0_2.toInt := i45; omega))), (show t0_3.toInt ≤ lx28.toInt from (by first | with_reducible exact q_fe i46 | (have t1 : t0_3.toInt ≤ lx28.toInt := i46; omega))), (show lx28.toInt ≤ t0_3.toInt from (by first | with_reducible exact q_fe i47 | (have t1 : lx28.toInt ≤ t0_3.toInt := i47; omega))), (show t0_4.toInt ≤ lx29.toInt from (by first | with_reducible exact q_fe i48 | (have t1 : t0_4.toInt ≤ lx29.toInt := i48; omega))), (show lx29.toInt ≤ t0_4.toInt from (by first | with_reducible exact q_fe i49 | (have t1 : lx29.toInt ≤ t0_4.toInt := i49; omega))), (show t0_6.toInt ≤ lx31.toInt from (by first | with_reducible exact q_fe i51 | (have t1 : t0_6.toInt ≤ lx31.toInt := i51; omega))), (show lx31.toInt ≤ t0_6.toInt from (by first | with_reducible exact q_fe i52 | (have t1 : lx31.toInt ≤ t0_6.toInt := i52; omega))), (show (lx24, lx26, lx27, lx28, lx29, a86, lx31) = (F_Dir_takeIndex t0_0 t0_1 t0_2 t0_3 t0_4 t0_5 t0_6 t1_0 t2_0) from Eq.trans (by have c79x := c79; rw [e78, ← e69] at c79x; rw [← e87, F_Dir_takeIndex_J25.eq_1, if_neg c61, if_pos c79x]) hR54)⟩) d_6_4_76
  ·
    intro J35
    refine lv_if_le (tgt := 24) hx hb d_6_4_14 (by decide) (fun c90 => ?_) (fun c90 => ?_)
    ·
      have b91 : q_F (a19.toInt ≤ 0) := (q_leI c90)
      refine lv_iconst (v := (-1)) hx hb d_6_4_24 (by decide) ?_
      exact J35 (((-1) : Int32), (t0_0 : Int32), (t0_1 : Int32), (t0_2 : Int32), (t0_3 : Int32), (t0_4 : Int32), (t0_5 : Int32), (t0_6 : Int32)) _ _ _ _ ⟨(show q_F (0 ≤ (-1) + 1) from (show 0 ≤ (-1) + 1 from by omega)), (show q_F ((-1) ≤ 9999) from (show (-1) ≤ 9999 from by omega)), (show q_F (a19.toInt ≤ (-1) + 9) from (show a19.toInt ≤ (-1) + 9 from by have t1 : a19.toInt ≤ 0 := b91; omega)), (show q_F ((-1) ≤ a19.toInt + 9998) from (show (-1) ≤ a19.toInt + 9998 from by have t1 : 0 ≤ a19.toInt + 1 := b20; omega)), (show q_F (t0_0.toInt ≤ t0_0.toInt) from (show t0_0.toInt ≤ t0_0.toInt from by omega)), (show q_F (t0_0.toInt ≤ t0_0.toInt) from (show t0_0.toInt ≤ t0_0.toInt from by omega)), (show q_F (t0_1.toInt ≤ t0_1.toInt) from (show t0_1.toInt ≤ t0_1.toInt from by omega)), (show q_F (t0_1.toInt ≤ t0_1.toInt) from (show t0_1.toInt ≤ t0_1.toInt from by omega)), (show q_F (t0_2.toInt ≤ t0_2.toInt) from (show t0_2.toInt ≤ t0_2.toInt from by omega)), (show q_F (t0_2.toInt ≤ t0_2.toInt) from (show t0_2.toInt ≤ t0_2.toInt from by omega)), (show q_F (t0_3.toInt ≤ t0_3.toInt) from (show t0_3.toInt ≤ t0_3.toInt from by omega)), (show q_F (t0_3.toInt ≤ t0_3.toInt) from (show t0_3.toInt ≤ t0_3.toInt from by omega)), (show q_F (t0_4.toInt ≤ t0_4.toInt) from (show t0_4.toInt ≤ t0_4.toInt from by omega)), (show q_F (t0_4.toInt ≤ t0_4.toInt) from (show t0_4.toInt ≤ t0_4.toInt from by omega)), (show q_F (t0_5.toInt ≤ t0_5.toInt) from (show t0_5.toInt ≤ t0_5.toInt from by omega)), (show q_F (t0_6.toInt ≤ t0_6.toInt) from (show t0_6.toInt ≤ t0_6.toInt from by omega)), (show q_F (t0_6.toInt ≤ t0_6.toInt) from (show t0_6.toInt ≤ t0_6.toInt from by omega)), V, q_lw hl (q_lw1 0 rfl (q_lw1 1 rfl q_lw0)), hI, hF, hT0, hT1, hT2, (show F_Dir_takeIndex_J25 t0_0 t0_1 t0_2 t0_3 t0_4 t0_5 t0_6 t1_0 t2_0 (-1) t0_0 t0_1 t0_2 t0_3 t0_4 t0_5 t0_6 = (F_Dir_takeIndex t0_0 t0_1 t0_2 t0_3 t0_4 t0_5 t0_6 t1_0 t2_0) from (by have c90x := c90; rw [e23] at c90x; rw [F_Dir_takeIndex.eq_1, if_pos c90x]))⟩
    ·
      have b92 : q_F (0 < a19.toInt) := (q_nleI c90)
      refine lv_aload_n hx hb d_6_4_17 rfl (lv_at hl 1 rfl) ?_
      refine q_goi V (q_runV (As := []) (rest := [.ref (q 47)]) (d := 3) (mc := 0) (ms := 0) (ci := 10) C0 V rfl LV_Dir_36 (X_Dir_takeNumber l D g q ws   hI t0_0 t0_1 t0_2 t0_3 t0_4 t0_5 t0_6 hT0 t1_0 hT1 t2_0 hT2  _) rfl rfl hT0 rfl hl.1 rfl (Nat.le_of_ble_eq_true rfl) ⟨by decide, by decide⟩ ⟨Nat.le_of_ble_eq_true rfl, Nat.le_of_ble_eq_true rfl⟩ d_6_4_18) (fun a95 u93 H locs hp94 V => ?_)
      obtain ⟨hI, hZ9⟩ := hp94
      obtain ⟨hu120, hZ9⟩ := hZ9
      obtain ⟨y97, hZ9⟩ := hZ9
      obtain ⟨y98, hZ9⟩ := hZ9
      obtain ⟨y99, hZ9⟩ := hZ9
      obtain ⟨y100, hZ9⟩ := hZ9
      obtain ⟨y101, hZ9⟩ := hZ9
      obtain ⟨y102, hZ9⟩ := hZ9
      obtain ⟨y103, hZ9⟩ := hZ9
      obtain ⟨hO96, hZ9⟩ := hZ9
      obtain ⟨b104, hZ9⟩ := hZ9
      obtain ⟨b105, hZ9⟩ := hZ9
      obtain ⟨b106, hZ9⟩ := hZ9
      obtain ⟨b107, hZ9⟩ := hZ9
      obtain ⟨b108, hZ9⟩ := hZ9
      obtain ⟨b109, hZ9⟩ := hZ9
      obtain ⟨b110, hZ9⟩ := hZ9
      obtain ⟨b111, hZ9⟩ := hZ9
      obtain ⟨b112, hZ9⟩ := hZ9
      obtain ⟨b113, hZ9⟩ := hZ9
      obtain ⟨b114, hZ9⟩ := hZ9
      obtain ⟨b115, hZ9⟩ := hZ9
      obtain ⟨b116, hZ9⟩ := hZ9
      obtain ⟨b117, hZ9⟩ := hZ9
      obtain ⟨b118, hE119⟩ := hZ9
      replace hO96 : u93[47]? = (some (q 47, .inr (10, [.int y97, .int y98, .int y99, .int y100, .int y101, .int y102, .ref (q 1), .int y103])) : Option (Nat × va_E)) := hO96
      obtain ⟨p121, e122⟩ : ∃ z, z = (F_Dir_takeNumber t0_0 t0_1 t0_2 t0_3 t0_4 t0_5 t0_6 t1_0 t2_0) := ⟨_, rfl⟩
      have e123 : a95 = p121.1 := congrArg (fun z => z.1) (hE119.trans e122.symm)
      have e124 : y97 = p121.2.1 := congrArg (fun z => z.2.1) (hE119.trans e122.symm)
      have e125 : y98 = p121.2.2.1 := congrArg (fun z => z.2.2.1) (hE119.trans e122.symm)
      have e126 : y99 = p121.2.2.2.1 := congrArg (fun z => z.2.2.2.1) (hE119.trans e122.symm)
      have e127 : y100 = p121.2.2.2.2.1 := congrArg (fun z => z.2.2.2.2.1) (hE119.trans e122.symm)
      have e128 : y101 = p121.2.2.2.2.2.1 := congrArg (fun z => z.2.2.2.2.2.1) (hE119.trans e122.symm)
      have e129 : y102 = p121.2.2.2.2.2.2.1 := congrArg (fun z => z.2.2.2.2.2.2.1) (hE119.trans e122.symm)
      have e130 : y103 = p121.2.2.2.2.2.2.2 := congrArg (fun z => z.2.2.2.2.2.2.2) (hE119.trans e122.symm)
      replace b104 : q_F (0 ≤ a95.toInt) := b104
      replace b105 : q_F (a95.toInt ≤ 9999) := b105
      replace b106 : q_F (t0_0.toInt ≤ y97.toInt) := b106
      replace b107 : q_F (y97.toInt ≤ t0_0.toInt) := b107
      replace b108 : q_F (t0_1.toInt ≤ y98.toInt) := b108
      replace b109 : q_F (y98.toInt ≤ t0_1.toInt) := b109
      replace b110 : q_F (t0_2.toInt ≤ y99.toInt) := b110
      replace b111 : q_F (y99.toInt ≤ t0_2.toInt) := b111
      replace b112 : q_F (t0_3.toInt ≤ y100.toInt) := b112
      replace b113 : q_F (y100.toInt ≤ t0_3.toInt) := b113
      replace b114 : q_F (t0_4.toInt ≤ y101.toInt) := b114
      replace b115 : q_F (y101.toInt ≤ t0_4.toInt) := b115
      replace b116 : q_F (t0_5.toInt ≤ y102.toInt) := b116
      replace b117 : q_F (t0_6.toInt ≤ y103.toInt) := b117
      replace b118 : q_F (y103.toInt ≤ t0_6.toInt) := b118
      replace hT1 := (hu120 _ (by decide)).trans hT1
      replace hT2 := (hu120 _ (by decide)).trans hT2
      replace hF := q_uc hF hu120 (by first | exact (q_sk (q_mi 0 rfl) q_s0) | simp)
      have hR131 := (show F_Dir_takeIndex_c18 t0_0 t0_1 t0_2 t0_3 t0_4 t0_5 t0_6 t1_0 t2_0 p121 = (F_Dir_takeIndex t0_0 t0_1 t0_2 t0_3 t0_4 t0_5 t0_6 t1_0 t2_0) from (by have c90x := c90; rw [e23] at c90x; rw [e122, F_Dir_takeIndex.eq_1, if_neg c90x]))
      refine lv_goto (tgt := 25) hx hb d_6_4_21 (by decide) ?_
      exact J35 ((a95 : Int32), (y97 : Int32), (y98 : Int32), (y99 : Int32), (y100 : Int32), (y101 : Int32), (y102 : Int32), (y103 : Int32)) _ _ _ _ ⟨(show q_F (0 ≤ a95.toInt + 1) from (show 0 ≤ a95.toInt + 1 from by have t1 : 0 ≤ a95.toInt := b104; omega)), (show q_F (a95.toInt ≤ 9999) from (show a95.toInt ≤ 9999 from by have t1 : a95.toInt ≤ 9999 := b105; omega)), (show q_F (a19.toInt ≤ a95.toInt + 9) from (show a19.toInt ≤ a95.toInt + 9 from by have t1 : a19.toInt ≤ 9 := b21; have t2 : 0 ≤ a95.toInt := b104; omega)), (show q_F (a95.toInt ≤ a19.toInt + 9998) from (show a95.toInt ≤ a19.toInt + 9998 from by have t1 : 0 < a19.toInt := b92; have t2 : a95.toInt ≤ 9999 := b105; omega)), (show q_F (t0_0.toInt ≤ y97.toInt) from (show t0_0.toInt ≤ y97.toInt from by have t1 : t0_0.toInt ≤ y97.toInt := b106; omega)), (show q_F (y97.toInt ≤ t0_0.toInt) from (show y97.toInt ≤ t0_0.toInt from by have t1 : y97.toInt ≤ t0_0.toInt := b107; omega)), (show q_F (t0_1.toInt ≤ y98.toInt) from (show t0_1.toInt ≤ y98.toInt from by have t1 : t0_1.toInt ≤ y98.toInt := b108; omega)), (show q_F (y98.toInt ≤ t0_1.toInt) from (show y98.toInt ≤ t0_1.toInt from by have t1 : y98.toInt ≤ t0_1.toInt := b109; omega)), (show q_F (t0_2.toInt ≤ y99.toInt) from (show t0_2.toInt ≤ y99.toInt from by have t1 : t0_2.toInt ≤ y99.toInt := b110; omega)), (show q_F (y99.toInt ≤ t0_2.toInt) from (show y99.toInt ≤ t0_2.toInt from by have t1 : y99.toInt ≤ t0_2.toInt := b111; omega)), (show q_F (t0_3.toInt ≤ y100.toInt) from (show t0_3.toInt ≤ y100.toInt from by have t1 : t0_3.toInt ≤ y100.toInt := b112; omega)), (show q_F (y100.toInt ≤ t0_3.toInt) from (show y100.toInt ≤ t0_3.toInt from by have t1 : y100.toInt ≤ t0_3.toInt := b113; omega)), (show q_F (t0_4.toInt ≤ y101.toInt) from (show t0_4.toInt ≤ y101.toInt from by have t1 : t0_4.toInt ≤ y101.toInt := b114; omega)), (show q_F (y101.toInt ≤ t0_4.toInt) from (show y101.toInt ≤ t0_4.toInt from by have t1 : y101.toInt ≤ t0_4.toInt := b115; omega)), (show q_F (t0_5.toInt ≤ y102.toInt) from (show t0_5.toInt ≤ y102.toInt from by have t1 : t0_5.toInt ≤ y102.toInt := b116; omega)), (show q_F (t0_6.toInt ≤ y103.toInt) from (show t0_6.toInt ≤ y103.toInt from by have t1 : t0_6.toInt ≤ y103.toInt := b117; omega)), (show q_F (y103.toInt ≤ t0_6.toInt) from (show y103.toInt ≤ t0_6.toInt from by have t1 : y103.toInt ≤ t0_6.toInt := b118; omega)), V, q_lw hl (q_lw1 0 rfl (q_lw1 1 rfl q_lw0)), hI, hF, hO96, hT1, hT2, (show F_Dir_takeIndex_J25 t0_0 t0_1 t0_2 t0_3 t0_4 t0_5 t0_6 t1_0 t2_0 a95 y97 y98 y99 y100 y101 y102 y103 = (F_Dir_takeIndex t0_0 t0_1 t0_2 t0_3 t0_4 t0_5 t0_6 t1_0 t2_0) from Eq.trans (by rw [e130, e129, e128, e127, e126, e125, e124, e123, F_Dir_takeIndex_c18.eq_1]) hR131)⟩
def F_Dir_takeFlags_L0 (t0_0 : Int32) (t0_1 : Int32) (t0_2 : Int32) (t0_3 : Int32) (t0_4 : Int32) (t0_5 : Int32) (t0_6 : Int32) (t1_0 : Int32) (t2_0 : (Nat → Int64)) : Nat → Int32 → Int32 → Int32 → (Int32 × Int32 × Int32 × Int32 × Int32 × Int32 × Int32)
  | 0, _, _, _ => default
  | fm + 1, lx17, lx18, lx19 => if t1_0 ≤ lx18 then ((t0_0, lx17, t0_2, t0_3, t0_4, lx18, lx19)) else (if (0 : Int32) ≤ ((F_jStr_indexOf_II_0 ((((F_She_at_p (4100 : Int32) (513 : Int32) (4100 : Int32) (lx18.toInt64 : Int64) t1_0 t2_0) : Int32).toUInt32 % 65536).toInt32 : Int32)) : Int32) then (F_Dir_takeFlags_L0 t0_0 t0_1 t0_2 t0_3 t0_4 t0_5 t0_6 t1_0 t2_0 fm (lx17 ||| ((1 : Int32) <<< (((F_jStr_indexOf_II_0 ((((F_She_at_p (4100 : Int32) (513 : Int32) (4100 : Int32) (lx18.toInt64 : Int64) t1_0 t2_0) : Int32).toUInt32 % 65536).toInt32 : Int32)) : Int32) &&& 31) : Int32) : Int32) (lx18 + 1 : Int32) (lx19 ||| ((F_Dir_has ((1 : Int32) <<< (((F_jStr_indexOf_II_0 ((((F_She_at_p (4100 : Int32) (513 : Int32) (4100 : Int32) (lx18.toInt64 : Int64) t1_0 t2_0) : Int32).toUInt32 % 65536).toInt32 : Int32)) : Int32) &&& 31) : Int32) t0_0 lx17 t0_2 t0_3 t0_4 lx18 lx19) : Int32) : Int32)) else ((t0_0, lx17, t0_2, t0_3, t0_4, lx18, lx19)))
def F_Dir_takeFlags (t0_0 : Int32) (t0_1 : Int32) (t0_2 : Int32) (t0_3 : Int32) (t0_4 : Int32) (t0_5 : Int32) (t0_6 : Int32) (t1_0 : Int32) (t2_0 : (Nat → Int64)) : Int32 × Int32 × Int32 × Int32 × Int32 × Int32 × Int32 := F_Dir_takeFlags_L0 t0_0 t0_1 t0_2 t0_3 t0_4 t0_5 t0_6 t1_0 t2_0 ((4100 - t0_5.toInt).toNat + 1) t0_1 t0_5 t0_6
set_option maxRecDepth 100000 in
set_option maxHeartbeats 4000000 in
theorem X_Dir_takeFlags (l : Launch) (D : va_G) (g : Nat → ClassId) (q : Nat → Nat) (ws : va_W) (hI : q_I (nsh g q) q ws) (t0_0 : Int32) (t0_1 : Int32) (t0_2 : Int32) (t0_3 : Int32) (t0_4 : Int32) (t0_5 : Int32) (t0_6 : Int32) (hT0 : ws[47]? = (some (q 47, .inr (10, [.int t0_0, .int t0_1, .int t0_2, .int t0_3, .int t0_4, .int t0_5, .ref (q 1), .int t0_6])) : Option (Nat × va_E))) (t1_0 : Int32) (hT1 : ws[1]? = (some (q 1, .inr (1, [.ref (q 2), .int 4100, .int t1_0])) : Option (Nat × va_E))) (t2_0 : (Nat → Int64)) (hT2 : ws[2]? = (some (q 2, .inl (g 1, (513 : Int32).toNatClampNeg, .inr (.inl t2_0))) : Option (Nat × va_E))) : q_mV l y_Dir_takeFlags prog_6_method_5_code 2 5 0 0 D g [.ref (q 47)] ws (fun u => q_I (nsh g q) q u ∧ q_un ws u [47] ∧ ∃ (u0_0 : Int32) (u0_1 : Int32) (u0_2 : Int32) (u0_3 : Int32) (u0_4 : Int32) (u0_5 : Int32) (u0_6 : Int32), u[47]? = (some (q 47, .inr (10, [.int u0_0, .int u0_1, .int u0_2, .int u0_3, .int u0_4, .int u0_5, .ref (q 1), .int u0_6])) : Option (Nat × va_E)) ∧ (0 ≤ u0_6.toInt) ∧ (u0_6.toInt ≤ 1) ∧ (t0_0.toInt ≤ u0_0.toInt) ∧ (u0_0.toInt ≤ t0_0.toInt) ∧ (t0_2.toInt ≤ u0_2.toInt) ∧ (u0_2.toInt ≤ t0_2.toInt) ∧ (t0_3.toInt ≤ u0_3.toInt) ∧ (u0_3.toInt ≤ t0_3.toInt) ∧ (t0_4.toInt ≤ u0_4.toInt) ∧ (u0_4.toInt ≤ t0_4.toInt) ∧ (t0_5.toInt ≤ u0_5.toInt) ∧ (u0_0, u0_1, u0_2, u0_3, u0_4, u0_5, u0_6) = (F_Dir_takeFlags t0_0 t0_1 t0_2 t0_3 t0_4 t0_5 t0_6 t1_0 t2_0)) := by
  intro sz
  refine q_into (by decide) (Nat.le_of_ble_eq_true rfl) ?_
  intro p e s m below meth c ls hsz C0 V hl
  have hx := C0.1
  have hb := C0.2.1
  obtain ⟨btt0_2, hZ9⟩ := n_w47 hI hT0
  obtain ⟨btt0_3, btt0_6⟩ := hZ9
  replace btt0_2 : q_F (-1 ≤ t0_2.toInt ∧ t0_2.toInt ≤ 9999) := btt0_2
  replace btt0_3 : q_F (-1 ≤ t0_3.toInt ∧ t0_3.toInt ≤ 9999) := btt0_3
  replace btt0_6 : q_F (0 ≤ t0_6.toInt ∧ t0_6.toInt ≤ 1) := btt0_6
  have btt1_0 := n_shW hI (n_h1 g q) hT1
  replace btt1_0 : q_F (0 ≤ t1_0.toInt ∧ t1_0.toInt ≤ 4100) := btt1_0
  have hF : q_un ws ws [47] := q_u0
  have hl : lv_has ls 2 [(0, .ref (q 47))] := hl
  refine q_loop (X := Int32 × Int32 × Int32) (fun z H locs ls w25 => q_F (0 ≤ z.2.2.toInt) ∧ q_F (z.2.2.toInt ≤ 1) ∧ q_F (t0_5.toInt + t0_6.toInt ≤ z.2.1.toInt + z.2.2.toInt) ∧ q_F (z.2.2.toInt + t0_5.toInt ≤ z.2.1.toInt + t0_6.toInt) ∧ q_Wd D g (va_A ws sz) s w25 H locs ∧ lv_has ls 2 [(0, .ref (q 47))] ∧ q_I (nsh g q) q w25 ∧ q_un ws w25 [47] ∧ w25[47]? = (some (q 47, .inr (10, [.int t0_0, .int z.1, .int t0_2, .int t0_3, .int t0_4, .int z.2.1, .ref (q 1), .int z.2.2])) : Option (Nat × va_E)) ∧ w25[1]? = (some (q 1, .inr (1, [.ref (q 2), .int 4100, .int t1_0])) : Option (Nat × va_E)) ∧ w25[2]? = (some (q 2, .inl (g 1, (513 : Int32).toNatClampNeg, .inr (.inl t2_0))) : Option (Nat × va_E)) ∧ (∃ n, (4100 - z.2.1.toInt).toNat < n ∧ F_Dir_takeFlags_L0 t0_0 t0_1 t0_2 t0_3 t0_4 t0_5 t0_6 t1_0 t2_0 n z.1 z.2.1 z.2.2 = (F_Dir_takeFlags t0_0 t0_1 t0_2 t0_3 t0_4 t0_5 t0_6 t1_0 t2_0))) (fun z => (4100 - z.2.1.toInt).toNat) ?_ ((t0_1 : Int32), (t0_5 : Int32), (t0_6 : Int32)) _ _ _ ws ⟨(show q_F (0 ≤ t0_6.toInt) from (show 0 ≤ t0_6.toInt from by have t1 : 0 ≤ t0_6.toInt ∧ t0_6.toInt ≤ 1 := btt0_6; omega)), (show q_F (t0_6.toInt ≤ 1) from (show t0_6.toInt ≤ 1 from by have t1 : 0 ≤ t0_6.toInt ∧ t0_6.toInt ≤ 1 := btt0_6; omega)), (show q_F (t0_5.toInt + t0_6.toInt ≤ t0_5.toInt + t0_6.toInt) from (show t0_5.toInt + t0_6.toInt ≤ t0_5.toInt + t0_6.toInt from by omega)), (show q_F (t0_6.toInt + t0_5.toInt ≤ t0_5.toInt + t0_6.toInt) from (show t0_6.toInt + t0_5.toInt ≤ t0_5.toInt + t0_6.toInt from by omega)), V, q_lw hl (q_lw1 0 rfl q_lw0), hI, hF, hT0, hT1, hT2, ⟨((4100 - t0_5.toInt).toNat + 1), Nat.lt_succ_self _, (show F_Dir_takeFlags_L0 t0_0 t0_1 t0_2 t0_3 t0_4 t0_5 t0_6 t1_0 t2_0 ((4100 - t0_5.toInt).toNat + 1) t0_1 t0_5 t0_6 = (F_Dir_takeFlags t0_0 t0_1 t0_2 t0_3 t0_4 t0_5 t0_6 t1_0 t2_0) from (by rw [F_Dir_takeFlags.eq_1]))⟩⟩
  rintro ⟨lx17, lx18, lx19⟩ H locs ls w25 ⟨i20, i21, i22, i23, V, hl, hI, hF, hO26, hO27, hO28, ⟨fu31, hf32, hR29⟩⟩ ih24
  obtain ⟨fm33, rfl⟩ : ∃ m, fu31 = m + 1 := ⟨fu31 - 1, by omega⟩
  replace i20 : q_F (0 ≤ lx19.toInt) := i20
  replace i21 : q_F (lx19.toInt ≤ 1) := i21
  replace i22 : q_F (t0_5.toInt + t0_6.toInt ≤ lx18.toInt + lx19.toInt) := i22
  replace i23 : q_F (lx19.toInt + t0_5.toInt ≤ lx18.toInt + t0_6.toInt) := i23
  replace hl : lv_has ls 2 [(0, .ref (q 47))] := hl
  replace hO26 : w25[47]? = (some (q 47, .inr (10, [.int t0_0, .int lx17, .int t0_2, .int t0_3, .int t0_4, .int lx18, .ref (q 1), .int lx19])) : Option (Nat × va_E)) := hO26
  replace hO27 : w25[1]? = (some (q 1, .inr (1, [.ref (q 2), .int 4100, .int t1_0])) : Option (Nat × va_E)) := hO27
  replace hO28 : w25[2]? = (some (q 2, .inl (g 1, (513 : Int32).toNatClampNeg, .inr (.inl t2_0))) : Option (Nat × va_E)) := hO28
  refine lv_aload_n hx hb d_6_5_0 rfl (lv_at hl 0 rfl) ?_
  refine q_get (ci := 10) (j := 5) (v := .int lx18) C0 V i_Dir rfl rfl hO26 (by decide) w_363 rfl d_6_5_1 ?_
  refine lv_aload_n hx hb d_6_5_4 rfl (lv_at hl 0 rfl) ?_
  refine q_get (ci := 10) (j := 6) (v := .ref (q 1)) C0 V i_Dir rfl rfl hO26 (by decide) w_365 rfl d_6_5_5 ?_
  refine q_get (ci := 1) (j := 2) (v := .int t1_0) C0 V i_She rfl rfl hO27 (by decide) w_57 rfl d_6_5_8 ?_
  refine lv_icmp_ge (tgt := 79) hx hb d_6_5_11 (by decide) (fun c34 => ?_) (fun c34 => ?_)
  ·
    exact q_retv C0 V (⟨hI, hF, t0_0, lx17, t0_2, t0_3, t0_4, lx18, lx19, hO26, (show 0 ≤ lx19.toInt from (by first | with_reducible exact q_fe i20 | (have t1 : 0 ≤ lx19.toInt := i20; omega))), (show lx19.toInt ≤ 1 from (by first | with_reducible exact q_fe i21 | (have t1 : lx19.toInt ≤ 1 := i21; omega))), (show t0_0.toInt ≤ t0_0.toInt from (by omega)), (show t0_0.toInt ≤ t0_0.toInt from (by omega)), (show t0_2.toInt ≤ t0_2.toInt from (by omega)), (show t0_2.toInt ≤ t0_2.toInt from (by omega)), (show t0_3.toInt ≤ t0_3.toInt from (by omega)), (show t0_3.toInt ≤ t0_3.toInt from (by omega)), (show t0_4.toInt ≤ t0_4.toInt from (by omega)), (show t0_4.toInt ≤ t0_4.toInt from (by omega)), (show t0_5.toInt ≤ lx18.toInt from (by have t1 : t0_5.toInt + t0_6.toInt ≤ lx18.toInt + lx19.toInt := i22; have t2 : lx19.toInt + t0_5.toInt ≤ lx18.toInt + t0_6.toInt := i23; omega)), (show (t0_0, lx17, t0_2, t0_3, t0_4, lx18, lx19) = (F_Dir_takeFlags t0_0 t0_1 t0_2 t0_3 t0_4 t0_5 t0_6 t1_0 t2_0) from Eq.trans (by rw [F_Dir_takeFlags_L0.eq_2, if_pos c34]) hR29)⟩) d_6_5_79
  ·
    have b36 : q_F (lx18.toInt < t1_0.toInt) := (q_nleI c34)
    refine q_ldcs (i := 0) C0 V rfl rfl d_6_5_14 ?_
    refine lv_aload_n hx hb d_6_5_16 rfl (lv_at hl 0 rfl) ?_
    refine q_get (ci := 10) (j := 6) (v := .ref (q 1)) C0 V i_Dir rfl rfl hO26 (by decide) w_365 rfl d_6_5_17 ?_
    refine lv_aload_n hx hb d_6_5_20 rfl (lv_at hl 0 rfl) ?_
    refine q_get (ci := 10) (j := 5) (v := .int lx18) C0 V i_Dir rfl rfl hO26 (by decide) w_363 rfl d_6_5_21 ?_
    refine lv_i2l hx hb d_6_5_24 rfl ?_
    obtain ⟨j37, e38⟩ := q_nm (lx18.toInt64 : Int64)
    refine q_tl (v := j37) e38 ?_
    refine q_goi V (q_runV (As := [.long j37]) (rest := [.ref (g (8 + 2 * 0))]) (d := 1) (mc := 0) (ms := 0) (ci := 1) C0 V rfl LV_Dir_46 (X_She_at_p l D g q w25 1 4100 513 4100 (n_h1 g q) j37 hI t1_0 hO27 t2_0 hO28  _) rfl rfl hO27 rfl hl.1 rfl (Nat.le_of_ble_eq_true rfl) ⟨by decide, by decide⟩ ⟨Nat.le_of_ble_eq_true rfl, Nat.le_of_ble_eq_true rfl⟩ d_6_5_25) (fun a42 u40 H locs hp41 V => ?_)
    obtain ⟨rfl, b43, b44, b45, hE46⟩ := hp41
    have e47 : a42 = (F_She_at_p (4100 : Int32) (513 : Int32) (4100 : Int32) j37 t1_0 t2_0) := hE46
    clear b43
    clear b44
    clear b45
    refine lv_i2c hx hb d_6_5_28 rfl ?_
    obtain ⟨a48, e49⟩ := q_nm ((a42.toUInt32 % 65536).toInt32 : Int32)
    refine q_ti (v := a48) e49 ?_
    refine q_goi V (q_runVs (As := [.int a48]) (rest := []) (d := 4) (mc := 0) (ms := 0) (i := 0) C0 V rfl LV_Dir_63 (X_jStr_indexOf_II_0 l D g q w25  a48 hI   _) rfl rfl rfl hl.1 rfl (Nat.le_of_ble_eq_true rfl) ⟨by decide, by decide⟩ ⟨Nat.le_of_ble_eq_true rfl, Nat.le_of_ble_eq_true rfl⟩ d_6_5_29) (fun a53 u51 H locs hp52 V => ?_)
    obtain ⟨rfl, b54, b55, hE56⟩ := hp52
    have e57 : a53 = (F_jStr_indexOf_II_0 a48) := hE56
    clear b54
    clear b55
    refine lv_istore_n (lv' := [(1, .int a53), (0, .ref (q 47))]) hx hb d_6_5_32 rfl hl (by decide) rfl (fun ls hl => ?_)
    refine lv_iload_n hx hb d_6_5_33 rfl (lv_at hl 0 rfl) ?_
    refine lv_if_ge (tgt := 38) hx hb d_6_5_34 (by decide) (fun c58 => ?_) (fun c58 => ?_)
    ·
      refine lv_aload_n hx hb d_6_5_38 rfl (lv_at hl 1 rfl) ?_
      refine lv_dup hx hb d_6_5_39 rfl ?_
      refine q_get (ci := 10) (j := 7) (v := .int lx19) C0 V i_Dir rfl rfl hO26 (by decide) w_366 rfl d_6_5_40 ?_
      refine lv_aload_n hx hb d_6_5_43 rfl (lv_at hl 1 rfl) ?_
      refine lv_iconst (v := 1) hx hb d_6_5_44 (by decide) ?_
      refine lv_iload_n hx hb d_6_5_45 rfl (lv_at hl 0 rfl) ?_
      refine lv_ishl hx hb d_6_5_46 ?_
      obtain ⟨a60, e61⟩ := q_nm ((1 : Int32) <<< (a53 &&& 31) : Int32)
      refine q_ti (v := a60) e61 ?_
      refine q_goi V (q_runV (As := [.int a60]) (rest := [.int lx19, .ref (q 47)]) (d := 1) (mc := 0) (ms := 0) (ci := 10) C0 V rfl LV_Dir_68 (X_Dir_has l D g q w25  a60 hI t0_0 lx17 t0_2 t0_3 t0_4 lx18 lx19 hO26  _) rfl rfl hO26 rfl hl.1 rfl (Nat.le_of_ble_eq_true rfl) ⟨by decide, by decide⟩ ⟨Nat.le_of_ble_eq_true rfl, Nat.le_of_ble_eq_true rfl⟩ d_6_5_47) (fun a65 u63 H locs hp64 V => ?_)
      obtain ⟨rfl, b66, b67, hE68⟩ := hp64
      have e69 : a65 = (F_Dir_has a60 t0_0 lx17 t0_2 t0_3 t0_4 lx18 lx19) := hE68
      replace b66 : q_F (0 ≤ a65.toInt) := b66
      replace b67 : q_F (a65.toInt ≤ 1) := b67
      refine lv_ior hx hb d_6_5_50 ?_
      obtain ⟨a70, e71⟩ := q_nm (lx19 ||| a65 : Int32)
      refine q_ti (v := a70) e71 ?_
      have b72 : q_F (0 ≤ a70.toInt ∧ a70.toInt ≤ 1) := (by rw [← e71]; show 0 ≤ (lx19 ||| a65 : Int32).toInt ∧ (lx19 ||| a65 : Int32).toInt ≤ 1; exact s_or' (x := lx19) (y := a65) 1 (by decide) 1 (by decide) ⟨(by have t1 : 0 ≤ lx19.toInt := i20; have t2 : lx19.toInt ≤ 1 := i21; omega), (by have t1 : 0 ≤ lx19.toInt := i20; have t2 : lx19.toInt ≤ 1 := i21; omega)⟩ ⟨(by have t1 : 0 ≤ a65.toInt := b66; have t2 : a65.toInt ≤ 1 := b67; omega), (by have t1 : 0 ≤ a65.toInt := b66; have t2 : a65.toInt ≤ 1 := b67; omega)⟩)
      refine q_put (ci := 10) (j := 7) (v := .int a70) (ty := .boolean) C0 V i_Dir o_Dir n_Dir rfl rfl hO26 (by decide) w_366 rfl rfl (q_nz01 (q_Ile (x := 0) (y := a70.toInt) (by decide) rfl (by first | with_reducible exact (q_fe b72).2 | with_reducible exact (q_fe b72).1 | (have t1 : 0 ≤ a70.toInt ∧ a70.toInt ≤ 1 := b72; omega))) (q_Ile (x := a70.toInt) (y := 1) rfl (by decide) (by first | with_reducible exact (q_fe b72).2 | with_reducible exact (q_fe b72).1 | (have t1 : 0 ≤ a70.toInt ∧ a70.toInt ≤ 1 := b72; omega)))) (q_fz01 (q_Ile (x := 0) (y := a70.toInt) (by decide) rfl (by first | with_reducible exact (q_fe b72).2 | with_reducible exact (q_fe b72).1 | (have t1 : 0 ≤ a70.toInt ∧ a70.toInt ≤ 1 := b72; omega))) (q_Ile (x := a70.toInt) (y := 1) rfl (by decide) (by first | with_reducible exact (q_fe b72).2 | with_reducible exact (q_fe b72).1 | (have t1 : 0 ≤ a70.toInt ∧ a70.toInt ≤ 1 := b72; omega)))) (Nat.le_of_ble_eq_true rfl) d_6_5_51 (fun H locs w73 hu74 hO26 V => ?_)
      replace hO26 : w73[47]? = (some (q 47, .inr (10, [.int t0_0, .int lx17, .int t0_2, .int t0_3, .int t0_4, .int lx18, .ref (q 1), .int a70])) : Option (Nat × va_E)) := hO26
      replace hI := n_p47 hI hu74 hO26 (by first | with_reducible exact q_fe btt0_2 | exact ⟨(by have t1 : -1 ≤ t0_2.toInt ∧ t0_2.toInt ≤ 9999 := btt0_2; omega), (by have t1 : -1 ≤ t0_2.toInt ∧ t0_2.toInt ≤ 9999 := btt0_2; omega)⟩) (by first | with_reducible exact q_fe btt0_3 | exact ⟨(by have t1 : -1 ≤ t0_3.toInt ∧ t0_3.toInt ≤ 9999 := btt0_3; omega), (by have t1 : -1 ≤ t0_3.toInt ∧ t0_3.toInt ≤ 9999 := btt0_3; omega)⟩) (by first | with_reducible exact q_fe b72 | exact ⟨(by have t1 : 0 ≤ a70.toInt ∧ a70.toInt ≤ 1 := b72; omega), (by have t1 : 0 ≤ a70.toInt ∧ a70.toInt ≤ 1 := b72; omega)⟩)
      replace hO27 := (hu74 _ (by decide)).trans hO27
      replace hO28 := (hu74 _ (by decide)).trans hO28
      replace hF := q_us hF hu74 (by simp)
      refine lv_aload_n hx hb d_6_5_54 rfl (lv_at hl 1 rfl) ?_
      refine lv_dup hx hb d_6_5_55 rfl ?_
      refine q_get (ci := 10) (j := 1) (v := .int lx17) C0 V i_Dir rfl rfl hO26 (by decide) w_356 rfl d_6_5_56 ?_
      refine lv_iconst (v := 1) hx hb d_6_5_59 (by decide) ?_
      refine lv_iload_n hx hb d_6_5_60 rfl (lv_at hl 0 rfl) ?_
      refine lv_ishl hx hb d_6_5_61 ?_
      obtain ⟨a75, e76⟩ := q_nm ((1 : Int32) <<< (a53 &&& 31) : Int32)
      refine q_ti (v := a75) e76 ?_
      refine lv_ior hx hb d_6_5_62 ?_
      obtain ⟨a78, e79⟩ := q_nm (lx17 ||| a75 : Int32)
      refine q_ti (v := a78) e79 ?_
      refine q_put (ci := 10) (j := 1) (v := .int a78) (ty := .int) C0 V i_Dir o_Dir n_Dir rfl rfl hO26 (by decide) w_356 rfl rfl rfl rfl (Nat.le_of_ble_eq_true rfl) d_6_5_63 (fun H locs w80 hu81 hO26 V => ?_)
      replace hO26 : w80[47]? = (some (q 47, .inr (10, [.int t0_0, .int a78, .int t0_2, .int t0_3, .int t0_4, .int lx18, .ref (q 1), .int a70])) : Option (Nat × va_E)) := hO26
      replace hI := n_p47 hI hu81 hO26 (by first | with_reducible exact q_fe btt0_2 | exact ⟨(by have t1 : -1 ≤ t0_2.toInt ∧ t0_2.toInt ≤ 9999 := btt0_2; omega), (by have t1 : -1 ≤ t0_2.toInt ∧ t0_2.toInt ≤ 9999 := btt0_2; omega)⟩) (by first | with_reducible exact q_fe btt0_3 | exact ⟨(by have t1 : -1 ≤ t0_3.toInt ∧ t0_3.toInt ≤ 9999 := btt0_3; omega), (by have t1 : -1 ≤ t0_3.toInt ∧ t0_3.toInt ≤ 9999 := btt0_3; omega)⟩) (by first | with_reducible exact q_fe b72 | exact ⟨(by have t1 : 0 ≤ a70.toInt ∧ a70.toInt ≤ 1 := b72; omega), (by have t1 : 0 ≤ a70.toInt ∧ a70.toInt ≤ 1 := b72; omega)⟩)
      replace hO27 := (hu81 _ (by decide)).trans hO27
      replace hO28 := (hu81 _ (by decide)).trans hO28
      replace hF := q_us hF hu81 (by simp)
      refine lv_aload_n hx hb d_6_5_66 rfl (lv_at hl 1 rfl) ?_
      refine lv_dup hx hb d_6_5_67 rfl ?_
      refine q_get (ci := 10) (j := 5) (v := .int lx18) C0 V i_Dir rfl rfl hO26 (by decide) w_363 rfl d_6_5_68 ?_
      refine lv_iconst (v := 1) hx hb d_6_5_71 (by decide) ?_
      refine lv_iadd hx hb d_6_5_72 ?_
      obtain ⟨a82, e83⟩ := q_nm (lx18 + 1 : Int32)
      refine q_ti (v := a82) e83 ?_
      have b84 : q_F (a82.toInt = lx18.toInt + 1) := (by rw [← e83]; show (lx18 + 1 : Int32).toInt = lx18.toInt + 1; exact q_addI (x := lx18.toInt) (y := 1) rfl (by decide) (by have _ := q_lo32 (x := lx18); have _ := q_hi32 (x := lx18); have t1 : lx18.toInt < t1_0.toInt := b36; have _ := q_lo32 (x := t1_0); have _ := q_hi32 (x := t1_0); omega) (by have _ := q_lo32 (x := lx18); have _ := q_hi32 (x := lx18); have t1 : lx18.toInt < t1_0.toInt := b36; have _ := q_lo32 (x := t1_0); have _ := q_hi32 (x := t1_0); omega))
      refine q_put (ci := 10) (j := 5) (v := .int a82) (ty := .int) C0 V i_Dir o_Dir n_Dir rfl rfl hO26 (by decide) w_363 rfl rfl rfl rfl (Nat.le_of_ble_eq_true rfl) d_6_5_73 (fun H locs w85 hu86 hO26 V => ?_)
      replace hO26 : w85[47]? = (some (q 47, .inr (10, [.int t0_0, .int a78, .int t0_2, .int t0_3, .int t0_4, .int a82, .ref (q 1), .int a70])) : Option (Nat × va_E)) := hO26
      replace hI := n_p47 hI hu86 hO26 (by first | with_reducible exact q_fe btt0_2 | exact ⟨(by have t1 : -1 ≤ t0_2.toInt ∧ t0_2.toInt ≤ 9999 := btt0_2; omega), (by have t1 : -1 ≤ t0_2.toInt ∧ t0_2.toInt ≤ 9999 := btt0_2; omega)⟩) (by first | with_reducible exact q_fe btt0_3 | exact ⟨(by have t1 : -1 ≤ t0_3.toInt ∧ t0_3.toInt ≤ 9999 := btt0_3; omega), (by have t1 : -1 ≤ t0_3.toInt ∧ t0_3.toInt ≤ 9999 := btt0_3; omega)⟩) (by first | with_reducible exact q_fe b72 | exact ⟨(by have t1 : 0 ≤ a70.toInt ∧ a70.toInt ≤ 1 := b72; omega), (by have t1 : 0 ≤ a70.toInt ∧ a70.toInt ≤ 1 := b72; omega)⟩)
      replace hO27 := (hu86 _ (by decide)).trans hO27
      replace hO28 := (hu86 _ (by decide)).trans hO28
      replace hF := q_us hF hu86 (by simp)
      refine lv_goto (tgt := 0) hx hb d_6_5_76 (by decide) ?_
      exact ih24 ((a78 : Int32), (a82 : Int32), (a70 : Int32)) _ _ _ _ (show (4100 - a82.toInt).toNat < (4100 - lx18.toInt).toNat from by have t1 : a82.toInt = lx18.toInt + 1 := b84; have t2 : 0 ≤ t1_0.toInt ∧ t1_0.toInt ≤ 4100 := btt1_0; have t3 : lx18.toInt < t1_0.toInt := b36; omega) ⟨(show q_F (0 ≤ a70.toInt) from (show 0 ≤ a70.toInt from by have t1 : 0 ≤ a70.toInt ∧ a70.toInt ≤ 1 := b72; omega)), (show q_F (a70.toInt ≤ 1) from (show a70.toInt ≤ 1 from by have t1 : 0 ≤ a70.toInt ∧ a70.toInt ≤ 1 := b72; omega)), (show q_F (t0_5.toInt + t0_6.toInt ≤ a82.toInt + a70.toInt) from (show t0_5.toInt + t0_6.toInt ≤ a82.toInt + a70.toInt from by have t1 : 0 ≤ t0_6.toInt ∧ t0_6.toInt ≤ 1 := btt0_6; have t2 : t0_5.toInt + t0_6.toInt ≤ lx18.toInt + lx19.toInt := i22; have t3 : lx19.toInt + t0_5.toInt ≤ lx18.toInt + t0_6.toInt := i23; have t4 : 0 ≤ a70.toInt ∧ a70.toInt ≤ 1 := b72; have t5 : a82.toInt = lx18.toInt + 1 := b84; omega)), (show q_F (a70.toInt + t0_5.toInt ≤ a82.toInt + t0_6.toInt) from (show a70.toInt + t0_5.toInt ≤ a82.toInt + t0_6.toInt from by have t1 : 0 ≤ t0_6.toInt ∧ t0_6.toInt ≤ 1 := btt0_6; have t2 : t0_5.toInt + t0_6.toInt ≤ lx18.toInt + lx19.toInt := i22; have t3 : lx19.toInt + t0_5.toInt ≤ lx18.toInt + t0_6.toInt := i23; have t4 : 0 ≤ a70.toInt ∧ a70.toInt ≤ 1 := b72; have t5 : a82.toInt = lx18.toInt + 1 := b84; omega)), V, q_lw hl (q_lw1 1 rfl q_lw0), hI, hF, hO26, hO27, hO28, ⟨fm33, Nat.lt_of_lt_of_le (show (4100 - a82.toInt).toNat < (4100 - lx18.toInt).toNat from by have t1 : a82.toInt = lx18.toInt + 1 := b84; have t2 : 0 ≤ t1_0.toInt ∧ t1_0.toInt ≤ 4100 := btt1_0; have t3 : lx18.toInt < t1_0.toInt := b36; omega) (Nat.le_of_lt_succ hf32), (show F_Dir_takeFlags_L0 t0_0 t0_1 t0_2 t0_3 t0_4 t0_5 t0_6 t1_0 t2_0 fm33 a78 a82 a70 = (F_Dir_takeFlags t0_0 t0_1 t0_2 t0_3 t0_4 t0_5 t0_6 t1_0 t2_0) from Eq.trans (by have c58x := c58; rw [e57, ← e49, e47, ← e38] at c58x; rw [← e83, ← e79, ← e76, ← e71, e69, ← e61, e57, ← e49, e47, ← e38, F_Dir_takeFlags_L0.eq_2, if_neg c34, if_pos c58x]) hR29)⟩⟩
    ·
      exact q_retv C0 V (⟨hI, hF, t0_0, lx17, t0_2, t0_3, t0_4, lx18, lx19, hO26, (show 0 ≤ lx19.toInt from (by first | with_reducible exact q_fe i20 | (have t1 : 0 ≤ lx19.toInt := i20; omega))), (show lx19.toInt ≤ 1 from (by first | with_reducible exact q_fe i21 | (have t1 : lx19.toInt ≤ 1 := i21; omega))), (show t0_0.toInt ≤ t0_0.toInt from (by omega)), (show t0_0.toInt ≤ t0_0.toInt from (by omega)), (show t0_2.toInt ≤ t0_2.toInt from (by omega)), (show t0_2.toInt ≤ t0_2.toInt from (by omega)), (show t0_3.toInt ≤ t0_3.toInt from (by omega)), (show t0_3.toInt ≤ t0_3.toInt from (by omega)), (show t0_4.toInt ≤ t0_4.toInt from (by omega)), (show t0_4.toInt ≤ t0_4.toInt from (by omega)), (show t0_5.toInt ≤ lx18.toInt from (by have t1 : t0_5.toInt + t0_6.toInt ≤ lx18.toInt + lx19.toInt := i22; have t2 : lx19.toInt + t0_5.toInt ≤ lx18.toInt + t0_6.toInt := i23; omega)), (show (t0_0, lx17, t0_2, t0_3, t0_4, lx18, lx19) = (F_Dir_takeFlags t0_0 t0_1 t0_2 t0_3 t0_4 t0_5 t0_6 t1_0 t2_0) from Eq.trans (by have c58x := c58; rw [e57, ← e49, e47, ← e38] at c58x; rw [F_Dir_takeFlags_L0.eq_2, if_neg c34, if_neg c58x]) hR29)⟩) d_6_5_37
def F_Dir_parse_J101 (x2 : Int32) (t0_0 : Int32) (t0_1 : Int32) (t0_2 : Int32) (t0_3 : Int32) (t0_4 : Int32) (t0_5 : Int32) (t0_6 : Int32) (t1_0 : Int32) (t2_0 : (Nat → Int64)) (p49 : (Int32 × Int32 × Int32 × Int32 × Int32 × Int32 × Int32)) (p86 : (Int32 × Int32 × Int32 × Int32 × Int32 × Int32 × Int32)) (lx107 : Int32) (lx108 : Int32) (lx109 : Int32) (lx110 : Int32) (lx111 : Int32) (lx112 : Int32) (lx113 : Int32) (lx114 : Int32) (lx157 : Int32) (lx158 : Int32) (lx159 : Int32) (lx160 : Int32) (lx161 : Int32) (lx162 : Int32) (lx163 : Int32) : Int32 × Int32 × Int32 × Int32 × Int32 × Int32 × Int32 := if t1_0 ≤ lx162 then ((lx157, lx158, lx159, lx160, (-1 : Int32), (lx162 + 1 : Int32), lx163)) else ((lx157, lx158, lx159, lx160, ((F_She_at_p (4100 : Int32) (513 : Int32) (4100 : Int32) (lx162.toInt64 : Int64) t1_0 t2_0) : Int32), (lx162 + 1 : Int32), lx163))
def F_Dir_parse_c95 (x2 : Int32) (t0_0 : Int32) (t0_1 : Int32) (t0_2 : Int32) (t0_3 : Int32) (t0_4 : Int32) (t0_5 : Int32) (t0_6 : Int32) (t1_0 : Int32) (t2_0 : (Nat → Int64)) (p49 : (Int32 × Int32 × Int32 × Int32 × Int32 × Int32 × Int32)) (p86 : (Int32 × Int32 × Int32 × Int32 × Int32 × Int32 × Int32)) (lx107 : Int32) (lx108 : Int32) (lx109 : Int32) (lx110 : Int32) (lx111 : Int32) (lx112 : Int32) (lx113 : Int32) (lx114 : Int32) (p260 : (Int32 × Int32 × Int32 × Int32 × Int32 × Int32 × Int32 × Int32)) : Int32 × Int32 × Int32 × Int32 × Int32 × Int32 × Int32 := F_Dir_parse_J101 x2 t0_0 t0_1 t0_2 t0_3 t0_4 t0_5 t0_6 t1_0 t2_0 p49 p86 lx107 lx108 lx109 lx110 lx111 lx112 lx113 lx114 (p260.2.1 : Int32) (p260.2.2.1 : Int32) (p260.2.2.2.1 : Int32) (p260.1 : Int32) (p260.2.2.2.2.2.1 : Int32) (p260.2.2.2.2.2.2.1 : Int32) (p260.2.2.2.2.2.2.2 : Int32)
def F_Dir_parse_J45 (x2 : Int32) (t0_0 : Int32) (t0_1 : Int32) (t0_2 : Int32) (t0_3 : Int32) (t0_4 : Int32) (t0_5 : Int32) (t0_6 : Int32) (t1_0 : Int32) (t2_0 : (Nat → Int64)) (p49 : (Int32 × Int32 × Int32 × Int32 × Int32 × Int32 × Int32)) (p86 : (Int32 × Int32 × Int32 × Int32 × Int32 × Int32 × Int32)) (lx107 : Int32) (lx108 : Int32) (lx109 : Int32) (lx110 : Int32) (lx111 : Int32) (lx112 : Int32) (lx113 : Int32) (lx114 : Int32) : Int32 × Int32 × Int32 × Int32 × Int32 × Int32 × Int32 := if ((F_She_at_p (4100 : Int32) (513 : Int32) (4100 : Int32) (lx113.toInt64 : Int64) t1_0 t2_0) : Int32) = (46 : Int32) then (if ((F_Dir_figureAt (lx113 + 1 : Int32) t1_0 t2_0) : Int32) < (0 : Int32) then (F_Dir_parse_J101 x2 t0_0 t0_1 t0_2 t0_3 t0_4 t0_5 t0_6 t1_0 t2_0 p49 p86 lx107 lx108 lx109 lx110 lx111 lx112 lx113 lx114 lx108 lx109 lx107 (-1) lx112 lx113 lx114) else (F_Dir_parse_c95 x2 t0_0 t0_1 t0_2 t0_3 t0_4 t0_5 t0_6 t1_0 t2_0 p49 p86 lx107 lx108 lx109 lx110 lx111 lx112 lx113 lx114 ((F_Dir_takeNumber lx108 lx109 lx107 (-1 : Int32) lx112 (lx113 + 1 : Int32) lx114 t1_0 t2_0) : (Int32 × Int32 × Int32 × Int32 × Int32 × Int32 × Int32 × Int32)))) else (F_Dir_parse_J101 x2 t0_0 t0_1 t0_2 t0_3 t0_4 t0_5 t0_6 t1_0 t2_0 p49 p86 lx107 lx108 lx109 lx110 lx111 lx112 lx113 lx114 lx108 lx109 lx107 (-1) lx112 lx113 lx114)
def F_Dir_parse_c38 (x2 : Int32) (t0_0 : Int32) (t0_1 : Int32) (t0_2 : Int32) (t0_3 : Int32) (t0_4 : Int32) (t0_5 : Int32) (t0_6 : Int32) (t1_0 : Int32) (t2_0 : (Nat → Int64)) (p49 : (Int32 × Int32 × Int32 × Int32 × Int32 × Int32 × Int32)) (p86 : (Int32 × Int32 × Int32 × Int32 × Int32 × Int32 × Int32)) (p308 : (Int32 × Int32 × Int32 × Int32 × Int32 × Int32 × Int32 × Int32)) : Int32 × Int32 × Int32 × Int32 × Int32 × Int32 × Int32 := F_Dir_parse_J45 x2 t0_0 t0_1 t0_2 t0_3 t0_4 t0_5 t0_6 t1_0 t2_0 p49 p86 (p308.1 : Int32) (p308.2.1 : Int32) (p308.2.2.1 : Int32) (p308.2.2.2.1 : Int32) (p308.2.2.2.2.1 : Int32) (p308.2.2.2.2.2.1 : Int32) (p308.2.2.2.2.2.2.1 : Int32) (p308.2.2.2.2.2.2.2 : Int32)
def F_Dir_parse_c22 (x2 : Int32) (t0_0 : Int32) (t0_1 : Int32) (t0_2 : Int32) (t0_3 : Int32) (t0_4 : Int32) (t0_5 : Int32) (t0_6 : Int32) (t1_0 : Int32) (t2_0 : (Nat → Int64)) (p49 : (Int32 × Int32 × Int32 × Int32 × Int32 × Int32 × Int32)) (p86 : (Int32 × Int32 × Int32 × Int32 × Int32 × Int32 × Int32)) : Int32 × Int32 × Int32 × Int32 × Int32 × Int32 × Int32 := if ((F_Dir_figureAt (p86.2.2.2.2.2.1 : Int32) t1_0 t2_0) : Int32) ≤ (0 : Int32) then (F_Dir_parse_J45 x2 t0_0 t0_1 t0_2 t0_3 t0_4 t0_5 t0_6 t1_0 t2_0 p49 p86 (-1) (p86.1 : Int32) (p86.2.1 : Int32) (p86.2.2.1 : Int32) (p86.2.2.2.1 : Int32) (p86.2.2.2.2.1 : Int32) (p86.2.2.2.2.2.1 : Int32) (p86.2.2.2.2.2.2 : Int32)) else (F_Dir_parse_c38 x2 t0_0 t0_1 t0_2 t0_3 t0_4 t0_5 t0_6 t1_0 t2_0 p49 p86 ((F_Dir_takeNumber (p86.1 : Int32) (p86.2.1 : Int32) (p86.2.2.1 : Int32) (p86.2.2.2.1 : Int32) (p86.2.2.2.2.1 : Int32) (p86.2.2.2.2.2.1 : Int32) (p86.2.2.2.2.2.2 : Int32) t1_0 t2_0) : (Int32 × Int32 × Int32 × Int32 × Int32 × Int32 × Int32 × Int32)))
def F_Dir_parse_c18 (x2 : Int32) (t0_0 : Int32) (t0_1 : Int32) (t0_2 : Int32) (t0_3 : Int32) (t0_4 : Int32) (t0_5 : Int32) (t0_6 : Int32) (t1_0 : Int32) (t2_0 : (Nat → Int64)) (p49 : (Int32 × Int32 × Int32 × Int32 × Int32 × Int32 × Int32)) : Int32 × Int32 × Int32 × Int32 × Int32 × Int32 × Int32 := F_Dir_parse_c22 x2 t0_0 t0_1 t0_2 t0_3 t0_4 t0_5 t0_6 t1_0 t2_0 p49 ((F_Dir_takeFlags (p49.1 : Int32) (p49.2.1 : Int32) (p49.2.2.1 : Int32) (p49.2.2.2.1 : Int32) (p49.2.2.2.2.1 : Int32) (p49.2.2.2.2.2.1 : Int32) (p49.2.2.2.2.2.2 : Int32) t1_0 t2_0) : (Int32 × Int32 × Int32 × Int32 × Int32 × Int32 × Int32))
def F_Dir_parse (x2 : Int32) (t0_0 : Int32) (t0_1 : Int32) (t0_2 : Int32) (t0_3 : Int32) (t0_4 : Int32) (t0_5 : Int32) (t0_6 : Int32) (t1_0 : Int32) (t2_0 : (Nat → Int64)) : Int32 × Int32 × Int32 × Int32 × Int32 × Int32 × Int32 := F_Dir_parse_c18 x2 t0_0 t0_1 t0_2 t0_3 t0_4 t0_5 t0_6 t1_0 t2_0 ((F_Dir_takeIndex t0_0 (0 : Int32) t0_2 t0_3 t0_4 (x2 + 1 : Int32) (0 : Int32) t1_0 t2_0) : (Int32 × Int32 × Int32 × Int32 × Int32 × Int32 × Int32))
set_option maxRecDepth 100000 in
set_option maxHeartbeats 4000000 in
theorem X_Dir_parse (l : Launch) (D : va_G) (g : Nat → ClassId) (q : Nat → Nat) (ws : va_W) (x2 : Int32) (hI : q_I (nsh g q) q ws) (t0_0 : Int32) (t0_1 : Int32) (t0_2 : Int32) (t0_3 : Int32) (t0_4 : Int32) (t0_5 : Int32) (t0_6 : Int32) (hT0 : ws[47]? = (some (q 47, .inr (10, [.int t0_0, .int t0_1, .int t0_2, .int t0_3, .int t0_4, .int t0_5, .ref (q 1), .int t0_6])) : Option (Nat × va_E))) (t1_0 : Int32) (hT1 : ws[1]? = (some (q 1, .inr (1, [.ref (q 2), .int 4100, .int t1_0])) : Option (Nat × va_E))) (t2_0 : (Nat → Int64)) (hT2 : ws[2]? = (some (q 2, .inl (g 1, (513 : Int32).toNatClampNeg, .inr (.inl t2_0))) : Option (Nat × va_E))) : q_mV l y_Dir_parse prog_6_method_2_code 2 6 0 0 D g [.ref (q 47), .int x2] ws (fun u => q_I (nsh g q) q u ∧ q_un ws u [47] ∧ ∃ (u0_0 : Int32) (u0_1 : Int32) (u0_2 : Int32) (u0_3 : Int32) (u0_4 : Int32) (u0_5 : Int32) (u0_6 : Int32), u[47]? = (some (q 47, .inr (10, [.int u0_0, .int u0_1, .int u0_2, .int u0_3, .int u0_4, .int u0_5, .ref (q 1), .int u0_6])) : Option (Nat × va_E)) ∧ (0 ≤ u0_0.toInt + 1) ∧ (u0_0.toInt ≤ 9999) ∧ (0 ≤ u0_2.toInt + 1) ∧ (u0_2.toInt ≤ 9999) ∧ (0 ≤ u0_3.toInt + 1) ∧ (u0_3.toInt ≤ 9999) ∧ (0 ≤ u0_4.toInt + 1) ∧ (u0_4.toInt ≤ 255) ∧ (0 ≤ u0_6.toInt) ∧ (u0_6.toInt ≤ 1) ∧ (u0_4.toInt ≤ t1_0.toInt + 254) ∧ (u0_0, u0_1, u0_2, u0_3, u0_4, u0_5, u0_6) = (F_Dir_parse x2 t0_0 t0_1 t0_2 t0_3 t0_4 t0_5 t0_6 t1_0 t2_0)) := by
  intro sz
  refine q_into (by decide) (Nat.le_of_ble_eq_true rfl) ?_
  intro p e s m below meth c ls hsz C0 V hl
  have hx := C0.1
  have hb := C0.2.1
  obtain ⟨btt0_2, hZ9⟩ := n_w47 hI hT0
  obtain ⟨btt0_3, btt0_6⟩ := hZ9
  replace btt0_2 : q_F (-1 ≤ t0_2.toInt ∧ t0_2.toInt ≤ 9999) := btt0_2
  replace btt0_3 : q_F (-1 ≤ t0_3.toInt ∧ t0_3.toInt ≤ 9999) := btt0_3
  replace btt0_6 : q_F (0 ≤ t0_6.toInt ∧ t0_6.toInt ≤ 1) := btt0_6
  have btt1_0 := n_shW hI (n_h1 g q) hT1
  replace btt1_0 : q_F (0 ≤ t1_0.toInt ∧ t1_0.toInt ≤ 4100) := btt1_0
  have hF : q_un ws ws [47] := q_u0
  have hl : lv_has ls 2 [(0, .ref (q 47)), (1, .int x2)] := hl
  refine lv_aload_n hx hb d_6_2_0 rfl (lv_at hl 0 rfl) ?_
  refine lv_iload_n hx hb d_6_2_1 rfl (lv_at hl 1 rfl) ?_
  refine lv_iconst (v := 1) hx hb d_6_2_2 (by decide) ?_
  refine lv_iadd hx hb d_6_2_3 ?_
  obtain ⟨a17, e18⟩ := q_nm (x2 + 1 : Int32)
  refine q_ti (v := a17) e18 ?_
  refine q_put (ci := 10) (j := 5) (v := .int a17) (ty := .int) C0 V i_Dir o_Dir n_Dir rfl rfl hT0 (by decide) w_363 rfl rfl rfl rfl (Nat.le_of_ble_eq_true rfl) d_6_2_4 (fun H locs w19 hu20 hT0 V => ?_)
  replace hT0 : w19[47]? = (some (q 47, .inr (10, [.int t0_0, .int t0_1, .int t0_2, .int t0_3, .int t0_4, .int a17, .ref (q 1), .int t0_6])) : Option (Nat × va_E)) := hT0
  replace hI := n_p47 hI hu20 hT0 (by first | with_reducible exact q_fe btt0_2 | exact ⟨(by have t1 : -1 ≤ t0_2.toInt ∧ t0_2.toInt ≤ 9999 := btt0_2; omega), (by have t1 : -1 ≤ t0_2.toInt ∧ t0_2.toInt ≤ 9999 := btt0_2; omega)⟩) (by first | with_reducible exact q_fe btt0_3 | exact ⟨(by have t1 : -1 ≤ t0_3.toInt ∧ t0_3.toInt ≤ 9999 := btt0_3; omega), (by have t1 : -1 ≤ t0_3.toInt ∧ t0_3.toInt ≤ 9999 := btt0_3; omega)⟩) (by first | with_reducible exact q_fe btt0_6 | exact ⟨(by have t1 : 0 ≤ t0_6.toInt ∧ t0_6.toInt ≤ 1 := btt0_6; omega), (by have t1 : 0 ≤ t0_6.toInt ∧ t0_6.toInt ≤ 1 := btt0_6; omega)⟩)
  replace hT1 := (hu20 _ (by decide)).trans hT1
  replace hT2 := (hu20 _ (by decide)).trans hT2
  replace hF := q_us hF hu20 (by simp)
  refine lv_aload_n hx hb d_6_2_7 rfl (lv_at hl 0 rfl) ?_
  refine lv_iconst (v := 0) hx hb d_6_2_8 (by decide) ?_
  refine q_put (ci := 10) (j := 1) (v := .int 0) (ty := .int) C0 V i_Dir o_Dir n_Dir rfl rfl hT0 (by decide) w_356 rfl rfl rfl rfl (Nat.le_of_ble_eq_true rfl) d_6_2_9 (fun H locs w21 hu22 hT0 V => ?_)
  replace hT0 : w21[47]? = (some (q 47, .inr (10, [.int t0_0, .int 0, .int t0_2, .int t0_3, .int t0_4, .int a17, .ref (q 1), .int t0_6])) : Option (Nat × va_E)) := hT0
  replace hI := n_p47 hI hu22 hT0 (by first | with_reducible exact q_fe btt0_2 | exact ⟨(by have t1 : -1 ≤ t0_2.toInt ∧ t0_2.toInt ≤ 9999 := btt0_2; omega), (by have t1 : -1 ≤ t0_2.toInt ∧ t0_2.toInt ≤ 9999 := btt0_2; omega)⟩) (by first | with_reducible exact q_fe btt0_3 | exact ⟨(by have t1 : -1 ≤ t0_3.toInt ∧ t0_3.toInt ≤ 9999 := btt0_3; omega), (by have t1 : -1 ≤ t0_3.toInt ∧ t0_3.toInt ≤ 9999 := btt0_3; omega)⟩) (by first | with_reducible exact q_fe btt0_6 | exact ⟨(by have t1 : 0 ≤ t0_6.toInt ∧ t0_6.toInt ≤ 1 := btt0_6; omega), (by have t1 : 0 ≤ t0_6.toInt ∧ t0_6.toInt ≤ 1 := btt0_6; omega)⟩)
  replace hT1 := (hu22 _ (by decide)).trans hT1
  replace hT2 := (hu22 _ (by decide)).trans hT2
  replace hF := q_us hF hu22 (by simp)
  refine lv_aload_n hx hb d_6_2_12 rfl (lv_at hl 0 rfl) ?_
  refine lv_iconst (v := 0) hx hb d_6_2_13 (by decide) ?_
  refine q_put (ci := 10) (j := 7) (v := .int 0) (ty := .boolean) C0 V i_Dir o_Dir n_Dir rfl rfl hT0 (by decide) w_366 rfl rfl rfl rfl (Nat.le_of_ble_eq_true rfl) d_6_2_14 (fun H locs w23 hu24 hT0 V => ?_)
  replace hT0 : w23[47]? = (some (q 47, .inr (10, [.int t0_0, .int 0, .int t0_2, .int t0_3, .int t0_4, .int a17, .ref (q 1), .int 0])) : Option (Nat × va_E)) := hT0
  replace hI := n_p47 hI hu24 hT0 (by first | with_reducible exact q_fe btt0_2 | exact ⟨(by have t1 : -1 ≤ t0_2.toInt ∧ t0_2.toInt ≤ 9999 := btt0_2; omega), (by have t1 : -1 ≤ t0_2.toInt ∧ t0_2.toInt ≤ 9999 := btt0_2; omega)⟩) (by first | with_reducible exact q_fe btt0_3 | exact ⟨(by have t1 : -1 ≤ t0_3.toInt ∧ t0_3.toInt ≤ 9999 := btt0_3; omega), (by have t1 : -1 ≤ t0_3.toInt ∧ t0_3.toInt ≤ 9999 := btt0_3; omega)⟩) ⟨(by have z9 : (0 : Int32).toInt = 0 := rfl; omega), (by have z9 : (0 : Int32).toInt = 0 := rfl; omega)⟩
  replace hT1 := (hu24 _ (by decide)).trans hT1
  replace hT2 := (hu24 _ (by decide)).trans hT2
  replace hF := q_us hF hu24 (by simp)
  refine lv_aload_n hx hb d_6_2_17 rfl (lv_at hl 0 rfl) ?_
  refine q_gov V (q_runV (As := []) (rest := []) (d := 4) (mc := 0) (ms := 0) (ci := 10) C0 V rfl LV_Dir_26 (X_Dir_takeIndex l D g q w23   hI t0_0 0 t0_2 t0_3 t0_4 a17 0 hT0 t1_0 hT1 t2_0 hT2  _) rfl rfl hT0 rfl hl.1 rfl (Nat.le_of_ble_eq_true rfl) ⟨by decide, by decide⟩ ⟨Nat.le_of_ble_eq_true rfl, Nat.le_of_ble_eq_true rfl⟩ d_6_2_18) (fun u25 H locs hp26 V => ?_)
  obtain ⟨hI, hZ9⟩ := hp26
  obtain ⟨hu48, hZ9⟩ := hZ9
  obtain ⟨y28, hZ9⟩ := hZ9
  obtain ⟨y29, hZ9⟩ := hZ9
  obtain ⟨y30, hZ9⟩ := hZ9
  obtain ⟨y31, hZ9⟩ := hZ9
  obtain ⟨y32, hZ9⟩ := hZ9
  obtain ⟨y33, hZ9⟩ := hZ9
  obtain ⟨y34, hZ9⟩ := hZ9
  obtain ⟨hO27, hZ9⟩ := hZ9
  obtain ⟨b35, hZ9⟩ := hZ9
  obtain ⟨b36, hZ9⟩ := hZ9
  replace hZ9 := hZ9.2.2.2.2
  obtain ⟨b41, hZ9⟩ := hZ9
  obtain ⟨b42, hZ9⟩ := hZ9
  replace hZ9 := hZ9.2.2.2
  obtain ⟨-, hE47⟩ := hZ9
  replace hO27 : u25[47]? = (some (q 47, .inr (10, [.int y28, .int y29, .int y30, .int y31, .int y32, .int y33, .ref (q 1), .int y34])) : Option (Nat × va_E)) := hO27
  obtain ⟨p49, e50⟩ : ∃ z, z = (F_Dir_takeIndex t0_0 (0 : Int32) t0_2 t0_3 t0_4 a17 (0 : Int32) t1_0 t2_0) := ⟨_, rfl⟩
  have e51 : y28 = p49.1 := congrArg (fun z => z.1) (hE47.trans e50.symm)
  have e52 : y29 = p49.2.1 := congrArg (fun z => z.2.1) (hE47.trans e50.symm)
  have e53 : y30 = p49.2.2.1 := congrArg (fun z => z.2.2.1) (hE47.trans e50.symm)
  have e54 : y31 = p49.2.2.2.1 := congrArg (fun z => z.2.2.2.1) (hE47.trans e50.symm)
  have e55 : y32 = p49.2.2.2.2.1 := congrArg (fun z => z.2.2.2.2.1) (hE47.trans e50.symm)
  have e56 : y33 = p49.2.2.2.2.2.1 := congrArg (fun z => z.2.2.2.2.2.1) (hE47.trans e50.symm)
  have e57 : y34 = p49.2.2.2.2.2.2 := congrArg (fun z => z.2.2.2.2.2.2) (hE47.trans e50.symm)
  replace b35 : q_F (0 ≤ y28.toInt + 1) := b35
  replace b36 : q_F (y28.toInt ≤ 9999) := b36
  replace b41 : q_F (t0_3.toInt ≤ y31.toInt) := b41
  replace b42 : q_F (y31.toInt ≤ t0_3.toInt) := b42
  replace hT1 := (hu48 _ (by decide)).trans hT1
  replace hT2 := (hu48 _ (by decide)).trans hT2
  replace hF := q_uc hF hu48 (by first | exact (q_sk (q_mi 0 rfl) q_s0) | simp)
  have hR58 := (show F_Dir_parse_c18 x2 t0_0 t0_1 t0_2 t0_3 t0_4 t0_5 t0_6 t1_0 t2_0 p49 = (F_Dir_parse x2 t0_0 t0_1 t0_2 t0_3 t0_4 t0_5 t0_6 t1_0 t2_0) from (by rw [e50, ← e18, F_Dir_parse.eq_1]))
  refine lv_aload_n hx hb d_6_2_21 rfl (lv_at hl 0 rfl) ?_
  refine q_gov V (q_runV (As := []) (rest := []) (d := 5) (mc := 0) (ms := 0) (ci := 10) C0 V rfl LV_Dir_29 (X_Dir_takeFlags l D g q u25   hI y28 y29 y30 y31 y32 y33 y34 hO27 t1_0 hT1 t2_0 hT2  _) rfl rfl hO27 rfl hl.1 rfl (Nat.le_of_ble_eq_true rfl) ⟨by decide, by decide⟩ ⟨Nat.le_of_ble_eq_true rfl, Nat.le_of_ble_eq_true rfl⟩ d_6_2_22) (fun u63 H locs hp64 V => ?_)
  obtain ⟨hI, hZ9⟩ := hp64
  obtain ⟨hu85, hZ9⟩ := hZ9
  obtain ⟨y66, hZ9⟩ := hZ9
  obtain ⟨y67, hZ9⟩ := hZ9
  obtain ⟨y68, hZ9⟩ := hZ9
  obtain ⟨y69, hZ9⟩ := hZ9
  obtain ⟨y70, hZ9⟩ := hZ9
  obtain ⟨y71, hZ9⟩ := hZ9
  obtain ⟨y72, hZ9⟩ := hZ9
  obtain ⟨hO65, hZ9⟩ := hZ9
  obtain ⟨b73, hZ9⟩ := hZ9
  obtain ⟨b74, hZ9⟩ := hZ9
  obtain ⟨b75, hZ9⟩ := hZ9
  obtain ⟨b76, hZ9⟩ := hZ9
  replace hZ9 := hZ9.2.2
  obtain ⟨b79, hZ9⟩ := hZ9
  obtain ⟨b80, hZ9⟩ := hZ9
  replace hZ9 := hZ9.2.2
  obtain ⟨-, hE84⟩ := hZ9
  replace hO65 : u63[47]? = (some (q 47, .inr (10, [.int y66, .int y67, .int y68, .int y69, .int y70, .int y71, .ref (q 1), .int y72])) : Option (Nat × va_E)) := hO65
  obtain ⟨p86, e87⟩ : ∃ z, z = (F_Dir_takeFlags y28 y29 y30 y31 y32 y33 y34 t1_0 t2_0) := ⟨_, rfl⟩
  have e88 : y66 = p86.1 := congrArg (fun z => z.1) (hE84.trans e87.symm)
  have e89 : y67 = p86.2.1 := congrArg (fun z => z.2.1) (hE84.trans e87.symm)
  have e90 : y68 = p86.2.2.1 := congrArg (fun z => z.2.2.1) (hE84.trans e87.symm)
  have e91 : y69 = p86.2.2.2.1 := congrArg (fun z => z.2.2.2.1) (hE84.trans e87.symm)
  have e92 : y70 = p86.2.2.2.2.1 := congrArg (fun z => z.2.2.2.2.1) (hE84.trans e87.symm)
  have e93 : y71 = p86.2.2.2.2.2.1 := congrArg (fun z => z.2.2.2.2.2.1) (hE84.trans e87.symm)
  have e94 : y72 = p86.2.2.2.2.2.2 := congrArg (fun z => z.2.2.2.2.2.2) (hE84.trans e87.symm)
  replace b73 : q_F (0 ≤ y72.toInt) := b73
  replace b74 : q_F (y72.toInt ≤ 1) := b74
  replace b75 : q_F (y28.toInt ≤ y66.toInt) := b75
  replace b76 : q_F (y66.toInt ≤ y28.toInt) := b76
  replace b79 : q_F (y31.toInt ≤ y69.toInt) := b79
  replace b80 : q_F (y69.toInt ≤ y31.toInt) := b80
  replace hT1 := (hu85 _ (by decide)).trans hT1
  replace hT2 := (hu85 _ (by decide)).trans hT2
  replace hF := q_uc hF hu85 (by first | exact (q_sk (q_mi 0 rfl) q_s0) | simp)
  have hR95 := (show F_Dir_parse_c22 x2 t0_0 t0_1 t0_2 t0_3 t0_4 t0_5 t0_6 t1_0 t2_0 p49 p86 = (F_Dir_parse x2 t0_0 t0_1 t0_2 t0_3 t0_4 t0_5 t0_6 t1_0 t2_0) from Eq.trans (by rw [e87, e57, e56, e55, e54, e53, e52, e51, F_Dir_parse_c18.eq_1]) hR58)
  refine lv_aload_n hx hb d_6_2_25 rfl (lv_at hl 0 rfl) ?_
  refine lv_aload_n hx hb d_6_2_26 rfl (lv_at hl 0 rfl) ?_
  refine lv_aload_n hx hb d_6_2_27 rfl (lv_at hl 0 rfl) ?_
  refine q_get (ci := 10) (j := 5) (v := .int y71) C0 V i_Dir rfl rfl hO65 (by decide) w_363 rfl d_6_2_28 ?_
  refine q_goi V (q_runV (As := [.int y71]) (rest := [.ref (q 47)]) (d := 2) (mc := 0) (ms := 0) (ci := 10) C0 V rfl LV_Dir_32 (X_Dir_figureAt l D g q u63  y71 hI t1_0 hT1 t2_0 hT2  _) rfl rfl hO65 rfl hl.1 rfl (Nat.le_of_ble_eq_true rfl) ⟨by decide, by decide⟩ ⟨Nat.le_of_ble_eq_true rfl, Nat.le_of_ble_eq_true rfl⟩ d_6_2_31) (fun a102 u100 H locs hp101 V => ?_)
  obtain ⟨rfl, b103, b104, hE105⟩ := hp101
  have e106 : a102 = (F_Dir_figureAt y71 t1_0 t2_0) := hE105
  replace b103 : q_F (0 ≤ a102.toInt + 1) := b103
  replace b104 : q_F (a102.toInt ≤ 9) := b104
  refine q_join (X := Int32 × Int32 × Int32 × Int32 × Int32 × Int32 × Int32 × Int32) (fun z H locs ls w136 => q_F (0 ≤ z.1.toInt + 1) ∧ q_F (z.1.toInt ≤ 9999) ∧ q_F (a102.toInt ≤ z.1.toInt + 9) ∧ q_F (z.1.toInt ≤ a102.toInt + 9998) ∧ q_F (y66.toInt ≤ z.2.1.toInt) ∧ q_F (z.2.1.toInt ≤ y66.toInt) ∧ q_F (y67.toInt ≤ z.2.2.1.toInt) ∧ q_F (z.2.2.1.toInt ≤ y67.toInt) ∧ q_F (y68.toInt ≤ z.2.2.2.1.toInt) ∧ q_F (z.2.2.2.1.toInt ≤ y68.toInt) ∧ q_F (y69.toInt ≤ z.2.2.2.2.1.toInt) ∧ q_F (z.2.2.2.2.1.toInt ≤ y69.toInt) ∧ q_F (y70.toInt ≤ z.2.2.2.2.2.1.toInt) ∧ q_F (z.2.2.2.2.2.1.toInt ≤ y70.toInt) ∧ q_F (y71.toInt ≤ z.2.2.2.2.2.2.1.toInt) ∧ q_F (y72.toInt ≤ z.2.2.2.2.2.2.2.toInt) ∧ q_F (z.2.2.2.2.2.2.2.toInt ≤ y72.toInt) ∧ q_Wd D g (va_A ws sz) s w136 H locs ∧ lv_has ls 2 [(0, .ref (q 47))] ∧ q_I (nsh g q) q w136 ∧ q_un ws w136 [47] ∧ w136[47]? = (some (q 47, .inr (10, [.int z.2.1, .int z.2.2.1, .int z.2.2.2.1, .int z.2.2.2.2.1, .int z.2.2.2.2.2.1, .int z.2.2.2.2.2.2.1, .ref (q 1), .int z.2.2.2.2.2.2.2])) : Option (Nat × va_E)) ∧ w136[1]? = (some (q 1, .inr (1, [.ref (q 2), .int 4100, .int t1_0])) : Option (Nat × va_E)) ∧ w136[2]? = (some (q 2, .inl (g 1, (513 : Int32).toNatClampNeg, .inr (.inl t2_0))) : Option (Nat × va_E)) ∧ F_Dir_parse_J45 x2 t0_0 t0_1 t0_2 t0_3 t0_4 t0_5 t0_6 t1_0 t2_0 p49 p86 z.1 z.2.1 z.2.2.1 z.2.2.2.1 z.2.2.2.2.1 z.2.2.2.2.2.1 z.2.2.2.2.2.2.1 z.2.2.2.2.2.2.2 = (F_Dir_parse x2 t0_0 t0_1 t0_2 t0_3 t0_4 t0_5 t0_6 t1_0 t2_0)) (fun z => [.int z.1, .ref (q 47)]) 45 0 0 ?_ ?_
  ·
    rintro ⟨lx107, lx108, lx109, lx110, lx111, lx112, lx113, lx114⟩ H locs ls w136 ⟨i119, i120, i121, i122, i123, i124, i125, i126, i127, i128, i129, i130, i131, i132, i133, i134, i135, V, hl, hI, hF, hO115, hO116, hA117, hR137⟩
    replace i119 : q_F (0 ≤ lx107.toInt + 1) := i119
    replace i120 : q_F (lx107.toInt ≤ 9999) := i120
    clear i121
    clear i122
    replace i123 : q_F (y66.toInt ≤ lx108.toInt) := i123
    replace i124 : q_F (lx108.toInt ≤ y66.toInt) := i124
    clear i125
    clear i126
    clear i127
    clear i128
    replace i129 : q_F (y69.toInt ≤ lx111.toInt) := i129
    replace i130 : q_F (lx111.toInt ≤ y69.toInt) := i130
    clear i131
    clear i132
    clear i133
    replace i134 : q_F (y72.toInt ≤ lx114.toInt) := i134
    replace i135 : q_F (lx114.toInt ≤ y72.toInt) := i135
    replace hl : lv_has ls 2 [(0, .ref (q 47))] := hl
    replace hO115 : w136[47]? = (some (q 47, .inr (10, [.int lx108, .int lx109, .int lx110, .int lx111, .int lx112, .int lx113, .ref (q 1), .int lx114])) : Option (Nat × va_E)) := hO115
    replace hO116 : w136[1]? = (some (q 1, .inr (1, [.ref (q 2), .int 4100, .int t1_0])) : Option (Nat × va_E)) := hO116
    replace hA117 : w136[2]? = (some (q 2, .inl (g 1, (513 : Int32).toNatClampNeg, .inr (.inl t2_0))) : Option (Nat × va_E)) := hA117
    refine q_put (ci := 10) (j := 2) (v := .int lx107) (ty := .int) C0 V i_Dir o_Dir n_Dir rfl rfl hO115 (by decide) w_357 rfl rfl rfl rfl (Nat.le_of_ble_eq_true rfl) d_6_2_45 (fun H locs w142 hu143 hO115 V => ?_)
    replace hO115 : w142[47]? = (some (q 47, .inr (10, [.int lx108, .int lx109, .int lx107, .int lx111, .int lx112, .int lx113, .ref (q 1), .int lx114])) : Option (Nat × va_E)) := hO115
    replace hI := n_p47 hI hu143 hO115 ⟨(by first | with_reducible exact q_fe i119 | (have t1 : 0 ≤ lx107.toInt + 1 := i119; omega)), (by first | with_reducible exact q_fe i120 | (have t1 : lx107.toInt ≤ 9999 := i120; omega))⟩ ⟨(by have t1 : -1 ≤ t0_3.toInt ∧ t0_3.toInt ≤ 9999 := btt0_3; have t2 : t0_3.toInt ≤ y31.toInt := b41; have t3 : y31.toInt ≤ y69.toInt := b79; have t4 : y69.toInt ≤ lx111.toInt := i129; omega), (by have t1 : -1 ≤ t0_3.toInt ∧ t0_3.toInt ≤ 9999 := btt0_3; have t2 : y31.toInt ≤ t0_3.toInt := b42; have t3 : y69.toInt ≤ y31.toInt := b80; have t4 : lx111.toInt ≤ y69.toInt := i130; omega)⟩ ⟨(by have t1 : 0 ≤ y72.toInt := b73; have t2 : y72.toInt ≤ lx114.toInt := i134; omega), (by have t1 : y72.toInt ≤ 1 := b74; have t2 : lx114.toInt ≤ y72.toInt := i135; omega)⟩
    replace hO116 := (hu143 _ (by decide)).trans hO116
    replace hA117 := (hu143 _ (by decide)).trans hA117
    replace hF := q_us hF hu143 (by simp)
    refine lv_aload_n hx hb d_6_2_48 rfl (lv_at hl 0 rfl) ?_
    refine lv_iconst (v := (-1)) hx hb d_6_2_49 (by decide) ?_
    refine q_put (ci := 10) (j := 3) (v := .int (-1)) (ty := .int) C0 V i_Dir o_Dir n_Dir rfl rfl hO115 (by decide) w_359 rfl rfl rfl rfl (Nat.le_of_ble_eq_true rfl) d_6_2_50 (fun H locs w144 hu145 hO115 V => ?_)
    replace hO115 : w144[47]? = (some (q 47, .inr (10, [.int lx108, .int lx109, .int lx107, .int (-1), .int lx112, .int lx113, .ref (q 1), .int lx114])) : Option (Nat × va_E)) := hO115
    replace hI := n_p47 hI hu145 hO115 ⟨(by first | with_reducible exact q_fe i119 | (have t1 : 0 ≤ lx107.toInt + 1 := i119; omega)), (by first | with_reducible exact q_fe i120 | (have t1 : lx107.toInt ≤ 9999 := i120; omega))⟩ ⟨(by have z9 : (-1 : Int32).toInt = -1 := rfl; omega), (by have z9 : (-1 : Int32).toInt = -1 := rfl; omega)⟩ ⟨(by have t1 : 0 ≤ y72.toInt := b73; have t2 : y72.toInt ≤ lx114.toInt := i134; omega), (by have t1 : y72.toInt ≤ 1 := b74; have t2 : lx114.toInt ≤ y72.toInt := i135; omega)⟩
    replace hO116 := (hu145 _ (by decide)).trans hO116
    replace hA117 := (hu145 _ (by decide)).trans hA117
    replace hF := q_us hF hu145 (by simp)
    refine lv_aload_n hx hb d_6_2_53 rfl (lv_at hl 0 rfl) ?_
    refine q_get (ci := 10) (j := 6) (v := .ref (q 1)) C0 V i_Dir rfl rfl hO115 (by decide) w_365 rfl d_6_2_54 ?_
    refine lv_aload_n hx hb d_6_2_57 rfl (lv_at hl 0 rfl) ?_
    refine q_get (ci := 10) (j := 5) (v := .int lx113) C0 V i_Dir rfl rfl hO115 (by decide) w_363 rfl d_6_2_58 ?_
    refine lv_i2l hx hb d_6_2_61 rfl ?_
    obtain ⟨j146, e147⟩ := q_nm (lx113.toInt64 : Int64)
    refine q_tl (v := j146) e147 ?_
    refine q_goi V (q_runV (As := [.long j146]) (rest := []) (d := 1) (mc := 0) (ms := 0) (ci := 1) C0 V rfl LV_Dir_46 (X_She_at_p l D g q w144 1 4100 513 4100 (n_h1 g q) j146 hI t1_0 hO116 t2_0 hA117  _) rfl rfl hO116 rfl hl.1 rfl (Nat.le_of_ble_eq_true rfl) ⟨by decide, by decide⟩ ⟨Nat.le_of_ble_eq_true rfl, Nat.le_of_ble_eq_true rfl⟩ d_6_2_62) (fun a151 u149 H locs hp150 V => ?_)
    obtain ⟨rfl, b152, b153, b154, hE155⟩ := hp150
    have e156 : a151 = (F_She_at_p (4100 : Int32) (513 : Int32) (4100 : Int32) j146 t1_0 t2_0) := hE155
    clear b152
    clear b153
    clear b154
    refine lv_bipush (v := 46) hx hb d_6_2_65 (by decide) ?_
    refine q_join (X := Int32 × Int32 × Int32 × Int32 × Int32 × Int32 × Int32) (fun z H locs ls w180 => q_F (0 ≤ z.2.2.2.1.toInt + 1) ∧ q_F (z.2.2.2.1.toInt ≤ 9999) ∧ q_F (lx108.toInt ≤ z.1.toInt) ∧ q_F (z.1.toInt ≤ lx108.toInt) ∧ q_F (lx109.toInt ≤ z.2.1.toInt) ∧ q_F (z.2.1.toInt ≤ lx109.toInt) ∧ q_F (lx107.toInt ≤ z.2.2.1.toInt) ∧ q_F (z.2.2.1.toInt ≤ lx107.toInt) ∧ q_F (lx112.toInt ≤ z.2.2.2.2.1.toInt) ∧ q_F (z.2.2.2.2.1.toInt ≤ lx112.toInt) ∧ q_F (lx114.toInt ≤ z.2.2.2.2.2.2.toInt) ∧ q_F (z.2.2.2.2.2.2.toInt ≤ lx114.toInt) ∧ q_Wd D g (va_A ws sz) s w180 H locs ∧ lv_has ls 2 [(0, .ref (q 47))] ∧ q_I (nsh g q) q w180 ∧ q_un ws w180 [47] ∧ w180[47]? = (some (q 47, .inr (10, [.int z.1, .int z.2.1, .int z.2.2.1, .int z.2.2.2.1, .int z.2.2.2.2.1, .int z.2.2.2.2.2.1, .ref (q 1), .int z.2.2.2.2.2.2])) : Option (Nat × va_E)) ∧ w180[1]? = (some (q 1, .inr (1, [.ref (q 2), .int 4100, .int t1_0])) : Option (Nat × va_E)) ∧ w180[2]? = (some (q 2, .inl (g 1, (513 : Int32).toNatClampNeg, .inr (.inl t2_0))) : Option (Nat × va_E)) ∧ F_Dir_parse_J101 x2 t0_0 t0_1 t0_2 t0_3 t0_4 t0_5 t0_6 t1_0 t2_0 p49 p86 lx107 lx108 lx109 lx110 lx111 lx112 lx113 lx114 z.1 z.2.1 z.2.2.1 z.2.2.2.1 z.2.2.2.2.1 z.2.2.2.2.2.1 z.2.2.2.2.2.2 = (F_Dir_parse x2 t0_0 t0_1 t0_2 t0_3 t0_4 t0_5 t0_6 t1_0 t2_0)) (fun z => []) 101 0 0 ?_ ?_
    ·
      rintro ⟨lx157, lx158, lx159, lx160, lx161, lx162, lx163⟩ H locs ls w180 ⟨i168, i169, i170, i171, i172, i173, i174, i175, i176, i177, i178, i179, V, hl, hI, hF, hO164, hO165, hA166, hR181⟩
      replace i168 : q_F (0 ≤ lx160.toInt + 1) := i168
      replace i169 : q_F (lx160.toInt ≤ 9999) := i169
      replace i170 : q_F (lx108.toInt ≤ lx157.toInt) := i170
      replace i171 : q_F (lx157.toInt ≤ lx108.toInt) := i171
      clear i172
      clear i173
      replace i174 : q_F (lx107.toInt ≤ lx159.toInt) := i174
      replace i175 : q_F (lx159.toInt ≤ lx107.toInt) := i175
      clear i176
      clear i177
      replace i178 : q_F (lx114.toInt ≤ lx163.toInt) := i178
      replace i179 : q_F (lx163.toInt ≤ lx114.toInt) := i179
      replace hl : lv_has ls 2 [(0, .ref (q 47))] := hl
      replace hO164 : w180[47]? = (some (q 47, .inr (10, [.int lx157, .int lx158, .int lx159, .int lx160, .int lx161, .int lx162, .ref (q 1), .int lx163])) : Option (Nat × va_E)) := hO164
      replace hO165 : w180[1]? = (some (q 1, .inr (1, [.ref (q 2), .int 4100, .int t1_0])) : Option (Nat × va_E)) := hO165
      replace hA166 : w180[2]? = (some (q 2, .inl (g 1, (513 : Int32).toNatClampNeg, .inr (.inl t2_0))) : Option (Nat × va_E)) := hA166
      refine lv_aload_n hx hb d_6_2_101 rfl (lv_at hl 0 rfl) ?_
      refine lv_aload_n hx hb d_6_2_102 rfl (lv_at hl 0 rfl) ?_
      refine q_get (ci := 10) (j := 5) (v := .int lx162) C0 V i_Dir rfl rfl hO164 (by decide) w_363 rfl d_6_2_103 ?_
      refine lv_aload_n hx hb d_6_2_106 rfl (lv_at hl 0 rfl) ?_
      refine q_get (ci := 10) (j := 6) (v := .ref (q 1)) C0 V i_Dir rfl rfl hO164 (by decide) w_365 rfl d_6_2_107 ?_
      refine q_get (ci := 1) (j := 2) (v := .int t1_0) C0 V i_She rfl rfl hO165 (by decide) w_57 rfl d_6_2_110 ?_
      refine lv_icmp_ge (tgt := 131) hx hb d_6_2_113 (by decide) (fun c186 => ?_) (fun c186 => ?_)
      ·
        refine lv_iconst (v := (-1)) hx hb d_6_2_131 (by decide) ?_
        refine q_put (ci := 10) (j := 4) (v := .int (-1)) (ty := .int) C0 V i_Dir o_Dir n_Dir rfl rfl hO164 (by decide) w_361 rfl rfl rfl rfl (Nat.le_of_ble_eq_true rfl) d_6_2_132 (fun H locs w188 hu189 hO164 V => ?_)
        replace hO164 : w188[47]? = (some (q 47, .inr (10, [.int lx157, .int lx158, .int lx159, .int lx160, .int (-1), .int lx162, .ref (q 1), .int lx163])) : Option (Nat × va_E)) := hO164
        replace hI := n_p47 hI hu189 hO164 ⟨(by have t1 : 0 ≤ lx107.toInt + 1 := i119; have t2 : lx107.toInt ≤ lx159.toInt := i174; omega), (by have t1 : lx107.toInt ≤ 9999 := i120; have t2 : lx159.toInt ≤ lx107.toInt := i175; omega)⟩ ⟨(by first | with_reducible exact q_fe i168 | (have t1 : 0 ≤ lx160.toInt + 1 := i168; omega)), (by first | with_reducible exact q_fe i169 | (have t1 : lx160.toInt ≤ 9999 := i169; omega))⟩ ⟨(by have t1 : 0 ≤ y72.toInt := b73; have t2 : y72.toInt ≤ lx114.toInt := i134; have t3 : lx114.toInt ≤ lx163.toInt := i178; omega), (by have t1 : y72.toInt ≤ 1 := b74; have t2 : lx114.toInt ≤ y72.toInt := i135; have t3 : lx163.toInt ≤ lx114.toInt := i179; omega)⟩
        replace hF := q_us hF hu189 (by simp)
        refine lv_aload_n hx hb d_6_2_135 rfl (lv_at hl 0 rfl) ?_
        refine lv_dup hx hb d_6_2_136 rfl ?_
        refine q_get (ci := 10) (j := 5) (v := .int lx162) C0 V i_Dir rfl rfl hO164 (by decide) w_363 rfl d_6_2_137 ?_
        refine lv_iconst (v := 1) hx hb d_6_2_140 (by decide) ?_
        refine lv_iadd hx hb d_6_2_141 ?_
        obtain ⟨a190, e191⟩ := q_nm (lx162 + 1 : Int32)
        refine q_ti (v := a190) e191 ?_
        refine q_put (ci := 10) (j := 5) (v := .int a190) (ty := .int) C0 V i_Dir o_Dir n_Dir rfl rfl hO164 (by decide) w_363 rfl rfl rfl rfl (Nat.le_of_ble_eq_true rfl) d_6_2_142 (fun H locs w192 hu193 hO164 V => ?_)
        replace hO164 : w192[47]? = (some (q 47, .inr (10, [.int lx157, .int lx158, .int lx159, .int lx160, .int (-1), .int a190, .ref (q 1), .int lx163])) : Option (Nat × va_E)) := hO164
        replace hI := n_p47 hI hu193 hO164 ⟨(by have t1 : 0 ≤ lx107.toInt + 1 := i119; have t2 : lx107.toInt ≤ lx159.toInt := i174; omega), (by have t1 : lx107.toInt ≤ 9999 := i120; have t2 : lx159.toInt ≤ lx107.toInt := i175; omega)⟩ ⟨(by first | with_reducible exact q_fe i168 | (have t1 : 0 ≤ lx160.toInt + 1 := i168; omega)), (by first | with_reducible exact q_fe i169 | (have t1 : lx160.toInt ≤ 9999 := i169; omega))⟩ ⟨(by have t1 : 0 ≤ y72.toInt := b73; have t2 : y72.toInt ≤ lx114.toInt := i134; have t3 : lx114.toInt ≤ lx163.toInt := i178; omega), (by have t1 : y72.toInt ≤ 1 := b74; have t2 : lx114.toInt ≤ y72.toInt := i135; have t3 : lx163.toInt ≤ lx114.toInt := i179; omega)⟩
        replace hF := q_us hF hu193 (by simp)
        exact q_retv C0 V (⟨hI, hF, lx157, lx158, lx159, lx160, (-1), a190, lx163, hO164, (show 0 ≤ lx157.toInt + 1 from (by have z14 : (-1 : Int32).toInt = -1 := rfl; have t1 : 0 ≤ y28.toInt + 1 := b35; have t2 : y28.toInt ≤ y66.toInt := b75; have t3 : y66.toInt ≤ lx108.toInt := i123; have t4 : lx108.toInt ≤ lx157.toInt := i170; omega)), (show lx157.toInt ≤ 9999 from (by have z14 : (-1 : Int32).toInt = -1 := rfl; have t1 : y28.toInt ≤ 9999 := b36; have t2 : y66.toInt ≤ y28.toInt := b76; have t3 : lx108.toInt ≤ y66.toInt := i124; have t4 : lx157.toInt ≤ lx108.toInt := i171; omega)), (show 0 ≤ lx159.toInt + 1 from (by have z14 : (-1 : Int32).toInt = -1 := rfl; have t1 : 0 ≤ lx107.toInt + 1 := i119; have t2 : lx107.toInt ≤ lx159.toInt := i174; omega)), (show lx159.toInt ≤ 9999 from (by have z14 : (-1 : Int32).toInt = -1 := rfl; have t1 : lx107.toInt ≤ 9999 := i120; have t2 : lx159.toInt ≤ lx107.toInt := i175; omega)), (show 0 ≤ lx160.toInt + 1 from (by have z14 : (-1 : Int32).toInt = -1 := rfl; have t1 : 0 ≤ lx160.toInt + 1 := i168; omega)), (show lx160.toInt ≤ 9999 from (by have z14 : (-1 : Int32).toInt = -1 := rfl; have t1 : lx160.toInt ≤ 9999 := i169; omega)), (show 0 ≤ (-1 : Int32).toInt + 1 from (by have z14 : (-1 : Int32).toInt = -1 := rfl; omega)), (show (-1 : Int32).toInt ≤ 255 from (by have z14 : (-1 : Int32).toInt = -1 := rfl; omega)), (show 0 ≤ lx163.toInt from (by have z14 : (-1 : Int32).toInt = -1 := rfl; have t1 : 0 ≤ y72.toInt := b73; have t2 : y72.toInt ≤ lx114.toInt := i134; have t3 : lx114.toInt ≤ lx163.toInt := i178; omega)), (show lx163.toInt ≤ 1 from (by have z14 : (-1 : Int32).toInt = -1 := rfl; have t1 : y72.toInt ≤ 1 := b74; have t2 : lx114.toInt ≤ y72.toInt := i135; have t3 : lx163.toInt ≤ lx114.toInt := i179; omega)), (show (-1 : Int32).toInt ≤ t1_0.toInt + 254 from (by have z14 : (-1 : Int32).toInt = -1 := rfl; have t1 : 0 ≤ t1_0.toInt ∧ t1_0.toInt ≤ 4100 := btt1_0; omega)), (show (lx157, lx158, lx159, lx160, (-1 : Int32), a190, lx163) = (F_Dir_parse x2 t0_0 t0_1 t0_2 t0_3 t0_4 t0_5 t0_6 t1_0 t2_0) from Eq.trans (by rw [← e191, F_Dir_parse_J101.eq_1, if_pos c186]) hR181)⟩) d_6_2_145
      ·
        refine lv_aload_n hx hb d_6_2_116 rfl (lv_at hl 0 rfl) ?_
        refine q_get (ci := 10) (j := 6) (v := .ref (q 1)) C0 V i_Dir rfl rfl hO164 (by decide) w_365 rfl d_6_2_117 ?_
        refine lv_aload_n hx hb d_6_2_120 rfl (lv_at hl 0 rfl) ?_
        refine q_get (ci := 10) (j := 5) (v := .int lx162) C0 V i_Dir rfl rfl hO164 (by decide) w_363 rfl d_6_2_121 ?_
        refine lv_i2l hx hb d_6_2_124 rfl ?_
        obtain ⟨j195, e196⟩ := q_nm (lx162.toInt64 : Int64)
        refine q_tl (v := j195) e196 ?_
        refine q_goi V (q_runV (As := [.long j195]) (rest := [.ref (q 47)]) (d := 1) (mc := 0) (ms := 0) (ci := 1) C0 V rfl LV_Dir_46 (X_She_at_p l D g q w180 1 4100 513 4100 (n_h1 g q) j195 hI t1_0 hO165 t2_0 hA166  _) rfl rfl hO165 rfl hl.1 rfl (Nat.le_of_ble_eq_true rfl) ⟨by decide, by decide⟩ ⟨Nat.le_of_ble_eq_true rfl, Nat.le_of_ble_eq_true rfl⟩ d_6_2_125) (fun a200 u198 H locs hp199 V => ?_)
        obtain ⟨rfl, b201, b202, b203, hE204⟩ := hp199
        have e205 : a200 = (F_She_at_p (4100 : Int32) (513 : Int32) (4100 : Int32) j195 t1_0 t2_0) := hE204
        replace b201 : q_F (0 ≤ a200.toInt) := b201
        replace b202 : q_F (a200.toInt ≤ 255) := b202
        replace b203 : q_F (a200.toInt ≤ t1_0.toInt + 254) := b203
        refine lv_goto (tgt := 132) hx hb d_6_2_128 (by decide) ?_
        refine q_put (ci := 10) (j := 4) (v := .int a200) (ty := .int) C0 V i_Dir o_Dir n_Dir rfl rfl hO164 (by decide) w_361 rfl rfl rfl rfl (Nat.le_of_ble_eq_true rfl) d_6_2_132 (fun H locs w206 hu207 hO164 V => ?_)
        replace hO164 : w206[47]? = (some (q 47, .inr (10, [.int lx157, .int lx158, .int lx159, .int lx160, .int a200, .int lx162, .ref (q 1), .int lx163])) : Option (Nat × va_E)) := hO164
        replace hI := n_p47 hI hu207 hO164 ⟨(by have t1 : 0 ≤ lx107.toInt + 1 := i119; have t2 : lx107.toInt ≤ lx159.toInt := i174; omega), (by have t1 : lx107.toInt ≤ 9999 := i120; have t2 : lx159.toInt ≤ lx107.toInt := i175; omega)⟩ ⟨(by first | with_reducible exact q_fe i168 | (have t1 : 0 ≤ lx160.toInt + 1 := i168; omega)), (by first | with_reducible exact q_fe i169 | (have t1 : lx160.toInt ≤ 9999 := i169; omega))⟩ ⟨(by have t1 : 0 ≤ y72.toInt := b73; have t2 : y72.toInt ≤ lx114.toInt := i134; have t3 : lx114.toInt ≤ lx163.toInt := i178; omega), (by have t1 : y72.toInt ≤ 1 := b74; have t2 : lx114.toInt ≤ y72.toInt := i135; have t3 : lx163.toInt ≤ lx114.toInt := i179; omega)⟩
        replace hF := q_us hF hu207 (by simp)
        refine lv_aload_n hx hb d_6_2_135 rfl (lv_at hl 0 rfl) ?_
        refine lv_dup hx hb d_6_2_136 rfl ?_
        refine q_get (ci := 10) (j := 5) (v := .int lx162) C0 V i_Dir rfl rfl hO164 (by decide) w_363 rfl d_6_2_137 ?_
        refine lv_iconst (v := 1) hx hb d_6_2_140 (by decide) ?_
        refine lv_iadd hx hb d_6_2_141 ?_
        obtain ⟨a208, e209⟩ := q_nm (lx162 + 1 : Int32)
        refine q_ti (v := a208) e209 ?_
        refine q_put (ci := 10) (j := 5) (v := .int a208) (ty := .int) C0 V i_Dir o_Dir n_Dir rfl rfl hO164 (by decide) w_363 rfl rfl rfl rfl (Nat.le_of_ble_eq_true rfl) d_6_2_142 (fun H locs w211 hu212 hO164 V => ?_)
        replace hO164 : w211[47]? = (some (q 47, .inr (10, [.int lx157, .int lx158, .int lx159, .int lx160, .int a200, .int a208, .ref (q 1), .int lx163])) : Option (Nat × va_E)) := hO164
        replace hI := n_p47 hI hu212 hO164 ⟨(by have t1 : 0 ≤ lx107.toInt + 1 := i119; have t2 : lx107.toInt ≤ lx159.toInt := i174; omega), (by have t1 : lx107.toInt ≤ 9999 := i120; have t2 : lx159.toInt ≤ lx107.toInt := i175; omega)⟩ ⟨(by first | with_reducible exact q_fe i168 | (have t1 : 0 ≤ lx160.toInt + 1 := i168; omega)), (by first | with_reducible exact q_fe i169 | (have t1 : lx160.toInt ≤ 9999 := i169; omega))⟩ ⟨(by have t1 : 0 ≤ y72.toInt := b73; have t2 : y72.toInt ≤ lx114.toInt := i134; have t3 : lx114.toInt ≤ lx163.toInt := i178; omega), (by have t1 : y72.toInt ≤ 1 := b74; have t2 : lx114.toInt ≤ y72.toInt := i135; have t3 : lx163.toInt ≤ lx114.toInt := i179; omega)⟩
        replace hF := q_us hF hu212 (by simp)
        exact q_retv C0 V (⟨hI, hF, lx157, lx158, lx159, lx160, a200, a208, lx163, hO164, (show 0 ≤ lx157.toInt + 1 from (by have t1 : 0 ≤ y28.toInt + 1 := b35; have t2 : y28.toInt ≤ y66.toInt := b75; have t3 : y66.toInt ≤ lx108.toInt := i123; have t4 : lx108.toInt ≤ lx157.toInt := i170; omega)), (show lx157.toInt ≤ 9999 from (by have t1 : y28.toInt ≤ 9999 := b36; have t2 : y66.toInt ≤ y28.toInt := b76; have t3 : lx108.toInt ≤ y66.toInt := i124; have t4 : lx157.toInt ≤ lx108.toInt := i171; omega)), (show 0 ≤ lx159.toInt + 1 from (by have t1 : 0 ≤ lx107.toInt + 1 := i119; have t2 : lx107.toInt ≤ lx159.toInt := i174; omega)), (show lx159.toInt ≤ 9999 from (by have t1 : lx107.toInt ≤ 9999 := i120; have t2 : lx159.toInt ≤ lx107.toInt := i175; omega)), (show 0 ≤ lx160.toInt + 1 from (by first | with_reducible exact q_fe i168 | (have t1 : 0 ≤ lx160.toInt + 1 := i168; omega))), (show lx160.toInt ≤ 9999 from (by first | with_reducible exact q_fe i169 | (have t1 : lx160.toInt ≤ 9999 := i169; omega))), (show 0 ≤ a200.toInt + 1 from (by first | with_reducible exact q_fe b201 | (have t1 : 0 ≤ a200.toInt := b201; omega))), (show a200.toInt ≤ 255 from (by first | with_reducible exact q_fe b202 | (have t1 : a200.toInt ≤ 255 := b202; omega))), (show 0 ≤ lx163.toInt from (by have t1 : 0 ≤ y72.toInt := b73; have t2 : y72.toInt ≤ lx114.toInt := i134; have t3 : lx114.toInt ≤ lx163.toInt := i178; omega)), (show lx163.toInt ≤ 1 from (by have t1 : y72.toInt ≤ 1 := b74; have t2 : lx114.toInt ≤ y72.toInt := i135; have t3 : lx163.toInt ≤ lx114.toInt := i179; omega)), (show a200.toInt ≤ t1_0.toInt + 254 from (by first | with_reducible exact q_fe b203 | (have t1 : a200.toInt ≤ t1_0.toInt + 254 := b203; omega))), (show (lx157, lx158, lx159, lx160, a200, a208, lx163) = (F_Dir_parse x2 t0_0 t0_1 t0_2 t0_3 t0_4 t0_5 t0_6 t1_0 t2_0) from Eq.trans (by rw [← e209, e205, ← e196, F_Dir_parse_J101.eq_1, if_neg c186]) hR181)⟩) d_6_2_145
    ·
      intro J167
      refine lv_icmp_ne (tgt := 101) hx hb d_6_2_67 (by decide) (fun c213 => ?_) (fun c213 => ?_)
      ·
        exact J167 ((lx108 : Int32), (lx109 : Int32), (lx107 : Int32), ((-1) : Int32), (lx112 : Int32), (lx113 : Int32), (lx114 : Int32)) _ _ _ _ ⟨(show q_F (0 ≤ (-1) + 1) from (show 0 ≤ (-1) + 1 from by omega)), (show q_F ((-1) ≤ 9999) from (show (-1) ≤ 9999 from by omega)), (show q_F (lx108.toInt ≤ lx108.toInt) from (show lx108.toInt ≤ lx108.toInt from by omega)), (show q_F (lx108.toInt ≤ lx108.toInt) from (show lx108.toInt ≤ lx108.toInt from by omega)), (show q_F (lx109.toInt ≤ lx109.toInt) from (show lx109.toInt ≤ lx109.toInt from by omega)), (show q_F (lx109.toInt ≤ lx109.toInt) from (show lx109.toInt ≤ lx109.toInt from by omega)), (show q_F (lx107.toInt ≤ lx107.toInt) from (show lx107.toInt ≤ lx107.toInt from by omega)), (show q_F (lx107.toInt ≤ lx107.toInt) from (show lx107.toInt ≤ lx107.toInt from by omega)), (show q_F (lx112.toInt ≤ lx112.toInt) from (show lx112.toInt ≤ lx112.toInt from by omega)), (show q_F (lx112.toInt ≤ lx112.toInt) from (show lx112.toInt ≤ lx112.toInt from by omega)), (show q_F (lx114.toInt ≤ lx114.toInt) from (show lx114.toInt ≤ lx114.toInt from by omega)), (show q_F (lx114.toInt ≤ lx114.toInt) from (show lx114.toInt ≤ lx114.toInt from by omega)), V, q_lw hl (q_lw1 0 rfl q_lw0), hI, hF, hO115, hO116, hA117, (show F_Dir_parse_J101 x2 t0_0 t0_1 t0_2 t0_3 t0_4 t0_5 t0_6 t1_0 t2_0 p49 p86 lx107 lx108 lx109 lx110 lx111 lx112 lx113 lx114 lx108 lx109 lx107 (-1) lx112 lx113 lx114 = (F_Dir_parse x2 t0_0 t0_1 t0_2 t0_3 t0_4 t0_5 t0_6 t1_0 t2_0) from Eq.trans (by have c213x := c213; rw [e156, ← e147] at c213x; rw [F_Dir_parse_J45.eq_1, if_neg c213x]) hR137)⟩
      ·
        refine lv_aload_n hx hb d_6_2_70 rfl (lv_at hl 0 rfl) ?_
        refine lv_aload_n hx hb d_6_2_71 rfl (lv_at hl 0 rfl) ?_
        refine q_get (ci := 10) (j := 5) (v := .int lx113) C0 V i_Dir rfl rfl hO115 (by decide) w_363 rfl d_6_2_72 ?_
        refine lv_iconst (v := 1) hx hb d_6_2_75 (by decide) ?_
        refine lv_iadd hx hb d_6_2_76 ?_
        obtain ⟨a216, e217⟩ := q_nm (lx113 + 1 : Int32)
        refine q_ti (v := a216) e217 ?_
        refine q_goi V (q_runV (As := [.int a216]) (rest := []) (d := 2) (mc := 0) (ms := 0) (ci := 10) C0 V rfl LV_Dir_32 (X_Dir_figureAt l D g q w144  a216 hI t1_0 hO116 t2_0 hA117  _) rfl rfl hO115 rfl hl.1 rfl (Nat.le_of_ble_eq_true rfl) ⟨by decide, by decide⟩ ⟨Nat.le_of_ble_eq_true rfl, Nat.le_of_ble_eq_true rfl⟩ d_6_2_77) (fun a220 u218 H locs hp219 V => ?_)
        obtain ⟨rfl, b221, b222, hE223⟩ := hp219
        have e224 : a220 = (F_Dir_figureAt a216 t1_0 t2_0) := hE223
        clear b221
        clear b222
        refine lv_if_lt (tgt := 101) hx hb d_6_2_80 (by decide) (fun c225 => ?_) (fun c225 => ?_)
        ·
          exact J167 ((lx108 : Int32), (lx109 : Int32), (lx107 : Int32), ((-1) : Int32), (lx112 : Int32), (lx113 : Int32), (lx114 : Int32)) _ _ _ _ ⟨(show q_F (0 ≤ (-1) + 1) from (show 0 ≤ (-1) + 1 from by omega)), (show q_F ((-1) ≤ 9999) from (show (-1) ≤ 9999 from by omega)), (show q_F (lx108.toInt ≤ lx108.toInt) from (show lx108.toInt ≤ lx108.toInt from by omega)), (show q_F (lx108.toInt ≤ lx108.toInt) from (show lx108.toInt ≤ lx108.toInt from by omega)), (show q_F (lx109.toInt ≤ lx109.toInt) from (show lx109.toInt ≤ lx109.toInt from by omega)), (show q_F (lx109.toInt ≤ lx109.toInt) from (show lx109.toInt ≤ lx109.toInt from by omega)), (show q_F (lx107.toInt ≤ lx107.toInt) from (show lx107.toInt ≤ lx107.toInt from by omega)), (show q_F (lx107.toInt ≤ lx107.toInt) from (show lx107.toInt ≤ lx107.toInt from by omega)), (show q_F (lx112.toInt ≤ lx112.toInt) from (show lx112.toInt ≤ lx112.toInt from by omega)), (show q_F (lx112.toInt ≤ lx112.toInt) from (show lx112.toInt ≤ lx112.toInt from by omega)), (show q_F (lx114.toInt ≤ lx114.toInt) from (show lx114.toInt ≤ lx114.toInt from by omega)), (show q_F (lx114.toInt ≤ lx114.toInt) from (show lx114.toInt ≤ lx114.toInt from by omega)), V, q_lw hl (q_lw1 0 rfl q_lw0), hI, hF, hO115, hO116, hA117, (show F_Dir_parse_J101 x2 t0_0 t0_1 t0_2 t0_3 t0_4 t0_5 t0_6 t1_0 t2_0 p49 p86 lx107 lx108 lx109 lx110 lx111 lx112 lx113 lx114 lx108 lx109 lx107 (-1) lx112 lx113 lx114 = (F_Dir_parse x2 t0_0 t0_1 t0_2 t0_3 t0_4 t0_5 t0_6 t1_0 t2_0) from Eq.trans (by have c213x := c213; rw [e156, ← e147] at c213x; have c225x := c225; rw [e224, ← e217] at c225x; rw [F_Dir_parse_J45.eq_1, if_pos c213x, if_pos c225x]) hR137)⟩
        ·
          refine lv_aload_n hx hb d_6_2_83 rfl (lv_at hl 0 rfl) ?_
          refine lv_dup hx hb d_6_2_84 rfl ?_
          refine q_get (ci := 10) (j := 5) (v := .int lx113) C0 V i_Dir rfl rfl hO115 (by decide) w_363 rfl d_6_2_85 ?_
          refine lv_iconst (v := 1) hx hb d_6_2_88 (by decide) ?_
          refine lv_iadd hx hb d_6_2_89 ?_
          obtain ⟨a228, e229⟩ := q_nm (lx113 + 1 : Int32)
          refine q_ti (v := a228) e229 ?_
          refine q_put (ci := 10) (j := 5) (v := .int a228) (ty := .int) C0 V i_Dir o_Dir n_Dir rfl rfl hO115 (by decide) w_363 rfl rfl rfl rfl (Nat.le_of_ble_eq_true rfl) d_6_2_90 (fun H locs w230 hu231 hO115 V => ?_)
          replace hO115 : w230[47]? = (some (q 47, .inr (10, [.int lx108, .int lx109, .int lx107, .int (-1), .int lx112, .int a228, .ref (q 1), .int lx114])) : Option (Nat × va_E)) := hO115
          replace hI := n_p47 hI hu231 hO115 ⟨(by first | with_reducible exact q_fe i119 | (have t1 : 0 ≤ lx107.toInt + 1 := i119; omega)), (by first | with_reducible exact q_fe i120 | (have t1 : lx107.toInt ≤ 9999 := i120; omega))⟩ ⟨(by have z9 : (-1 : Int32).toInt = -1 := rfl; omega), (by have z9 : (-1 : Int32).toInt = -1 := rfl; omega)⟩ ⟨(by have t1 : 0 ≤ y72.toInt := b73; have t2 : y72.toInt ≤ lx114.toInt := i134; omega), (by have t1 : y72.toInt ≤ 1 := b74; have t2 : lx114.toInt ≤ y72.toInt := i135; omega)⟩
          replace hO116 := (hu231 _ (by decide)).trans hO116
          replace hA117 := (hu231 _ (by decide)).trans hA117
          replace hF := q_us hF hu231 (by simp)
          refine lv_aload_n hx hb d_6_2_93 rfl (lv_at hl 0 rfl) ?_
          refine lv_aload_n hx hb d_6_2_94 rfl (lv_at hl 0 rfl) ?_
          refine q_goi V (q_runV (As := []) (rest := [.ref (q 47)]) (d := 3) (mc := 0) (ms := 0) (ci := 10) C0 V rfl LV_Dir_36 (X_Dir_takeNumber l D g q w230   hI lx108 lx109 lx107 (-1) lx112 a228 lx114 hO115 t1_0 hO116 t2_0 hA117  _) rfl rfl hO115 rfl hl.1 rfl (Nat.le_of_ble_eq_true rfl) ⟨by decide, by decide⟩ ⟨Nat.le_of_ble_eq_true rfl, Nat.le_of_ble_eq_true rfl⟩ d_6_2_95) (fun a234 u232 H locs hp233 V => ?_)
          obtain ⟨hI, hZ9⟩ := hp233
          obtain ⟨hu259, hZ9⟩ := hZ9
          obtain ⟨y236, hZ9⟩ := hZ9
          obtain ⟨y237, hZ9⟩ := hZ9
          obtain ⟨y238, hZ9⟩ := hZ9
          obtain ⟨y239, hZ9⟩ := hZ9
          obtain ⟨y240, hZ9⟩ := hZ9
          obtain ⟨y241, hZ9⟩ := hZ9
          obtain ⟨y242, hZ9⟩ := hZ9
          obtain ⟨hO235, hZ9⟩ := hZ9
          obtain ⟨b243, hZ9⟩ := hZ9
          obtain ⟨b244, hZ9⟩ := hZ9
          obtain ⟨b245, hZ9⟩ := hZ9
          obtain ⟨b246, hZ9⟩ := hZ9
          obtain ⟨b247, hZ9⟩ := hZ9
          obtain ⟨b248, hZ9⟩ := hZ9
          obtain ⟨b249, hZ9⟩ := hZ9
          obtain ⟨b250, hZ9⟩ := hZ9
          replace hZ9 := hZ9.2.2
          obtain ⟨b253, hZ9⟩ := hZ9
          obtain ⟨b254, hZ9⟩ := hZ9
          replace hZ9 := hZ9.2
          obtain ⟨b256, hZ9⟩ := hZ9
          obtain ⟨b257, hE258⟩ := hZ9
          replace hO235 : u232[47]? = (some (q 47, .inr (10, [.int y236, .int y237, .int y238, .int y239, .int y240, .int y241, .ref (q 1), .int y242])) : Option (Nat × va_E)) := hO235
          obtain ⟨p260, e261⟩ : ∃ z, z = (F_Dir_takeNumber lx108 lx109 lx107 (-1 : Int32) lx112 a228 lx114 t1_0 t2_0) := ⟨_, rfl⟩
          have e262 : a234 = p260.1 := congrArg (fun z => z.1) (hE258.trans e261.symm)
          have e263 : y236 = p260.2.1 := congrArg (fun z => z.2.1) (hE258.trans e261.symm)
          have e264 : y237 = p260.2.2.1 := congrArg (fun z => z.2.2.1) (hE258.trans e261.symm)
          have e265 : y238 = p260.2.2.2.1 := congrArg (fun z => z.2.2.2.1) (hE258.trans e261.symm)
          have e266 : y239 = p260.2.2.2.2.1 := congrArg (fun z => z.2.2.2.2.1) (hE258.trans e261.symm)
          have e267 : y240 = p260.2.2.2.2.2.1 := congrArg (fun z => z.2.2.2.2.2.1) (hE258.trans e261.symm)
          have e268 : y241 = p260.2.2.2.2.2.2.1 := congrArg (fun z => z.2.2.2.2.2.2.1) (hE258.trans e261.symm)
          have e269 : y242 = p260.2.2.2.2.2.2.2 := congrArg (fun z => z.2.2.2.2.2.2.2) (hE258.trans e261.symm)
          replace b243 : q_F (0 ≤ a234.toInt) := b243
          replace b244 : q_F (a234.toInt ≤ 9999) := b244
          replace b245 : q_F (lx108.toInt ≤ y236.toInt) := b245
          replace b246 : q_F (y236.toInt ≤ lx108.toInt) := b246
          replace b247 : q_F (lx109.toInt ≤ y237.toInt) := b247
          replace b248 : q_F (y237.toInt ≤ lx109.toInt) := b248
          replace b249 : q_F (lx107.toInt ≤ y238.toInt) := b249
          replace b250 : q_F (y238.toInt ≤ lx107.toInt) := b250
          replace b253 : q_F (lx112.toInt ≤ y240.toInt) := b253
          replace b254 : q_F (y240.toInt ≤ lx112.toInt) := b254
          replace b256 : q_F (lx114.toInt ≤ y242.toInt) := b256
          replace b257 : q_F (y242.toInt ≤ lx114.toInt) := b257
          replace hO116 := (hu259 _ (by decide)).trans hO116
          replace hA117 := (hu259 _ (by decide)).trans hA117
          replace hF := q_uc hF hu259 (by first | exact (q_sk (q_mi 0 rfl) q_s0) | simp)
          have hR270 := (show F_Dir_parse_c95 x2 t0_0 t0_1 t0_2 t0_3 t0_4 t0_5 t0_6 t1_0 t2_0 p49 p86 lx107 lx108 lx109 lx110 lx111 lx112 lx113 lx114 p260 = (F_Dir_parse x2 t0_0 t0_1 t0_2 t0_3 t0_4 t0_5 t0_6 t1_0 t2_0) from Eq.trans (by have c213x := c213; rw [e156, ← e147] at c213x; have c225x := c225; rw [e224, ← e217] at c225x; rw [e261, ← e229, F_Dir_parse_J45.eq_1, if_pos c213x, if_neg c225x]) hR137)
          refine q_put (ci := 10) (j := 3) (v := .int a234) (ty := .int) C0 V i_Dir o_Dir n_Dir rfl rfl hO235 (by decide) w_359 rfl rfl rfl rfl (Nat.le_of_ble_eq_true rfl) d_6_2_98 (fun H locs w275 hu276 hO235 V => ?_)
          replace hO235 : w275[47]? = (some (q 47, .inr (10, [.int y236, .int y237, .int y238, .int a234, .int y240, .int y241, .ref (q 1), .int y242])) : Option (Nat × va_E)) := hO235
          replace hI := n_p47 hI hu276 hO235 ⟨(by have t1 : 0 ≤ lx107.toInt + 1 := i119; have t2 : lx107.toInt ≤ y238.toInt := b249; omega), (by have t1 : lx107.toInt ≤ 9999 := i120; have t2 : y238.toInt ≤ lx107.toInt := b250; omega)⟩ ⟨(by first | with_reducible exact q_fe b243 | (have t1 : 0 ≤ a234.toInt := b243; omega)), (by first | with_reducible exact q_fe b244 | (have t1 : a234.toInt ≤ 9999 := b244; omega))⟩ ⟨(by have t1 : 0 ≤ y72.toInt := b73; have t2 : y72.toInt ≤ lx114.toInt := i134; have t3 : lx114.toInt ≤ y242.toInt := b256; omega), (by have t1 : y72.toInt ≤ 1 := b74; have t2 : lx114.toInt ≤ y72.toInt := i135; have t3 : y242.toInt ≤ lx114.toInt := b257; omega)⟩
          replace hO116 := (hu276 _ (by decide)).trans hO116
          replace hA117 := (hu276 _ (by decide)).trans hA117
          replace hF := q_us hF hu276 (by simp)
          exact J167 ((y236 : Int32), (y237 : Int32), (y238 : Int32), (a234 : Int32), (y240 : Int32), (y241 : Int32), (y242 : Int32)) _ _ _ _ ⟨(show q_F (0 ≤ a234.toInt + 1) from (show 0 ≤ a234.toInt + 1 from by have t1 : 0 ≤ a234.toInt := b243; omega)), (show q_F (a234.toInt ≤ 9999) from (show a234.toInt ≤ 9999 from by have t1 : a234.toInt ≤ 9999 := b244; omega)), (show q_F (lx108.toInt ≤ y236.toInt) from (show lx108.toInt ≤ y236.toInt from by have t1 : lx108.toInt ≤ y236.toInt := b245; omega)), (show q_F (y236.toInt ≤ lx108.toInt) from (show y236.toInt ≤ lx108.toInt from by have t1 : y236.toInt ≤ lx108.toInt := b246; omega)), (show q_F (lx109.toInt ≤ y237.toInt) from (show lx109.toInt ≤ y237.toInt from by have t1 : lx109.toInt ≤ y237.toInt := b247; omega)), (show q_F (y237.toInt ≤ lx109.toInt) from (show y237.toInt ≤ lx109.toInt from by have t1 : y237.toInt ≤ lx109.toInt := b248; omega)), (show q_F (lx107.toInt ≤ y238.toInt) from (show lx107.toInt ≤ y238.toInt from by have t1 : lx107.toInt ≤ y238.toInt := b249; omega)), (show q_F (y238.toInt ≤ lx107.toInt) from (show y238.toInt ≤ lx107.toInt from by have t1 : y238.toInt ≤ lx107.toInt := b250; omega)), (show q_F (lx112.toInt ≤ y240.toInt) from (show lx112.toInt ≤ y240.toInt from by have t1 : lx112.toInt ≤ y240.toInt := b253; omega)), (show q_F (y240.toInt ≤ lx112.toInt) from (show y240.toInt ≤ lx112.toInt from by have t1 : y240.toInt ≤ lx112.toInt := b254; omega)), (show q_F (lx114.toInt ≤ y242.toInt) from (show lx114.toInt ≤ y242.toInt from by have t1 : lx114.toInt ≤ y242.toInt := b256; omega)), (show q_F (y242.toInt ≤ lx114.toInt) from (show y242.toInt ≤ lx114.toInt from by have t1 : y242.toInt ≤ lx114.toInt := b257; omega)), V, q_lw hl (q_lw1 0 rfl q_lw0), hI, hF, hO235, hO116, hA117, (show F_Dir_parse_J101 x2 t0_0 t0_1 t0_2 t0_3 t0_4 t0_5 t0_6 t1_0 t2_0 p49 p86 lx107 lx108 lx109 lx110 lx111 lx112 lx113 lx114 y236 y237 y238 a234 y240 y241 y242 = (F_Dir_parse x2 t0_0 t0_1 t0_2 t0_3 t0_4 t0_5 t0_6 t1_0 t2_0) from Eq.trans (by rw [e269, e268, e267, e265, e264, e263, e262, F_Dir_parse_c95.eq_1]) hR270)⟩
  ·
    intro J118
    refine lv_if_le (tgt := 44) hx hb d_6_2_34 (by decide) (fun c277 => ?_) (fun c277 => ?_)
    ·
      have b278 : q_F (a102.toInt ≤ 0) := (q_leI c277)
      refine lv_iconst (v := (-1)) hx hb d_6_2_44 (by decide) ?_
      exact J118 (((-1) : Int32), (y66 : Int32), (y67 : Int32), (y68 : Int32), (y69 : Int32), (y70 : Int32), (y71 : Int32), (y72 : Int32)) _ _ _ _ ⟨(show q_F (0 ≤ (-1) + 1) from (show 0 ≤ (-1) + 1 from by omega)), (show q_F ((-1) ≤ 9999) from (show (-1) ≤ 9999 from by omega)), (show q_F (a102.toInt ≤ (-1) + 9) from (show a102.toInt ≤ (-1) + 9 from by have t1 : a102.toInt ≤ 0 := b278; omega)), (show q_F ((-1) ≤ a102.toInt + 9998) from (show (-1) ≤ a102.toInt + 9998 from by have t1 : 0 ≤ a102.toInt + 1 := b103; omega)), (show q_F (y66.toInt ≤ y66.toInt) from (show y66.toInt ≤ y66.toInt from by omega)), (show q_F (y66.toInt ≤ y66.toInt) from (show y66.toInt ≤ y66.toInt from by omega)), (show q_F (y67.toInt ≤ y67.toInt) from (show y67.toInt ≤ y67.toInt from by omega)), (show q_F (y67.toInt ≤ y67.toInt) from (show y67.toInt ≤ y67.toInt from by omega)), (show q_F (y68.toInt ≤ y68.toInt) from (show y68.toInt ≤ y68.toInt from by omega)), (show q_F (y68.toInt ≤ y68.toInt) from (show y68.toInt ≤ y68.toInt from by omega)), (show q_F (y69.toInt ≤ y69.toInt) from (show y69.toInt ≤ y69.toInt from by omega)), (show q_F (y69.toInt ≤ y69.toInt) from (show y69.toInt ≤ y69.toInt from by omega)), (show q_F (y70.toInt ≤ y70.toInt) from (show y70.toInt ≤ y70.toInt from by omega)), (show q_F (y70.toInt ≤ y70.toInt) from (show y70.toInt ≤ y70.toInt from by omega)), (show q_F (y71.toInt ≤ y71.toInt) from (show y71.toInt ≤ y71.toInt from by omega)), (show q_F (y72.toInt ≤ y72.toInt) from (show y72.toInt ≤ y72.toInt from by omega)), (show q_F (y72.toInt ≤ y72.toInt) from (show y72.toInt ≤ y72.toInt from by omega)), V, q_lw hl (q_lw1 0 rfl q_lw0), hI, hF, hO65, hT1, hT2, (show F_Dir_parse_J45 x2 t0_0 t0_1 t0_2 t0_3 t0_4 t0_5 t0_6 t1_0 t2_0 p49 p86 (-1) y66 y67 y68 y69 y70 y71 y72 = (F_Dir_parse x2 t0_0 t0_1 t0_2 t0_3 t0_4 t0_5 t0_6 t1_0 t2_0) from Eq.trans (by have c277x := c277; rw [e106, e93] at c277x; rw [e94, e93, e92, e91, e90, e89, e88, F_Dir_parse_c22.eq_1, if_pos c277x]) hR95)⟩
    ·
      have b279 : q_F (0 < a102.toInt) := (q_nleI c277)
      refine lv_aload_n hx hb d_6_2_37 rfl (lv_at hl 0 rfl) ?_
      refine q_goi V (q_runV (As := []) (rest := [.ref (q 47)]) (d := 3) (mc := 0) (ms := 0) (ci := 10) C0 V rfl LV_Dir_36 (X_Dir_takeNumber l D g q u63   hI y66 y67 y68 y69 y70 y71 y72 hO65 t1_0 hT1 t2_0 hT2  _) rfl rfl hO65 rfl hl.1 rfl (Nat.le_of_ble_eq_true rfl) ⟨by decide, by decide⟩ ⟨Nat.le_of_ble_eq_true rfl, Nat.le_of_ble_eq_true rfl⟩ d_6_2_38) (fun a282 u280 H locs hp281 V => ?_)
      obtain ⟨hI, hZ9⟩ := hp281
      obtain ⟨hu307, hZ9⟩ := hZ9
      obtain ⟨y284, hZ9⟩ := hZ9
      obtain ⟨y285, hZ9⟩ := hZ9
      obtain ⟨y286, hZ9⟩ := hZ9
      obtain ⟨y287, hZ9⟩ := hZ9
      obtain ⟨y288, hZ9⟩ := hZ9
      obtain ⟨y289, hZ9⟩ := hZ9
      obtain ⟨y290, hZ9⟩ := hZ9
      obtain ⟨hO283, hZ9⟩ := hZ9
      obtain ⟨b291, hZ9⟩ := hZ9
      obtain ⟨b292, hZ9⟩ := hZ9
      obtain ⟨b293, hZ9⟩ := hZ9
      obtain ⟨b294, hZ9⟩ := hZ9
      obtain ⟨b295, hZ9⟩ := hZ9
      obtain ⟨b296, hZ9⟩ := hZ9
      obtain ⟨b297, hZ9⟩ := hZ9
      obtain ⟨b298, hZ9⟩ := hZ9
      obtain ⟨b299, hZ9⟩ := hZ9
      obtain ⟨b300, hZ9⟩ := hZ9
      obtain ⟨b301, hZ9⟩ := hZ9
      obtain ⟨b302, hZ9⟩ := hZ9
      obtain ⟨b303, hZ9⟩ := hZ9
      obtain ⟨b304, hZ9⟩ := hZ9
      obtain ⟨b305, hE306⟩ := hZ9
      replace hO283 : u280[47]? = (some (q 47, .inr (10, [.int y284, .int y285, .int y286, .int y287, .int y288, .int y289, .ref (q 1), .int y290])) : Option (Nat × va_E)) := hO283
      obtain ⟨p308, e309⟩ : ∃ z, z = (F_Dir_takeNumber y66 y67 y68 y69 y70 y71 y72 t1_0 t2_0) := ⟨_, rfl⟩
      have e310 : a282 = p308.1 := congrArg (fun z => z.1) (hE306.trans e309.symm)
      have e311 : y284 = p308.2.1 := congrArg (fun z => z.2.1) (hE306.trans e309.symm)
      have e312 : y285 = p308.2.2.1 := congrArg (fun z => z.2.2.1) (hE306.trans e309.symm)
      have e313 : y286 = p308.2.2.2.1 := congrArg (fun z => z.2.2.2.1) (hE306.trans e309.symm)
      have e314 : y287 = p308.2.2.2.2.1 := congrArg (fun z => z.2.2.2.2.1) (hE306.trans e309.symm)
      have e315 : y288 = p308.2.2.2.2.2.1 := congrArg (fun z => z.2.2.2.2.2.1) (hE306.trans e309.symm)
      have e316 : y289 = p308.2.2.2.2.2.2.1 := congrArg (fun z => z.2.2.2.2.2.2.1) (hE306.trans e309.symm)
      have e317 : y290 = p308.2.2.2.2.2.2.2 := congrArg (fun z => z.2.2.2.2.2.2.2) (hE306.trans e309.symm)
      replace b291 : q_F (0 ≤ a282.toInt) := b291
      replace b292 : q_F (a282.toInt ≤ 9999) := b292
      replace b293 : q_F (y66.toInt ≤ y284.toInt) := b293
      replace b294 : q_F (y284.toInt ≤ y66.toInt) := b294
      replace b295 : q_F (y67.toInt ≤ y285.toInt) := b295
      replace b296 : q_F (y285.toInt ≤ y67.toInt) := b296
      replace b297 : q_F (y68.toInt ≤ y286.toInt) := b297
      replace b298 : q_F (y286.toInt ≤ y68.toInt) := b298
      replace b299 : q_F (y69.toInt ≤ y287.toInt) := b299
      replace b300 : q_F (y287.toInt ≤ y69.toInt) := b300
      replace b301 : q_F (y70.toInt ≤ y288.toInt) := b301
      replace b302 : q_F (y288.toInt ≤ y70.toInt) := b302
      replace b303 : q_F (y71.toInt ≤ y289.toInt) := b303
      replace b304 : q_F (y72.toInt ≤ y290.toInt) := b304
      replace b305 : q_F (y290.toInt ≤ y72.toInt) := b305
      replace hT1 := (hu307 _ (by decide)).trans hT1
      replace hT2 := (hu307 _ (by decide)).trans hT2
      replace hF := q_uc hF hu307 (by first | exact (q_sk (q_mi 0 rfl) q_s0) | simp)
      have hR318 := (show F_Dir_parse_c38 x2 t0_0 t0_1 t0_2 t0_3 t0_4 t0_5 t0_6 t1_0 t2_0 p49 p86 p308 = (F_Dir_parse x2 t0_0 t0_1 t0_2 t0_3 t0_4 t0_5 t0_6 t1_0 t2_0) from Eq.trans (by have c277x := c277; rw [e106, e93] at c277x; rw [e309, e94, e93, e92, e91, e90, e89, e88, F_Dir_parse_c22.eq_1, if_neg c277x]) hR95)
      refine lv_goto (tgt := 45) hx hb d_6_2_41 (by decide) ?_
      exact J118 ((a282 : Int32), (y284 : Int32), (y285 : Int32), (y286 : Int32), (y287 : Int32), (y288 : Int32), (y289 : Int32), (y290 : Int32)) _ _ _ _ ⟨(show q_F (0 ≤ a282.toInt + 1) from (show 0 ≤ a282.toInt + 1 from by have t1 : 0 ≤ a282.toInt := b291; omega)), (show q_F (a282.toInt ≤ 9999) from (show a282.toInt ≤ 9999 from by have t1 : a282.toInt ≤ 9999 := b292; omega)), (show q_F (a102.toInt ≤ a282.toInt + 9) from (show a102.toInt ≤ a282.toInt + 9 from by have t1 : a102.toInt ≤ 9 := b104; have t2 : 0 ≤ a282.toInt := b291; omega)), (show q_F (a282.toInt ≤ a102.toInt + 9998) from (show a282.toInt ≤ a102.toInt + 9998 from by have t1 : 0 < a102.toInt := b279; have t2 : a282.toInt ≤ 9999 := b292; omega)), (show q_F (y66.toInt ≤ y284.toInt) from (show y66.toInt ≤ y284.toInt from by have t1 : y66.toInt ≤ y284.toInt := b293; omega)), (show q_F (y284.toInt ≤ y66.toInt) from (show y284.toInt ≤ y66.toInt from by have t1 : y284.toInt ≤ y66.toInt := b294; omega)), (show q_F (y67.toInt ≤ y285.toInt) from (show y67.toInt ≤ y285.toInt from by have t1 : y67.toInt ≤ y285.toInt := b295; omega)), (show q_F (y285.toInt ≤ y67.toInt) from (show y285.toInt ≤ y67.toInt from by have t1 : y285.toInt ≤ y67.toInt := b296; omega)), (show q_F (y68.toInt ≤ y286.toInt) from (show y68.toInt ≤ y286.toInt from by have t1 : y68.toInt ≤ y286.toInt := b297; omega)), (show q_F (y286.toInt ≤ y68.toInt) from (show y286.toInt ≤ y68.toInt from by have t1 : y286.toInt ≤ y68.toInt := b298; omega)), (show q_F (y69.toInt ≤ y287.toInt) from (show y69.toInt ≤ y287.toInt from by have t1 : y69.toInt ≤ y287.toInt := b299; omega)), (show q_F (y287.toInt ≤ y69.toInt) from (show y287.toInt ≤ y69.toInt from by have t1 : y287.toInt ≤ y69.toInt := b300; omega)), (show q_F (y70.toInt ≤ y288.toInt) from (show y70.toInt ≤ y288.toInt from by have t1 : y70.toInt ≤ y288.toInt := b301; omega)), (show q_F (y288.toInt ≤ y70.toInt) from (show y288.toInt ≤ y70.toInt from by have t1 : y288.toInt ≤ y70.toInt := b302; omega)), (show q_F (y71.toInt ≤ y289.toInt) from (show y71.toInt ≤ y289.toInt from by have t1 : y71.toInt ≤ y289.toInt := b303; omega)), (show q_F (y72.toInt ≤ y290.toInt) from (show y72.toInt ≤ y290.toInt from by have t1 : y72.toInt ≤ y290.toInt := b304; omega)), (show q_F (y290.toInt ≤ y72.toInt) from (show y290.toInt ≤ y72.toInt from by have t1 : y290.toInt ≤ y72.toInt := b305; omega)), V, q_lw hl (q_lw1 0 rfl q_lw0), hI, hF, hO283, hT1, hT2, (show F_Dir_parse_J45 x2 t0_0 t0_1 t0_2 t0_3 t0_4 t0_5 t0_6 t1_0 t2_0 p49 p86 a282 y284 y285 y286 y287 y288 y289 y290 = (F_Dir_parse x2 t0_0 t0_1 t0_2 t0_3 t0_4 t0_5 t0_6 t1_0 t2_0) from Eq.trans (by rw [e317, e316, e315, e314, e313, e312, e311, e310, F_Dir_parse_c38.eq_1]) hR318)⟩

