/-! Directive, exactly -/
def F_jLat_canEncode (x1 : Int32) : Int32 := if x1 < (0 : Int32) then ((0 : Int32)) else (if (255 : Int32) < x1 then ((0 : Int32)) else ((1 : Int32)))
set_option maxRecDepth 100000 in
set_option maxHeartbeats 4000000 in
theorem X_jLat_canEncode (l : Launch) (D : va_G) (g : Nat → ClassId) (q : Nat → Nat) (ws : va_W) (x1 : Int32) (hI : q_I (nsh g q) q ws) : q_mI l y_jLat_canEncode prog_33_method_4_code 1 (.boolean) 1 0 0 D g [.int x1] ws (fun r u => ws = u ∧ (0 ≤ r.toInt) ∧ (r.toInt ≤ 1) ∧ r = (F_jLat_canEncode x1)) := by
  intro sz
  refine q_into (by decide) (Nat.le_of_ble_eq_true rfl) ?_
  intro p e s m below meth c ls hsz C0 V hl
  have hx := C0.1
  have hb := C0.2.1
  have hl : lv_has ls 1 [(0, .int x1)] := hl
  refine lv_iload_n hx hb d_33_4_0 rfl (lv_at hl 0 rfl) ?_
  refine lv_if_lt (tgt := 15) hx hb d_33_4_1 (by decide) (fun c1 => ?_) (fun c1 => ?_)
  ·
    refine lv_iconst (v := 0) hx hb d_33_4_15 (by decide) ?_
    exact q_retz C0 V (by decide) (⟨rfl, (show 0 ≤ (0 : Int32).toInt from (by have z1 : (0 : Int32).toInt = 0 := rfl; omega)), (show (0 : Int32).toInt ≤ 1 from (by have z1 : (0 : Int32).toInt = 0 := rfl; omega)), (show (0 : Int32) = (F_jLat_canEncode x1) from (by rw [F_jLat_canEncode.eq_1, if_pos c1]))⟩) d_33_4_16
  ·
    refine lv_iload_n hx hb d_33_4_4 rfl (lv_at hl 0 rfl) ?_
    refine lv_sipush (v := 255) hx hb d_33_4_5 (by decide) ?_
    refine lv_icmp_gt (tgt := 15) hx hb d_33_4_8 (by decide) (fun c4 => ?_) (fun c4 => ?_)
    ·
      refine lv_iconst (v := 0) hx hb d_33_4_15 (by decide) ?_
      exact q_retz C0 V (by decide) (⟨rfl, (show 0 ≤ (0 : Int32).toInt from (by have z1 : (0 : Int32).toInt = 0 := rfl; omega)), (show (0 : Int32).toInt ≤ 1 from (by have z1 : (0 : Int32).toInt = 0 := rfl; omega)), (show (0 : Int32) = (F_jLat_canEncode x1) from (by rw [F_jLat_canEncode.eq_1, if_neg c1, if_pos c4]))⟩) d_33_4_16
    ·
      refine lv_iconst (v := 1) hx hb d_33_4_11 (by decide) ?_
      refine lv_goto (tgt := 16) hx hb d_33_4_12 (by decide) ?_
      exact q_retz C0 V (by decide) (⟨rfl, (show 0 ≤ (1 : Int32).toInt from (by have z1 : (1 : Int32).toInt = 1 := rfl; omega)), (show (1 : Int32).toInt ≤ 1 from (by have z1 : (1 : Int32).toInt = 1 := rfl; omega)), (show (1 : Int32) = (F_jLat_canEncode x1) from (by rw [F_jLat_canEncode.eq_1, if_neg c1, if_neg c4]))⟩) d_33_4_16
def F_jLat_indexOfChar_0_L7 (x2 : Int32) (x3 : Int32) (x4 : Int32) (a1 : Int32) : Nat → Int32 → Int32
  | 0, _ => default
  | fm + 1, lx4 => if x4 ≤ lx4 then ((-1 : Int32)) else (if ((([45, 35, 43, 48, 44, 40, 60, 32] : List Int32).getD lx4.toNatClampNeg 0) : Int32) = a1 then (lx4) else (F_jLat_indexOfChar_0_L7 x2 x3 x4 a1 fm (lx4 + 1 : Int32)))
def F_jLat_indexOfChar_0 (x2 : Int32) (x3 : Int32) (x4 : Int32) : Int32 := F_jLat_indexOfChar_0_L7 x2 x3 x4 (x2.toInt8.toInt32 : Int32) ((8 - x3.toInt).toNat + 1) x3
set_option maxRecDepth 100000 in
set_option maxHeartbeats 4000000 in
theorem X_jLat_indexOfChar_0 (l : Launch) (D : va_G) (g : Nat → ClassId) (q : Nat → Nat) (ws : va_W) (x2 : Int32) (x3 : Int32) (x4 : Int32) (hI : q_I (nsh g q) q ws) (pre0 : 0 ≤ x3.toInt) (pre1 : x4.toInt ≤ 8) : q_mI l y_jLat_indexOfChar prog_33_method_23_code 6 (.int) 1 0 0 D g [.ref (g (9 + 2 * 0)), .int x2, .int x3, .int x4] ws (fun r u => ws = u ∧ (0 ≤ r.toInt + 1) ∧ (r.toInt ≤ 7) ∧ r = (F_jLat_indexOfChar_0 x2 x3 x4)) := by
  intro sz
  refine q_into (by decide) (Nat.le_of_ble_eq_true rfl) ?_
  intro p e s m below meth c ls hsz C0 V hl
  have hx := C0.1
  have hb := C0.2.1
  replace pre0 : q_F (0 ≤ x3.toInt) := pre0
  replace pre1 : q_F (x4.toInt ≤ 8) := pre1
  have hl : lv_has ls 6 [(0, .ref (g (9 + 2 * 0))), (1, .int x2), (2, .int x3), (3, .int x4)] := hl
  refine lv_iload_n hx hb d_33_23_0 rfl (lv_at hl 1 rfl) ?_
  refine lv_i2b hx hb d_33_23_1 rfl ?_
  obtain ⟨a1, e2⟩ := q_nm (x2.toInt8.toInt32 : Int32)
  refine q_ti (v := a1) e2 ?_
  refine lv_istore (lv' := [(4, .int a1), (0, .ref (g (9 + 2 * 0))), (1, .int x2), (2, .int x3), (3, .int x4)]) hx hb d_33_23_2 hl (by decide) rfl (fun ls hl => ?_)
  refine lv_iload_n hx hb d_33_23_4 rfl (lv_at hl 3 rfl) ?_
  refine lv_istore (lv' := [(5, .int x3), (4, .int a1), (0, .ref (g (9 + 2 * 0))), (1, .int x2), (2, .int x3), (3, .int x4)]) hx hb d_33_23_5 hl (by decide) rfl (fun ls hl => ?_)
  refine q_loop (X := Int32) (fun z H locs ls _ => q_F (x3.toInt ≤ z.toInt) ∧ q_Wd D g (va_A ws sz) s ws H locs ∧ lv_has ls 6 [(5, .int z), (4, .int a1), (0, .ref (g (9 + 2 * 0))), (3, .int x4)] ∧ (∃ n, (8 - z.toInt).toNat < n ∧ F_jLat_indexOfChar_0_L7 x2 x3 x4 a1 n z = (F_jLat_indexOfChar_0 x2 x3 x4))) (fun z => (8 - z.toInt).toNat) ?_ ((x3 : Int32)) _ _ _ ws ⟨(show q_F (x3.toInt ≤ x3.toInt) from (show x3.toInt ≤ x3.toInt from by omega)), V, q_lw hl (q_lw1 0 rfl (q_lw1 1 rfl (q_lw1 2 rfl (q_lw1 5 rfl q_lw0)))), ⟨((8 - x3.toInt).toNat + 1), Nat.lt_succ_self _, (show F_jLat_indexOfChar_0_L7 x2 x3 x4 a1 ((8 - x3.toInt).toNat + 1) x3 = (F_jLat_indexOfChar_0 x2 x3 x4) from (by rw [← e2, F_jLat_indexOfChar_0.eq_1]))⟩⟩
  rintro lx4 H locs ls _ ⟨i5, V, hl, ⟨fu9, hf10, hR7⟩⟩ ih6
  obtain ⟨fm11, rfl⟩ : ∃ m, fu9 = m + 1 := ⟨fu9 - 1, by omega⟩
  replace i5 : q_F (x3.toInt ≤ lx4.toInt) := i5
  replace hl : lv_has ls 6 [(5, .int lx4), (4, .int a1), (0, .ref (g (9 + 2 * 0))), (3, .int x4)] := hl
  refine lv_iload hx hb d_33_23_7 (lv_at hl 0 rfl) ?_
  refine lv_iload_n hx hb d_33_23_9 rfl (lv_at hl 3 rfl) ?_
  refine lv_icmp_ge (tgt := 31) hx hb d_33_23_10 (by decide) (fun c12 => ?_) (fun c12 => ?_)
  ·
    refine lv_iconst (v := (-1)) hx hb d_33_23_31 (by decide) ?_
    exact q_reti C0 V (⟨rfl, (show 0 ≤ (-1 : Int32).toInt + 1 from (by have z3 : (-1 : Int32).toInt = -1 := rfl; omega)), (show (-1 : Int32).toInt ≤ 7 from (by have z3 : (-1 : Int32).toInt = -1 := rfl; omega)), (show (-1 : Int32) = (F_jLat_indexOfChar_0 x2 x3 x4) from Eq.trans (by rw [F_jLat_indexOfChar_0_L7.eq_2, if_pos c12]) hR7)⟩) d_33_23_32
  ·
    have b14 : q_F (lx4.toInt < x4.toInt) := (q_nleI c12)
    refine lv_aload_n hx hb d_33_23_13 rfl (lv_at hl 2 rfl) ?_
    refine lv_iload hx hb d_33_23_14 (lv_at hl 0 rfl) ?_
    refine q_sbal (i := 0) (v := (([45, 35, 43, 48, 44, 40, 60, 32] : List Int32).getD lx4.toNatClampNeg 0)) C0 V rfl (show vp_in lx4 8 from q_ix (x := lx4.toInt) rfl (by have t1 : 0 ≤ x3.toInt := pre0; have t2 : x3.toInt ≤ lx4.toInt := i5; omega) (by have t1 : 0 ≤ x3.toInt := pre0; have t2 : x3.toInt ≤ lx4.toInt := i5; have t3 : x4.toInt ≤ 8 := pre1; have t4 : lx4.toInt < x4.toInt := b14; omega)) rfl d_33_23_16 ?_
    obtain ⟨a15, e16⟩ := q_nm ((([45, 35, 43, 48, 44, 40, 60, 32] : List Int32).getD lx4.toNatClampNeg 0) : Int32)
    refine q_ti (v := a15) e16 ?_
    refine lv_iload hx hb d_33_23_17 (lv_at hl 1 rfl) ?_
    refine lv_icmp_ne (tgt := 25) hx hb d_33_23_19 (by decide) (fun c17 => ?_) (fun c17 => ?_)
    ·
      obtain ⟨a19, e20⟩ := q_nm (lx4 + 1 : Int32)
      have b21 : q_F (a19.toInt = lx4.toInt + 1) := (by rw [← e20]; exact q_addI (y := 1) rfl (by decide) (by have _ := q_lo32 (x := lx4); have _ := q_hi32 (x := lx4); have t1 : lx4.toInt < x4.toInt := b14; have _ := q_lo32 (x := x4); have _ := q_hi32 (x := x4); omega) (by have _ := q_lo32 (x := lx4); have _ := q_hi32 (x := lx4); have t1 : lx4.toInt < x4.toInt := b14; have _ := q_lo32 (x := x4); have _ := q_hi32 (x := x4); omega))
      refine lv_iinc (v := a19) (lv' := [(5, .int a19), (4, .int a1), (0, .ref (g (9 + 2 * 0))), (3, .int x4)]) hx hb d_33_23_25 hl (k := 0) rfl (e20) (by decide) rfl (fun ls hl => ?_)
      refine lv_goto (tgt := 7) hx hb d_33_23_28 (by decide) ?_
      exact ih6 ((a19 : Int32)) _ _ _ ws (show (8 - a19.toInt).toNat < (8 - lx4.toInt).toNat from by have t1 : a19.toInt = lx4.toInt + 1 := b21; have t2 : x4.toInt ≤ 8 := pre1; have t3 : lx4.toInt < x4.toInt := b14; omega) ⟨(show q_F (x3.toInt ≤ a19.toInt) from (show x3.toInt ≤ a19.toInt from by have t1 : x3.toInt ≤ lx4.toInt := i5; have t2 : a19.toInt = lx4.toInt + 1 := b21; omega)), V, q_lw hl (q_lw1 0 rfl (q_lw1 1 rfl (q_lw1 2 rfl (q_lw1 3 rfl q_lw0)))), ⟨fm11, Nat.lt_of_lt_of_le (show (8 - a19.toInt).toNat < (8 - lx4.toInt).toNat from by have t1 : a19.toInt = lx4.toInt + 1 := b21; have t2 : x4.toInt ≤ 8 := pre1; have t3 : lx4.toInt < x4.toInt := b14; omega) (Nat.le_of_lt_succ hf10), (show F_jLat_indexOfChar_0_L7 x2 x3 x4 a1 fm11 a19 = (F_jLat_indexOfChar_0 x2 x3 x4) from Eq.trans (by have c17x := c17; rw [← e16] at c17x; rw [← e20, F_jLat_indexOfChar_0_L7.eq_2, if_neg c12, if_neg c17x]) hR7)⟩⟩
    ·
      refine lv_iload hx hb d_33_23_22 (lv_at hl 0 rfl) ?_
      exact q_reti C0 V (⟨rfl, (show 0 ≤ lx4.toInt + 1 from (by have t1 : 0 ≤ x3.toInt := pre0; have t2 : x3.toInt ≤ lx4.toInt := i5; omega)), (show lx4.toInt ≤ 7 from (by have t1 : x4.toInt ≤ 8 := pre1; have t2 : lx4.toInt < x4.toInt := b14; omega)), (show lx4 = (F_jLat_indexOfChar_0 x2 x3 x4) from Eq.trans (by have c17x := c17; rw [← e16] at c17x; rw [F_jLat_indexOfChar_0_L7.eq_2, if_neg c12, if_pos c17x]) hR7)⟩) d_33_23_24
def F_jLat_indexOf_0 (x2 : Int32) (x3 : Int32) (x4 : Int32) : Int32 := if ((F_jLat_canEncode x2) : Int32) = (0 : Int32) then ((-1 : Int32)) else (if (if x3 < 0 then 0 else x3 : Int32) < (if 8 < x4 then 8 else x4 : Int32) then (((F_jLat_indexOfChar_0 x2 (if x3 < 0 then 0 else x3 : Int32) (if 8 < x4 then 8 else x4 : Int32)) : Int32)) else ((-1 : Int32)))
set_option maxRecDepth 100000 in
set_option maxHeartbeats 4000000 in
theorem X_jLat_indexOf_0 (l : Launch) (D : va_G) (g : Nat → ClassId) (q : Nat → Nat) (ws : va_W) (x2 : Int32) (x3 : Int32) (x4 : Int32) (hI : q_I (nsh g q) q ws) (pre0 : 0 ≤ x3.toInt) (pre1 : x4.toInt ≤ 8) : q_mI l y_jLat_indexOf prog_33_method_22_code 4 (.int) 2 0 0 D g [.ref (g (9 + 2 * 0)), .int x2, .int x3, .int x4] ws (fun r u => ws = u ∧ (0 ≤ r.toInt + 1) ∧ (r.toInt ≤ 7) ∧ r = (F_jLat_indexOf_0 x2 x3 x4)) := by
  intro sz
  refine q_into (by decide) (Nat.le_of_ble_eq_true rfl) ?_
  intro p e s m below meth c ls hsz C0 V hl
  have hx := C0.1
  have hb := C0.2.1
  clear pre0
  clear pre1
  have hl : lv_has ls 4 [(0, .ref (g (9 + 2 * 0))), (1, .int x2), (2, .int x3), (3, .int x4)] := hl
  refine lv_iload_n hx hb d_33_22_0 rfl (lv_at hl 1 rfl) ?_
  refine q_goi V (q_runS (As := [.int x2]) (rest := []) (d := 1) (mc := 0) (ms := 0) C0 V rfl LS_jLat_88 (X_jLat_canEncode l D g q ws  x2 hI   _) rfl hl.1 rfl (Nat.le_of_ble_eq_true rfl) ⟨by decide, by decide⟩ ⟨Nat.le_of_ble_eq_true rfl, Nat.le_of_ble_eq_true rfl⟩ d_33_22_1) (fun a3 u1 H locs hp2 V => ?_)
  obtain ⟨rfl, b4, b5, hE6⟩ := hp2
  have e7 : a3 = (F_jLat_canEncode x2) := hE6
  clear b4
  clear b5
  refine lv_if_ne (tgt := 9) hx hb d_33_22_4 (by decide) (fun c8 => ?_) (fun c8 => ?_)
  ·
    refine lv_iload_n hx hb d_33_22_9 rfl (lv_at hl 2 rfl) ?_
    refine lv_iconst (v := 0) hx hb d_33_22_10 (by decide) ?_
    refine q_max C0 hl.1 rfl w_1773 w_803 w_7 w_804 ⟨Nat.le_of_ble_eq_true rfl, Nat.le_of_ble_eq_true rfl⟩ ⟨Nat.le_of_ble_eq_true rfl, Nat.le_of_ble_eq_true rfl⟩ d_33_22_11 ?_
    obtain ⟨a10, e11⟩ := q_nm (if x3 < 0 then 0 else x3 : Int32)
    refine q_ti (v := a10) e11 ?_
    have b12 : q_F (x3.toInt ≤ a10.toInt ∧ 0 ≤ a10.toInt ∧ (a10.toInt = x3.toInt ∨ a10.toInt = 0)) := (by rw [← e11]; show x3.toInt ≤ (if x3 < 0 then 0 else x3 : Int32).toInt ∧ 0 ≤ (if x3 < 0 then 0 else x3 : Int32).toInt ∧ ((if x3 < 0 then 0 else x3 : Int32).toInt = x3.toInt ∨ (if x3 < 0 then 0 else x3 : Int32).toInt = 0); exact (by have y1 : (0 : Int32).toInt = 0 := rfl; have z := s_max (a := x3) (b := 0); omega))
    refine lv_istore_n (lv' := [(2, .int a10), (0, .ref (g (9 + 2 * 0))), (1, .int x2), (3, .int x4)]) hx hb d_33_22_14 rfl hl (by decide) rfl (fun ls hl => ?_)
    refine lv_iload_n hx hb d_33_22_15 rfl (lv_at hl 3 rfl) ?_
    refine lv_aload_n hx hb d_33_22_16 rfl (lv_at hl 1 rfl) ?_
    refine q_slen (i := 0) (v := 8) C0 V rfl (by decide) d_33_22_17 ?_
    refine q_min C0 hl.1 rfl w_1774 w_774 w_7 w_775 ⟨Nat.le_of_ble_eq_true rfl, Nat.le_of_ble_eq_true rfl⟩ ⟨Nat.le_of_ble_eq_true rfl, Nat.le_of_ble_eq_true rfl⟩ d_33_22_18 ?_
    obtain ⟨a13, e14⟩ := q_nm (if 8 < x4 then 8 else x4 : Int32)
    refine q_ti (v := a13) e14 ?_
    have b15 : q_F (a13.toInt ≤ x4.toInt ∧ a13.toInt ≤ 8 ∧ (a13.toInt = x4.toInt ∨ a13.toInt = 8)) := (by rw [← e14]; show (if 8 < x4 then 8 else x4 : Int32).toInt ≤ x4.toInt ∧ (if 8 < x4 then 8 else x4 : Int32).toInt ≤ 8 ∧ ((if 8 < x4 then 8 else x4 : Int32).toInt = x4.toInt ∨ (if 8 < x4 then 8 else x4 : Int32).toInt = 8); exact (by have y1 : (8 : Int32).toInt = 8 := rfl; have z := s_min (a := x4) (b := 8); omega))
    refine lv_istore_n (lv' := [(3, .int a13), (2, .int a10), (0, .ref (g (9 + 2 * 0))), (1, .int x2)]) hx hb d_33_22_21 rfl hl (by decide) rfl (fun ls hl => ?_)
    refine lv_iload_n hx hb d_33_22_22 rfl (lv_at hl 1 rfl) ?_
    refine lv_iload_n hx hb d_33_22_23 rfl (lv_at hl 0 rfl) ?_
    refine lv_icmp_lt (tgt := 29) hx hb d_33_22_24 (by decide) (fun c16 => ?_) (fun c16 => ?_)
    ·
      refine lv_aload_n hx hb d_33_22_29 rfl (lv_at hl 2 rfl) ?_
      refine lv_iload_n hx hb d_33_22_30 rfl (lv_at hl 3 rfl) ?_
      refine lv_iload_n hx hb d_33_22_31 rfl (lv_at hl 1 rfl) ?_
      refine lv_iload_n hx hb d_33_22_32 rfl (lv_at hl 0 rfl) ?_
      refine q_goi V (q_runS (As := [.ref (g (9 + 2 * 0)), .int x2, .int a10, .int a13]) (rest := []) (d := 1) (mc := 0) (ms := 0) C0 V rfl LS_jLat_95 (X_jLat_indexOfChar_0 l D g q ws  x2 a10 a13 hI  (by have t1 : x3.toInt ≤ a10.toInt ∧ 0 ≤ a10.toInt ∧ (a10.toInt = x3.toInt ∨ a10.toInt = 0) := b12; omega) (by have t1 : a13.toInt ≤ x4.toInt ∧ a13.toInt ≤ 8 ∧ (a13.toInt = x4.toInt ∨ a13.toInt = 8) := b15; omega) _) rfl hl.1 rfl (Nat.le_of_ble_eq_true rfl) ⟨by decide, by decide⟩ ⟨Nat.le_of_ble_eq_true rfl, Nat.le_of_ble_eq_true rfl⟩ d_33_22_33) (fun a20 u18 H locs hp19 V => ?_)
      obtain ⟨rfl, b21, b22, hE23⟩ := hp19
      have e24 : a20 = (F_jLat_indexOfChar_0 x2 a10 a13) := hE23
      replace b21 : q_F (0 ≤ a20.toInt + 1) := b21
      replace b22 : q_F (a20.toInt ≤ 7) := b22
      exact q_reti C0 V (⟨rfl, (show 0 ≤ a20.toInt + 1 from (by first | with_reducible exact q_fe b21 | (have t1 : 0 ≤ a20.toInt + 1 := b21; omega))), (show a20.toInt ≤ 7 from (by first | with_reducible exact q_fe b22 | (have t1 : a20.toInt ≤ 7 := b22; omega))), (show a20 = (F_jLat_indexOf_0 x2 x3 x4) from (by have c8x := c8; rw [e7] at c8x; have c16x := c16; rw [← e14, ← e11] at c16x; rw [e24, ← e14, ← e11, F_jLat_indexOf_0.eq_1, if_neg c8x, if_pos c16x]))⟩) d_33_22_36
    ·
      refine lv_iconst (v := (-1)) hx hb d_33_22_27 (by decide) ?_
      exact q_reti C0 V (⟨rfl, (show 0 ≤ (-1 : Int32).toInt + 1 from (by have z3 : (-1 : Int32).toInt = -1 := rfl; omega)), (show (-1 : Int32).toInt ≤ 7 from (by have z3 : (-1 : Int32).toInt = -1 := rfl; omega)), (show (-1 : Int32) = (F_jLat_indexOf_0 x2 x3 x4) from (by have c8x := c8; rw [e7] at c8x; have c16x := c16; rw [← e14, ← e11] at c16x; rw [F_jLat_indexOf_0.eq_1, if_neg c8x, if_neg c16x]))⟩) d_33_22_28
  ·
    refine lv_iconst (v := (-1)) hx hb d_33_22_7 (by decide) ?_
    exact q_reti C0 V (⟨rfl, (show 0 ≤ (-1 : Int32).toInt + 1 from (by have z3 : (-1 : Int32).toInt = -1 := rfl; omega)), (show (-1 : Int32).toInt ≤ 7 from (by have z3 : (-1 : Int32).toInt = -1 := rfl; omega)), (show (-1 : Int32) = (F_jLat_indexOf_0 x2 x3 x4) from (by have c8x := c8; rw [e7] at c8x; rw [F_jLat_indexOf_0.eq_1, if_pos c8x]))⟩) d_33_22_8
def F_jStr_indexOf_III_0 (x2 : Int32) (x3 : Int32) : Int32 := ((F_jLat_indexOf_0 x2 x3 (8 : Int32)) : Int32)
set_option maxRecDepth 100000 in
set_option maxHeartbeats 4000000 in
theorem X_jStr_indexOf_III_0 (l : Launch) (D : va_G) (g : Nat → ClassId) (q : Nat → Nat) (ws : va_W) (x2 : Int32) (x3 : Int32) (hI : q_I (nsh g q) q ws) (pre0 : 0 ≤ x3.toInt) : q_mI l y_jStr_indexOf_III prog_31_method_80_code 3 (.int) 3 0 0 D g [.ref (g (8 + 2 * 0)), .int x2, .int x3] ws (fun r u => ws = u ∧ (0 ≤ r.toInt + 1) ∧ (r.toInt ≤ 7) ∧ r = (F_jStr_indexOf_III_0 x2 x3)) := by
  intro sz
  refine q_into (by decide) (Nat.le_of_ble_eq_true rfl) ?_
  intro p e s m below meth c ls hsz C0 V hl
  have hx := C0.1
  have hb := C0.2.1
  replace pre0 : q_F (0 ≤ x3.toInt) := pre0
  have hl : lv_has ls 3 [(0, .ref (g (8 + 2 * 0))), (1, .int x2), (2, .int x3)] := hl
  refine lv_aload_n hx hb d_31_80_0 rfl (lv_at hl 0 rfl) ?_
  refine q_goi V (q_runVs (As := []) (rest := []) (d := 1) (mc := 0) (ms := 0) (i := 0) C0 V rfl LV_jStr_492 (T_jStr_isLatin1_0 l D g q ws   hI   _) rfl rfl rfl hl.1 rfl (Nat.le_of_ble_eq_true rfl) ⟨by decide, by decide⟩ ⟨Nat.le_of_ble_eq_true rfl, Nat.le_of_ble_eq_true rfl⟩ d_31_80_1) (fun a3 u1 H locs hp2 V => ?_)
  obtain ⟨rfl, b4, b5⟩ := hp2
  replace b4 : q_F (1 ≤ a3.toInt) := b4
  replace b5 : q_F (a3.toInt ≤ 1) := b5
  obtain rfl : a3 = (1 : Int32) := q_Ieq (x := a3.toInt) (y := 1) rfl (by decide) (by have t1 : 1 ≤ a3.toInt := b4; have t2 : a3.toInt ≤ 1 := b5; omega)
  refine lv_if_eq (tgt := 23) hx hb d_31_80_4 (by decide) (fun c7 => absurd c7 (by decide)) (fun c7 => ?_)
  refine lv_aload_n hx hb d_31_80_7 rfl (lv_at hl 0 rfl) ?_
  refine q_sval (i := 0) C0 V rfl rfl w_1018 d_31_80_8 ?_
  refine lv_iload_n hx hb d_31_80_11 rfl (lv_at hl 1 rfl) ?_
  refine lv_iload_n hx hb d_31_80_12 rfl (lv_at hl 2 rfl) ?_
  refine lv_aload_n hx hb d_31_80_13 rfl (lv_at hl 0 rfl) ?_
  refine q_goi V (q_runVs (As := []) (rest := [.int x3, .int x2, .ref (g (9 + 2 * 0))]) (d := 2) (mc := 0) (ms := 0) (i := 0) C0 V rfl LV_jStr_505 (T_jStr_length_0 l D g q ws   hI   _) rfl rfl rfl hl.1 rfl (Nat.le_of_ble_eq_true rfl) ⟨by decide, by decide⟩ ⟨Nat.le_of_ble_eq_true rfl, Nat.le_of_ble_eq_true rfl⟩ d_31_80_14) (fun a10 u8 H locs hp9 V => ?_)
  obtain ⟨rfl, b11, b12⟩ := hp9
  replace b11 : q_F (8 ≤ a10.toInt) := b11
  replace b12 : q_F (a10.toInt ≤ 8) := b12
  obtain rfl : a10 = (8 : Int32) := q_Ieq (x := a10.toInt) (y := 8) rfl (by decide) (by have t1 : 8 ≤ a10.toInt := b11; have t2 : a10.toInt ≤ 8 := b12; omega)
  refine q_goi V (q_runS (As := [.ref (g (9 + 2 * 0)), .int x2, .int x3, .int 8]) (rest := []) (d := 2) (mc := 0) (ms := 0) C0 V rfl LS_jStr_637 (X_jLat_indexOf_0 l D g q ws  x2 x3 8 hI  (by have y0 : (8 : Int32).toInt = 8 := rfl; have t1 : 0 ≤ x3.toInt := pre0; omega) (by have y0 : (8 : Int32).toInt = 8 := rfl; omega) _) rfl hl.1 rfl (Nat.le_of_ble_eq_true rfl) ⟨by decide, by decide⟩ ⟨Nat.le_of_ble_eq_true rfl, Nat.le_of_ble_eq_true rfl⟩ d_31_80_17) (fun a16 u14 H locs hp15 V => ?_)
  obtain ⟨rfl, b17, b18, hE19⟩ := hp15
  have e20 : a16 = (F_jLat_indexOf_0 x2 x3 (8 : Int32)) := hE19
  replace b17 : q_F (0 ≤ a16.toInt + 1) := b17
  replace b18 : q_F (a16.toInt ≤ 7) := b18
  refine lv_goto (tgt := 36) hx hb d_31_80_20 (by decide) ?_
  exact q_reti C0 V (⟨rfl, (show 0 ≤ a16.toInt + 1 from (by first | with_reducible exact q_fe b17 | (have t1 : 0 ≤ a16.toInt + 1 := b17; omega))), (show a16.toInt ≤ 7 from (by first | with_reducible exact q_fe b18 | (have t1 : a16.toInt ≤ 7 := b18; omega))), (show a16 = (F_jStr_indexOf_III_0 x2 x3) from (by rw [e20, F_jStr_indexOf_III_0.eq_1]))⟩) d_31_80_36
def F_jStr_indexOf_II_0 (x2 : Int32) : Int32 := ((F_jStr_indexOf_III_0 x2 (0 : Int32)) : Int32)
set_option maxRecDepth 100000 in
set_option maxHeartbeats 4000000 in
theorem X_jStr_indexOf_II_0 (l : Launch) (D : va_G) (g : Nat → ClassId) (q : Nat → Nat) (ws : va_W) (x2 : Int32) (hI : q_I (nsh g q) q ws) : q_mI l y_jStr_indexOf_II prog_31_method_79_code 2 (.int) 4 0 0 D g [.ref (g (8 + 2 * 0)), .int x2] ws (fun r u => ws = u ∧ (0 ≤ r.toInt + 1) ∧ (r.toInt ≤ 7) ∧ r = (F_jStr_indexOf_II_0 x2)) := by
  intro sz
  refine q_into (by decide) (Nat.le_of_ble_eq_true rfl) ?_
  intro p e s m below meth c ls hsz C0 V hl
  have hx := C0.1
  have hb := C0.2.1
  have hl : lv_has ls 2 [(0, .ref (g (8 + 2 * 0))), (1, .int x2)] := hl
  refine lv_aload_n hx hb d_31_79_0 rfl (lv_at hl 0 rfl) ?_
  refine lv_iload_n hx hb d_31_79_1 rfl (lv_at hl 1 rfl) ?_
  refine lv_iconst (v := 0) hx hb d_31_79_2 (by decide) ?_
  refine q_goi V (q_runVs (As := [.int x2, .int 0]) (rest := []) (d := 3) (mc := 0) (ms := 0) (i := 0) C0 V rfl LV_jStr_633 (X_jStr_indexOf_III_0 l D g q ws  x2 0 hI  (by have y0 : (0 : Int32).toInt = 0 := rfl; omega) _) rfl rfl rfl hl.1 rfl (Nat.le_of_ble_eq_true rfl) ⟨by decide, by decide⟩ ⟨Nat.le_of_ble_eq_true rfl, Nat.le_of_ble_eq_true rfl⟩ d_31_79_3) (fun a3 u1 H locs hp2 V => ?_)
  obtain ⟨rfl, b4, b5, hE6⟩ := hp2
  have e7 : a3 = (F_jStr_indexOf_III_0 x2 (0 : Int32)) := hE6
  replace b4 : q_F (0 ≤ a3.toInt + 1) := b4
  replace b5 : q_F (a3.toInt ≤ 7) := b5
  exact q_reti C0 V (⟨rfl, (show 0 ≤ a3.toInt + 1 from (by first | with_reducible exact q_fe b4 | (have t1 : 0 ≤ a3.toInt + 1 := b4; omega))), (show a3.toInt ≤ 7 from (by first | with_reducible exact q_fe b5 | (have t1 : a3.toInt ≤ 7 := b5; omega))), (show a3 = (F_jStr_indexOf_II_0 x2) from (by rw [e7, F_jStr_indexOf_II_0.eq_1]))⟩) d_31_79_6
def F_jLat_indexOfChar_1_L7 (x2 : Int32) (x3 : Int32) (x4 : Int32) (a1 : Int32) : Nat → Int32 → Int32
  | 0, _ => default
  | fm + 1, lx4 => if x4 ≤ lx4 then ((-1 : Int32)) else (if ((([98, 66, 115, 83, 99, 67, 100, 111, 120, 88, 102, 101, 69, 103, 71, 37, 110] : List Int32).getD lx4.toNatClampNeg 0) : Int32) = a1 then (lx4) else (F_jLat_indexOfChar_1_L7 x2 x3 x4 a1 fm (lx4 + 1 : Int32)))
def F_jLat_indexOfChar_1 (x2 : Int32) (x3 : Int32) (x4 : Int32) : Int32 := F_jLat_indexOfChar_1_L7 x2 x3 x4 (x2.toInt8.toInt32 : Int32) ((17 - x3.toInt).toNat + 1) x3
set_option maxRecDepth 100000 in
set_option maxHeartbeats 4000000 in
theorem X_jLat_indexOfChar_1 (l : Launch) (D : va_G) (g : Nat → ClassId) (q : Nat → Nat) (ws : va_W) (x2 : Int32) (x3 : Int32) (x4 : Int32) (hI : q_I (nsh g q) q ws) (pre0 : 0 ≤ x3.toInt) (pre1 : x4.toInt ≤ 17) : q_mI l y_jLat_indexOfChar prog_33_method_23_code 6 (.int) 1 0 0 D g [.ref (g (9 + 2 * 1)), .int x2, .int x3, .int x4] ws (fun r u => ws = u ∧ (0 ≤ r.toInt + 1) ∧ (r.toInt ≤ 16) ∧ r = (F_jLat_indexOfChar_1 x2 x3 x4)) := by
  intro sz
  refine q_into (by decide) (Nat.le_of_ble_eq_true rfl) ?_
  intro p e s m below meth c ls hsz C0 V hl
  have hx := C0.1
  have hb := C0.2.1
  replace pre0 : q_F (0 ≤ x3.toInt) := pre0
  replace pre1 : q_F (x4.toInt ≤ 17) := pre1
  have hl : lv_has ls 6 [(0, .ref (g (9 + 2 * 1))), (1, .int x2), (2, .int x3), (3, .int x4)] := hl
  refine lv_iload_n hx hb d_33_23_0 rfl (lv_at hl 1 rfl) ?_
  refine lv_i2b hx hb d_33_23_1 rfl ?_
  obtain ⟨a1, e2⟩ := q_nm (x2.toInt8.toInt32 : Int32)
  refine q_ti (v := a1) e2 ?_
  refine lv_istore (lv' := [(4, .int a1), (0, .ref (g (9 + 2 * 1))), (1, .int x2), (2, .int x3), (3, .int x4)]) hx hb d_33_23_2 hl (by decide) rfl (fun ls hl => ?_)
  refine lv_iload_n hx hb d_33_23_4 rfl (lv_at hl 3 rfl) ?_
  refine lv_istore (lv' := [(5, .int x3), (4, .int a1), (0, .ref (g (9 + 2 * 1))), (1, .int x2), (2, .int x3), (3, .int x4)]) hx hb d_33_23_5 hl (by decide) rfl (fun ls hl => ?_)
  refine q_loop (X := Int32) (fun z H locs ls _ => q_F (x3.toInt ≤ z.toInt) ∧ q_Wd D g (va_A ws sz) s ws H locs ∧ lv_has ls 6 [(5, .int z), (4, .int a1), (0, .ref (g (9 + 2 * 1))), (3, .int x4)] ∧ (∃ n, (17 - z.toInt).toNat < n ∧ F_jLat_indexOfChar_1_L7 x2 x3 x4 a1 n z = (F_jLat_indexOfChar_1 x2 x3 x4))) (fun z => (17 - z.toInt).toNat) ?_ ((x3 : Int32)) _ _ _ ws ⟨(show q_F (x3.toInt ≤ x3.toInt) from (show x3.toInt ≤ x3.toInt from by omega)), V, q_lw hl (q_lw1 0 rfl (q_lw1 1 rfl (q_lw1 2 rfl (q_lw1 5 rfl q_lw0)))), ⟨((17 - x3.toInt).toNat + 1), Nat.lt_succ_self _, (show F_jLat_indexOfChar_1_L7 x2 x3 x4 a1 ((17 - x3.toInt).toNat + 1) x3 = (F_jLat_indexOfChar_1 x2 x3 x4) from (by rw [← e2, F_jLat_indexOfChar_1.eq_1]))⟩⟩
  rintro lx4 H locs ls _ ⟨i5, V, hl, ⟨fu9, hf10, hR7⟩⟩ ih6
  obtain ⟨fm11, rfl⟩ : ∃ m, fu9 = m + 1 := ⟨fu9 - 1, by omega⟩
  replace i5 : q_F (x3.toInt ≤ lx4.toInt) := i5
  replace hl : lv_has ls 6 [(5, .int lx4), (4, .int a1), (0, .ref (g (9 + 2 * 1))), (3, .int x4)] := hl
  refine lv_iload hx hb d_33_23_7 (lv_at hl 0 rfl) ?_
  refine lv_iload_n hx hb d_33_23_9 rfl (lv_at hl 3 rfl) ?_
  refine lv_icmp_ge (tgt := 31) hx hb d_33_23_10 (by decide) (fun c12 => ?_) (fun c12 => ?_)
  ·
    refine lv_iconst (v := (-1)) hx hb d_33_23_31 (by decide) ?_
    exact q_reti C0 V (⟨rfl, (show 0 ≤ (-1 : Int32).toInt + 1 from (by have z3 : (-1 : Int32).toInt = -1 := rfl; omega)), (show (-1 : Int32).toInt ≤ 16 from (by have z3 : (-1 : Int32).toInt = -1 := rfl; omega)), (show (-1 : Int32) = (F_jLat_indexOfChar_1 x2 x3 x4) from Eq.trans (by rw [F_jLat_indexOfChar_1_L7.eq_2, if_pos c12]) hR7)⟩) d_33_23_32
  ·
    have b14 : q_F (lx4.toInt < x4.toInt) := (q_nleI c12)
    refine lv_aload_n hx hb d_33_23_13 rfl (lv_at hl 2 rfl) ?_
    refine lv_iload hx hb d_33_23_14 (lv_at hl 0 rfl) ?_
    refine q_sbal (i := 1) (v := (([98, 66, 115, 83, 99, 67, 100, 111, 120, 88, 102, 101, 69, 103, 71, 37, 110] : List Int32).getD lx4.toNatClampNeg 0)) C0 V rfl (show vp_in lx4 17 from q_ix (x := lx4.toInt) rfl (by have t1 : 0 ≤ x3.toInt := pre0; have t2 : x3.toInt ≤ lx4.toInt := i5; omega) (by have t1 : 0 ≤ x3.toInt := pre0; have t2 : x3.toInt ≤ lx4.toInt := i5; have t3 : x4.toInt ≤ 17 := pre1; have t4 : lx4.toInt < x4.toInt := b14; omega)) rfl d_33_23_16 ?_
    obtain ⟨a15, e16⟩ := q_nm ((([98, 66, 115, 83, 99, 67, 100, 111, 120, 88, 102, 101, 69, 103, 71, 37, 110] : List Int32).getD lx4.toNatClampNeg 0) : Int32)
    refine q_ti (v := a15) e16 ?_
    refine lv_iload hx hb d_33_23_17 (lv_at hl 1 rfl) ?_
    refine lv_icmp_ne (tgt := 25) hx hb d_33_23_19 (by decide) (fun c17 => ?_) (fun c17 => ?_)
    ·
      obtain ⟨a19, e20⟩ := q_nm (lx4 + 1 : Int32)
      have b21 : q_F (a19.toInt = lx4.toInt + 1) := (by rw [← e20]; exact q_addI (y := 1) rfl (by decide) (by have _ := q_lo32 (x := lx4); have _ := q_hi32 (x := lx4); have t1 : lx4.toInt < x4.toInt := b14; have _ := q_lo32 (x := x4); have _ := q_hi32 (x := x4); omega) (by have _ := q_lo32 (x := lx4); have _ := q_hi32 (x := lx4); have t1 : lx4.toInt < x4.toInt := b14; have _ := q_lo32 (x := x4); have _ := q_hi32 (x := x4); omega))
      refine lv_iinc (v := a19) (lv' := [(5, .int a19), (4, .int a1), (0, .ref (g (9 + 2 * 1))), (3, .int x4)]) hx hb d_33_23_25 hl (k := 0) rfl (e20) (by decide) rfl (fun ls hl => ?_)
      refine lv_goto (tgt := 7) hx hb d_33_23_28 (by decide) ?_
      exact ih6 ((a19 : Int32)) _ _ _ ws (show (17 - a19.toInt).toNat < (17 - lx4.toInt).toNat from by have t1 : a19.toInt = lx4.toInt + 1 := b21; have t2 : x4.toInt ≤ 17 := pre1; have t3 : lx4.toInt < x4.toInt := b14; omega) ⟨(show q_F (x3.toInt ≤ a19.toInt) from (show x3.toInt ≤ a19.toInt from by have t1 : x3.toInt ≤ lx4.toInt := i5; have t2 : a19.toInt = lx4.toInt + 1 := b21; omega)), V, q_lw hl (q_lw1 0 rfl (q_lw1 1 rfl (q_lw1 2 rfl (q_lw1 3 rfl q_lw0)))), ⟨fm11, Nat.lt_of_lt_of_le (show (17 - a19.toInt).toNat < (17 - lx4.toInt).toNat from by have t1 : a19.toInt = lx4.toInt + 1 := b21; have t2 : x4.toInt ≤ 17 := pre1; have t3 : lx4.toInt < x4.toInt := b14; omega) (Nat.le_of_lt_succ hf10), (show F_jLat_indexOfChar_1_L7 x2 x3 x4 a1 fm11 a19 = (F_jLat_indexOfChar_1 x2 x3 x4) from Eq.trans (by have c17x := c17; rw [← e16] at c17x; rw [← e20, F_jLat_indexOfChar_1_L7.eq_2, if_neg c12, if_neg c17x]) hR7)⟩⟩
    ·
      refine lv_iload hx hb d_33_23_22 (lv_at hl 0 rfl) ?_
      exact q_reti C0 V (⟨rfl, (show 0 ≤ lx4.toInt + 1 from (by have t1 : 0 ≤ x3.toInt := pre0; have t2 : x3.toInt ≤ lx4.toInt := i5; omega)), (show lx4.toInt ≤ 16 from (by have t1 : x4.toInt ≤ 17 := pre1; have t2 : lx4.toInt < x4.toInt := b14; omega)), (show lx4 = (F_jLat_indexOfChar_1 x2 x3 x4) from Eq.trans (by have c17x := c17; rw [← e16] at c17x; rw [F_jLat_indexOfChar_1_L7.eq_2, if_neg c12, if_pos c17x]) hR7)⟩) d_33_23_24
def F_jLat_indexOf_1 (x2 : Int32) (x3 : Int32) (x4 : Int32) : Int32 := if ((F_jLat_canEncode x2) : Int32) = (0 : Int32) then ((-1 : Int32)) else (if (if x3 < 0 then 0 else x3 : Int32) < (if 17 < x4 then 17 else x4 : Int32) then (((F_jLat_indexOfChar_1 x2 (if x3 < 0 then 0 else x3 : Int32) (if 17 < x4 then 17 else x4 : Int32)) : Int32)) else ((-1 : Int32)))
set_option maxRecDepth 100000 in
set_option maxHeartbeats 4000000 in
theorem X_jLat_indexOf_1 (l : Launch) (D : va_G) (g : Nat → ClassId) (q : Nat → Nat) (ws : va_W) (x2 : Int32) (x3 : Int32) (x4 : Int32) (hI : q_I (nsh g q) q ws) (pre0 : 0 ≤ x3.toInt) (pre1 : x4.toInt ≤ 17) : q_mI l y_jLat_indexOf prog_33_method_22_code 4 (.int) 2 0 0 D g [.ref (g (9 + 2 * 1)), .int x2, .int x3, .int x4] ws (fun r u => ws = u ∧ (0 ≤ r.toInt + 1) ∧ (r.toInt ≤ 16) ∧ r = (F_jLat_indexOf_1 x2 x3 x4)) := by
  intro sz
  refine q_into (by decide) (Nat.le_of_ble_eq_true rfl) ?_
  intro p e s m below meth c ls hsz C0 V hl
  have hx := C0.1
  have hb := C0.2.1
  clear pre0
  clear pre1
  have hl : lv_has ls 4 [(0, .ref (g (9 + 2 * 1))), (1, .int x2), (2, .int x3), (3, .int x4)] := hl
  refine lv_iload_n hx hb d_33_22_0 rfl (lv_at hl 1 rfl) ?_
  refine q_goi V (q_runS (As := [.int x2]) (rest := []) (d := 1) (mc := 0) (ms := 0) C0 V rfl LS_jLat_88 (X_jLat_canEncode l D g q ws  x2 hI   _) rfl hl.1 rfl (Nat.le_of_ble_eq_true rfl) ⟨by decide, by decide⟩ ⟨Nat.le_of_ble_eq_true rfl, Nat.le_of_ble_eq_true rfl⟩ d_33_22_1) (fun a3 u1 H locs hp2 V => ?_)
  obtain ⟨rfl, b4, b5, hE6⟩ := hp2
  have e7 : a3 = (F_jLat_canEncode x2) := hE6
  clear b4
  clear b5
  refine lv_if_ne (tgt := 9) hx hb d_33_22_4 (by decide) (fun c8 => ?_) (fun c8 => ?_)
  ·
    refine lv_iload_n hx hb d_33_22_9 rfl (lv_at hl 2 rfl) ?_
    refine lv_iconst (v := 0) hx hb d_33_22_10 (by decide) ?_
    refine q_max C0 hl.1 rfl w_1773 w_803 w_7 w_804 ⟨Nat.le_of_ble_eq_true rfl, Nat.le_of_ble_eq_true rfl⟩ ⟨Nat.le_of_ble_eq_true rfl, Nat.le_of_ble_eq_true rfl⟩ d_33_22_11 ?_
    obtain ⟨a10, e11⟩ := q_nm (if x3 < 0 then 0 else x3 : Int32)
    refine q_ti (v := a10) e11 ?_
    have b12 : q_F (x3.toInt ≤ a10.toInt ∧ 0 ≤ a10.toInt ∧ (a10.toInt = x3.toInt ∨ a10.toInt = 0)) := (by rw [← e11]; show x3.toInt ≤ (if x3 < 0 then 0 else x3 : Int32).toInt ∧ 0 ≤ (if x3 < 0 then 0 else x3 : Int32).toInt ∧ ((if x3 < 0 then 0 else x3 : Int32).toInt = x3.toInt ∨ (if x3 < 0 then 0 else x3 : Int32).toInt = 0); exact (by have y1 : (0 : Int32).toInt = 0 := rfl; have z := s_max (a := x3) (b := 0); omega))
    refine lv_istore_n (lv' := [(2, .int a10), (0, .ref (g (9 + 2 * 1))), (1, .int x2), (3, .int x4)]) hx hb d_33_22_14 rfl hl (by decide) rfl (fun ls hl => ?_)
    refine lv_iload_n hx hb d_33_22_15 rfl (lv_at hl 3 rfl) ?_
    refine lv_aload_n hx hb d_33_22_16 rfl (lv_at hl 1 rfl) ?_
    refine q_slen (i := 1) (v := 17) C0 V rfl (by decide) d_33_22_17 ?_
    refine q_min C0 hl.1 rfl w_1774 w_774 w_7 w_775 ⟨Nat.le_of_ble_eq_true rfl, Nat.le_of_ble_eq_true rfl⟩ ⟨Nat.le_of_ble_eq_true rfl, Nat.le_of_ble_eq_true rfl⟩ d_33_22_18 ?_
    obtain ⟨a13, e14⟩ := q_nm (if 17 < x4 then 17 else x4 : Int32)
    refine q_ti (v := a13) e14 ?_
    have b15 : q_F (a13.toInt ≤ x4.toInt ∧ a13.toInt ≤ 17 ∧ (a13.toInt = x4.toInt ∨ a13.toInt = 17)) := (by rw [← e14]; show (if 17 < x4 then 17 else x4 : Int32).toInt ≤ x4.toInt ∧ (if 17 < x4 then 17 else x4 : Int32).toInt ≤ 17 ∧ ((if 17 < x4 then 17 else x4 : Int32).toInt = x4.toInt ∨ (if 17 < x4 then 17 else x4 : Int32).toInt = 17); exact (by have y1 : (17 : Int32).toInt = 17 := rfl; have z := s_min (a := x4) (b := 17); omega))
    refine lv_istore_n (lv' := [(3, .int a13), (2, .int a10), (0, .ref (g (9 + 2 * 1))), (1, .int x2)]) hx hb d_33_22_21 rfl hl (by decide) rfl (fun ls hl => ?_)
    refine lv_iload_n hx hb d_33_22_22 rfl (lv_at hl 1 rfl) ?_
    refine lv_iload_n hx hb d_33_22_23 rfl (lv_at hl 0 rfl) ?_
    refine lv_icmp_lt (tgt := 29) hx hb d_33_22_24 (by decide) (fun c16 => ?_) (fun c16 => ?_)
    ·
      refine lv_aload_n hx hb d_33_22_29 rfl (lv_at hl 2 rfl) ?_
      refine lv_iload_n hx hb d_33_22_30 rfl (lv_at hl 3 rfl) ?_
      refine lv_iload_n hx hb d_33_22_31 rfl (lv_at hl 1 rfl) ?_
      refine lv_iload_n hx hb d_33_22_32 rfl (lv_at hl 0 rfl) ?_
      refine q_goi V (q_runS (As := [.ref (g (9 + 2 * 1)), .int x2, .int a10, .int a13]) (rest := []) (d := 1) (mc := 0) (ms := 0) C0 V rfl LS_jLat_95 (X_jLat_indexOfChar_1 l D g q ws  x2 a10 a13 hI  (by have t1 : x3.toInt ≤ a10.toInt ∧ 0 ≤ a10.toInt ∧ (a10.toInt = x3.toInt ∨ a10.toInt = 0) := b12; omega) (by have t1 : a13.toInt ≤ x4.toInt ∧ a13.toInt ≤ 17 ∧ (a13.toInt = x4.toInt ∨ a13.toInt = 17) := b15; omega) _) rfl hl.1 rfl (Nat.le_of_ble_eq_true rfl) ⟨by decide, by decide⟩ ⟨Nat.le_of_ble_eq_true rfl, Nat.le_of_ble_eq_true rfl⟩ d_33_22_33) (fun a20 u18 H locs hp19 V => ?_)
      obtain ⟨rfl, b21, b22, hE23⟩ := hp19
      have e24 : a20 = (F_jLat_indexOfChar_1 x2 a10 a13) := hE23
      replace b21 : q_F (0 ≤ a20.toInt + 1) := b21
      replace b22 : q_F (a20.toInt ≤ 16) := b22
      exact q_reti C0 V (⟨rfl, (show 0 ≤ a20.toInt + 1 from (by first | with_reducible exact q_fe b21 | (have t1 : 0 ≤ a20.toInt + 1 := b21; omega))), (show a20.toInt ≤ 16 from (by first | with_reducible exact q_fe b22 | (have t1 : a20.toInt ≤ 16 := b22; omega))), (show a20 = (F_jLat_indexOf_1 x2 x3 x4) from (by have c8x := c8; rw [e7] at c8x; have c16x := c16; rw [← e14, ← e11] at c16x; rw [e24, ← e14, ← e11, F_jLat_indexOf_1.eq_1, if_neg c8x, if_pos c16x]))⟩) d_33_22_36
    ·
      refine lv_iconst (v := (-1)) hx hb d_33_22_27 (by decide) ?_
      exact q_reti C0 V (⟨rfl, (show 0 ≤ (-1 : Int32).toInt + 1 from (by have z3 : (-1 : Int32).toInt = -1 := rfl; omega)), (show (-1 : Int32).toInt ≤ 16 from (by have z3 : (-1 : Int32).toInt = -1 := rfl; omega)), (show (-1 : Int32) = (F_jLat_indexOf_1 x2 x3 x4) from (by have c8x := c8; rw [e7] at c8x; have c16x := c16; rw [← e14, ← e11] at c16x; rw [F_jLat_indexOf_1.eq_1, if_neg c8x, if_neg c16x]))⟩) d_33_22_28
  ·
    refine lv_iconst (v := (-1)) hx hb d_33_22_7 (by decide) ?_
    exact q_reti C0 V (⟨rfl, (show 0 ≤ (-1 : Int32).toInt + 1 from (by have z3 : (-1 : Int32).toInt = -1 := rfl; omega)), (show (-1 : Int32).toInt ≤ 16 from (by have z3 : (-1 : Int32).toInt = -1 := rfl; omega)), (show (-1 : Int32) = (F_jLat_indexOf_1 x2 x3 x4) from (by have c8x := c8; rw [e7] at c8x; rw [F_jLat_indexOf_1.eq_1, if_pos c8x]))⟩) d_33_22_8
def F_jStr_indexOf_III_1 (x2 : Int32) (x3 : Int32) : Int32 := ((F_jLat_indexOf_1 x2 x3 (17 : Int32)) : Int32)
set_option maxRecDepth 100000 in
set_option maxHeartbeats 4000000 in
theorem X_jStr_indexOf_III_1 (l : Launch) (D : va_G) (g : Nat → ClassId) (q : Nat → Nat) (ws : va_W) (x2 : Int32) (x3 : Int32) (hI : q_I (nsh g q) q ws) (pre0 : 0 ≤ x3.toInt) : q_mI l y_jStr_indexOf_III prog_31_method_80_code 3 (.int) 3 0 0 D g [.ref (g (8 + 2 * 1)), .int x2, .int x3] ws (fun r u => ws = u ∧ (0 ≤ r.toInt + 1) ∧ (r.toInt ≤ 16) ∧ r = (F_jStr_indexOf_III_1 x2 x3)) := by
  intro sz
  refine q_into (by decide) (Nat.le_of_ble_eq_true rfl) ?_
  intro p e s m below meth c ls hsz C0 V hl
  have hx := C0.1
  have hb := C0.2.1
  replace pre0 : q_F (0 ≤ x3.toInt) := pre0
  have hl : lv_has ls 3 [(0, .ref (g (8 + 2 * 1))), (1, .int x2), (2, .int x3)] := hl
  refine lv_aload_n hx hb d_31_80_0 rfl (lv_at hl 0 rfl) ?_
  refine q_goi V (q_runVs (As := []) (rest := []) (d := 1) (mc := 0) (ms := 0) (i := 1) C0 V rfl LV_jStr_492 (T_jStr_isLatin1_1 l D g q ws   hI   _) rfl rfl rfl hl.1 rfl (Nat.le_of_ble_eq_true rfl) ⟨by decide, by decide⟩ ⟨Nat.le_of_ble_eq_true rfl, Nat.le_of_ble_eq_true rfl⟩ d_31_80_1) (fun a3 u1 H locs hp2 V => ?_)
  obtain ⟨rfl, b4, b5⟩ := hp2
  replace b4 : q_F (1 ≤ a3.toInt) := b4
  replace b5 : q_F (a3.toInt ≤ 1) := b5
  obtain rfl : a3 = (1 : Int32) := q_Ieq (x := a3.toInt) (y := 1) rfl (by decide) (by have t1 : 1 ≤ a3.toInt := b4; have t2 : a3.toInt ≤ 1 := b5; omega)
  refine lv_if_eq (tgt := 23) hx hb d_31_80_4 (by decide) (fun c7 => absurd c7 (by decide)) (fun c7 => ?_)
  refine lv_aload_n hx hb d_31_80_7 rfl (lv_at hl 0 rfl) ?_
  refine q_sval (i := 1) C0 V rfl rfl w_1018 d_31_80_8 ?_
  refine lv_iload_n hx hb d_31_80_11 rfl (lv_at hl 1 rfl) ?_
  refine lv_iload_n hx hb d_31_80_12 rfl (lv_at hl 2 rfl) ?_
  refine lv_aload_n hx hb d_31_80_13 rfl (lv_at hl 0 rfl) ?_
  refine q_goi V (q_runVs (As := []) (rest := [.int x3, .int x2, .ref (g (9 + 2 * 1))]) (d := 2) (mc := 0) (ms := 0) (i := 1) C0 V rfl LV_jStr_505 (T_jStr_length_1 l D g q ws   hI   _) rfl rfl rfl hl.1 rfl (Nat.le_of_ble_eq_true rfl) ⟨by decide, by decide⟩ ⟨Nat.le_of_ble_eq_true rfl, Nat.le_of_ble_eq_true rfl⟩ d_31_80_14) (fun a10 u8 H locs hp9 V => ?_)
  obtain ⟨rfl, b11, b12⟩ := hp9
  replace b11 : q_F (17 ≤ a10.toInt) := b11
  replace b12 : q_F (a10.toInt ≤ 17) := b12
  obtain rfl : a10 = (17 : Int32) := q_Ieq (x := a10.toInt) (y := 17) rfl (by decide) (by have t1 : 17 ≤ a10.toInt := b11; have t2 : a10.toInt ≤ 17 := b12; omega)
  refine q_goi V (q_runS (As := [.ref (g (9 + 2 * 1)), .int x2, .int x3, .int 17]) (rest := []) (d := 2) (mc := 0) (ms := 0) C0 V rfl LS_jStr_637 (X_jLat_indexOf_1 l D g q ws  x2 x3 17 hI  (by have y0 : (17 : Int32).toInt = 17 := rfl; have t1 : 0 ≤ x3.toInt := pre0; omega) (by have y0 : (17 : Int32).toInt = 17 := rfl; omega) _) rfl hl.1 rfl (Nat.le_of_ble_eq_true rfl) ⟨by decide, by decide⟩ ⟨Nat.le_of_ble_eq_true rfl, Nat.le_of_ble_eq_true rfl⟩ d_31_80_17) (fun a16 u14 H locs hp15 V => ?_)
  obtain ⟨rfl, b17, b18, hE19⟩ := hp15
  have e20 : a16 = (F_jLat_indexOf_1 x2 x3 (17 : Int32)) := hE19
  replace b17 : q_F (0 ≤ a16.toInt + 1) := b17
  replace b18 : q_F (a16.toInt ≤ 16) := b18
  refine lv_goto (tgt := 36) hx hb d_31_80_20 (by decide) ?_
  exact q_reti C0 V (⟨rfl, (show 0 ≤ a16.toInt + 1 from (by first | with_reducible exact q_fe b17 | (have t1 : 0 ≤ a16.toInt + 1 := b17; omega))), (show a16.toInt ≤ 16 from (by first | with_reducible exact q_fe b18 | (have t1 : a16.toInt ≤ 16 := b18; omega))), (show a16 = (F_jStr_indexOf_III_1 x2 x3) from (by rw [e20, F_jStr_indexOf_III_1.eq_1]))⟩) d_31_80_36
def F_jStr_indexOf_II_1 (x2 : Int32) : Int32 := ((F_jStr_indexOf_III_1 x2 (0 : Int32)) : Int32)
set_option maxRecDepth 100000 in
set_option maxHeartbeats 4000000 in
theorem X_jStr_indexOf_II_1 (l : Launch) (D : va_G) (g : Nat → ClassId) (q : Nat → Nat) (ws : va_W) (x2 : Int32) (hI : q_I (nsh g q) q ws) : q_mI l y_jStr_indexOf_II prog_31_method_79_code 2 (.int) 4 0 0 D g [.ref (g (8 + 2 * 1)), .int x2] ws (fun r u => ws = u ∧ (0 ≤ r.toInt + 1) ∧ (r.toInt ≤ 16) ∧ r = (F_jStr_indexOf_II_1 x2)) := by
  intro sz
  refine q_into (by decide) (Nat.le_of_ble_eq_true rfl) ?_
  intro p e s m below meth c ls hsz C0 V hl
  have hx := C0.1
  have hb := C0.2.1
  have hl : lv_has ls 2 [(0, .ref (g (8 + 2 * 1))), (1, .int x2)] := hl
  refine lv_aload_n hx hb d_31_79_0 rfl (lv_at hl 0 rfl) ?_
  refine lv_iload_n hx hb d_31_79_1 rfl (lv_at hl 1 rfl) ?_
  refine lv_iconst (v := 0) hx hb d_31_79_2 (by decide) ?_
  refine q_goi V (q_runVs (As := [.int x2, .int 0]) (rest := []) (d := 3) (mc := 0) (ms := 0) (i := 1) C0 V rfl LV_jStr_633 (X_jStr_indexOf_III_1 l D g q ws  x2 0 hI  (by have y0 : (0 : Int32).toInt = 0 := rfl; omega) _) rfl rfl rfl hl.1 rfl (Nat.le_of_ble_eq_true rfl) ⟨by decide, by decide⟩ ⟨Nat.le_of_ble_eq_true rfl, Nat.le_of_ble_eq_true rfl⟩ d_31_79_3) (fun a3 u1 H locs hp2 V => ?_)
  obtain ⟨rfl, b4, b5, hE6⟩ := hp2
  have e7 : a3 = (F_jStr_indexOf_III_1 x2 (0 : Int32)) := hE6
  replace b4 : q_F (0 ≤ a3.toInt + 1) := b4
  replace b5 : q_F (a3.toInt ≤ 16) := b5
  exact q_reti C0 V (⟨rfl, (show 0 ≤ a3.toInt + 1 from (by first | with_reducible exact q_fe b4 | (have t1 : 0 ≤ a3.toInt + 1 := b4; omega))), (show a3.toInt ≤ 16 from (by first | with_reducible exact q_fe b5 | (have t1 : a3.toInt ≤ 16 := b5; omega))), (show a3 = (F_jStr_indexOf_II_1 x2) from (by rw [e7, F_jStr_indexOf_II_1.eq_1]))⟩) d_31_79_6
def F_Dir_isOneOf_1 (t0_0 : Int32) (t0_1 : Int32) (t0_2 : Int32) (t0_3 : Int32) (t0_4 : Int32) (t0_5 : Int32) (t0_6 : Int32) : Int32 := if t0_4 < (0 : Int32) then ((0 : Int32)) else (if ((F_jStr_indexOf_II_1 ((t0_4.toUInt32 % 65536).toInt32 : Int32)) : Int32) < (0 : Int32) then ((0 : Int32)) else ((1 : Int32)))
set_option maxRecDepth 100000 in
set_option maxHeartbeats 4000000 in
theorem X_Dir_isOneOf_1 (l : Launch) (D : va_G) (g : Nat → ClassId) (q : Nat → Nat) (ws : va_W) (hI : q_I (nsh g q) q ws) (t0_0 : Int32) (t0_1 : Int32) (t0_2 : Int32) (t0_3 : Int32) (t0_4 : Int32) (t0_5 : Int32) (t0_6 : Int32) (hT0 : ws[47]? = (some (q 47, .inr (10, [.int t0_0, .int t0_1, .int t0_2, .int t0_3, .int t0_4, .int t0_5, .ref (q 1), .int t0_6])) : Option (Nat × va_E))) : q_mI l y_Dir_isOneOf prog_6_method_9_code 2 (.boolean) 5 0 0 D g [.ref (q 47), .ref (g (8 + 2 * 1))] ws (fun r u => ws = u ∧ (0 ≤ r.toInt) ∧ (r.toInt ≤ 1) ∧ r = (F_Dir_isOneOf_1 t0_0 t0_1 t0_2 t0_3 t0_4 t0_5 t0_6)) := by
  intro sz
  refine q_into (by decide) (Nat.le_of_ble_eq_true rfl) ?_
  intro p e s m below meth c ls hsz C0 V hl
  have hx := C0.1
  have hb := C0.2.1
  have hZ9 := (n_w47 hI hT0).2
  obtain ⟨-, btt0_6⟩ := hZ9
  clear btt0_6
  have hl : lv_has ls 2 [(0, .ref (q 47)), (1, .ref (g (8 + 2 * 1)))] := hl
  refine lv_aload_n hx hb d_6_9_0 rfl (lv_at hl 0 rfl) ?_
  refine q_get (ci := 10) (j := 4) (v := .int t0_4) C0 V i_Dir rfl rfl hT0 (by decide) w_361 rfl d_6_9_1 ?_
  refine lv_if_lt (tgt := 23) hx hb d_6_9_4 (by decide) (fun c12 => ?_) (fun c12 => ?_)
  ·
    refine lv_iconst (v := 0) hx hb d_6_9_23 (by decide) ?_
    exact q_retz C0 V (by decide) (⟨rfl, (show 0 ≤ (0 : Int32).toInt from (by have z7 : (0 : Int32).toInt = 0 := rfl; omega)), (show (0 : Int32).toInt ≤ 1 from (by have z7 : (0 : Int32).toInt = 0 := rfl; omega)), (show (0 : Int32) = (F_Dir_isOneOf_1 t0_0 t0_1 t0_2 t0_3 t0_4 t0_5 t0_6) from (by rw [F_Dir_isOneOf_1.eq_1, if_pos c12]))⟩) d_6_9_24
  ·
    refine lv_aload_n hx hb d_6_9_7 rfl (lv_at hl 1 rfl) ?_
    refine lv_aload_n hx hb d_6_9_8 rfl (lv_at hl 0 rfl) ?_
    refine q_get (ci := 10) (j := 4) (v := .int t0_4) C0 V i_Dir rfl rfl hT0 (by decide) w_361 rfl d_6_9_9 ?_
    refine lv_i2c hx hb d_6_9_12 rfl ?_
    obtain ⟨a15, e16⟩ := q_nm ((t0_4.toUInt32 % 65536).toInt32 : Int32)
    refine q_ti (v := a15) e16 ?_
    refine q_goi V (q_runVs (As := [.int a15]) (rest := []) (d := 4) (mc := 0) (ms := 0) (i := 1) C0 V rfl LV_Dir_63 (X_jStr_indexOf_II_1 l D g q ws  a15 hI   _) rfl rfl rfl hl.1 rfl (Nat.le_of_ble_eq_true rfl) ⟨by decide, by decide⟩ ⟨Nat.le_of_ble_eq_true rfl, Nat.le_of_ble_eq_true rfl⟩ d_6_9_13) (fun a20 u18 H locs hp19 V => ?_)
    obtain ⟨rfl, b21, b22, hE23⟩ := hp19
    have e24 : a20 = (F_jStr_indexOf_II_1 a15) := hE23
    clear b21
    clear b22
    refine lv_if_lt (tgt := 23) hx hb d_6_9_16 (by decide) (fun c25 => ?_) (fun c25 => ?_)
    ·
      refine lv_iconst (v := 0) hx hb d_6_9_23 (by decide) ?_
      exact q_retz C0 V (by decide) (⟨rfl, (show 0 ≤ (0 : Int32).toInt from (by have z7 : (0 : Int32).toInt = 0 := rfl; omega)), (show (0 : Int32).toInt ≤ 1 from (by have z7 : (0 : Int32).toInt = 0 := rfl; omega)), (show (0 : Int32) = (F_Dir_isOneOf_1 t0_0 t0_1 t0_2 t0_3 t0_4 t0_5 t0_6) from (by have c25x := c25; rw [e24, ← e16] at c25x; rw [F_Dir_isOneOf_1.eq_1, if_neg c12, if_pos c25x]))⟩) d_6_9_24
    ·
      refine lv_iconst (v := 1) hx hb d_6_9_19 (by decide) ?_
      refine lv_goto (tgt := 24) hx hb d_6_9_20 (by decide) ?_
      exact q_retz C0 V (by decide) (⟨rfl, (show 0 ≤ (1 : Int32).toInt from (by have z7 : (1 : Int32).toInt = 1 := rfl; omega)), (show (1 : Int32).toInt ≤ 1 from (by have z7 : (1 : Int32).toInt = 1 := rfl; omega)), (show (1 : Int32) = (F_Dir_isOneOf_1 t0_0 t0_1 t0_2 t0_3 t0_4 t0_5 t0_6) from (by have c25x := c25; rw [e24, ← e16] at c25x; rw [F_Dir_isOneOf_1.eq_1, if_neg c12, if_neg c25x]))⟩) d_6_9_24
def F_jLat_indexOfChar_2_L7 (x2 : Int32) (x3 : Int32) (x4 : Int32) (a1 : Int32) : Nat → Int32 → Int32
  | 0, _ => default
  | fm + 1, lx4 => if x4 ≤ lx4 then ((-1 : Int32)) else (if ((([99, 67, 100, 111, 120, 88, 37] : List Int32).getD lx4.toNatClampNeg 0) : Int32) = a1 then (lx4) else (F_jLat_indexOfChar_2_L7 x2 x3 x4 a1 fm (lx4 + 1 : Int32)))
def F_jLat_indexOfChar_2 (x2 : Int32) (x3 : Int32) (x4 : Int32) : Int32 := F_jLat_indexOfChar_2_L7 x2 x3 x4 (x2.toInt8.toInt32 : Int32) ((7 - x3.toInt).toNat + 1) x3
set_option maxRecDepth 100000 in
set_option maxHeartbeats 4000000 in
theorem X_jLat_indexOfChar_2 (l : Launch) (D : va_G) (g : Nat → ClassId) (q : Nat → Nat) (ws : va_W) (x2 : Int32) (x3 : Int32) (x4 : Int32) (hI : q_I (nsh g q) q ws) (pre0 : 0 ≤ x3.toInt) (pre1 : x4.toInt ≤ 7) : q_mI l y_jLat_indexOfChar prog_33_method_23_code 6 (.int) 1 0 0 D g [.ref (g (9 + 2 * 2)), .int x2, .int x3, .int x4] ws (fun r u => ws = u ∧ (0 ≤ r.toInt + 1) ∧ (r.toInt ≤ 6) ∧ r = (F_jLat_indexOfChar_2 x2 x3 x4)) := by
  intro sz
  refine q_into (by decide) (Nat.le_of_ble_eq_true rfl) ?_
  intro p e s m below meth c ls hsz C0 V hl
  have hx := C0.1
  have hb := C0.2.1
  replace pre0 : q_F (0 ≤ x3.toInt) := pre0
  replace pre1 : q_F (x4.toInt ≤ 7) := pre1
  have hl : lv_has ls 6 [(0, .ref (g (9 + 2 * 2))), (1, .int x2), (2, .int x3), (3, .int x4)] := hl
  refine lv_iload_n hx hb d_33_23_0 rfl (lv_at hl 1 rfl) ?_
  refine lv_i2b hx hb d_33_23_1 rfl ?_
  obtain ⟨a1, e2⟩ := q_nm (x2.toInt8.toInt32 : Int32)
  refine q_ti (v := a1) e2 ?_
  refine lv_istore (lv' := [(4, .int a1), (0, .ref (g (9 + 2 * 2))), (1, .int x2), (2, .int x3), (3, .int x4)]) hx hb d_33_23_2 hl (by decide) rfl (fun ls hl => ?_)
  refine lv_iload_n hx hb d_33_23_4 rfl (lv_at hl 3 rfl) ?_
  refine lv_istore (lv' := [(5, .int x3), (4, .int a1), (0, .ref (g (9 + 2 * 2))), (1, .int x2), (2, .int x3), (3, .int x4)]) hx hb d_33_23_5 hl (by decide) rfl (fun ls hl => ?_)
  refine q_loop (X := Int32) (fun z H locs ls _ => q_F (x3.toInt ≤ z.toInt) ∧ q_Wd D g (va_A ws sz) s ws H locs ∧ lv_has ls 6 [(5, .int z), (4, .int a1), (0, .ref (g (9 + 2 * 2))), (3, .int x4)] ∧ (∃ n, (7 - z.toInt).toNat < n ∧ F_jLat_indexOfChar_2_L7 x2 x3 x4 a1 n z = (F_jLat_indexOfChar_2 x2 x3 x4))) (fun z => (7 - z.toInt).toNat) ?_ ((x3 : Int32)) _ _ _ ws ⟨(show q_F (x3.toInt ≤ x3.toInt) from (show x3.toInt ≤ x3.toInt from by omega)), V, q_lw hl (q_lw1 0 rfl (q_lw1 1 rfl (q_lw1 2 rfl (q_lw1 5 rfl q_lw0)))), ⟨((7 - x3.toInt).toNat + 1), Nat.lt_succ_self _, (show F_jLat_indexOfChar_2_L7 x2 x3 x4 a1 ((7 - x3.toInt).toNat + 1) x3 = (F_jLat_indexOfChar_2 x2 x3 x4) from (by rw [← e2, F_jLat_indexOfChar_2.eq_1]))⟩⟩
  rintro lx4 H locs ls _ ⟨i5, V, hl, ⟨fu9, hf10, hR7⟩⟩ ih6
  obtain ⟨fm11, rfl⟩ : ∃ m, fu9 = m + 1 := ⟨fu9 - 1, by omega⟩
  replace i5 : q_F (x3.toInt ≤ lx4.toInt) := i5
  replace hl : lv_has ls 6 [(5, .int lx4), (4, .int a1), (0, .ref (g (9 + 2 * 2))), (3, .int x4)] := hl
  refine lv_iload hx hb d_33_23_7 (lv_at hl 0 rfl) ?_
  refine lv_iload_n hx hb d_33_23_9 rfl (lv_at hl 3 rfl) ?_
  refine lv_icmp_ge (tgt := 31) hx hb d_33_23_10 (by decide) (fun c12 => ?_) (fun c12 => ?_)
  ·
    refine lv_iconst (v := (-1)) hx hb d_33_23_31 (by decide) ?_
    exact q_reti C0 V (⟨rfl, (show 0 ≤ (-1 : Int32).toInt + 1 from (by have z3 : (-1 : Int32).toInt = -1 := rfl; omega)), (show (-1 : Int32).toInt ≤ 6 from (by have z3 : (-1 : Int32).toInt = -1 := rfl; omega)), (show (-1 : Int32) = (F_jLat_indexOfChar_2 x2 x3 x4) from Eq.trans (by rw [F_jLat_indexOfChar_2_L7.eq_2, if_pos c12]) hR7)⟩) d_33_23_32
  ·
    have b14 : q_F (lx4.toInt < x4.toInt) := (q_nleI c12)
    refine lv_aload_n hx hb d_33_23_13 rfl (lv_at hl 2 rfl) ?_
    refine lv_iload hx hb d_33_23_14 (lv_at hl 0 rfl) ?_
    refine q_sbal (i := 2) (v := (([99, 67, 100, 111, 120, 88, 37] : List Int32).getD lx4.toNatClampNeg 0)) C0 V rfl (show vp_in lx4 7 from q_ix (x := lx4.toInt) rfl (by have t1 : 0 ≤ x3.toInt := pre0; have t2 : x3.toInt ≤ lx4.toInt := i5; omega) (by have t1 : 0 ≤ x3.toInt := pre0; have t2 : x3.toInt ≤ lx4.toInt := i5; have t3 : x4.toInt ≤ 7 := pre1; have t4 : lx4.toInt < x4.toInt := b14; omega)) rfl d_33_23_16 ?_
    obtain ⟨a15, e16⟩ := q_nm ((([99, 67, 100, 111, 120, 88, 37] : List Int32).getD lx4.toNatClampNeg 0) : Int32)
    refine q_ti (v := a15) e16 ?_
    refine lv_iload hx hb d_33_23_17 (lv_at hl 1 rfl) ?_
    refine lv_icmp_ne (tgt := 25) hx hb d_33_23_19 (by decide) (fun c17 => ?_) (fun c17 => ?_)
    ·
      obtain ⟨a19, e20⟩ := q_nm (lx4 + 1 : Int32)
      have b21 : q_F (a19.toInt = lx4.toInt + 1) := (by rw [← e20]; exact q_addI (y := 1) rfl (by decide) (by have _ := q_lo32 (x := lx4); have _ := q_hi32 (x := lx4); have t1 : lx4.toInt < x4.toInt := b14; have _ := q_lo32 (x := x4); have _ := q_hi32 (x := x4); omega) (by have _ := q_lo32 (x := lx4); have _ := q_hi32 (x := lx4); have t1 : lx4.toInt < x4.toInt := b14; have _ := q_lo32 (x := x4); have _ := q_hi32 (x := x4); omega))
      refine lv_iinc (v := a19) (lv' := [(5, .int a19), (4, .int a1), (0, .ref (g (9 + 2 * 2))), (3, .int x4)]) hx hb d_33_23_25 hl (k := 0) rfl (e20) (by decide) rfl (fun ls hl => ?_)
      refine lv_goto (tgt := 7) hx hb d_33_23_28 (by decide) ?_
      exact ih6 ((a19 : Int32)) _ _ _ ws (show (7 - a19.toInt).toNat < (7 - lx4.toInt).toNat from by have t1 : a19.toInt = lx4.toInt + 1 := b21; have t2 : x4.toInt ≤ 7 := pre1; have t3 : lx4.toInt < x4.toInt := b14; omega) ⟨(show q_F (x3.toInt ≤ a19.toInt) from (show x3.toInt ≤ a19.toInt from by have t1 : x3.toInt ≤ lx4.toInt := i5; have t2 : a19.toInt = lx4.toInt + 1 := b21; omega)), V, q_lw hl (q_lw1 0 rfl (q_lw1 1 rfl (q_lw1 2 rfl (q_lw1 3 rfl q_lw0)))), ⟨fm11, Nat.lt_of_lt_of_le (show (7 - a19.toInt).toNat < (7 - lx4.toInt).toNat from by have t1 : a19.toInt = lx4.toInt + 1 := b21; have t2 : x4.toInt ≤ 7 := pre1; have t3 : lx4.toInt < x4.toInt := b14; omega) (Nat.le_of_lt_succ hf10), (show F_jLat_indexOfChar_2_L7 x2 x3 x4 a1 fm11 a19 = (F_jLat_indexOfChar_2 x2 x3 x4) from Eq.trans (by have c17x := c17; rw [← e16] at c17x; rw [← e20, F_jLat_indexOfChar_2_L7.eq_2, if_neg c12, if_neg c17x]) hR7)⟩⟩
    ·
      refine lv_iload hx hb d_33_23_22 (lv_at hl 0 rfl) ?_
      exact q_reti C0 V (⟨rfl, (show 0 ≤ lx4.toInt + 1 from (by have t1 : 0 ≤ x3.toInt := pre0; have t2 : x3.toInt ≤ lx4.toInt := i5; omega)), (show lx4.toInt ≤ 6 from (by have t1 : x4.toInt ≤ 7 := pre1; have t2 : lx4.toInt < x4.toInt := b14; omega)), (show lx4 = (F_jLat_indexOfChar_2 x2 x3 x4) from Eq.trans (by have c17x := c17; rw [← e16] at c17x; rw [F_jLat_indexOfChar_2_L7.eq_2, if_neg c12, if_pos c17x]) hR7)⟩) d_33_23_24
def F_jLat_indexOf_2 (x2 : Int32) (x3 : Int32) (x4 : Int32) : Int32 := if ((F_jLat_canEncode x2) : Int32) = (0 : Int32) then ((-1 : Int32)) else (if (if x3 < 0 then 0 else x3 : Int32) < (if 7 < x4 then 7 else x4 : Int32) then (((F_jLat_indexOfChar_2 x2 (if x3 < 0 then 0 else x3 : Int32) (if 7 < x4 then 7 else x4 : Int32)) : Int32)) else ((-1 : Int32)))
set_option maxRecDepth 100000 in
set_option maxHeartbeats 4000000 in
theorem X_jLat_indexOf_2 (l : Launch) (D : va_G) (g : Nat → ClassId) (q : Nat → Nat) (ws : va_W) (x2 : Int32) (x3 : Int32) (x4 : Int32) (hI : q_I (nsh g q) q ws) (pre0 : 0 ≤ x3.toInt) (pre1 : x4.toInt ≤ 7) : q_mI l y_jLat_indexOf prog_33_method_22_code 4 (.int) 2 0 0 D g [.ref (g (9 + 2 * 2)), .int x2, .int x3, .int x4] ws (fun r u => ws = u ∧ (0 ≤ r.toInt + 1) ∧ (r.toInt ≤ 6) ∧ r = (F_jLat_indexOf_2 x2 x3 x4)) := by
  intro sz
  refine q_into (by decide) (Nat.le_of_ble_eq_true rfl) ?_
  intro p e s m below meth c ls hsz C0 V hl
  have hx := C0.1
  have hb := C0.2.1
  clear pre0
  clear pre1
  have hl : lv_has ls 4 [(0, .ref (g (9 + 2 * 2))), (1, .int x2), (2, .int x3), (3, .int x4)] := hl
  refine lv_iload_n hx hb d_33_22_0 rfl (lv_at hl 1 rfl) ?_
  refine q_goi V (q_runS (As := [.int x2]) (rest := []) (d := 1) (mc := 0) (ms := 0) C0 V rfl LS_jLat_88 (X_jLat_canEncode l D g q ws  x2 hI   _) rfl hl.1 rfl (Nat.le_of_ble_eq_true rfl) ⟨by decide, by decide⟩ ⟨Nat.le_of_ble_eq_true rfl, Nat.le_of_ble_eq_true rfl⟩ d_33_22_1) (fun a3 u1 H locs hp2 V => ?_)
  obtain ⟨rfl, b4, b5, hE6⟩ := hp2
  have e7 : a3 = (F_jLat_canEncode x2) := hE6
  clear b4
  clear b5
  refine lv_if_ne (tgt := 9) hx hb d_33_22_4 (by decide) (fun c8 => ?_) (fun c8 => ?_)
  ·
    refine lv_iload_n hx hb d_33_22_9 rfl (lv_at hl 2 rfl) ?_
    refine lv_iconst (v := 0) hx hb d_33_22_10 (by decide) ?_
    refine q_max C0 hl.1 rfl w_1773 w_803 w_7 w_804 ⟨Nat.le_of_ble_eq_true rfl, Nat.le_of_ble_eq_true rfl⟩ ⟨Nat.le_of_ble_eq_true rfl, Nat.le_of_ble_eq_true rfl⟩ d_33_22_11 ?_
    obtain ⟨a10, e11⟩ := q_nm (if x3 < 0 then 0 else x3 : Int32)
    refine q_ti (v := a10) e11 ?_
    have b12 : q_F (x3.toInt ≤ a10.toInt ∧ 0 ≤ a10.toInt ∧ (a10.toInt = x3.toInt ∨ a10.toInt = 0)) := (by rw [← e11]; show x3.toInt ≤ (if x3 < 0 then 0 else x3 : Int32).toInt ∧ 0 ≤ (if x3 < 0 then 0 else x3 : Int32).toInt ∧ ((if x3 < 0 then 0 else x3 : Int32).toInt = x3.toInt ∨ (if x3 < 0 then 0 else x3 : Int32).toInt = 0); exact (by have y1 : (0 : Int32).toInt = 0 := rfl; have z := s_max (a := x3) (b := 0); omega))
    refine lv_istore_n (lv' := [(2, .int a10), (0, .ref (g (9 + 2 * 2))), (1, .int x2), (3, .int x4)]) hx hb d_33_22_14 rfl hl (by decide) rfl (fun ls hl => ?_)
    refine lv_iload_n hx hb d_33_22_15 rfl (lv_at hl 3 rfl) ?_
    refine lv_aload_n hx hb d_33_22_16 rfl (lv_at hl 1 rfl) ?_
    refine q_slen (i := 2) (v := 7) C0 V rfl (by decide) d_33_22_17 ?_
    refine q_min C0 hl.1 rfl w_1774 w_774 w_7 w_775 ⟨Nat.le_of_ble_eq_true rfl, Nat.le_of_ble_eq_true rfl⟩ ⟨Nat.le_of_ble_eq_true rfl, Nat.le_of_ble_eq_true rfl⟩ d_33_22_18 ?_
    obtain ⟨a13, e14⟩ := q_nm (if 7 < x4 then 7 else x4 : Int32)
    refine q_ti (v := a13) e14 ?_
    have b15 : q_F (a13.toInt ≤ x4.toInt ∧ a13.toInt ≤ 7 ∧ (a13.toInt = x4.toInt ∨ a13.toInt = 7)) := (by rw [← e14]; show (if 7 < x4 then 7 else x4 : Int32).toInt ≤ x4.toInt ∧ (if 7 < x4 then 7 else x4 : Int32).toInt ≤ 7 ∧ ((if 7 < x4 then 7 else x4 : Int32).toInt = x4.toInt ∨ (if 7 < x4 then 7 else x4 : Int32).toInt = 7); exact (by have y1 : (7 : Int32).toInt = 7 := rfl; have z := s_min (a := x4) (b := 7); omega))
    refine lv_istore_n (lv' := [(3, .int a13), (2, .int a10), (0, .ref (g (9 + 2 * 2))), (1, .int x2)]) hx hb d_33_22_21 rfl hl (by decide) rfl (fun ls hl => ?_)
    refine lv_iload_n hx hb d_33_22_22 rfl (lv_at hl 1 rfl) ?_
    refine lv_iload_n hx hb d_33_22_23 rfl (lv_at hl 0 rfl) ?_
    refine lv_icmp_lt (tgt := 29) hx hb d_33_22_24 (by decide) (fun c16 => ?_) (fun c16 => ?_)
    ·
      refine lv_aload_n hx hb d_33_22_29 rfl (lv_at hl 2 rfl) ?_
      refine lv_iload_n hx hb d_33_22_30 rfl (lv_at hl 3 rfl) ?_
      refine lv_iload_n hx hb d_33_22_31 rfl (lv_at hl 1 rfl) ?_
      refine lv_iload_n hx hb d_33_22_32 rfl (lv_at hl 0 rfl) ?_
      refine q_goi V (q_runS (As := [.ref (g (9 + 2 * 2)), .int x2, .int a10, .int a13]) (rest := []) (d := 1) (mc := 0) (ms := 0) C0 V rfl LS_jLat_95 (X_jLat_indexOfChar_2 l D g q ws  x2 a10 a13 hI  (by have t1 : x3.toInt ≤ a10.toInt ∧ 0 ≤ a10.toInt ∧ (a10.toInt = x3.toInt ∨ a10.toInt = 0) := b12; omega) (by have t1 : a13.toInt ≤ x4.toInt ∧ a13.toInt ≤ 7 ∧ (a13.toInt = x4.toInt ∨ a13.toInt = 7) := b15; omega) _) rfl hl.1 rfl (Nat.le_of_ble_eq_true rfl) ⟨by decide, by decide⟩ ⟨Nat.le_of_ble_eq_true rfl, Nat.le_of_ble_eq_true rfl⟩ d_33_22_33) (fun a20 u18 H locs hp19 V => ?_)
      obtain ⟨rfl, b21, b22, hE23⟩ := hp19
      have e24 : a20 = (F_jLat_indexOfChar_2 x2 a10 a13) := hE23
      replace b21 : q_F (0 ≤ a20.toInt + 1) := b21
      replace b22 : q_F (a20.toInt ≤ 6) := b22
      exact q_reti C0 V (⟨rfl, (show 0 ≤ a20.toInt + 1 from (by first | with_reducible exact q_fe b21 | (have t1 : 0 ≤ a20.toInt + 1 := b21; omega))), (show a20.toInt ≤ 6 from (by first | with_reducible exact q_fe b22 | (have t1 : a20.toInt ≤ 6 := b22; omega))), (show a20 = (F_jLat_indexOf_2 x2 x3 x4) from (by have c8x := c8; rw [e7] at c8x; have c16x := c16; rw [← e14, ← e11] at c16x; rw [e24, ← e14, ← e11, F_jLat_indexOf_2.eq_1, if_neg c8x, if_pos c16x]))⟩) d_33_22_36
    ·
      refine lv_iconst (v := (-1)) hx hb d_33_22_27 (by decide) ?_
      exact q_reti C0 V (⟨rfl, (show 0 ≤ (-1 : Int32).toInt + 1 from (by have z3 : (-1 : Int32).toInt = -1 := rfl; omega)), (show (-1 : Int32).toInt ≤ 6 from (by have z3 : (-1 : Int32).toInt = -1 := rfl; omega)), (show (-1 : Int32) = (F_jLat_indexOf_2 x2 x3 x4) from (by have c8x := c8; rw [e7] at c8x; have c16x := c16; rw [← e14, ← e11] at c16x; rw [F_jLat_indexOf_2.eq_1, if_neg c8x, if_neg c16x]))⟩) d_33_22_28
  ·
    refine lv_iconst (v := (-1)) hx hb d_33_22_7 (by decide) ?_
    exact q_reti C0 V (⟨rfl, (show 0 ≤ (-1 : Int32).toInt + 1 from (by have z3 : (-1 : Int32).toInt = -1 := rfl; omega)), (show (-1 : Int32).toInt ≤ 6 from (by have z3 : (-1 : Int32).toInt = -1 := rfl; omega)), (show (-1 : Int32) = (F_jLat_indexOf_2 x2 x3 x4) from (by have c8x := c8; rw [e7] at c8x; rw [F_jLat_indexOf_2.eq_1, if_pos c8x]))⟩) d_33_22_8
def F_jStr_indexOf_III_2 (x2 : Int32) (x3 : Int32) : Int32 := ((F_jLat_indexOf_2 x2 x3 (7 : Int32)) : Int32)
set_option maxRecDepth 100000 in
set_option maxHeartbeats 4000000 in
theorem X_jStr_indexOf_III_2 (l : Launch) (D : va_G) (g : Nat → ClassId) (q : Nat → Nat) (ws : va_W) (x2 : Int32) (x3 : Int32) (hI : q_I (nsh g q) q ws) (pre0 : 0 ≤ x3.toInt) : q_mI l y_jStr_indexOf_III prog_31_method_80_code 3 (.int) 3 0 0 D g [.ref (g (8 + 2 * 2)), .int x2, .int x3] ws (fun r u => ws = u ∧ (0 ≤ r.toInt + 1) ∧ (r.toInt ≤ 6) ∧ r = (F_jStr_indexOf_III_2 x2 x3)) := by
  intro sz
  refine q_into (by decide) (Nat.le_of_ble_eq_true rfl) ?_
  intro p e s m below meth c ls hsz C0 V hl
  have hx := C0.1
  have hb := C0.2.1
  replace pre0 : q_F (0 ≤ x3.toInt) := pre0
  have hl : lv_has ls 3 [(0, .ref (g (8 + 2 * 2))), (1, .int x2), (2, .int x3)] := hl
  refine lv_aload_n hx hb d_31_80_0 rfl (lv_at hl 0 rfl) ?_
  refine q_goi V (q_runVs (As := []) (rest := []) (d := 1) (mc := 0) (ms := 0) (i := 2) C0 V rfl LV_jStr_492 (T_jStr_isLatin1_2 l D g q ws   hI   _) rfl rfl rfl hl.1 rfl (Nat.le_of_ble_eq_true rfl) ⟨by decide, by decide⟩ ⟨Nat.le_of_ble_eq_true rfl, Nat.le_of_ble_eq_true rfl⟩ d_31_80_1) (fun a3 u1 H locs hp2 V => ?_)
  obtain ⟨rfl, b4, b5⟩ := hp2
  replace b4 : q_F (1 ≤ a3.toInt) := b4
  replace b5 : q_F (a3.toInt ≤ 1) := b5
  obtain rfl : a3 = (1 : Int32) := q_Ieq (x := a3.toInt) (y := 1) rfl (by decide) (by have t1 : 1 ≤ a3.toInt := b4; have t2 : a3.toInt ≤ 1 := b5; omega)
  refine lv_if_eq (tgt := 23) hx hb d_31_80_4 (by decide) (fun c7 => absurd c7 (by decide)) (fun c7 => ?_)
  refine lv_aload_n hx hb d_31_80_7 rfl (lv_at hl 0 rfl) ?_
  refine q_sval (i := 2) C0 V rfl rfl w_1018 d_31_80_8 ?_
  refine lv_iload_n hx hb d_31_80_11 rfl (lv_at hl 1 rfl) ?_
  refine lv_iload_n hx hb d_31_80_12 rfl (lv_at hl 2 rfl) ?_
  refine lv_aload_n hx hb d_31_80_13 rfl (lv_at hl 0 rfl) ?_
  refine q_goi V (q_runVs (As := []) (rest := [.int x3, .int x2, .ref (g (9 + 2 * 2))]) (d := 2) (mc := 0) (ms := 0) (i := 2) C0 V rfl LV_jStr_505 (T_jStr_length_2 l D g q ws   hI   _) rfl rfl rfl hl.1 rfl (Nat.le_of_ble_eq_true rfl) ⟨by decide, by decide⟩ ⟨Nat.le_of_ble_eq_true rfl, Nat.le_of_ble_eq_true rfl⟩ d_31_80_14) (fun a10 u8 H locs hp9 V => ?_)
  obtain ⟨rfl, b11, b12⟩ := hp9
  replace b11 : q_F (7 ≤ a10.toInt) := b11
  replace b12 : q_F (a10.toInt ≤ 7) := b12
  obtain rfl : a10 = (7 : Int32) := q_Ieq (x := a10.toInt) (y := 7) rfl (by decide) (by have t1 : 7 ≤ a10.toInt := b11; have t2 : a10.toInt ≤ 7 := b12; omega)
  refine q_goi V (q_runS (As := [.ref (g (9 + 2 * 2)), .int x2, .int x3, .int 7]) (rest := []) (d := 2) (mc := 0) (ms := 0) C0 V rfl LS_jStr_637 (X_jLat_indexOf_2 l D g q ws  x2 x3 7 hI  (by have y0 : (7 : Int32).toInt = 7 := rfl; have t1 : 0 ≤ x3.toInt := pre0; omega) (by have y0 : (7 : Int32).toInt = 7 := rfl; omega) _) rfl hl.1 rfl (Nat.le_of_ble_eq_true rfl) ⟨by decide, by decide⟩ ⟨Nat.le_of_ble_eq_true rfl, Nat.le_of_ble_eq_true rfl⟩ d_31_80_17) (fun a16 u14 H locs hp15 V => ?_)
  obtain ⟨rfl, b17, b18, hE19⟩ := hp15
  have e20 : a16 = (F_jLat_indexOf_2 x2 x3 (7 : Int32)) := hE19
  replace b17 : q_F (0 ≤ a16.toInt + 1) := b17
  replace b18 : q_F (a16.toInt ≤ 6) := b18
  refine lv_goto (tgt := 36) hx hb d_31_80_20 (by decide) ?_
  exact q_reti C0 V (⟨rfl, (show 0 ≤ a16.toInt + 1 from (by first | with_reducible exact q_fe b17 | (have t1 : 0 ≤ a16.toInt + 1 := b17; omega))), (show a16.toInt ≤ 6 from (by first | with_reducible exact q_fe b18 | (have t1 : a16.toInt ≤ 6 := b18; omega))), (show a16 = (F_jStr_indexOf_III_2 x2 x3) from (by rw [e20, F_jStr_indexOf_III_2.eq_1]))⟩) d_31_80_36
def F_jStr_indexOf_II_2 (x2 : Int32) : Int32 := ((F_jStr_indexOf_III_2 x2 (0 : Int32)) : Int32)
set_option maxRecDepth 100000 in
set_option maxHeartbeats 4000000 in
theorem X_jStr_indexOf_II_2 (l : Launch) (D : va_G) (g : Nat → ClassId) (q : Nat → Nat) (ws : va_W) (x2 : Int32) (hI : q_I (nsh g q) q ws) : q_mI l y_jStr_indexOf_II prog_31_method_79_code 2 (.int) 4 0 0 D g [.ref (g (8 + 2 * 2)), .int x2] ws (fun r u => ws = u ∧ (0 ≤ r.toInt + 1) ∧ (r.toInt ≤ 6) ∧ r = (F_jStr_indexOf_II_2 x2)) := by
  intro sz
  refine q_into (by decide) (Nat.le_of_ble_eq_true rfl) ?_
  intro p e s m below meth c ls hsz C0 V hl
  have hx := C0.1
  have hb := C0.2.1
  have hl : lv_has ls 2 [(0, .ref (g (8 + 2 * 2))), (1, .int x2)] := hl
  refine lv_aload_n hx hb d_31_79_0 rfl (lv_at hl 0 rfl) ?_
  refine lv_iload_n hx hb d_31_79_1 rfl (lv_at hl 1 rfl) ?_
  refine lv_iconst (v := 0) hx hb d_31_79_2 (by decide) ?_
  refine q_goi V (q_runVs (As := [.int x2, .int 0]) (rest := []) (d := 3) (mc := 0) (ms := 0) (i := 2) C0 V rfl LV_jStr_633 (X_jStr_indexOf_III_2 l D g q ws  x2 0 hI  (by have y0 : (0 : Int32).toInt = 0 := rfl; omega) _) rfl rfl rfl hl.1 rfl (Nat.le_of_ble_eq_true rfl) ⟨by decide, by decide⟩ ⟨Nat.le_of_ble_eq_true rfl, Nat.le_of_ble_eq_true rfl⟩ d_31_79_3) (fun a3 u1 H locs hp2 V => ?_)
  obtain ⟨rfl, b4, b5, hE6⟩ := hp2
  have e7 : a3 = (F_jStr_indexOf_III_2 x2 (0 : Int32)) := hE6
  replace b4 : q_F (0 ≤ a3.toInt + 1) := b4
  replace b5 : q_F (a3.toInt ≤ 6) := b5
  exact q_reti C0 V (⟨rfl, (show 0 ≤ a3.toInt + 1 from (by first | with_reducible exact q_fe b4 | (have t1 : 0 ≤ a3.toInt + 1 := b4; omega))), (show a3.toInt ≤ 6 from (by first | with_reducible exact q_fe b5 | (have t1 : a3.toInt ≤ 6 := b5; omega))), (show a3 = (F_jStr_indexOf_II_2 x2) from (by rw [e7, F_jStr_indexOf_II_2.eq_1]))⟩) d_31_79_6
def F_Dir_isOneOf_2 (t0_0 : Int32) (t0_1 : Int32) (t0_2 : Int32) (t0_3 : Int32) (t0_4 : Int32) (t0_5 : Int32) (t0_6 : Int32) : Int32 := if t0_4 < (0 : Int32) then ((0 : Int32)) else (if ((F_jStr_indexOf_II_2 ((t0_4.toUInt32 % 65536).toInt32 : Int32)) : Int32) < (0 : Int32) then ((0 : Int32)) else ((1 : Int32)))
set_option maxRecDepth 100000 in
set_option maxHeartbeats 4000000 in
theorem X_Dir_isOneOf_2 (l : Launch) (D : va_G) (g : Nat → ClassId) (q : Nat → Nat) (ws : va_W) (hI : q_I (nsh g q) q ws) (t0_0 : Int32) (t0_1 : Int32) (t0_2 : Int32) (t0_3 : Int32) (t0_4 : Int32) (t0_5 : Int32) (t0_6 : Int32) (hT0 : ws[47]? = (some (q 47, .inr (10, [.int t0_0, .int t0_1, .int t0_2, .int t0_3, .int t0_4, .int t0_5, .ref (q 1), .int t0_6])) : Option (Nat × va_E))) : q_mI l y_Dir_isOneOf prog_6_method_9_code 2 (.boolean) 5 0 0 D g [.ref (q 47), .ref (g (8 + 2 * 2))] ws (fun r u => ws = u ∧ (0 ≤ r.toInt) ∧ (r.toInt ≤ 1) ∧ r = (F_Dir_isOneOf_2 t0_0 t0_1 t0_2 t0_3 t0_4 t0_5 t0_6)) := by
  intro sz
  refine q_into (by decide) (Nat.le_of_ble_eq_true rfl) ?_
  intro p e s m below meth c ls hsz C0 V hl
  have hx := C0.1
  have hb := C0.2.1
  have hZ9 := (n_w47 hI hT0).2
  obtain ⟨-, btt0_6⟩ := hZ9
  clear btt0_6
  have hl : lv_has ls 2 [(0, .ref (q 47)), (1, .ref (g (8 + 2 * 2)))] := hl
  refine lv_aload_n hx hb d_6_9_0 rfl (lv_at hl 0 rfl) ?_
  refine q_get (ci := 10) (j := 4) (v := .int t0_4) C0 V i_Dir rfl rfl hT0 (by decide) w_361 rfl d_6_9_1 ?_
  refine lv_if_lt (tgt := 23) hx hb d_6_9_4 (by decide) (fun c12 => ?_) (fun c12 => ?_)
  ·
    refine lv_iconst (v := 0) hx hb d_6_9_23 (by decide) ?_
    exact q_retz C0 V (by decide) (⟨rfl, (show 0 ≤ (0 : Int32).toInt from (by have z7 : (0 : Int32).toInt = 0 := rfl; omega)), (show (0 : Int32).toInt ≤ 1 from (by have z7 : (0 : Int32).toInt = 0 := rfl; omega)), (show (0 : Int32) = (F_Dir_isOneOf_2 t0_0 t0_1 t0_2 t0_3 t0_4 t0_5 t0_6) from (by rw [F_Dir_isOneOf_2.eq_1, if_pos c12]))⟩) d_6_9_24
  ·
    refine lv_aload_n hx hb d_6_9_7 rfl (lv_at hl 1 rfl) ?_
    refine lv_aload_n hx hb d_6_9_8 rfl (lv_at hl 0 rfl) ?_
    refine q_get (ci := 10) (j := 4) (v := .int t0_4) C0 V i_Dir rfl rfl hT0 (by decide) w_361 rfl d_6_9_9 ?_
    refine lv_i2c hx hb d_6_9_12 rfl ?_
    obtain ⟨a15, e16⟩ := q_nm ((t0_4.toUInt32 % 65536).toInt32 : Int32)
    refine q_ti (v := a15) e16 ?_
    refine q_goi V (q_runVs (As := [.int a15]) (rest := []) (d := 4) (mc := 0) (ms := 0) (i := 2) C0 V rfl LV_Dir_63 (X_jStr_indexOf_II_2 l D g q ws  a15 hI   _) rfl rfl rfl hl.1 rfl (Nat.le_of_ble_eq_true rfl) ⟨by decide, by decide⟩ ⟨Nat.le_of_ble_eq_true rfl, Nat.le_of_ble_eq_true rfl⟩ d_6_9_13) (fun a20 u18 H locs hp19 V => ?_)
    obtain ⟨rfl, b21, b22, hE23⟩ := hp19
    have e24 : a20 = (F_jStr_indexOf_II_2 a15) := hE23
    clear b21
    clear b22
    refine lv_if_lt (tgt := 23) hx hb d_6_9_16 (by decide) (fun c25 => ?_) (fun c25 => ?_)
    ·
      refine lv_iconst (v := 0) hx hb d_6_9_23 (by decide) ?_
      exact q_retz C0 V (by decide) (⟨rfl, (show 0 ≤ (0 : Int32).toInt from (by have z7 : (0 : Int32).toInt = 0 := rfl; omega)), (show (0 : Int32).toInt ≤ 1 from (by have z7 : (0 : Int32).toInt = 0 := rfl; omega)), (show (0 : Int32) = (F_Dir_isOneOf_2 t0_0 t0_1 t0_2 t0_3 t0_4 t0_5 t0_6) from (by have c25x := c25; rw [e24, ← e16] at c25x; rw [F_Dir_isOneOf_2.eq_1, if_neg c12, if_pos c25x]))⟩) d_6_9_24
    ·
      refine lv_iconst (v := 1) hx hb d_6_9_19 (by decide) ?_
      refine lv_goto (tgt := 24) hx hb d_6_9_20 (by decide) ?_
      exact q_retz C0 V (by decide) (⟨rfl, (show 0 ≤ (1 : Int32).toInt from (by have z7 : (1 : Int32).toInt = 1 := rfl; omega)), (show (1 : Int32).toInt ≤ 1 from (by have z7 : (1 : Int32).toInt = 1 := rfl; omega)), (show (1 : Int32) = (F_Dir_isOneOf_2 t0_0 t0_1 t0_2 t0_3 t0_4 t0_5 t0_6) from (by have c25x := c25; rw [e24, ← e16] at c25x; rw [F_Dir_isOneOf_2.eq_1, if_neg c12, if_neg c25x]))⟩) d_6_9_24
def F_jLat_indexOfChar_3_L7 (x2 : Int32) (x3 : Int32) (x4 : Int32) (a1 : Int32) : Nat → Int32 → Int32
  | 0, _ => default
  | fm + 1, lx4 => if x4 ≤ lx4 then ((-1 : Int32)) else (if ((([98, 66, 115, 83, 99, 67, 37] : List Int32).getD lx4.toNatClampNeg 0) : Int32) = a1 then (lx4) else (F_jLat_indexOfChar_3_L7 x2 x3 x4 a1 fm (lx4 + 1 : Int32)))
def F_jLat_indexOfChar_3 (x2 : Int32) (x3 : Int32) (x4 : Int32) : Int32 := F_jLat_indexOfChar_3_L7 x2 x3 x4 (x2.toInt8.toInt32 : Int32) ((7 - x3.toInt).toNat + 1) x3
set_option maxRecDepth 100000 in
set_option maxHeartbeats 4000000 in
theorem X_jLat_indexOfChar_3 (l : Launch) (D : va_G) (g : Nat → ClassId) (q : Nat → Nat) (ws : va_W) (x2 : Int32) (x3 : Int32) (x4 : Int32) (hI : q_I (nsh g q) q ws) (pre0 : 0 ≤ x3.toInt) (pre1 : x4.toInt ≤ 7) : q_mI l y_jLat_indexOfChar prog_33_method_23_code 6 (.int) 1 0 0 D g [.ref (g (9 + 2 * 3)), .int x2, .int x3, .int x4] ws (fun r u => ws = u ∧ (0 ≤ r.toInt + 1) ∧ (r.toInt ≤ 6) ∧ r = (F_jLat_indexOfChar_3 x2 x3 x4)) := by
  intro sz
  refine q_into (by decide) (Nat.le_of_ble_eq_true rfl) ?_
  intro p e s m below meth c ls hsz C0 V hl
  have hx := C0.1
  have hb := C0.2.1
  replace pre0 : q_F (0 ≤ x3.toInt) := pre0
  replace pre1 : q_F (x4.toInt ≤ 7) := pre1
  have hl : lv_has ls 6 [(0, .ref (g (9 + 2 * 3))), (1, .int x2), (2, .int x3), (3, .int x4)] := hl
  refine lv_iload_n hx hb d_33_23_0 rfl (lv_at hl 1 rfl) ?_
  refine lv_i2b hx hb d_33_23_1 rfl ?_
  obtain ⟨a1, e2⟩ := q_nm (x2.toInt8.toInt32 : Int32)
  refine q_ti (v := a1) e2 ?_
  refine lv_istore (lv' := [(4, .int a1), (0, .ref (g (9 + 2 * 3))), (1, .int x2), (2, .int x3), (3, .int x4)]) hx hb d_33_23_2 hl (by decide) rfl (fun ls hl => ?_)
  refine lv_iload_n hx hb d_33_23_4 rfl (lv_at hl 3 rfl) ?_
  refine lv_istore (lv' := [(5, .int x3), (4, .int a1), (0, .ref (g (9 + 2 * 3))), (1, .int x2), (2, .int x3), (3, .int x4)]) hx hb d_33_23_5 hl (by decide) rfl (fun ls hl => ?_)
  refine q_loop (X := Int32) (fun z H locs ls _ => q_F (x3.toInt ≤ z.toInt) ∧ q_Wd D g (va_A ws sz) s ws H locs ∧ lv_has ls 6 [(5, .int z), (4, .int a1), (0, .ref (g (9 + 2 * 3))), (3, .int x4)] ∧ (∃ n, (7 - z.toInt).toNat < n ∧ F_jLat_indexOfChar_3_L7 x2 x3 x4 a1 n z = (F_jLat_indexOfChar_3 x2 x3 x4))) (fun z => (7 - z.toInt).toNat) ?_ ((x3 : Int32)) _ _ _ ws ⟨(show q_F (x3.toInt ≤ x3.toInt) from (show x3.toInt ≤ x3.toInt from by omega)), V, q_lw hl (q_lw1 0 rfl (q_lw1 1 rfl (q_lw1 2 rfl (q_lw1 5 rfl q_lw0)))), ⟨((7 - x3.toInt).toNat + 1), Nat.lt_succ_self _, (show F_jLat_indexOfChar_3_L7 x2 x3 x4 a1 ((7 - x3.toInt).toNat + 1) x3 = (F_jLat_indexOfChar_3 x2 x3 x4) from (by rw [← e2, F_jLat_indexOfChar_3.eq_1]))⟩⟩
  rintro lx4 H locs ls _ ⟨i5, V, hl, ⟨fu9, hf10, hR7⟩⟩ ih6
  obtain ⟨fm11, rfl⟩ : ∃ m, fu9 = m + 1 := ⟨fu9 - 1, by omega⟩
  replace i5 : q_F (x3.toInt ≤ lx4.toInt) := i5
  replace hl : lv_has ls 6 [(5, .int lx4), (4, .int a1), (0, .ref (g (9 + 2 * 3))), (3, .int x4)] := hl
  refine lv_iload hx hb d_33_23_7 (lv_at hl 0 rfl) ?_
  refine lv_iload_n hx hb d_33_23_9 rfl (lv_at hl 3 rfl) ?_
  refine lv_icmp_ge (tgt := 31) hx hb d_33_23_10 (by decide) (fun c12 => ?_) (fun c12 => ?_)
  ·
    refine lv_iconst (v := (-1)) hx hb d_33_23_31 (by decide) ?_
    exact q_reti C0 V (⟨rfl, (show 0 ≤ (-1 : Int32).toInt + 1 from (by have z3 : (-1 : Int32).toInt = -1 := rfl; omega)), (show (-1 : Int32).toInt ≤ 6 from (by have z3 : (-1 : Int32).toInt = -1 := rfl; omega)), (show (-1 : Int32) = (F_jLat_indexOfChar_3 x2 x3 x4) from Eq.trans (by rw [F_jLat_indexOfChar_3_L7.eq_2, if_pos c12]) hR7)⟩) d_33_23_32
  ·
    have b14 : q_F (lx4.toInt < x4.toInt) := (q_nleI c12)
    refine lv_aload_n hx hb d_33_23_13 rfl (lv_at hl 2 rfl) ?_
    refine lv_iload hx hb d_33_23_14 (lv_at hl 0 rfl) ?_
    refine q_sbal (i := 3) (v := (([98, 66, 115, 83, 99, 67, 37] : List Int32).getD lx4.toNatClampNeg 0)) C0 V rfl (show vp_in lx4 7 from q_ix (x := lx4.toInt) rfl (by have t1 : 0 ≤ x3.toInt := pre0; have t2 : x3.toInt ≤ lx4.toInt := i5; omega) (by have t1 : 0 ≤ x3.toInt := pre0; have t2 : x3.toInt ≤ lx4.toInt := i5; have t3 : x4.toInt ≤ 7 := pre1; have t4 : lx4.toInt < x4.toInt := b14; omega)) rfl d_33_23_16 ?_
    obtain ⟨a15, e16⟩ := q_nm ((([98, 66, 115, 83, 99, 67, 37] : List Int32).getD lx4.toNatClampNeg 0) : Int32)
    refine q_ti (v := a15) e16 ?_
    refine lv_iload hx hb d_33_23_17 (lv_at hl 1 rfl) ?_
    refine lv_icmp_ne (tgt := 25) hx hb d_33_23_19 (by decide) (fun c17 => ?_) (fun c17 => ?_)
    ·
      obtain ⟨a19, e20⟩ := q_nm (lx4 + 1 : Int32)
      have b21 : q_F (a19.toInt = lx4.toInt + 1) := (by rw [← e20]; exact q_addI (y := 1) rfl (by decide) (by have _ := q_lo32 (x := lx4); have _ := q_hi32 (x := lx4); have t1 : lx4.toInt < x4.toInt := b14; have _ := q_lo32 (x := x4); have _ := q_hi32 (x := x4); omega) (by have _ := q_lo32 (x := lx4); have _ := q_hi32 (x := lx4); have t1 : lx4.toInt < x4.toInt := b14; have _ := q_lo32 (x := x4); have _ := q_hi32 (x := x4); omega))
      refine lv_iinc (v := a19) (lv' := [(5, .int a19), (4, .int a1), (0, .ref (g (9 + 2 * 3))), (3, .int x4)]) hx hb d_33_23_25 hl (k := 0) rfl (e20) (by decide) rfl (fun ls hl => ?_)
      refine lv_goto (tgt := 7) hx hb d_33_23_28 (by decide) ?_
      exact ih6 ((a19 : Int32)) _ _ _ ws (show (7 - a19.toInt).toNat < (7 - lx4.toInt).toNat from by have t1 : a19.toInt = lx4.toInt + 1 := b21; have t2 : x4.toInt ≤ 7 := pre1; have t3 : lx4.toInt < x4.toInt := b14; omega) ⟨(show q_F (x3.toInt ≤ a19.toInt) from (show x3.toInt ≤ a19.toInt from by have t1 : x3.toInt ≤ lx4.toInt := i5; have t2 : a19.toInt = lx4.toInt + 1 := b21; omega)), V, q_lw hl (q_lw1 0 rfl (q_lw1 1 rfl (q_lw1 2 rfl (q_lw1 3 rfl q_lw0)))), ⟨fm11, Nat.lt_of_lt_of_le (show (7 - a19.toInt).toNat < (7 - lx4.toInt).toNat from by have t1 : a19.toInt = lx4.toInt + 1 := b21; have t2 : x4.toInt ≤ 7 := pre1; have t3 : lx4.toInt < x4.toInt := b14; omega) (Nat.le_of_lt_succ hf10), (show F_jLat_indexOfChar_3_L7 x2 x3 x4 a1 fm11 a19 = (F_jLat_indexOfChar_3 x2 x3 x4) from Eq.trans (by have c17x := c17; rw [← e16] at c17x; rw [← e20, F_jLat_indexOfChar_3_L7.eq_2, if_neg c12, if_neg c17x]) hR7)⟩⟩
    ·
      refine lv_iload hx hb d_33_23_22 (lv_at hl 0 rfl) ?_
      exact q_reti C0 V (⟨rfl, (show 0 ≤ lx4.toInt + 1 from (by have t1 : 0 ≤ x3.toInt := pre0; have t2 : x3.toInt ≤ lx4.toInt := i5; omega)), (show lx4.toInt ≤ 6 from (by have t1 : x4.toInt ≤ 7 := pre1; have t2 : lx4.toInt < x4.toInt := b14; omega)), (show lx4 = (F_jLat_indexOfChar_3 x2 x3 x4) from Eq.trans (by have c17x := c17; rw [← e16] at c17x; rw [F_jLat_indexOfChar_3_L7.eq_2, if_neg c12, if_pos c17x]) hR7)⟩) d_33_23_24
def F_jLat_indexOf_3 (x2 : Int32) (x3 : Int32) (x4 : Int32) : Int32 := if ((F_jLat_canEncode x2) : Int32) = (0 : Int32) then ((-1 : Int32)) else (if (if x3 < 0 then 0 else x3 : Int32) < (if 7 < x4 then 7 else x4 : Int32) then (((F_jLat_indexOfChar_3 x2 (if x3 < 0 then 0 else x3 : Int32) (if 7 < x4 then 7 else x4 : Int32)) : Int32)) else ((-1 : Int32)))
set_option maxRecDepth 100000 in
set_option maxHeartbeats 4000000 in
theorem X_jLat_indexOf_3 (l : Launch) (D : va_G) (g : Nat → ClassId) (q : Nat → Nat) (ws : va_W) (x2 : Int32) (x3 : Int32) (x4 : Int32) (hI : q_I (nsh g q) q ws) (pre0 : 0 ≤ x3.toInt) (pre1 : x4.toInt ≤ 7) : q_mI l y_jLat_indexOf prog_33_method_22_code 4 (.int) 2 0 0 D g [.ref (g (9 + 2 * 3)), .int x2, .int x3, .int x4] ws (fun r u => ws = u ∧ (0 ≤ r.toInt + 1) ∧ (r.toInt ≤ 6) ∧ r = (F_jLat_indexOf_3 x2 x3 x4)) := by
  intro sz
  refine q_into (by decide) (Nat.le_of_ble_eq_true rfl) ?_
  intro p e s m below meth c ls hsz C0 V hl
  have hx := C0.1
  have hb := C0.2.1
  clear pre0
  clear pre1
  have hl : lv_has ls 4 [(0, .ref (g (9 + 2 * 3))), (1, .int x2), (2, .int x3), (3, .int x4)] := hl
  refine lv_iload_n hx hb d_33_22_0 rfl (lv_at hl 1 rfl) ?_
  refine q_goi V (q_runS (As := [.int x2]) (rest := []) (d := 1) (mc := 0) (ms := 0) C0 V rfl LS_jLat_88 (X_jLat_canEncode l D g q ws  x2 hI   _) rfl hl.1 rfl (Nat.le_of_ble_eq_true rfl) ⟨by decide, by decide⟩ ⟨Nat.le_of_ble_eq_true rfl, Nat.le_of_ble_eq_true rfl⟩ d_33_22_1) (fun a3 u1 H locs hp2 V => ?_)
  obtain ⟨rfl, b4, b5, hE6⟩ := hp2
  have e7 : a3 = (F_jLat_canEncode x2) := hE6
  clear b4
  clear b5
  refine lv_if_ne (tgt := 9) hx hb d_33_22_4 (by decide) (fun c8 => ?_) (fun c8 => ?_)
  ·
    refine lv_iload_n hx hb d_33_22_9 rfl (lv_at hl 2 rfl) ?_
    refine lv_iconst (v := 0) hx hb d_33_22_10 (by decide) ?_
    refine q_max C0 hl.1 rfl w_1773 w_803 w_7 w_804 ⟨Nat.le_of_ble_eq_true rfl, Nat.le_of_ble_eq_true rfl⟩ ⟨Nat.le_of_ble_eq_true rfl, Nat.le_of_ble_eq_true rfl⟩ d_33_22_11 ?_
    obtain ⟨a10, e11⟩ := q_nm (if x3 < 0 then 0 else x3 : Int32)
    refine q_ti (v := a10) e11 ?_
    have b12 : q_F (x3.toInt ≤ a10.toInt ∧ 0 ≤ a10.toInt ∧ (a10.toInt = x3.toInt ∨ a10.toInt = 0)) := (by rw [← e11]; show x3.toInt ≤ (if x3 < 0 then 0 else x3 : Int32).toInt ∧ 0 ≤ (if x3 < 0 then 0 else x3 : Int32).toInt ∧ ((if x3 < 0 then 0 else x3 : Int32).toInt = x3.toInt ∨ (if x3 < 0 then 0 else x3 : Int32).toInt = 0); exact (by have y1 : (0 : Int32).toInt = 0 := rfl; have z := s_max (a := x3) (b := 0); omega))
    refine lv_istore_n (lv' := [(2, .int a10), (0, .ref (g (9 + 2 * 3))), (1, .int x2), (3, .int x4)]) hx hb d_33_22_14 rfl hl (by decide) rfl (fun ls hl => ?_)
    refine lv_iload_n hx hb d_33_22_15 rfl (lv_at hl 3 rfl) ?_
    refine lv_aload_n hx hb d_33_22_16 rfl (lv_at hl 1 rfl) ?_
    refine q_slen (i := 3) (v := 7) C0 V rfl (by decide) d_33_22_17 ?_
    refine q_min C0 hl.1 rfl w_1774 w_774 w_7 w_775 ⟨Nat.le_of_ble_eq_true rfl, Nat.le_of_ble_eq_true rfl⟩ ⟨Nat.le_of_ble_eq_true rfl, Nat.le_of_ble_eq_true rfl⟩ d_33_22_18 ?_
    obtain ⟨a13, e14⟩ := q_nm (if 7 < x4 then 7 else x4 : Int32)
    refine q_ti (v := a13) e14 ?_
    have b15 : q_F (a13.toInt ≤ x4.toInt ∧ a13.toInt ≤ 7 ∧ (a13.toInt = x4.toInt ∨ a13.toInt = 7)) := (by rw [← e14]; show (if 7 < x4 then 7 else x4 : Int32).toInt ≤ x4.toInt ∧ (if 7 < x4 then 7 else x4 : Int32).toInt ≤ 7 ∧ ((if 7 < x4 then 7 else x4 : Int32).toInt = x4.toInt ∨ (if 7 < x4 then 7 else x4 : Int32).toInt = 7); exact (by have y1 : (7 : Int32).toInt = 7 := rfl; have z := s_min (a := x4) (b := 7); omega))
    refine lv_istore_n (lv' := [(3, .int a13), (2, .int a10), (0, .ref (g (9 + 2 * 3))), (1, .int x2)]) hx hb d_33_22_21 rfl hl (by decide) rfl (fun ls hl => ?_)
    refine lv_iload_n hx hb d_33_22_22 rfl (lv_at hl 1 rfl) ?_
    refine lv_iload_n hx hb d_33_22_23 rfl (lv_at hl 0 rfl) ?_
    refine lv_icmp_lt (tgt := 29) hx hb d_33_22_24 (by decide) (fun c16 => ?_) (fun c16 => ?_)
    ·
      refine lv_aload_n hx hb d_33_22_29 rfl (lv_at hl 2 rfl) ?_
      refine lv_iload_n hx hb d_33_22_30 rfl (lv_at hl 3 rfl) ?_
      refine lv_iload_n hx hb d_33_22_31 rfl (lv_at hl 1 rfl) ?_
      refine lv_iload_n hx hb d_33_22_32 rfl (lv_at hl 0 rfl) ?_
      refine q_goi V (q_runS (As := [.ref (g (9 + 2 * 3)), .int x2, .int a10, .int a13]) (rest := []) (d := 1) (mc := 0) (ms := 0) C0 V rfl LS_jLat_95 (X_jLat_indexOfChar_3 l D g q ws  x2 a10 a13 hI  (by have t1 : x3.toInt ≤ a10.toInt ∧ 0 ≤ a10.toInt ∧ (a10.toInt = x3.toInt ∨ a10.toInt = 0) := b12; omega) (by have t1 : a13.toInt ≤ x4.toInt ∧ a13.toInt ≤ 7 ∧ (a13.toInt = x4.toInt ∨ a13.toInt = 7) := b15; omega) _) rfl hl.1 rfl (Nat.le_of_ble_eq_true rfl) ⟨by decide, by decide⟩ ⟨Nat.le_of_ble_eq_true rfl, Nat.le_of_ble_eq_true rfl⟩ d_33_22_33) (fun a20 u18 H locs hp19 V => ?_)
      obtain ⟨rfl, b21, b22, hE23⟩ := hp19
      have e24 : a20 = (F_jLat_indexOfChar_3 x2 a10 a13) := hE23
      replace b21 : q_F (0 ≤ a20.toInt + 1) := b21
      replace b22 : q_F (a20.toInt ≤ 6) := b22
      exact q_reti C0 V (⟨rfl, (show 0 ≤ a20.toInt + 1 from (by first | with_reducible exact q_fe b21 | (have t1 : 0 ≤ a20.toInt + 1 := b21; omega))), (show a20.toInt ≤ 6 from (by first | with_reducible exact q_fe b22 | (have t1 : a20.toInt ≤ 6 := b22; omega))), (show a20 = (F_jLat_indexOf_3 x2 x3 x4) from (by have c8x := c8; rw [e7] at c8x; have c16x := c16; rw [← e14, ← e11] at c16x; rw [e24, ← e14, ← e11, F_jLat_indexOf_3.eq_1, if_neg c8x, if_pos c16x]))⟩) d_33_22_36
    ·
      refine lv_iconst (v := (-1)) hx hb d_33_22_27 (by decide) ?_
      exact q_reti C0 V (⟨rfl, (show 0 ≤ (-1 : Int32).toInt + 1 from (by have z3 : (-1 : Int32).toInt = -1 := rfl; omega)), (show (-1 : Int32).toInt ≤ 6 from (by have z3 : (-1 : Int32).toInt = -1 := rfl; omega)), (show (-1 : Int32) = (F_jLat_indexOf_3 x2 x3 x4) from (by have c8x := c8; rw [e7] at c8x; have c16x := c16; rw [← e14, ← e11] at c16x; rw [F_jLat_indexOf_3.eq_1, if_neg c8x, if_neg c16x]))⟩) d_33_22_28
  ·
    refine lv_iconst (v := (-1)) hx hb d_33_22_7 (by decide) ?_
    exact q_reti C0 V (⟨rfl, (show 0 ≤ (-1 : Int32).toInt + 1 from (by have z3 : (-1 : Int32).toInt = -1 := rfl; omega)), (show (-1 : Int32).toInt ≤ 6 from (by have z3 : (-1 : Int32).toInt = -1 := rfl; omega)), (show (-1 : Int32) = (F_jLat_indexOf_3 x2 x3 x4) from (by have c8x := c8; rw [e7] at c8x; rw [F_jLat_indexOf_3.eq_1, if_pos c8x]))⟩) d_33_22_8
def F_jStr_indexOf_III_3 (x2 : Int32) (x3 : Int32) : Int32 := ((F_jLat_indexOf_3 x2 x3 (7 : Int32)) : Int32)
set_option maxRecDepth 100000 in
set_option maxHeartbeats 4000000 in
theorem X_jStr_indexOf_III_3 (l : Launch) (D : va_G) (g : Nat → ClassId) (q : Nat → Nat) (ws : va_W) (x2 : Int32) (x3 : Int32) (hI : q_I (nsh g q) q ws) (pre0 : 0 ≤ x3.toInt) : q_mI l y_jStr_indexOf_III prog_31_method_80_code 3 (.int) 3 0 0 D g [.ref (g (8 + 2 * 3)), .int x2, .int x3] ws (fun r u => ws = u ∧ (0 ≤ r.toInt + 1) ∧ (r.toInt ≤ 6) ∧ r = (F_jStr_indexOf_III_3 x2 x3)) := by
  intro sz
  refine q_into (by decide) (Nat.le_of_ble_eq_true rfl) ?_
  intro p e s m below meth c ls hsz C0 V hl
  have hx := C0.1
  have hb := C0.2.1
  replace pre0 : q_F (0 ≤ x3.toInt) := pre0
  have hl : lv_has ls 3 [(0, .ref (g (8 + 2 * 3))), (1, .int x2), (2, .int x3)] := hl
  refine lv_aload_n hx hb d_31_80_0 rfl (lv_at hl 0 rfl) ?_
  refine q_goi V (q_runVs (As := []) (rest := []) (d := 1) (mc := 0) (ms := 0) (i := 3) C0 V rfl LV_jStr_492 (T_jStr_isLatin1_3 l D g q ws   hI   _) rfl rfl rfl hl.1 rfl (Nat.le_of_ble_eq_true rfl) ⟨by decide, by decide⟩ ⟨Nat.le_of_ble_eq_true rfl, Nat.le_of_ble_eq_true rfl⟩ d_31_80_1) (fun a3 u1 H locs hp2 V => ?_)
  obtain ⟨rfl, b4, b5⟩ := hp2
  replace b4 : q_F (1 ≤ a3.toInt) := b4
  replace b5 : q_F (a3.toInt ≤ 1) := b5
  obtain rfl : a3 = (1 : Int32) := q_Ieq (x := a3.toInt) (y := 1) rfl (by decide) (by have t1 : 1 ≤ a3.toInt := b4; have t2 : a3.toInt ≤ 1 := b5; omega)
  refine lv_if_eq (tgt := 23) hx hb d_31_80_4 (by decide) (fun c7 => absurd c7 (by decide)) (fun c7 => ?_)
  refine lv_aload_n hx hb d_31_80_7 rfl (lv_at hl 0 rfl) ?_
  refine q_sval (i := 3) C0 V rfl rfl w_1018 d_31_80_8 ?_
  refine lv_iload_n hx hb d_31_80_11 rfl (lv_at hl 1 rfl) ?_
  refine lv_iload_n hx hb d_31_80_12 rfl (lv_at hl 2 rfl) ?_
  refine lv_aload_n hx hb d_31_80_13 rfl (lv_at hl 0 rfl) ?_
  refine q_goi V (q_runVs (As := []) (rest := [.int x3, .int x2, .ref (g (9 + 2 * 3))]) (d := 2) (mc := 0) (ms := 0) (i := 3) C0 V rfl LV_jStr_505 (T_jStr_length_3 l D g q ws   hI   _) rfl rfl rfl hl.1 rfl (Nat.le_of_ble_eq_true rfl) ⟨by decide, by decide⟩ ⟨Nat.le_of_ble_eq_true rfl, Nat.le_of_ble_eq_true rfl⟩ d_31_80_14) (fun a10 u8 H locs hp9 V => ?_)
  obtain ⟨rfl, b11, b12⟩ := hp9
  replace b11 : q_F (7 ≤ a10.toInt) := b11
  replace b12 : q_F (a10.toInt ≤ 7) := b12
  obtain rfl : a10 = (7 : Int32) := q_Ieq (x := a10.toInt) (y := 7) rfl (by decide) (by have t1 : 7 ≤ a10.toInt := b11; have t2 : a10.toInt ≤ 7 := b12; omega)
  refine q_goi V (q_runS (As := [.ref (g (9 + 2 * 3)), .int x2, .int x3, .int 7]) (rest := []) (d := 2) (mc := 0) (ms := 0) C0 V rfl LS_jStr_637 (X_jLat_indexOf_3 l D g q ws  x2 x3 7 hI  (by have y0 : (7 : Int32).toInt = 7 := rfl; have t1 : 0 ≤ x3.toInt := pre0; omega) (by have y0 : (7 : Int32).toInt = 7 := rfl; omega) _) rfl hl.1 rfl (Nat.le_of_ble_eq_true rfl) ⟨by decide, by decide⟩ ⟨Nat.le_of_ble_eq_true rfl, Nat.le_of_ble_eq_true rfl⟩ d_31_80_17) (fun a16 u14 H locs hp15 V => ?_)
  obtain ⟨rfl, b17, b18, hE19⟩ := hp15
  have e20 : a16 = (F_jLat_indexOf_3 x2 x3 (7 : Int32)) := hE19
  replace b17 : q_F (0 ≤ a16.toInt + 1) := b17
  replace b18 : q_F (a16.toInt ≤ 6) := b18
  refine lv_goto (tgt := 36) hx hb d_31_80_20 (by decide) ?_
  exact q_reti C0 V (⟨rfl, (show 0 ≤ a16.toInt + 1 from (by first | with_reducible exact q_fe b17 | (have t1 : 0 ≤ a16.toInt + 1 := b17; omega))), (show a16.toInt ≤ 6 from (by first | with_reducible exact q_fe b18 | (have t1 : a16.toInt ≤ 6 := b18; omega))), (show a16 = (F_jStr_indexOf_III_3 x2 x3) from (by rw [e20, F_jStr_indexOf_III_3.eq_1]))⟩) d_31_80_36
def F_jStr_indexOf_II_3 (x2 : Int32) : Int32 := ((F_jStr_indexOf_III_3 x2 (0 : Int32)) : Int32)
set_option maxRecDepth 100000 in
set_option maxHeartbeats 4000000 in
theorem X_jStr_indexOf_II_3 (l : Launch) (D : va_G) (g : Nat → ClassId) (q : Nat → Nat) (ws : va_W) (x2 : Int32) (hI : q_I (nsh g q) q ws) : q_mI l y_jStr_indexOf_II prog_31_method_79_code 2 (.int) 4 0 0 D g [.ref (g (8 + 2 * 3)), .int x2] ws (fun r u => ws = u ∧ (0 ≤ r.toInt + 1) ∧ (r.toInt ≤ 6) ∧ r = (F_jStr_indexOf_II_3 x2)) := by
  intro sz
  refine q_into (by decide) (Nat.le_of_ble_eq_true rfl) ?_
  intro p e s m below meth c ls hsz C0 V hl
  have hx := C0.1
  have hb := C0.2.1
  have hl : lv_has ls 2 [(0, .ref (g (8 + 2 * 3))), (1, .int x2)] := hl
  refine lv_aload_n hx hb d_31_79_0 rfl (lv_at hl 0 rfl) ?_
  refine lv_iload_n hx hb d_31_79_1 rfl (lv_at hl 1 rfl) ?_
  refine lv_iconst (v := 0) hx hb d_31_79_2 (by decide) ?_
  refine q_goi V (q_runVs (As := [.int x2, .int 0]) (rest := []) (d := 3) (mc := 0) (ms := 0) (i := 3) C0 V rfl LV_jStr_633 (X_jStr_indexOf_III_3 l D g q ws  x2 0 hI  (by have y0 : (0 : Int32).toInt = 0 := rfl; omega) _) rfl rfl rfl hl.1 rfl (Nat.le_of_ble_eq_true rfl) ⟨by decide, by decide⟩ ⟨Nat.le_of_ble_eq_true rfl, Nat.le_of_ble_eq_true rfl⟩ d_31_79_3) (fun a3 u1 H locs hp2 V => ?_)
  obtain ⟨rfl, b4, b5, hE6⟩ := hp2
  have e7 : a3 = (F_jStr_indexOf_III_3 x2 (0 : Int32)) := hE6
  replace b4 : q_F (0 ≤ a3.toInt + 1) := b4
  replace b5 : q_F (a3.toInt ≤ 6) := b5
  exact q_reti C0 V (⟨rfl, (show 0 ≤ a3.toInt + 1 from (by first | with_reducible exact q_fe b4 | (have t1 : 0 ≤ a3.toInt + 1 := b4; omega))), (show a3.toInt ≤ 6 from (by first | with_reducible exact q_fe b5 | (have t1 : a3.toInt ≤ 6 := b5; omega))), (show a3 = (F_jStr_indexOf_II_3 x2) from (by rw [e7, F_jStr_indexOf_II_3.eq_1]))⟩) d_31_79_6
def F_Dir_isOneOf_3 (t0_0 : Int32) (t0_1 : Int32) (t0_2 : Int32) (t0_3 : Int32) (t0_4 : Int32) (t0_5 : Int32) (t0_6 : Int32) : Int32 := if t0_4 < (0 : Int32) then ((0 : Int32)) else (if ((F_jStr_indexOf_II_3 ((t0_4.toUInt32 % 65536).toInt32 : Int32)) : Int32) < (0 : Int32) then ((0 : Int32)) else ((1 : Int32)))
set_option maxRecDepth 100000 in
set_option maxHeartbeats 4000000 in
theorem X_Dir_isOneOf_3 (l : Launch) (D : va_G) (g : Nat → ClassId) (q : Nat → Nat) (ws : va_W) (hI : q_I (nsh g q) q ws) (t0_0 : Int32) (t0_1 : Int32) (t0_2 : Int32) (t0_3 : Int32) (t0_4 : Int32) (t0_5 : Int32) (t0_6 : Int32) (hT0 : ws[47]? = (some (q 47, .inr (10, [.int t0_0, .int t0_1, .int t0_2, .int t0_3, .int t0_4, .int t0_5, .ref (q 1), .int t0_6])) : Option (Nat × va_E))) : q_mI l y_Dir_isOneOf prog_6_method_9_code 2 (.boolean) 5 0 0 D g [.ref (q 47), .ref (g (8 + 2 * 3))] ws (fun r u => ws = u ∧ (0 ≤ r.toInt) ∧ (r.toInt ≤ 1) ∧ r = (F_Dir_isOneOf_3 t0_0 t0_1 t0_2 t0_3 t0_4 t0_5 t0_6)) := by
  intro sz
  refine q_into (by decide) (Nat.le_of_ble_eq_true rfl) ?_
  intro p e s m below meth c ls hsz C0 V hl
  have hx := C0.1
  have hb := C0.2.1
  have hZ9 := (n_w47 hI hT0).2
  obtain ⟨-, btt0_6⟩ := hZ9
  clear btt0_6
  have hl : lv_has ls 2 [(0, .ref (q 47)), (1, .ref (g (8 + 2 * 3)))] := hl
  refine lv_aload_n hx hb d_6_9_0 rfl (lv_at hl 0 rfl) ?_
  refine q_get (ci := 10) (j := 4) (v := .int t0_4) C0 V i_Dir rfl rfl hT0 (by decide) w_361 rfl d_6_9_1 ?_
  refine lv_if_lt (tgt := 23) hx hb d_6_9_4 (by decide) (fun c12 => ?_) (fun c12 => ?_)
  ·
    refine lv_iconst (v := 0) hx hb d_6_9_23 (by decide) ?_
    exact q_retz C0 V (by decide) (⟨rfl, (show 0 ≤ (0 : Int32).toInt from (by have z7 : (0 : Int32).toInt = 0 := rfl; omega)), (show (0 : Int32).toInt ≤ 1 from (by have z7 : (0 : Int32).toInt = 0 := rfl; omega)), (show (0 : Int32) = (F_Dir_isOneOf_3 t0_0 t0_1 t0_2 t0_3 t0_4 t0_5 t0_6) from (by rw [F_Dir_isOneOf_3.eq_1, if_pos c12]))⟩) d_6_9_24
  ·
    refine lv_aload_n hx hb d_6_9_7 rfl (lv_at hl 1 rfl) ?_
    refine lv_aload_n hx hb d_6_9_8 rfl (lv_at hl 0 rfl) ?_
    refine q_get (ci := 10) (j := 4) (v := .int t0_4) C0 V i_Dir rfl rfl hT0 (by decide) w_361 rfl d_6_9_9 ?_
    refine lv_i2c hx hb d_6_9_12 rfl ?_
    obtain ⟨a15, e16⟩ := q_nm ((t0_4.toUInt32 % 65536).toInt32 : Int32)
    refine q_ti (v := a15) e16 ?_
    refine q_goi V (q_runVs (As := [.int a15]) (rest := []) (d := 4) (mc := 0) (ms := 0) (i := 3) C0 V rfl LV_Dir_63 (X_jStr_indexOf_II_3 l D g q ws  a15 hI   _) rfl rfl rfl hl.1 rfl (Nat.le_of_ble_eq_true rfl) ⟨by decide, by decide⟩ ⟨Nat.le_of_ble_eq_true rfl, Nat.le_of_ble_eq_true rfl⟩ d_6_9_13) (fun a20 u18 H locs hp19 V => ?_)
    obtain ⟨rfl, b21, b22, hE23⟩ := hp19
    have e24 : a20 = (F_jStr_indexOf_II_3 a15) := hE23
    clear b21
    clear b22
    refine lv_if_lt (tgt := 23) hx hb d_6_9_16 (by decide) (fun c25 => ?_) (fun c25 => ?_)
    ·
      refine lv_iconst (v := 0) hx hb d_6_9_23 (by decide) ?_
      exact q_retz C0 V (by decide) (⟨rfl, (show 0 ≤ (0 : Int32).toInt from (by have z7 : (0 : Int32).toInt = 0 := rfl; omega)), (show (0 : Int32).toInt ≤ 1 from (by have z7 : (0 : Int32).toInt = 0 := rfl; omega)), (show (0 : Int32) = (F_Dir_isOneOf_3 t0_0 t0_1 t0_2 t0_3 t0_4 t0_5 t0_6) from (by have c25x := c25; rw [e24, ← e16] at c25x; rw [F_Dir_isOneOf_3.eq_1, if_neg c12, if_pos c25x]))⟩) d_6_9_24
    ·
      refine lv_iconst (v := 1) hx hb d_6_9_19 (by decide) ?_
      refine lv_goto (tgt := 24) hx hb d_6_9_20 (by decide) ?_
      exact q_retz C0 V (by decide) (⟨rfl, (show 0 ≤ (1 : Int32).toInt from (by have z7 : (1 : Int32).toInt = 1 := rfl; omega)), (show (1 : Int32).toInt ≤ 1 from (by have z7 : (1 : Int32).toInt = 1 := rfl; omega)), (show (1 : Int32) = (F_Dir_isOneOf_3 t0_0 t0_1 t0_2 t0_3 t0_4 t0_5 t0_6) from (by have c25x := c25; rw [e24, ← e16] at c25x; rw [F_Dir_isOneOf_3.eq_1, if_neg c12, if_neg c25x]))⟩) d_6_9_24
def F_jLat_indexOfChar_4_L7 (x2 : Int32) (x3 : Int32) (x4 : Int32) (a1 : Int32) : Nat → Int32 → Int32
  | 0, _ => default
  | fm + 1, lx4 => if x4 ≤ lx4 then ((-1 : Int32)) else (if ((([111, 120, 88] : List Int32).getD lx4.toNatClampNeg 0) : Int32) = a1 then (lx4) else (F_jLat_indexOfChar_4_L7 x2 x3 x4 a1 fm (lx4 + 1 : Int32)))
def F_jLat_indexOfChar_4 (x2 : Int32) (x3 : Int32) (x4 : Int32) : Int32 := F_jLat_indexOfChar_4_L7 x2 x3 x4 (x2.toInt8.toInt32 : Int32) ((3 - x3.toInt).toNat + 1) x3
set_option maxRecDepth 100000 in
set_option maxHeartbeats 4000000 in
theorem X_jLat_indexOfChar_4 (l : Launch) (D : va_G) (g : Nat → ClassId) (q : Nat → Nat) (ws : va_W) (x2 : Int32) (x3 : Int32) (x4 : Int32) (hI : q_I (nsh g q) q ws) (pre0 : 0 ≤ x3.toInt) (pre1 : x4.toInt ≤ 3) : q_mI l y_jLat_indexOfChar prog_33_method_23_code 6 (.int) 1 0 0 D g [.ref (g (9 + 2 * 4)), .int x2, .int x3, .int x4] ws (fun r u => ws = u ∧ (0 ≤ r.toInt + 1) ∧ (r.toInt ≤ 2) ∧ r = (F_jLat_indexOfChar_4 x2 x3 x4)) := by
  intro sz
  refine q_into (by decide) (Nat.le_of_ble_eq_true rfl) ?_
  intro p e s m below meth c ls hsz C0 V hl
  have hx := C0.1
  have hb := C0.2.1
  replace pre0 : q_F (0 ≤ x3.toInt) := pre0
  replace pre1 : q_F (x4.toInt ≤ 3) := pre1
  have hl : lv_has ls 6 [(0, .ref (g (9 + 2 * 4))), (1, .int x2), (2, .int x3), (3, .int x4)] := hl
  refine lv_iload_n hx hb d_33_23_0 rfl (lv_at hl 1 rfl) ?_
  refine lv_i2b hx hb d_33_23_1 rfl ?_
  obtain ⟨a1, e2⟩ := q_nm (x2.toInt8.toInt32 : Int32)
  refine q_ti (v := a1) e2 ?_
  refine lv_istore (lv' := [(4, .int a1), (0, .ref (g (9 + 2 * 4))), (1, .int x2), (2, .int x3), (3, .int x4)]) hx hb d_33_23_2 hl (by decide) rfl (fun ls hl => ?_)
  refine lv_iload_n hx hb d_33_23_4 rfl (lv_at hl 3 rfl) ?_
  refine lv_istore (lv' := [(5, .int x3), (4, .int a1), (0, .ref (g (9 + 2 * 4))), (1, .int x2), (2, .int x3), (3, .int x4)]) hx hb d_33_23_5 hl (by decide) rfl (fun ls hl => ?_)
  refine q_loop (X := Int32) (fun z H locs ls _ => q_F (x3.toInt ≤ z.toInt) ∧ q_Wd D g (va_A ws sz) s ws H locs ∧ lv_has ls 6 [(5, .int z), (4, .int a1), (0, .ref (g (9 + 2 * 4))), (3, .int x4)] ∧ (∃ n, (3 - z.toInt).toNat < n ∧ F_jLat_indexOfChar_4_L7 x2 x3 x4 a1 n z = (F_jLat_indexOfChar_4 x2 x3 x4))) (fun z => (3 - z.toInt).toNat) ?_ ((x3 : Int32)) _ _ _ ws ⟨(show q_F (x3.toInt ≤ x3.toInt) from (show x3.toInt ≤ x3.toInt from by omega)), V, q_lw hl (q_lw1 0 rfl (q_lw1 1 rfl (q_lw1 2 rfl (q_lw1 5 rfl q_lw0)))), ⟨((3 - x3.toInt).toNat + 1), Nat.lt_succ_self _, (show F_jLat_indexOfChar_4_L7 x2 x3 x4 a1 ((3 - x3.toInt).toNat + 1) x3 = (F_jLat_indexOfChar_4 x2 x3 x4) from (by rw [← e2, F_jLat_indexOfChar_4.eq_1]))⟩⟩
  rintro lx4 H locs ls _ ⟨i5, V, hl, ⟨fu9, hf10, hR7⟩⟩ ih6
  obtain ⟨fm11, rfl⟩ : ∃ m, fu9 = m + 1 := ⟨fu9 - 1, by omega⟩
  replace i5 : q_F (x3.toInt ≤ lx4.toInt) := i5
  replace hl : lv_has ls 6 [(5, .int lx4), (4, .int a1), (0, .ref (g (9 + 2 * 4))), (3, .int x4)] := hl
  refine lv_iload hx hb d_33_23_7 (lv_at hl 0 rfl) ?_
  refine lv_iload_n hx hb d_33_23_9 rfl (lv_at hl 3 rfl) ?_
  refine lv_icmp_ge (tgt := 31) hx hb d_33_23_10 (by decide) (fun c12 => ?_) (fun c12 => ?_)
  ·
    refine lv_iconst (v := (-1)) hx hb d_33_23_31 (by decide) ?_
    exact q_reti C0 V (⟨rfl, (show 0 ≤ (-1 : Int32).toInt + 1 from (by have z3 : (-1 : Int32).toInt = -1 := rfl; omega)), (show (-1 : Int32).toInt ≤ 2 from (by have z3 : (-1 : Int32).toInt = -1 := rfl; omega)), (show (-1 : Int32) = (F_jLat_indexOfChar_4 x2 x3 x4) from Eq.trans (by rw [F_jLat_indexOfChar_4_L7.eq_2, if_pos c12]) hR7)⟩) d_33_23_32
  ·
    have b14 : q_F (lx4.toInt < x4.toInt) := (q_nleI c12)
    refine lv_aload_n hx hb d_33_23_13 rfl (lv_at hl 2 rfl) ?_
    refine lv_iload hx hb d_33_23_14 (lv_at hl 0 rfl) ?_
    refine q_sbal (i := 4) (v := (([111, 120, 88] : List Int32).getD lx4.toNatClampNeg 0)) C0 V rfl (show vp_in lx4 3 from q_ix (x := lx4.toInt) rfl (by have t1 : 0 ≤ x3.toInt := pre0; have t2 : x3.toInt ≤ lx4.toInt := i5; omega) (by have t1 : 0 ≤ x3.toInt := pre0; have t2 : x3.toInt ≤ lx4.toInt := i5; have t3 : x4.toInt ≤ 3 := pre1; have t4 : lx4.toInt < x4.toInt := b14; omega)) rfl d_33_23_16 ?_
    obtain ⟨a15, e16⟩ := q_nm ((([111, 120, 88] : List Int32).getD lx4.toNatClampNeg 0) : Int32)
    refine q_ti (v := a15) e16 ?_
    refine lv_iload hx hb d_33_23_17 (lv_at hl 1 rfl) ?_
    refine lv_icmp_ne (tgt := 25) hx hb d_33_23_19 (by decide) (fun c17 => ?_) (fun c17 => ?_)
    ·
      obtain ⟨a19, e20⟩ := q_nm (lx4 + 1 : Int32)
      have b21 : q_F (a19.toInt = lx4.toInt + 1) := (by rw [← e20]; exact q_addI (y := 1) rfl (by decide) (by have _ := q_lo32 (x := lx4); have _ := q_hi32 (x := lx4); have t1 : lx4.toInt < x4.toInt := b14; have _ := q_lo32 (x := x4); have _ := q_hi32 (x := x4); omega) (by have _ := q_lo32 (x := lx4); have _ := q_hi32 (x := lx4); have t1 : lx4.toInt < x4.toInt := b14; have _ := q_lo32 (x := x4); have _ := q_hi32 (x := x4); omega))
      refine lv_iinc (v := a19) (lv' := [(5, .int a19), (4, .int a1), (0, .ref (g (9 + 2 * 4))), (3, .int x4)]) hx hb d_33_23_25 hl (k := 0) rfl (e20) (by decide) rfl (fun ls hl => ?_)
      refine lv_goto (tgt := 7) hx hb d_33_23_28 (by decide) ?_
      exact ih6 ((a19 : Int32)) _ _ _ ws (show (3 - a19.toInt).toNat < (3 - lx4.toInt).toNat from by have t1 : a19.toInt = lx4.toInt + 1 := b21; have t2 : x4.toInt ≤ 3 := pre1; have t3 : lx4.toInt < x4.toInt := b14; omega) ⟨(show q_F (x3.toInt ≤ a19.toInt) from (show x3.toInt ≤ a19.toInt from by have t1 : x3.toInt ≤ lx4.toInt := i5; have t2 : a19.toInt = lx4.toInt + 1 := b21; omega)), V, q_lw hl (q_lw1 0 rfl (q_lw1 1 rfl (q_lw1 2 rfl (q_lw1 3 rfl q_lw0)))), ⟨fm11, Nat.lt_of_lt_of_le (show (3 - a19.toInt).toNat < (3 - lx4.toInt).toNat from by have t1 : a19.toInt = lx4.toInt + 1 := b21; have t2 : x4.toInt ≤ 3 := pre1; have t3 : lx4.toInt < x4.toInt := b14; omega) (Nat.le_of_lt_succ hf10), (show F_jLat_indexOfChar_4_L7 x2 x3 x4 a1 fm11 a19 = (F_jLat_indexOfChar_4 x2 x3 x4) from Eq.trans (by have c17x := c17; rw [← e16] at c17x; rw [← e20, F_jLat_indexOfChar_4_L7.eq_2, if_neg c12, if_neg c17x]) hR7)⟩⟩
    ·
      refine lv_iload hx hb d_33_23_22 (lv_at hl 0 rfl) ?_
      exact q_reti C0 V (⟨rfl, (show 0 ≤ lx4.toInt + 1 from (by have t1 : 0 ≤ x3.toInt := pre0; have t2 : x3.toInt ≤ lx4.toInt := i5; omega)), (show lx4.toInt ≤ 2 from (by have t1 : x4.toInt ≤ 3 := pre1; have t2 : lx4.toInt < x4.toInt := b14; omega)), (show lx4 = (F_jLat_indexOfChar_4 x2 x3 x4) from Eq.trans (by have c17x := c17; rw [← e16] at c17x; rw [F_jLat_indexOfChar_4_L7.eq_2, if_neg c12, if_pos c17x]) hR7)⟩) d_33_23_24
def F_jLat_indexOf_4 (x2 : Int32) (x3 : Int32) (x4 : Int32) : Int32 := if ((F_jLat_canEncode x2) : Int32) = (0 : Int32) then ((-1 : Int32)) else (if (if x3 < 0 then 0 else x3 : Int32) < (if 3 < x4 then 3 else x4 : Int32) then (((F_jLat_indexOfChar_4 x2 (if x3 < 0 then 0 else x3 : Int32) (if 3 < x4 then 3 else x4 : Int32)) : Int32)) else ((-1 : Int32)))
set_option maxRecDepth 100000 in
set_option maxHeartbeats 4000000 in
theorem X_jLat_indexOf_4 (l : Launch) (D : va_G) (g : Nat → ClassId) (q : Nat → Nat) (ws : va_W) (x2 : Int32) (x3 : Int32) (x4 : Int32) (hI : q_I (nsh g q) q ws) (pre0 : 0 ≤ x3.toInt) (pre1 : x4.toInt ≤ 3) : q_mI l y_jLat_indexOf prog_33_method_22_code 4 (.int) 2 0 0 D g [.ref (g (9 + 2 * 4)), .int x2, .int x3, .int x4] ws (fun r u => ws = u ∧ (0 ≤ r.toInt + 1) ∧ (r.toInt ≤ 2) ∧ r = (F_jLat_indexOf_4 x2 x3 x4)) := by
  intro sz
  refine q_into (by decide) (Nat.le_of_ble_eq_true rfl) ?_
  intro p e s m below meth c ls hsz C0 V hl
  have hx := C0.1
  have hb := C0.2.1
  clear pre0
  clear pre1
  have hl : lv_has ls 4 [(0, .ref (g (9 + 2 * 4))), (1, .int x2), (2, .int x3), (3, .int x4)] := hl
  refine lv_iload_n hx hb d_33_22_0 rfl (lv_at hl 1 rfl) ?_
  refine q_goi V (q_runS (As := [.int x2]) (rest := []) (d := 1) (mc := 0) (ms := 0) C0 V rfl LS_jLat_88 (X_jLat_canEncode l D g q ws  x2 hI   _) rfl hl.1 rfl (Nat.le_of_ble_eq_true rfl) ⟨by decide, by decide⟩ ⟨Nat.le_of_ble_eq_true rfl, Nat.le_of_ble_eq_true rfl⟩ d_33_22_1) (fun a3 u1 H locs hp2 V => ?_)
  obtain ⟨rfl, b4, b5, hE6⟩ := hp2
  have e7 : a3 = (F_jLat_canEncode x2) := hE6
  clear b4
  clear b5
  refine lv_if_ne (tgt := 9) hx hb d_33_22_4 (by decide) (fun c8 => ?_) (fun c8 => ?_)
  ·
    refine lv_iload_n hx hb d_33_22_9 rfl (lv_at hl 2 rfl) ?_
    refine lv_iconst (v := 0) hx hb d_33_22_10 (by decide) ?_
    refine q_max C0 hl.1 rfl w_1773 w_803 w_7 w_804 ⟨Nat.le_of_ble_eq_true rfl, Nat.le_of_ble_eq_true rfl⟩ ⟨Nat.le_of_ble_eq_true rfl, Nat.le_of_ble_eq_true rfl⟩ d_33_22_11 ?_
    obtain ⟨a10, e11⟩ := q_nm (if x3 < 0 then 0 else x3 : Int32)
    refine q_ti (v := a10) e11 ?_
    have b12 : q_F (x3.toInt ≤ a10.toInt ∧ 0 ≤ a10.toInt ∧ (a10.toInt = x3.toInt ∨ a10.toInt = 0)) := (by rw [← e11]; show x3.toInt ≤ (if x3 < 0 then 0 else x3 : Int32).toInt ∧ 0 ≤ (if x3 < 0 then 0 else x3 : Int32).toInt ∧ ((if x3 < 0 then 0 else x3 : Int32).toInt = x3.toInt ∨ (if x3 < 0 then 0 else x3 : Int32).toInt = 0); exact (by have y1 : (0 : Int32).toInt = 0 := rfl; have z := s_max (a := x3) (b := 0); omega))
    refine lv_istore_n (lv' := [(2, .int a10), (0, .ref (g (9 + 2 * 4))), (1, .int x2), (3, .int x4)]) hx hb d_33_22_14 rfl hl (by decide) rfl (fun ls hl => ?_)
    refine lv_iload_n hx hb d_33_22_15 rfl (lv_at hl 3 rfl) ?_
    refine lv_aload_n hx hb d_33_22_16 rfl (lv_at hl 1 rfl) ?_
    refine q_slen (i := 4) (v := 3) C0 V rfl (by decide) d_33_22_17 ?_
    refine q_min C0 hl.1 rfl w_1774 w_774 w_7 w_775 ⟨Nat.le_of_ble_eq_true rfl, Nat.le_of_ble_eq_true rfl⟩ ⟨Nat.le_of_ble_eq_true rfl, Nat.le_of_ble_eq_true rfl⟩ d_33_22_18 ?_
    obtain ⟨a13, e14⟩ := q_nm (if 3 < x4 then 3 else x4 : Int32)
    refine q_ti (v := a13) e14 ?_
    have b15 : q_F (a13.toInt ≤ x4.toInt ∧ a13.toInt ≤ 3 ∧ (a13.toInt = x4.toInt ∨ a13.toInt = 3)) := (by rw [← e14]; show (if 3 < x4 then 3 else x4 : Int32).toInt ≤ x4.toInt ∧ (if 3 < x4 then 3 else x4 : Int32).toInt ≤ 3 ∧ ((if 3 < x4 then 3 else x4 : Int32).toInt = x4.toInt ∨ (if 3 < x4 then 3 else x4 : Int32).toInt = 3); exact (by have y1 : (3 : Int32).toInt = 3 := rfl; have z := s_min (a := x4) (b := 3); omega))
    refine lv_istore_n (lv' := [(3, .int a13), (2, .int a10), (0, .ref (g (9 + 2 * 4))), (1, .int x2)]) hx hb d_33_22_21 rfl hl (by decide) rfl (fun ls hl => ?_)
    refine lv_iload_n hx hb d_33_22_22 rfl (lv_at hl 1 rfl) ?_
    refine lv_iload_n hx hb d_33_22_23 rfl (lv_at hl 0 rfl) ?_
    refine lv_icmp_lt (tgt := 29) hx hb d_33_22_24 (by decide) (fun c16 => ?_) (fun c16 => ?_)
    ·
      refine lv_aload_n hx hb d_33_22_29 rfl (lv_at hl 2 rfl) ?_
      refine lv_iload_n hx hb d_33_22_30 rfl (lv_at hl 3 rfl) ?_
      refine lv_iload_n hx hb d_33_22_31 rfl (lv_at hl 1 rfl) ?_
      refine lv_iload_n hx hb d_33_22_32 rfl (lv_at hl 0 rfl) ?_
      refine q_goi V (q_runS (As := [.ref (g (9 + 2 * 4)), .int x2, .int a10, .int a13]) (rest := []) (d := 1) (mc := 0) (ms := 0) C0 V rfl LS_jLat_95 (X_jLat_indexOfChar_4 l D g q ws  x2 a10 a13 hI  (by have t1 : x3.toInt ≤ a10.toInt ∧ 0 ≤ a10.toInt ∧ (a10.toInt = x3.toInt ∨ a10.toInt = 0) := b12; omega) (by have t1 : a13.toInt ≤ x4.toInt ∧ a13.toInt ≤ 3 ∧ (a13.toInt = x4.toInt ∨ a13.toInt = 3) := b15; omega) _) rfl hl.1 rfl (Nat.le_of_ble_eq_true rfl) ⟨by decide, by decide⟩ ⟨Nat.le_of_ble_eq_true rfl, Nat.le_of_ble_eq_true rfl⟩ d_33_22_33) (fun a20 u18 H locs hp19 V => ?_)
      obtain ⟨rfl, b21, b22, hE23⟩ := hp19
      have e24 : a20 = (F_jLat_indexOfChar_4 x2 a10 a13) := hE23
      replace b21 : q_F (0 ≤ a20.toInt + 1) := b21
      replace b22 : q_F (a20.toInt ≤ 2) := b22
      exact q_reti C0 V (⟨rfl, (show 0 ≤ a20.toInt + 1 from (by first | with_reducible exact q_fe b21 | (have t1 : 0 ≤ a20.toInt + 1 := b21; omega))), (show a20.toInt ≤ 2 from (by first | with_reducible exact q_fe b22 | (have t1 : a20.toInt ≤ 2 := b22; omega))), (show a20 = (F_jLat_indexOf_4 x2 x3 x4) from (by have c8x := c8; rw [e7] at c8x; have c16x := c16; rw [← e14, ← e11] at c16x; rw [e24, ← e14, ← e11, F_jLat_indexOf_4.eq_1, if_neg c8x, if_pos c16x]))⟩) d_33_22_36
    ·
      refine lv_iconst (v := (-1)) hx hb d_33_22_27 (by decide) ?_
      exact q_reti C0 V (⟨rfl, (show 0 ≤ (-1 : Int32).toInt + 1 from (by have z3 : (-1 : Int32).toInt = -1 := rfl; omega)), (show (-1 : Int32).toInt ≤ 2 from (by have z3 : (-1 : Int32).toInt = -1 := rfl; omega)), (show (-1 : Int32) = (F_jLat_indexOf_4 x2 x3 x4) from (by have c8x := c8; rw [e7] at c8x; have c16x := c16; rw [← e14, ← e11] at c16x; rw [F_jLat_indexOf_4.eq_1, if_neg c8x, if_neg c16x]))⟩) d_33_22_28
  ·
    refine lv_iconst (v := (-1)) hx hb d_33_22_7 (by decide) ?_
    exact q_reti C0 V (⟨rfl, (show 0 ≤ (-1 : Int32).toInt + 1 from (by have z3 : (-1 : Int32).toInt = -1 := rfl; omega)), (show (-1 : Int32).toInt ≤ 2 from (by have z3 : (-1 : Int32).toInt = -1 := rfl; omega)), (show (-1 : Int32) = (F_jLat_indexOf_4 x2 x3 x4) from (by have c8x := c8; rw [e7] at c8x; rw [F_jLat_indexOf_4.eq_1, if_pos c8x]))⟩) d_33_22_8
def F_jStr_indexOf_III_4 (x2 : Int32) (x3 : Int32) : Int32 := ((F_jLat_indexOf_4 x2 x3 (3 : Int32)) : Int32)
set_option maxRecDepth 100000 in
set_option maxHeartbeats 4000000 in
theorem X_jStr_indexOf_III_4 (l : Launch) (D : va_G) (g : Nat → ClassId) (q : Nat → Nat) (ws : va_W) (x2 : Int32) (x3 : Int32) (hI : q_I (nsh g q) q ws) (pre0 : 0 ≤ x3.toInt) : q_mI l y_jStr_indexOf_III prog_31_method_80_code 3 (.int) 3 0 0 D g [.ref (g (8 + 2 * 4)), .int x2, .int x3] ws (fun r u => ws = u ∧ (0 ≤ r.toInt + 1) ∧ (r.toInt ≤ 2) ∧ r = (F_jStr_indexOf_III_4 x2 x3)) := by
  intro sz
  refine q_into (by decide) (Nat.le_of_ble_eq_true rfl) ?_
  intro p e s m below meth c ls hsz C0 V hl
  have hx := C0.1
  have hb := C0.2.1
  replace pre0 : q_F (0 ≤ x3.toInt) := pre0
  have hl : lv_has ls 3 [(0, .ref (g (8 + 2 * 4))), (1, .int x2), (2, .int x3)] := hl
  refine lv_aload_n hx hb d_31_80_0 rfl (lv_at hl 0 rfl) ?_
  refine q_goi V (q_runVs (As := []) (rest := []) (d := 1) (mc := 0) (ms := 0) (i := 4) C0 V rfl LV_jStr_492 (T_jStr_isLatin1_4 l D g q ws   hI   _) rfl rfl rfl hl.1 rfl (Nat.le_of_ble_eq_true rfl) ⟨by decide, by decide⟩ ⟨Nat.le_of_ble_eq_true rfl, Nat.le_of_ble_eq_true rfl⟩ d_31_80_1) (fun a3 u1 H locs hp2 V => ?_)
  obtain ⟨rfl, b4, b5⟩ := hp2
  replace b4 : q_F (1 ≤ a3.toInt) := b4
  replace b5 : q_F (a3.toInt ≤ 1) := b5
  obtain rfl : a3 = (1 : Int32) := q_Ieq (x := a3.toInt) (y := 1) rfl (by decide) (by have t1 : 1 ≤ a3.toInt := b4; have t2 : a3.toInt ≤ 1 := b5; omega)
  refine lv_if_eq (tgt := 23) hx hb d_31_80_4 (by decide) (fun c7 => absurd c7 (by decide)) (fun c7 => ?_)
  refine lv_aload_n hx hb d_31_80_7 rfl (lv_at hl 0 rfl) ?_
  refine q_sval (i := 4) C0 V rfl rfl w_1018 d_31_80_8 ?_
  refine lv_iload_n hx hb d_31_80_11 rfl (lv_at hl 1 rfl) ?_
  refine lv_iload_n hx hb d_31_80_12 rfl (lv_at hl 2 rfl) ?_
  refine lv_aload_n hx hb d_31_80_13 rfl (lv_at hl 0 rfl) ?_
  refine q_goi V (q_runVs (As := []) (rest := [.int x3, .int x2, .ref (g (9 + 2 * 4))]) (d := 2) (mc := 0) (ms := 0) (i := 4) C0 V rfl LV_jStr_505 (T_jStr_length_4 l D g q ws   hI   _) rfl rfl rfl hl.1 rfl (Nat.le_of_ble_eq_true rfl) ⟨by decide, by decide⟩ ⟨Nat.le_of_ble_eq_true rfl, Nat.le_of_ble_eq_true rfl⟩ d_31_80_14) (fun a10 u8 H locs hp9 V => ?_)
  obtain ⟨rfl, b11, b12⟩ := hp9
  replace b11 : q_F (3 ≤ a10.toInt) := b11
  replace b12 : q_F (a10.toInt ≤ 3) := b12
  obtain rfl : a10 = (3 : Int32) := q_Ieq (x := a10.toInt) (y := 3) rfl (by decide) (by have t1 : 3 ≤ a10.toInt := b11; have t2 : a10.toInt ≤ 3 := b12; omega)
  refine q_goi V (q_runS (As := [.ref (g (9 + 2 * 4)), .int x2, .int x3, .int 3]) (rest := []) (d := 2) (mc := 0) (ms := 0) C0 V rfl LS_jStr_637 (X_jLat_indexOf_4 l D g q ws  x2 x3 3 hI  (by have y0 : (3 : Int32).toInt = 3 := rfl; have t1 : 0 ≤ x3.toInt := pre0; omega) (by have y0 : (3 : Int32).toInt = 3 := rfl; omega) _) rfl hl.1 rfl (Nat.le_of_ble_eq_true rfl) ⟨by decide, by decide⟩ ⟨Nat.le_of_ble_eq_true rfl, Nat.le_of_ble_eq_true rfl⟩ d_31_80_17) (fun a16 u14 H locs hp15 V => ?_)
  obtain ⟨rfl, b17, b18, hE19⟩ := hp15
  have e20 : a16 = (F_jLat_indexOf_4 x2 x3 (3 : Int32)) := hE19
  replace b17 : q_F (0 ≤ a16.toInt + 1) := b17
  replace b18 : q_F (a16.toInt ≤ 2) := b18
  refine lv_goto (tgt := 36) hx hb d_31_80_20 (by decide) ?_
  exact q_reti C0 V (⟨rfl, (show 0 ≤ a16.toInt + 1 from (by first | with_reducible exact q_fe b17 | (have t1 : 0 ≤ a16.toInt + 1 := b17; omega))), (show a16.toInt ≤ 2 from (by first | with_reducible exact q_fe b18 | (have t1 : a16.toInt ≤ 2 := b18; omega))), (show a16 = (F_jStr_indexOf_III_4 x2 x3) from (by rw [e20, F_jStr_indexOf_III_4.eq_1]))⟩) d_31_80_36
def F_jStr_indexOf_II_4 (x2 : Int32) : Int32 := ((F_jStr_indexOf_III_4 x2 (0 : Int32)) : Int32)
set_option maxRecDepth 100000 in
set_option maxHeartbeats 4000000 in
theorem X_jStr_indexOf_II_4 (l : Launch) (D : va_G) (g : Nat → ClassId) (q : Nat → Nat) (ws : va_W) (x2 : Int32) (hI : q_I (nsh g q) q ws) : q_mI l y_jStr_indexOf_II prog_31_method_79_code 2 (.int) 4 0 0 D g [.ref (g (8 + 2 * 4)), .int x2] ws (fun r u => ws = u ∧ (0 ≤ r.toInt + 1) ∧ (r.toInt ≤ 2) ∧ r = (F_jStr_indexOf_II_4 x2)) := by
  intro sz
  refine q_into (by decide) (Nat.le_of_ble_eq_true rfl) ?_
  intro p e s m below meth c ls hsz C0 V hl
  have hx := C0.1
  have hb := C0.2.1
  have hl : lv_has ls 2 [(0, .ref (g (8 + 2 * 4))), (1, .int x2)] := hl
  refine lv_aload_n hx hb d_31_79_0 rfl (lv_at hl 0 rfl) ?_
  refine lv_iload_n hx hb d_31_79_1 rfl (lv_at hl 1 rfl) ?_
  refine lv_iconst (v := 0) hx hb d_31_79_2 (by decide) ?_
  refine q_goi V (q_runVs (As := [.int x2, .int 0]) (rest := []) (d := 3) (mc := 0) (ms := 0) (i := 4) C0 V rfl LV_jStr_633 (X_jStr_indexOf_III_4 l D g q ws  x2 0 hI  (by have y0 : (0 : Int32).toInt = 0 := rfl; omega) _) rfl rfl rfl hl.1 rfl (Nat.le_of_ble_eq_true rfl) ⟨by decide, by decide⟩ ⟨Nat.le_of_ble_eq_true rfl, Nat.le_of_ble_eq_true rfl⟩ d_31_79_3) (fun a3 u1 H locs hp2 V => ?_)
  obtain ⟨rfl, b4, b5, hE6⟩ := hp2
  have e7 : a3 = (F_jStr_indexOf_III_4 x2 (0 : Int32)) := hE6
  replace b4 : q_F (0 ≤ a3.toInt + 1) := b4
  replace b5 : q_F (a3.toInt ≤ 2) := b5
  exact q_reti C0 V (⟨rfl, (show 0 ≤ a3.toInt + 1 from (by first | with_reducible exact q_fe b4 | (have t1 : 0 ≤ a3.toInt + 1 := b4; omega))), (show a3.toInt ≤ 2 from (by first | with_reducible exact q_fe b5 | (have t1 : a3.toInt ≤ 2 := b5; omega))), (show a3 = (F_jStr_indexOf_II_4 x2) from (by rw [e7, F_jStr_indexOf_II_4.eq_1]))⟩) d_31_79_6
def F_Dir_isOneOf_4 (t0_0 : Int32) (t0_1 : Int32) (t0_2 : Int32) (t0_3 : Int32) (t0_4 : Int32) (t0_5 : Int32) (t0_6 : Int32) : Int32 := if t0_4 < (0 : Int32) then ((0 : Int32)) else (if ((F_jStr_indexOf_II_4 ((t0_4.toUInt32 % 65536).toInt32 : Int32)) : Int32) < (0 : Int32) then ((0 : Int32)) else ((1 : Int32)))
set_option maxRecDepth 100000 in
set_option maxHeartbeats 4000000 in
theorem X_Dir_isOneOf_4 (l : Launch) (D : va_G) (g : Nat → ClassId) (q : Nat → Nat) (ws : va_W) (hI : q_I (nsh g q) q ws) (t0_0 : Int32) (t0_1 : Int32) (t0_2 : Int32) (t0_3 : Int32) (t0_4 : Int32) (t0_5 : Int32) (t0_6 : Int32) (hT0 : ws[47]? = (some (q 47, .inr (10, [.int t0_0, .int t0_1, .int t0_2, .int t0_3, .int t0_4, .int t0_5, .ref (q 1), .int t0_6])) : Option (Nat × va_E))) : q_mI l y_Dir_isOneOf prog_6_method_9_code 2 (.boolean) 5 0 0 D g [.ref (q 47), .ref (g (8 + 2 * 4))] ws (fun r u => ws = u ∧ (0 ≤ r.toInt) ∧ (r.toInt ≤ 1) ∧ r = (F_Dir_isOneOf_4 t0_0 t0_1 t0_2 t0_3 t0_4 t0_5 t0_6)) := by
  intro sz
  refine q_into (by decide) (Nat.le_of_ble_eq_true rfl) ?_
  intro p e s m below meth c ls hsz C0 V hl
  have hx := C0.1
  have hb := C0.2.1
  have hZ9 := (n_w47 hI hT0).2
  obtain ⟨-, btt0_6⟩ := hZ9
  clear btt0_6
  have hl : lv_has ls 2 [(0, .ref (q 47)), (1, .ref (g (8 + 2 * 4)))] := hl
  refine lv_aload_n hx hb d_6_9_0 rfl (lv_at hl 0 rfl) ?_
  refine q_get (ci := 10) (j := 4) (v := .int t0_4) C0 V i_Dir rfl rfl hT0 (by decide) w_361 rfl d_6_9_1 ?_
  refine lv_if_lt (tgt := 23) hx hb d_6_9_4 (by decide) (fun c12 => ?_) (fun c12 => ?_)
  ·
    refine lv_iconst (v := 0) hx hb d_6_9_23 (by decide) ?_
    exact q_retz C0 V (by decide) (⟨rfl, (show 0 ≤ (0 : Int32).toInt from (by have z7 : (0 : Int32).toInt = 0 := rfl; omega)), (show (0 : Int32).toInt ≤ 1 from (by have z7 : (0 : Int32).toInt = 0 := rfl; omega)), (show (0 : Int32) = (F_Dir_isOneOf_4 t0_0 t0_1 t0_2 t0_3 t0_4 t0_5 t0_6) from (by rw [F_Dir_isOneOf_4.eq_1, if_pos c12]))⟩) d_6_9_24
  ·
    refine lv_aload_n hx hb d_6_9_7 rfl (lv_at hl 1 rfl) ?_
    refine lv_aload_n hx hb d_6_9_8 rfl (lv_at hl 0 rfl) ?_
    refine q_get (ci := 10) (j := 4) (v := .int t0_4) C0 V i_Dir rfl rfl hT0 (by decide) w_361 rfl d_6_9_9 ?_
    refine lv_i2c hx hb d_6_9_12 rfl ?_
    obtain ⟨a15, e16⟩ := q_nm ((t0_4.toUInt32 % 65536).toInt32 : Int32)
    refine q_ti (v := a15) e16 ?_
    refine q_goi V (q_runVs (As := [.int a15]) (rest := []) (d := 4) (mc := 0) (ms := 0) (i := 4) C0 V rfl LV_Dir_63 (X_jStr_indexOf_II_4 l D g q ws  a15 hI   _) rfl rfl rfl hl.1 rfl (Nat.le_of_ble_eq_true rfl) ⟨by decide, by decide⟩ ⟨Nat.le_of_ble_eq_true rfl, Nat.le_of_ble_eq_true rfl⟩ d_6_9_13) (fun a20 u18 H locs hp19 V => ?_)
    obtain ⟨rfl, b21, b22, hE23⟩ := hp19
    have e24 : a20 = (F_jStr_indexOf_II_4 a15) := hE23
    clear b21
    clear b22
    refine lv_if_lt (tgt := 23) hx hb d_6_9_16 (by decide) (fun c25 => ?_) (fun c25 => ?_)
    ·
      refine lv_iconst (v := 0) hx hb d_6_9_23 (by decide) ?_
      exact q_retz C0 V (by decide) (⟨rfl, (show 0 ≤ (0 : Int32).toInt from (by have z7 : (0 : Int32).toInt = 0 := rfl; omega)), (show (0 : Int32).toInt ≤ 1 from (by have z7 : (0 : Int32).toInt = 0 := rfl; omega)), (show (0 : Int32) = (F_Dir_isOneOf_4 t0_0 t0_1 t0_2 t0_3 t0_4 t0_5 t0_6) from (by have c25x := c25; rw [e24, ← e16] at c25x; rw [F_Dir_isOneOf_4.eq_1, if_neg c12, if_pos c25x]))⟩) d_6_9_24
    ·
      refine lv_iconst (v := 1) hx hb d_6_9_19 (by decide) ?_
      refine lv_goto (tgt := 24) hx hb d_6_9_20 (by decide) ?_
      exact q_retz C0 V (by decide) (⟨rfl, (show 0 ≤ (1 : Int32).toInt from (by have z7 : (1 : Int32).toInt = 1 := rfl; omega)), (show (1 : Int32).toInt ≤ 1 from (by have z7 : (1 : Int32).toInt = 1 := rfl; omega)), (show (1 : Int32) = (F_Dir_isOneOf_4 t0_0 t0_1 t0_2 t0_3 t0_4 t0_5 t0_6) from (by have c25x := c25; rw [e24, ← e16] at c25x; rw [F_Dir_isOneOf_4.eq_1, if_neg c12, if_neg c25x]))⟩) d_6_9_24

def F_jLat_indexOfChar_5_L7 (x2 : Int32) (x3 : Int32) (x4 : Int32) (a1 : Int32) : Nat → Int32 → Int32
  | 0, _ => default
  | fm + 1, lx4 => if x4 ≤ lx4 then ((-1 : Int32)) else (if ((([100, 103, 71] : List Int32).getD lx4.toNatClampNeg 0) : Int32) = a1 then (lx4) else (F_jLat_indexOfChar_5_L7 x2 x3 x4 a1 fm (lx4 + 1 : Int32)))
def F_jLat_indexOfChar_5 (x2 : Int32) (x3 : Int32) (x4 : Int32) : Int32 := F_jLat_indexOfChar_5_L7 x2 x3 x4 (x2.toInt8.toInt32 : Int32) ((3 - x3.toInt).toNat + 1) x3
set_option maxRecDepth 100000 in
set_option maxHeartbeats 4000000 in
theorem X_jLat_indexOfChar_5 (l : Launch) (D : va_G) (g : Nat → ClassId) (q : Nat → Nat) (ws : va_W) (x2 : Int32) (x3 : Int32) (x4 : Int32) (hI : q_I (nsh g q) q ws) (pre0 : 0 ≤ x3.toInt) (pre1 : x4.toInt ≤ 3) : q_mI l y_jLat_indexOfChar prog_33_method_23_code 6 (.int) 1 0 0 D g [.ref (g (9 + 2 * 5)), .int x2, .int x3, .int x4] ws (fun r u => ws = u ∧ (0 ≤ r.toInt + 1) ∧ (r.toInt ≤ 2) ∧ r = (F_jLat_indexOfChar_5 x2 x3 x4)) := by
  intro sz
  refine q_into (by decide) (Nat.le_of_ble_eq_true rfl) ?_
  intro p e s m below meth c ls hsz C0 V hl
  have hx := C0.1
  have hb := C0.2.1
  replace pre0 : q_F (0 ≤ x3.toInt) := pre0
  replace pre1 : q_F (x4.toInt ≤ 3) := pre1
  have hl : lv_has ls 6 [(0, .ref (g (9 + 2 * 5))), (1, .int x2), (2, .int x3), (3, .int x4)] := hl
  refine lv_iload_n hx hb d_33_23_0 rfl (lv_at hl 1 rfl) ?_
  refine lv_i2b hx hb d_33_23_1 rfl ?_
  obtain ⟨a1, e2⟩ := q_nm (x2.toInt8.toInt32 : Int32)
  refine q_ti (v := a1) e2 ?_
  refine lv_istore (lv' := [(4, .int a1), (0, .ref (g (9 + 2 * 5))), (1, .int x2), (2, .int x3), (3, .int x4)]) hx hb d_33_23_2 hl (by decide) rfl (fun ls hl => ?_)
  refine lv_iload_n hx hb d_33_23_4 rfl (lv_at hl 3 rfl) ?_
  refine lv_istore (lv' := [(5, .int x3), (4, .int a1), (0, .ref (g (9 + 2 * 5))), (1, .int x2), (2, .int x3), (3, .int x4)]) hx hb d_33_23_5 hl (by decide) rfl (fun ls hl => ?_)
  refine q_loop (X := Int32) (fun z H locs ls _ => q_F (x3.toInt ≤ z.toInt) ∧ q_Wd D g (va_A ws sz) s ws H locs ∧ lv_has ls 6 [(5, .int z), (4, .int a1), (0, .ref (g (9 + 2 * 5))), (3, .int x4)] ∧ (∃ n, (3 - z.toInt).toNat < n ∧ F_jLat_indexOfChar_5_L7 x2 x3 x4 a1 n z = (F_jLat_indexOfChar_5 x2 x3 x4))) (fun z => (3 - z.toInt).toNat) ?_ ((x3 : Int32)) _ _ _ ws ⟨(show q_F (x3.toInt ≤ x3.toInt) from (show x3.toInt ≤ x3.toInt from by omega)), V, q_lw hl (q_lw1 0 rfl (q_lw1 1 rfl (q_lw1 2 rfl (q_lw1 5 rfl q_lw0)))), ⟨((3 - x3.toInt).toNat + 1), Nat.lt_succ_self _, (show F_jLat_indexOfChar_5_L7 x2 x3 x4 a1 ((3 - x3.toInt).toNat + 1) x3 = (F_jLat_indexOfChar_5 x2 x3 x4) from (by rw [← e2, F_jLat_indexOfChar_5.eq_1]))⟩⟩
  rintro lx4 H locs ls _ ⟨i5, V, hl, ⟨fu9, hf10, hR7⟩⟩ ih6
  obtain ⟨fm11, rfl⟩ : ∃ m, fu9 = m + 1 := ⟨fu9 - 1, by omega⟩
  replace i5 : q_F (x3.toInt ≤ lx4.toInt) := i5
  replace hl : lv_has ls 6 [(5, .int lx4), (4, .int a1), (0, .ref (g (9 + 2 * 5))), (3, .int x4)] := hl
  refine lv_iload hx hb d_33_23_7 (lv_at hl 0 rfl) ?_
  refine lv_iload_n hx hb d_33_23_9 rfl (lv_at hl 3 rfl) ?_
  refine lv_icmp_ge (tgt := 31) hx hb d_33_23_10 (by decide) (fun c12 => ?_) (fun c12 => ?_)
  ·
    refine lv_iconst (v := (-1)) hx hb d_33_23_31 (by decide) ?_
    exact q_reti C0 V (⟨rfl, (show 0 ≤ (-1 : Int32).toInt + 1 from (by have z3 : (-1 : Int32).toInt = -1 := rfl; omega)), (show (-1 : Int32).toInt ≤ 2 from (by have z3 : (-1 : Int32).toInt = -1 := rfl; omega)), (show (-1 : Int32) = (F_jLat_indexOfChar_5 x2 x3 x4) from Eq.trans (by rw [F_jLat_indexOfChar_5_L7.eq_2, if_pos c12]) hR7)⟩) d_33_23_32
  ·
    have b14 : q_F (lx4.toInt < x4.toInt) := (q_nleI c12)
    refine lv_aload_n hx hb d_33_23_13 rfl (lv_at hl 2 rfl) ?_
    refine lv_iload hx hb d_33_23_14 (lv_at hl 0 rfl) ?_
    refine q_sbal (i := 5) (v := (([100, 103, 71] : List Int32).getD lx4.toNatClampNeg 0)) C0 V rfl (show vp_in lx4 3 from q_ix (x := lx4.toInt) rfl (by have t1 : 0 ≤ x3.toInt := pre0; have t2 : x3.toInt ≤ lx4.toInt := i5; omega) (by have t1 : 0 ≤ x3.toInt := pre0; have t2 : x3.toInt ≤ lx4.toInt := i5; have t3 : x4.toInt ≤ 3 := pre1; have t4 : lx4.toInt < x4.toInt := b14; omega)) rfl d_33_23_16 ?_
    obtain ⟨a15, e16⟩ := q_nm ((([100, 103, 71] : List Int32).getD lx4.toNatClampNeg 0) : Int32)
    refine q_ti (v := a15) e16 ?_
    refine lv_iload hx hb d_33_23_17 (lv_at hl 1 rfl) ?_
    refine lv_icmp_ne (tgt := 25) hx hb d_33_23_19 (by decide) (fun c17 => ?_) (fun c17 => ?_)
    ·
      obtain ⟨a19, e20⟩ := q_nm (lx4 + 1 : Int32)
      have b21 : q_F (a19.toInt = lx4.toInt + 1) := (by rw [← e20]; exact q_addI (y := 1) rfl (by decide) (by have _ := q_lo32 (x := lx4); have _ := q_hi32 (x := lx4); have t1 : lx4.toInt < x4.toInt := b14; have _ := q_lo32 (x := x4); have _ := q_hi32 (x := x4); omega) (by have _ := q_lo32 (x := lx4); have _ := q_hi32 (x := lx4); have t1 : lx4.toInt < x4.toInt := b14; have _ := q_lo32 (x := x4); have _ := q_hi32 (x := x4); omega))
      refine lv_iinc (v := a19) (lv' := [(5, .int a19), (4, .int a1), (0, .ref (g (9 + 2 * 5))), (3, .int x4)]) hx hb d_33_23_25 hl (k := 0) rfl (e20) (by decide) rfl (fun ls hl => ?_)
      refine lv_goto (tgt := 7) hx hb d_33_23_28 (by decide) ?_
      exact ih6 ((a19 : Int32)) _ _ _ ws (show (3 - a19.toInt).toNat < (3 - lx4.toInt).toNat from by have t1 : a19.toInt = lx4.toInt + 1 := b21; have t2 : x4.toInt ≤ 3 := pre1; have t3 : lx4.toInt < x4.toInt := b14; omega) ⟨(show q_F (x3.toInt ≤ a19.toInt) from (show x3.toInt ≤ a19.toInt from by have t1 : x3.toInt ≤ lx4.toInt := i5; have t2 : a19.toInt = lx4.toInt + 1 := b21; omega)), V, q_lw hl (q_lw1 0 rfl (q_lw1 1 rfl (q_lw1 2 rfl (q_lw1 3 rfl q_lw0)))), ⟨fm11, Nat.lt_of_lt_of_le (show (3 - a19.toInt).toNat < (3 - lx4.toInt).toNat from by have t1 : a19.toInt = lx4.toInt + 1 := b21; have t2 : x4.toInt ≤ 3 := pre1; have t3 : lx4.toInt < x4.toInt := b14; omega) (Nat.le_of_lt_succ hf10), (show F_jLat_indexOfChar_5_L7 x2 x3 x4 a1 fm11 a19 = (F_jLat_indexOfChar_5 x2 x3 x4) from Eq.trans (by have c17x := c17; rw [← e16] at c17x; rw [← e20, F_jLat_indexOfChar_5_L7.eq_2, if_neg c12, if_neg c17x]) hR7)⟩⟩
    ·
      refine lv_iload hx hb d_33_23_22 (lv_at hl 0 rfl) ?_
      exact q_reti C0 V (⟨rfl, (show 0 ≤ lx4.toInt + 1 from (by have t1 : 0 ≤ x3.toInt := pre0; have t2 : x3.toInt ≤ lx4.toInt := i5; omega)), (show lx4.toInt ≤ 2 from (by have t1 : x4.toInt ≤ 3 := pre1; have t2 : lx4.toInt < x4.toInt := b14; omega)), (show lx4 = (F_jLat_indexOfChar_5 x2 x3 x4) from Eq.trans (by have c17x := c17; rw [← e16] at c17x; rw [F_jLat_indexOfChar_5_L7.eq_2, if_neg c12, if_pos c17x]) hR7)⟩) d_33_23_24
def F_jLat_indexOf_5 (x2 : Int32) (x3 : Int32) (x4 : Int32) : Int32 := if ((F_jLat_canEncode x2) : Int32) = (0 : Int32) then ((-1 : Int32)) else (if (if x3 < 0 then 0 else x3 : Int32) < (if 3 < x4 then 3 else x4 : Int32) then (((F_jLat_indexOfChar_5 x2 (if x3 < 0 then 0 else x3 : Int32) (if 3 < x4 then 3 else x4 : Int32)) : Int32)) else ((-1 : Int32)))
set_option maxRecDepth 100000 in
set_option maxHeartbeats 4000000 in
theorem X_jLat_indexOf_5 (l : Launch) (D : va_G) (g : Nat → ClassId) (q : Nat → Nat) (ws : va_W) (x2 : Int32) (x3 : Int32) (x4 : Int32) (hI : q_I (nsh g q) q ws) (pre0 : 0 ≤ x3.toInt) (pre1 : x4.toInt ≤ 3) : q_mI l y_jLat_indexOf prog_33_method_22_code 4 (.int) 2 0 0 D g [.ref (g (9 + 2 * 5)), .int x2, .int x3, .int x4] ws (fun r u => ws = u ∧ (0 ≤ r.toInt + 1) ∧ (r.toInt ≤ 2) ∧ r = (F_jLat_indexOf_5 x2 x3 x4)) := by
  intro sz
  refine q_into (by decide) (Nat.le_of_ble_eq_true rfl) ?_
  intro p e s m below meth c ls hsz C0 V hl
  have hx := C0.1
  have hb := C0.2.1
  clear pre0
  clear pre1
  have hl : lv_has ls 4 [(0, .ref (g (9 + 2 * 5))), (1, .int x2), (2, .int x3), (3, .int x4)] := hl
  refine lv_iload_n hx hb d_33_22_0 rfl (lv_at hl 1 rfl) ?_
  refine q_goi V (q_runS (As := [.int x2]) (rest := []) (d := 1) (mc := 0) (ms := 0) C0 V rfl LS_jLat_88 (X_jLat_canEncode l D g q ws  x2 hI   _) rfl hl.1 rfl (Nat.le_of_ble_eq_true rfl) ⟨by decide, by decide⟩ ⟨Nat.le_of_ble_eq_true rfl, Nat.le_of_ble_eq_true rfl⟩ d_33_22_1) (fun a3 u1 H locs hp2 V => ?_)
  obtain ⟨rfl, b4, b5, hE6⟩ := hp2
  have e7 : a3 = (F_jLat_canEncode x2) := hE6
  clear b4
  clear b5
  refine lv_if_ne (tgt := 9) hx hb d_33_22_4 (by decide) (fun c8 => ?_) (fun c8 => ?_)
  ·
    refine lv_iload_n hx hb d_33_22_9 rfl (lv_at hl 2 rfl) ?_
    refine lv_iconst (v := 0) hx hb d_33_22_10 (by decide) ?_
    refine q_max C0 hl.1 rfl w_1773 w_803 w_7 w_804 ⟨Nat.le_of_ble_eq_true rfl, Nat.le_of_ble_eq_true rfl⟩ ⟨Nat.le_of_ble_eq_true rfl, Nat.le_of_ble_eq_true rfl⟩ d_33_22_11 ?_
    obtain ⟨a10, e11⟩ := q_nm (if x3 < 0 then 0 else x3 : Int32)
    refine q_ti (v := a10) e11 ?_
    have b12 : q_F (x3.toInt ≤ a10.toInt ∧ 0 ≤ a10.toInt ∧ (a10.toInt = x3.toInt ∨ a10.toInt = 0)) := (by rw [← e11]; show x3.toInt ≤ (if x3 < 0 then 0 else x3 : Int32).toInt ∧ 0 ≤ (if x3 < 0 then 0 else x3 : Int32).toInt ∧ ((if x3 < 0 then 0 else x3 : Int32).toInt = x3.toInt ∨ (if x3 < 0 then 0 else x3 : Int32).toInt = 0); exact (by have y1 : (0 : Int32).toInt = 0 := rfl; have z := s_max (a := x3) (b := 0); omega))
    refine lv_istore_n (lv' := [(2, .int a10), (0, .ref (g (9 + 2 * 5))), (1, .int x2), (3, .int x4)]) hx hb d_33_22_14 rfl hl (by decide) rfl (fun ls hl => ?_)
    refine lv_iload_n hx hb d_33_22_15 rfl (lv_at hl 3 rfl) ?_
    refine lv_aload_n hx hb d_33_22_16 rfl (lv_at hl 1 rfl) ?_
    refine q_slen (i := 5) (v := 3) C0 V rfl (by decide) d_33_22_17 ?_
    refine q_min C0 hl.1 rfl w_1774 w_774 w_7 w_775 ⟨Nat.le_of_ble_eq_true rfl, Nat.le_of_ble_eq_true rfl⟩ ⟨Nat.le_of_ble_eq_true rfl, Nat.le_of_ble_eq_true rfl⟩ d_33_22_18 ?_
    obtain ⟨a13, e14⟩ := q_nm (if 3 < x4 then 3 else x4 : Int32)
    refine q_ti (v := a13) e14 ?_
    have b15 : q_F (a13.toInt ≤ x4.toInt ∧ a13.toInt ≤ 3 ∧ (a13.toInt = x4.toInt ∨ a13.toInt = 3)) := (by rw [← e14]; show (if 3 < x4 then 3 else x4 : Int32).toInt ≤ x4.toInt ∧ (if 3 < x4 then 3 else x4 : Int32).toInt ≤ 3 ∧ ((if 3 < x4 then 3 else x4 : Int32).toInt = x4.toInt ∨ (if 3 < x4 then 3 else x4 : Int32).toInt = 3); exact (by have y1 : (3 : Int32).toInt = 3 := rfl; have z := s_min (a := x4) (b := 3); omega))
    refine lv_istore_n (lv' := [(3, .int a13), (2, .int a10), (0, .ref (g (9 + 2 * 5))), (1, .int x2)]) hx hb d_33_22_21 rfl hl (by decide) rfl (fun ls hl => ?_)
    refine lv_iload_n hx hb d_33_22_22 rfl (lv_at hl 1 rfl) ?_
    refine lv_iload_n hx hb d_33_22_23 rfl (lv_at hl 0 rfl) ?_
    refine lv_icmp_lt (tgt := 29) hx hb d_33_22_24 (by decide) (fun c16 => ?_) (fun c16 => ?_)
    ·
      refine lv_aload_n hx hb d_33_22_29 rfl (lv_at hl 2 rfl) ?_
      refine lv_iload_n hx hb d_33_22_30 rfl (lv_at hl 3 rfl) ?_
      refine lv_iload_n hx hb d_33_22_31 rfl (lv_at hl 1 rfl) ?_
      refine lv_iload_n hx hb d_33_22_32 rfl (lv_at hl 0 rfl) ?_
      refine q_goi V (q_runS (As := [.ref (g (9 + 2 * 5)), .int x2, .int a10, .int a13]) (rest := []) (d := 1) (mc := 0) (ms := 0) C0 V rfl LS_jLat_95 (X_jLat_indexOfChar_5 l D g q ws  x2 a10 a13 hI  (by have t1 : x3.toInt ≤ a10.toInt ∧ 0 ≤ a10.toInt ∧ (a10.toInt = x3.toInt ∨ a10.toInt = 0) := b12; omega) (by have t1 : a13.toInt ≤ x4.toInt ∧ a13.toInt ≤ 3 ∧ (a13.toInt = x4.toInt ∨ a13.toInt = 3) := b15; omega) _) rfl hl.1 rfl (Nat.le_of_ble_eq_true rfl) ⟨by decide, by decide⟩ ⟨Nat.le_of_ble_eq_true rfl, Nat.le_of_ble_eq_true rfl⟩ d_33_22_33) (fun a20 u18 H locs hp19 V => ?_)
      obtain ⟨rfl, b21, b22, hE23⟩ := hp19
      have e24 : a20 = (F_jLat_indexOfChar_5 x2 a10 a13) := hE23
      replace b21 : q_F (0 ≤ a20.toInt + 1) := b21
      replace b22 : q_F (a20.toInt ≤ 2) := b22
      exact q_reti C0 V (⟨rfl, (show 0 ≤ a20.toInt + 1 from (by first | with_reducible exact q_fe b21 | (have t1 : 0 ≤ a20.toInt + 1 := b21; omega))), (show a20.toInt ≤ 2 from (by first | with_reducible exact q_fe b22 | (have t1 : a20.toInt ≤ 2 := b22; omega))), (show a20 = (F_jLat_indexOf_5 x2 x3 x4) from (by have c8x := c8; rw [e7] at c8x; have c16x := c16; rw [← e14, ← e11] at c16x; rw [e24, ← e14, ← e11, F_jLat_indexOf_5.eq_1, if_neg c8x, if_pos c16x]))⟩) d_33_22_36
    ·
      refine lv_iconst (v := (-1)) hx hb d_33_22_27 (by decide) ?_
      exact q_reti C0 V (⟨rfl, (show 0 ≤ (-1 : Int32).toInt + 1 from (by have z3 : (-1 : Int32).toInt = -1 := rfl; omega)), (show (-1 : Int32).toInt ≤ 2 from (by have z3 : (-1 : Int32).toInt = -1 := rfl; omega)), (show (-1 : Int32) = (F_jLat_indexOf_5 x2 x3 x4) from (by have c8x := c8; rw [e7] at c8x; have c16x := c16; rw [← e14, ← e11] at c16x; rw [F_jLat_indexOf_5.eq_1, if_neg c8x, if_neg c16x]))⟩) d_33_22_28
  ·
    refine lv_iconst (v := (-1)) hx hb d_33_22_7 (by decide) ?_
    exact q_reti C0 V (⟨rfl, (show 0 ≤ (-1 : Int32).toInt + 1 from (by have z3 : (-1 : Int32).toInt = -1 := rfl; omega)), (show (-1 : Int32).toInt ≤ 2 from (by have z3 : (-1 : Int32).toInt = -1 := rfl; omega)), (show (-1 : Int32) = (F_jLat_indexOf_5 x2 x3 x4) from (by have c8x := c8; rw [e7] at c8x; rw [F_jLat_indexOf_5.eq_1, if_pos c8x]))⟩) d_33_22_8
def F_jStr_indexOf_III_5 (x2 : Int32) (x3 : Int32) : Int32 := ((F_jLat_indexOf_5 x2 x3 (3 : Int32)) : Int32)
set_option maxRecDepth 100000 in
set_option maxHeartbeats 4000000 in
theorem X_jStr_indexOf_III_5 (l : Launch) (D : va_G) (g : Nat → ClassId) (q : Nat → Nat) (ws : va_W) (x2 : Int32) (x3 : Int32) (hI : q_I (nsh g q) q ws) (pre0 : 0 ≤ x3.toInt) : q_mI l y_jStr_indexOf_III prog_31_method_80_code 3 (.int) 3 0 0 D g [.ref (g (8 + 2 * 5)), .int x2, .int x3] ws (fun r u => ws = u ∧ (0 ≤ r.toInt + 1) ∧ (r.toInt ≤ 2) ∧ r = (F_jStr_indexOf_III_5 x2 x3)) := by
  intro sz
  refine q_into (by decide) (Nat.le_of_ble_eq_true rfl) ?_
  intro p e s m below meth c ls hsz C0 V hl
  have hx := C0.1
  have hb := C0.2.1
  replace pre0 : q_F (0 ≤ x3.toInt) := pre0
  have hl : lv_has ls 3 [(0, .ref (g (8 + 2 * 5))), (1, .int x2), (2, .int x3)] := hl
  refine lv_aload_n hx hb d_31_80_0 rfl (lv_at hl 0 rfl) ?_
  refine q_goi V (q_runVs (As := []) (rest := []) (d := 1) (mc := 0) (ms := 0) (i := 5) C0 V rfl LV_jStr_492 (T_jStr_isLatin1_5 l D g q ws   hI   _) rfl rfl rfl hl.1 rfl (Nat.le_of_ble_eq_true rfl) ⟨by decide, by decide⟩ ⟨Nat.le_of_ble_eq_true rfl, Nat.le_of_ble_eq_true rfl⟩ d_31_80_1) (fun a3 u1 H locs hp2 V => ?_)
  obtain ⟨rfl, b4, b5⟩ := hp2
  replace b4 : q_F (1 ≤ a3.toInt) := b4
  replace b5 : q_F (a3.toInt ≤ 1) := b5
  obtain rfl : a3 = (1 : Int32) := q_Ieq (x := a3.toInt) (y := 1) rfl (by decide) (by have t1 : 1 ≤ a3.toInt := b4; have t2 : a3.toInt ≤ 1 := b5; omega)
  refine lv_if_eq (tgt := 23) hx hb d_31_80_4 (by decide) (fun c7 => absurd c7 (by decide)) (fun c7 => ?_)
  refine lv_aload_n hx hb d_31_80_7 rfl (lv_at hl 0 rfl) ?_
  refine q_sval (i := 5) C0 V rfl rfl w_1018 d_31_80_8 ?_
  refine lv_iload_n hx hb d_31_80_11 rfl (lv_at hl 1 rfl) ?_
  refine lv_iload_n hx hb d_31_80_12 rfl (lv_at hl 2 rfl) ?_
  refine lv_aload_n hx hb d_31_80_13 rfl (lv_at hl 0 rfl) ?_
  refine q_goi V (q_runVs (As := []) (rest := [.int x3, .int x2, .ref (g (9 + 2 * 5))]) (d := 2) (mc := 0) (ms := 0) (i := 5) C0 V rfl LV_jStr_505 (T_jStr_length_5 l D g q ws   hI   _) rfl rfl rfl hl.1 rfl (Nat.le_of_ble_eq_true rfl) ⟨by decide, by decide⟩ ⟨Nat.le_of_ble_eq_true rfl, Nat.le_of_ble_eq_true rfl⟩ d_31_80_14) (fun a10 u8 H locs hp9 V => ?_)
  obtain ⟨rfl, b11, b12⟩ := hp9
  replace b11 : q_F (3 ≤ a10.toInt) := b11
  replace b12 : q_F (a10.toInt ≤ 3) := b12
  obtain rfl : a10 = (3 : Int32) := q_Ieq (x := a10.toInt) (y := 3) rfl (by decide) (by have t1 : 3 ≤ a10.toInt := b11; have t2 : a10.toInt ≤ 3 := b12; omega)
  refine q_goi V (q_runS (As := [.ref (g (9 + 2 * 5)), .int x2, .int x3, .int 3]) (rest := []) (d := 2) (mc := 0) (ms := 0) C0 V rfl LS_jStr_637 (X_jLat_indexOf_5 l D g q ws  x2 x3 3 hI  (by have y0 : (3 : Int32).toInt = 3 := rfl; have t1 : 0 ≤ x3.toInt := pre0; omega) (by have y0 : (3 : Int32).toInt = 3 := rfl; omega) _) rfl hl.1 rfl (Nat.le_of_ble_eq_true rfl) ⟨by decide, by decide⟩ ⟨Nat.le_of_ble_eq_true rfl, Nat.le_of_ble_eq_true rfl⟩ d_31_80_17) (fun a16 u14 H locs hp15 V => ?_)
  obtain ⟨rfl, b17, b18, hE19⟩ := hp15
  have e20 : a16 = (F_jLat_indexOf_5 x2 x3 (3 : Int32)) := hE19
  replace b17 : q_F (0 ≤ a16.toInt + 1) := b17
  replace b18 : q_F (a16.toInt ≤ 2) := b18
  refine lv_goto (tgt := 36) hx hb d_31_80_20 (by decide) ?_
  exact q_reti C0 V (⟨rfl, (show 0 ≤ a16.toInt + 1 from (by first | with_reducible exact q_fe b17 | (have t1 : 0 ≤ a16.toInt + 1 := b17; omega))), (show a16.toInt ≤ 2 from (by first | with_reducible exact q_fe b18 | (have t1 : a16.toInt ≤ 2 := b18; omega))), (show a16 = (F_jStr_indexOf_III_5 x2 x3) from (by rw [e20, F_jStr_indexOf_III_5.eq_1]))⟩) d_31_80_36
def F_jStr_indexOf_II_5 (x2 : Int32) : Int32 := ((F_jStr_indexOf_III_5 x2 (0 : Int32)) : Int32)
set_option maxRecDepth 100000 in
set_option maxHeartbeats 4000000 in
theorem X_jStr_indexOf_II_5 (l : Launch) (D : va_G) (g : Nat → ClassId) (q : Nat → Nat) (ws : va_W) (x2 : Int32) (hI : q_I (nsh g q) q ws) : q_mI l y_jStr_indexOf_II prog_31_method_79_code 2 (.int) 4 0 0 D g [.ref (g (8 + 2 * 5)), .int x2] ws (fun r u => ws = u ∧ (0 ≤ r.toInt + 1) ∧ (r.toInt ≤ 2) ∧ r = (F_jStr_indexOf_II_5 x2)) := by
  intro sz
  refine q_into (by decide) (Nat.le_of_ble_eq_true rfl) ?_
  intro p e s m below meth c ls hsz C0 V hl
  have hx := C0.1
  have hb := C0.2.1
  have hl : lv_has ls 2 [(0, .ref (g (8 + 2 * 5))), (1, .int x2)] := hl
  refine lv_aload_n hx hb d_31_79_0 rfl (lv_at hl 0 rfl) ?_
  refine lv_iload_n hx hb d_31_79_1 rfl (lv_at hl 1 rfl) ?_
  refine lv_iconst (v := 0) hx hb d_31_79_2 (by decide) ?_
  refine q_goi V (q_runVs (As := [.int x2, .int 0]) (rest := []) (d := 3) (mc := 0) (ms := 0) (i := 5) C0 V rfl LV_jStr_633 (X_jStr_indexOf_III_5 l D g q ws  x2 0 hI  (by have y0 : (0 : Int32).toInt = 0 := rfl; omega) _) rfl rfl rfl hl.1 rfl (Nat.le_of_ble_eq_true rfl) ⟨by decide, by decide⟩ ⟨Nat.le_of_ble_eq_true rfl, Nat.le_of_ble_eq_true rfl⟩ d_31_79_3) (fun a3 u1 H locs hp2 V => ?_)
  obtain ⟨rfl, b4, b5, hE6⟩ := hp2
  have e7 : a3 = (F_jStr_indexOf_III_5 x2 (0 : Int32)) := hE6
  replace b4 : q_F (0 ≤ a3.toInt + 1) := b4
  replace b5 : q_F (a3.toInt ≤ 2) := b5
  exact q_reti C0 V (⟨rfl, (show 0 ≤ a3.toInt + 1 from (by first | with_reducible exact q_fe b4 | (have t1 : 0 ≤ a3.toInt + 1 := b4; omega))), (show a3.toInt ≤ 2 from (by first | with_reducible exact q_fe b5 | (have t1 : a3.toInt ≤ 2 := b5; omega))), (show a3 = (F_jStr_indexOf_II_5 x2) from (by rw [e7, F_jStr_indexOf_II_5.eq_1]))⟩) d_31_79_6
def F_Dir_isOneOf_5 (t0_0 : Int32) (t0_1 : Int32) (t0_2 : Int32) (t0_3 : Int32) (t0_4 : Int32) (t0_5 : Int32) (t0_6 : Int32) : Int32 := if t0_4 < (0 : Int32) then ((0 : Int32)) else (if ((F_jStr_indexOf_II_5 ((t0_4.toUInt32 % 65536).toInt32 : Int32)) : Int32) < (0 : Int32) then ((0 : Int32)) else ((1 : Int32)))
set_option maxRecDepth 100000 in
set_option maxHeartbeats 4000000 in
theorem X_Dir_isOneOf_5 (l : Launch) (D : va_G) (g : Nat → ClassId) (q : Nat → Nat) (ws : va_W) (hI : q_I (nsh g q) q ws) (t0_0 : Int32) (t0_1 : Int32) (t0_2 : Int32) (t0_3 : Int32) (t0_4 : Int32) (t0_5 : Int32) (t0_6 : Int32) (hT0 : ws[47]? = (some (q 47, .inr (10, [.int t0_0, .int t0_1, .int t0_2, .int t0_3, .int t0_4, .int t0_5, .ref (q 1), .int t0_6])) : Option (Nat × va_E))) : q_mI l y_Dir_isOneOf prog_6_method_9_code 2 (.boolean) 5 0 0 D g [.ref (q 47), .ref (g (8 + 2 * 5))] ws (fun r u => ws = u ∧ (0 ≤ r.toInt) ∧ (r.toInt ≤ 1) ∧ r = (F_Dir_isOneOf_5 t0_0 t0_1 t0_2 t0_3 t0_4 t0_5 t0_6)) := by
  intro sz
  refine q_into (by decide) (Nat.le_of_ble_eq_true rfl) ?_
  intro p e s m below meth c ls hsz C0 V hl
  have hx := C0.1
  have hb := C0.2.1
  have hZ9 := (n_w47 hI hT0).2
  obtain ⟨-, btt0_6⟩ := hZ9
  clear btt0_6
  have hl : lv_has ls 2 [(0, .ref (q 47)), (1, .ref (g (8 + 2 * 5)))] := hl
  refine lv_aload_n hx hb d_6_9_0 rfl (lv_at hl 0 rfl) ?_
  refine q_get (ci := 10) (j := 4) (v := .int t0_4) C0 V i_Dir rfl rfl hT0 (by decide) w_361 rfl d_6_9_1 ?_
  refine lv_if_lt (tgt := 23) hx hb d_6_9_4 (by decide) (fun c12 => ?_) (fun c12 => ?_)
  ·
    refine lv_iconst (v := 0) hx hb d_6_9_23 (by decide) ?_
    exact q_retz C0 V (by decide) (⟨rfl, (show 0 ≤ (0 : Int32).toInt from (by have z7 : (0 : Int32).toInt = 0 := rfl; omega)), (show (0 : Int32).toInt ≤ 1 from (by have z7 : (0 : Int32).toInt = 0 := rfl; omega)), (show (0 : Int32) = (F_Dir_isOneOf_5 t0_0 t0_1 t0_2 t0_3 t0_4 t0_5 t0_6) from (by rw [F_Dir_isOneOf_5.eq_1, if_pos c12]))⟩) d_6_9_24
  ·
    refine lv_aload_n hx hb d_6_9_7 rfl (lv_at hl 1 rfl) ?_
    refine lv_aload_n hx hb d_6_9_8 rfl (lv_at hl 0 rfl) ?_
    refine q_get (ci := 10) (j := 4) (v := .int t0_4) C0 V i_Dir rfl rfl hT0 (by decide) w_361 rfl d_6_9_9 ?_
    refine lv_i2c hx hb d_6_9_12 rfl ?_
    obtain ⟨a15, e16⟩ := q_nm ((t0_4.toUInt32 % 65536).toInt32 : Int32)
    refine q_ti (v := a15) e16 ?_
    refine q_goi V (q_runVs (As := [.int a15]) (rest := []) (d := 4) (mc := 0) (ms := 0) (i := 5) C0 V rfl LV_Dir_63 (X_jStr_indexOf_II_5 l D g q ws  a15 hI   _) rfl rfl rfl hl.1 rfl (Nat.le_of_ble_eq_true rfl) ⟨by decide, by decide⟩ ⟨Nat.le_of_ble_eq_true rfl, Nat.le_of_ble_eq_true rfl⟩ d_6_9_13) (fun a20 u18 H locs hp19 V => ?_)
    obtain ⟨rfl, b21, b22, hE23⟩ := hp19
    have e24 : a20 = (F_jStr_indexOf_II_5 a15) := hE23
    clear b21
    clear b22
    refine lv_if_lt (tgt := 23) hx hb d_6_9_16 (by decide) (fun c25 => ?_) (fun c25 => ?_)
    ·
      refine lv_iconst (v := 0) hx hb d_6_9_23 (by decide) ?_
      exact q_retz C0 V (by decide) (⟨rfl, (show 0 ≤ (0 : Int32).toInt from (by have z7 : (0 : Int32).toInt = 0 := rfl; omega)), (show (0 : Int32).toInt ≤ 1 from (by have z7 : (0 : Int32).toInt = 0 := rfl; omega)), (show (0 : Int32) = (F_Dir_isOneOf_5 t0_0 t0_1 t0_2 t0_3 t0_4 t0_5 t0_6) from (by have c25x := c25; rw [e24, ← e16] at c25x; rw [F_Dir_isOneOf_5.eq_1, if_neg c12, if_pos c25x]))⟩) d_6_9_24
    ·
      refine lv_iconst (v := 1) hx hb d_6_9_19 (by decide) ?_
      refine lv_goto (tgt := 24) hx hb d_6_9_20 (by decide) ?_
      exact q_retz C0 V (by decide) (⟨rfl, (show 0 ≤ (1 : Int32).toInt from (by have z7 : (1 : Int32).toInt = 1 := rfl; omega)), (show (1 : Int32).toInt ≤ 1 from (by have z7 : (1 : Int32).toInt = 1 := rfl; omega)), (show (1 : Int32) = (F_Dir_isOneOf_5 t0_0 t0_1 t0_2 t0_3 t0_4 t0_5 t0_6) from (by have c25x := c25; rw [e24, ← e16] at c25x; rw [F_Dir_isOneOf_5.eq_1, if_neg c12, if_neg c25x]))⟩) d_6_9_24
def F_jLat_indexOfChar_6_L7 (x2 : Int32) (x3 : Int32) (x4 : Int32) (a1 : Int32) : Nat → Int32 → Int32
  | 0, _ => default
  | fm + 1, lx4 => if x4 ≤ lx4 then ((-1 : Int32)) else (if ((([101, 69] : List Int32).getD lx4.toNatClampNeg 0) : Int32) = a1 then (lx4) else (F_jLat_indexOfChar_6_L7 x2 x3 x4 a1 fm (lx4 + 1 : Int32)))
def F_jLat_indexOfChar_6 (x2 : Int32) (x3 : Int32) (x4 : Int32) : Int32 := F_jLat_indexOfChar_6_L7 x2 x3 x4 (x2.toInt8.toInt32 : Int32) ((2 - x3.toInt).toNat + 1) x3
set_option maxRecDepth 100000 in
set_option maxHeartbeats 4000000 in
theorem X_jLat_indexOfChar_6 (l : Launch) (D : va_G) (g : Nat → ClassId) (q : Nat → Nat) (ws : va_W) (x2 : Int32) (x3 : Int32) (x4 : Int32) (hI : q_I (nsh g q) q ws) (pre0 : 0 ≤ x3.toInt) (pre1 : x4.toInt ≤ 2) : q_mI l y_jLat_indexOfChar prog_33_method_23_code 6 (.int) 1 0 0 D g [.ref (g (9 + 2 * 6)), .int x2, .int x3, .int x4] ws (fun r u => ws = u ∧ (0 ≤ r.toInt + 1) ∧ (r.toInt ≤ 1) ∧ r = (F_jLat_indexOfChar_6 x2 x3 x4)) := by
  intro sz
  refine q_into (by decide) (Nat.le_of_ble_eq_true rfl) ?_
  intro p e s m below meth c ls hsz C0 V hl
  have hx := C0.1
  have hb := C0.2.1
  replace pre0 : q_F (0 ≤ x3.toInt) := pre0
  replace pre1 : q_F (x4.toInt ≤ 2) := pre1
  have hl : lv_has ls 6 [(0, .ref (g (9 + 2 * 6))), (1, .int x2), (2, .int x3), (3, .int x4)] := hl
  refine lv_iload_n hx hb d_33_23_0 rfl (lv_at hl 1 rfl) ?_
  refine lv_i2b hx hb d_33_23_1 rfl ?_
  obtain ⟨a1, e2⟩ := q_nm (x2.toInt8.toInt32 : Int32)
  refine q_ti (v := a1) e2 ?_
  refine lv_istore (lv' := [(4, .int a1), (0, .ref (g (9 + 2 * 6))), (1, .int x2), (2, .int x3), (3, .int x4)]) hx hb d_33_23_2 hl (by decide) rfl (fun ls hl => ?_)
  refine lv_iload_n hx hb d_33_23_4 rfl (lv_at hl 3 rfl) ?_
  refine lv_istore (lv' := [(5, .int x3), (4, .int a1), (0, .ref (g (9 + 2 * 6))), (1, .int x2), (2, .int x3), (3, .int x4)]) hx hb d_33_23_5 hl (by decide) rfl (fun ls hl => ?_)
  refine q_loop (X := Int32) (fun z H locs ls _ => q_F (x3.toInt ≤ z.toInt) ∧ q_Wd D g (va_A ws sz) s ws H locs ∧ lv_has ls 6 [(5, .int z), (4, .int a1), (0, .ref (g (9 + 2 * 6))), (3, .int x4)] ∧ (∃ n, (2 - z.toInt).toNat < n ∧ F_jLat_indexOfChar_6_L7 x2 x3 x4 a1 n z = (F_jLat_indexOfChar_6 x2 x3 x4))) (fun z => (2 - z.toInt).toNat) ?_ ((x3 : Int32)) _ _ _ ws ⟨(show q_F (x3.toInt ≤ x3.toInt) from (show x3.toInt ≤ x3.toInt from by omega)), V, q_lw hl (q_lw1 0 rfl (q_lw1 1 rfl (q_lw1 2 rfl (q_lw1 5 rfl q_lw0)))), ⟨((2 - x3.toInt).toNat + 1), Nat.lt_succ_self _, (show F_jLat_indexOfChar_6_L7 x2 x3 x4 a1 ((2 - x3.toInt).toNat + 1) x3 = (F_jLat_indexOfChar_6 x2 x3 x4) from (by rw [← e2, F_jLat_indexOfChar_6.eq_1]))⟩⟩
  rintro lx4 H locs ls _ ⟨i5, V, hl, ⟨fu9, hf10, hR7⟩⟩ ih6
  obtain ⟨fm11, rfl⟩ : ∃ m, fu9 = m + 1 := ⟨fu9 - 1, by omega⟩
  replace i5 : q_F (x3.toInt ≤ lx4.toInt) := i5
  replace hl : lv_has ls 6 [(5, .int lx4), (4, .int a1), (0, .ref (g (9 + 2 * 6))), (3, .int x4)] := hl
  refine lv_iload hx hb d_33_23_7 (lv_at hl 0 rfl) ?_
  refine lv_iload_n hx hb d_33_23_9 rfl (lv_at hl 3 rfl) ?_
  refine lv_icmp_ge (tgt := 31) hx hb d_33_23_10 (by decide) (fun c12 => ?_) (fun c12 => ?_)
  ·
    refine lv_iconst (v := (-1)) hx hb d_33_23_31 (by decide) ?_
    exact q_reti C0 V (⟨rfl, (show 0 ≤ (-1 : Int32).toInt + 1 from (by have z3 : (-1 : Int32).toInt = -1 := rfl; omega)), (show (-1 : Int32).toInt ≤ 1 from (by have z3 : (-1 : Int32).toInt = -1 := rfl; omega)), (show (-1 : Int32) = (F_jLat_indexOfChar_6 x2 x3 x4) from Eq.trans (by rw [F_jLat_indexOfChar_6_L7.eq_2, if_pos c12]) hR7)⟩) d_33_23_32
  ·
    have b14 : q_F (lx4.toInt < x4.toInt) := (q_nleI c12)
    refine lv_aload_n hx hb d_33_23_13 rfl (lv_at hl 2 rfl) ?_
    refine lv_iload hx hb d_33_23_14 (lv_at hl 0 rfl) ?_
    refine q_sbal (i := 6) (v := (([101, 69] : List Int32).getD lx4.toNatClampNeg 0)) C0 V rfl (show vp_in lx4 2 from q_ix (x := lx4.toInt) rfl (by have t1 : 0 ≤ x3.toInt := pre0; have t2 : x3.toInt ≤ lx4.toInt := i5; omega) (by have t1 : 0 ≤ x3.toInt := pre0; have t2 : x3.toInt ≤ lx4.toInt := i5; have t3 : x4.toInt ≤ 2 := pre1; have t4 : lx4.toInt < x4.toInt := b14; omega)) rfl d_33_23_16 ?_
    obtain ⟨a15, e16⟩ := q_nm ((([101, 69] : List Int32).getD lx4.toNatClampNeg 0) : Int32)
    refine q_ti (v := a15) e16 ?_
    refine lv_iload hx hb d_33_23_17 (lv_at hl 1 rfl) ?_
    refine lv_icmp_ne (tgt := 25) hx hb d_33_23_19 (by decide) (fun c17 => ?_) (fun c17 => ?_)
    ·
      obtain ⟨a19, e20⟩ := q_nm (lx4 + 1 : Int32)
      have b21 : q_F (a19.toInt = lx4.toInt + 1) := (by rw [← e20]; exact q_addI (y := 1) rfl (by decide) (by have _ := q_lo32 (x := lx4); have _ := q_hi32 (x := lx4); have t1 : lx4.toInt < x4.toInt := b14; have _ := q_lo32 (x := x4); have _ := q_hi32 (x := x4); omega) (by have _ := q_lo32 (x := lx4); have _ := q_hi32 (x := lx4); have t1 : lx4.toInt < x4.toInt := b14; have _ := q_lo32 (x := x4); have _ := q_hi32 (x := x4); omega))
      refine lv_iinc (v := a19) (lv' := [(5, .int a19), (4, .int a1), (0, .ref (g (9 + 2 * 6))), (3, .int x4)]) hx hb d_33_23_25 hl (k := 0) rfl (e20) (by decide) rfl (fun ls hl => ?_)
      refine lv_goto (tgt := 7) hx hb d_33_23_28 (by decide) ?_
      exact ih6 ((a19 : Int32)) _ _ _ ws (show (2 - a19.toInt).toNat < (2 - lx4.toInt).toNat from by have t1 : a19.toInt = lx4.toInt + 1 := b21; have t2 : x4.toInt ≤ 2 := pre1; have t3 : lx4.toInt < x4.toInt := b14; omega) ⟨(show q_F (x3.toInt ≤ a19.toInt) from (show x3.toInt ≤ a19.toInt from by have t1 : x3.toInt ≤ lx4.toInt := i5; have t2 : a19.toInt = lx4.toInt + 1 := b21; omega)), V, q_lw hl (q_lw1 0 rfl (q_lw1 1 rfl (q_lw1 2 rfl (q_lw1 3 rfl q_lw0)))), ⟨fm11, Nat.lt_of_lt_of_le (show (2 - a19.toInt).toNat < (2 - lx4.toInt).toNat from by have t1 : a19.toInt = lx4.toInt + 1 := b21; have t2 : x4.toInt ≤ 2 := pre1; have t3 : lx4.toInt < x4.toInt := b14; omega) (Nat.le_of_lt_succ hf10), (show F_jLat_indexOfChar_6_L7 x2 x3 x4 a1 fm11 a19 = (F_jLat_indexOfChar_6 x2 x3 x4) from Eq.trans (by have c17x := c17; rw [← e16] at c17x; rw [← e20, F_jLat_indexOfChar_6_L7.eq_2, if_neg c12, if_neg c17x]) hR7)⟩⟩
    ·
      refine lv_iload hx hb d_33_23_22 (lv_at hl 0 rfl) ?_
      exact q_reti C0 V (⟨rfl, (show 0 ≤ lx4.toInt + 1 from (by have t1 : 0 ≤ x3.toInt := pre0; have t2 : x3.toInt ≤ lx4.toInt := i5; omega)), (show lx4.toInt ≤ 1 from (by have t1 : x4.toInt ≤ 2 := pre1; have t2 : lx4.toInt < x4.toInt := b14; omega)), (show lx4 = (F_jLat_indexOfChar_6 x2 x3 x4) from Eq.trans (by have c17x := c17; rw [← e16] at c17x; rw [F_jLat_indexOfChar_6_L7.eq_2, if_neg c12, if_pos c17x]) hR7)⟩) d_33_23_24
def F_jLat_indexOf_6 (x2 : Int32) (x3 : Int32) (x4 : Int32) : Int32 := if ((F_jLat_canEncode x2) : Int32) = (0 : Int32) then ((-1 : Int32)) else (if (if x3 < 0 then 0 else x3 : Int32) < (if 2 < x4 then 2 else x4 : Int32) then (((F_jLat_indexOfChar_6 x2 (if x3 < 0 then 0 else x3 : Int32) (if 2 < x4 then 2 else x4 : Int32)) : Int32)) else ((-1 : Int32)))
set_option maxRecDepth 100000 in
set_option maxHeartbeats 4000000 in
theorem X_jLat_indexOf_6 (l : Launch) (D : va_G) (g : Nat → ClassId) (q : Nat → Nat) (ws : va_W) (x2 : Int32) (x3 : Int32) (x4 : Int32) (hI : q_I (nsh g q) q ws) (pre0 : 0 ≤ x3.toInt) (pre1 : x4.toInt ≤ 2) : q_mI l y_jLat_indexOf prog_33_method_22_code 4 (.int) 2 0 0 D g [.ref (g (9 + 2 * 6)), .int x2, .int x3, .int x4] ws (fun r u => ws = u ∧ (0 ≤ r.toInt + 1) ∧ (r.toInt ≤ 1) ∧ r = (F_jLat_indexOf_6 x2 x3 x4)) := by
  intro sz
  refine q_into (by decide) (Nat.le_of_ble_eq_true rfl) ?_
  intro p e s m below meth c ls hsz C0 V hl
  have hx := C0.1
  have hb := C0.2.1
  clear pre0
  clear pre1
  have hl : lv_has ls 4 [(0, .ref (g (9 + 2 * 6))), (1, .int x2), (2, .int x3), (3, .int x4)] := hl
  refine lv_iload_n hx hb d_33_22_0 rfl (lv_at hl 1 rfl) ?_
  refine q_goi V (q_runS (As := [.int x2]) (rest := []) (d := 1) (mc := 0) (ms := 0) C0 V rfl LS_jLat_88 (X_jLat_canEncode l D g q ws  x2 hI   _) rfl hl.1 rfl (Nat.le_of_ble_eq_true rfl) ⟨by decide, by decide⟩ ⟨Nat.le_of_ble_eq_true rfl, Nat.le_of_ble_eq_true rfl⟩ d_33_22_1) (fun a3 u1 H locs hp2 V => ?_)
  obtain ⟨rfl, b4, b5, hE6⟩ := hp2
  have e7 : a3 = (F_jLat_canEncode x2) := hE6
  clear b4
  clear b5
  refine lv_if_ne (tgt := 9) hx hb d_33_22_4 (by decide) (fun c8 => ?_) (fun c8 => ?_)
  ·
    refine lv_iload_n hx hb d_33_22_9 rfl (lv_at hl 2 rfl) ?_
    refine lv_iconst (v := 0) hx hb d_33_22_10 (by decide) ?_
    refine q_max C0 hl.1 rfl w_1773 w_803 w_7 w_804 ⟨Nat.le_of_ble_eq_true rfl, Nat.le_of_ble_eq_true rfl⟩ ⟨Nat.le_of_ble_eq_true rfl, Nat.le_of_ble_eq_true rfl⟩ d_33_22_11 ?_
    obtain ⟨a10, e11⟩ := q_nm (if x3 < 0 then 0 else x3 : Int32)
    refine q_ti (v := a10) e11 ?_
    have b12 : q_F (x3.toInt ≤ a10.toInt ∧ 0 ≤ a10.toInt ∧ (a10.toInt = x3.toInt ∨ a10.toInt = 0)) := (by rw [← e11]; show x3.toInt ≤ (if x3 < 0 then 0 else x3 : Int32).toInt ∧ 0 ≤ (if x3 < 0 then 0 else x3 : Int32).toInt ∧ ((if x3 < 0 then 0 else x3 : Int32).toInt = x3.toInt ∨ (if x3 < 0 then 0 else x3 : Int32).toInt = 0); exact (by have y1 : (0 : Int32).toInt = 0 := rfl; have z := s_max (a := x3) (b := 0); omega))
    refine lv_istore_n (lv' := [(2, .int a10), (0, .ref (g (9 + 2 * 6))), (1, .int x2), (3, .int x4)]) hx hb d_33_22_14 rfl hl (by decide) rfl (fun ls hl => ?_)
    refine lv_iload_n hx hb d_33_22_15 rfl (lv_at hl 3 rfl) ?_
    refine lv_aload_n hx hb d_33_22_16 rfl (lv_at hl 1 rfl) ?_
    refine q_slen (i := 6) (v := 2) C0 V rfl (by decide) d_33_22_17 ?_
    refine q_min C0 hl.1 rfl w_1774 w_774 w_7 w_775 ⟨Nat.le_of_ble_eq_true rfl, Nat.le_of_ble_eq_true rfl⟩ ⟨Nat.le_of_ble_eq_true rfl, Nat.le_of_ble_eq_true rfl⟩ d_33_22_18 ?_
    obtain ⟨a13, e14⟩ := q_nm (if 2 < x4 then 2 else x4 : Int32)
    refine q_ti (v := a13) e14 ?_
    have b15 : q_F (a13.toInt ≤ x4.toInt ∧ a13.toInt ≤ 2 ∧ (a13.toInt = x4.toInt ∨ a13.toInt = 2)) := (by rw [← e14]; show (if 2 < x4 then 2 else x4 : Int32).toInt ≤ x4.toInt ∧ (if 2 < x4 then 2 else x4 : Int32).toInt ≤ 2 ∧ ((if 2 < x4 then 2 else x4 : Int32).toInt = x4.toInt ∨ (if 2 < x4 then 2 else x4 : Int32).toInt = 2); exact (by have y1 : (2 : Int32).toInt = 2 := rfl; have z := s_min (a := x4) (b := 2); omega))
    refine lv_istore_n (lv' := [(3, .int a13), (2, .int a10), (0, .ref (g (9 + 2 * 6))), (1, .int x2)]) hx hb d_33_22_21 rfl hl (by decide) rfl (fun ls hl => ?_)
    refine lv_iload_n hx hb d_33_22_22 rfl (lv_at hl 1 rfl) ?_
    refine lv_iload_n hx hb d_33_22_23 rfl (lv_at hl 0 rfl) ?_
    refine lv_icmp_lt (tgt := 29) hx hb d_33_22_24 (by decide) (fun c16 => ?_) (fun c16 => ?_)
    ·
      refine lv_aload_n hx hb d_33_22_29 rfl (lv_at hl 2 rfl) ?_
      refine lv_iload_n hx hb d_33_22_30 rfl (lv_at hl 3 rfl) ?_
      refine lv_iload_n hx hb d_33_22_31 rfl (lv_at hl 1 rfl) ?_
      refine lv_iload_n hx hb d_33_22_32 rfl (lv_at hl 0 rfl) ?_
      refine q_goi V (q_runS (As := [.ref (g (9 + 2 * 6)), .int x2, .int a10, .int a13]) (rest := []) (d := 1) (mc := 0) (ms := 0) C0 V rfl LS_jLat_95 (X_jLat_indexOfChar_6 l D g q ws  x2 a10 a13 hI  (by have t1 : x3.toInt ≤ a10.toInt ∧ 0 ≤ a10.toInt ∧ (a10.toInt = x3.toInt ∨ a10.toInt = 0) := b12; omega) (by have t1 : a13.toInt ≤ x4.toInt ∧ a13.toInt ≤ 2 ∧ (a13.toInt = x4.toInt ∨ a13.toInt = 2) := b15; omega) _) rfl hl.1 rfl (Nat.le_of_ble_eq_true rfl) ⟨by decide, by decide⟩ ⟨Nat.le_of_ble_eq_true rfl, Nat.le_of_ble_eq_true rfl⟩ d_33_22_33) (fun a20 u18 H locs hp19 V => ?_)
      obtain ⟨rfl, b21, b22, hE23⟩ := hp19
      have e24 : a20 = (F_jLat_indexOfChar_6 x2 a10 a13) := hE23
      replace b21 : q_F (0 ≤ a20.toInt + 1) := b21
      replace b22 : q_F (a20.toInt ≤ 1) := b22
      exact q_reti C0 V (⟨rfl, (show 0 ≤ a20.toInt + 1 from (by first | with_reducible exact q_fe b21 | (have t1 : 0 ≤ a20.toInt + 1 := b21; omega))), (show a20.toInt ≤ 1 from (by first | with_reducible exact q_fe b22 | (have t1 : a20.toInt ≤ 1 := b22; omega))), (show a20 = (F_jLat_indexOf_6 x2 x3 x4) from (by have c8x := c8; rw [e7] at c8x; have c16x := c16; rw [← e14, ← e11] at c16x; rw [e24, ← e14, ← e11, F_jLat_indexOf_6.eq_1, if_neg c8x, if_pos c16x]))⟩) d_33_22_36
    ·
      refine lv_iconst (v := (-1)) hx hb d_33_22_27 (by decide) ?_
      exact q_reti C0 V (⟨rfl, (show 0 ≤ (-1 : Int32).toInt + 1 from (by have z3 : (-1 : Int32).toInt = -1 := rfl; omega)), (show (-1 : Int32).toInt ≤ 1 from (by have z3 : (-1 : Int32).toInt = -1 := rfl; omega)), (show (-1 : Int32) = (F_jLat_indexOf_6 x2 x3 x4) from (by have c8x := c8; rw [e7] at c8x; have c16x := c16; rw [← e14, ← e11] at c16x; rw [F_jLat_indexOf_6.eq_1, if_neg c8x, if_neg c16x]))⟩) d_33_22_28
  ·
    refine lv_iconst (v := (-1)) hx hb d_33_22_7 (by decide) ?_
    exact q_reti C0 V (⟨rfl, (show 0 ≤ (-1 : Int32).toInt + 1 from (by have z3 : (-1 : Int32).toInt = -1 := rfl; omega)), (show (-1 : Int32).toInt ≤ 1 from (by have z3 : (-1 : Int32).toInt = -1 := rfl; omega)), (show (-1 : Int32) = (F_jLat_indexOf_6 x2 x3 x4) from (by have c8x := c8; rw [e7] at c8x; rw [F_jLat_indexOf_6.eq_1, if_pos c8x]))⟩) d_33_22_8
def F_jStr_indexOf_III_6 (x2 : Int32) (x3 : Int32) : Int32 := ((F_jLat_indexOf_6 x2 x3 (2 : Int32)) : Int32)
set_option maxRecDepth 100000 in
set_option maxHeartbeats 4000000 in
theorem X_jStr_indexOf_III_6 (l : Launch) (D : va_G) (g : Nat → ClassId) (q : Nat → Nat) (ws : va_W) (x2 : Int32) (x3 : Int32) (hI : q_I (nsh g q) q ws) (pre0 : 0 ≤ x3.toInt) : q_mI l y_jStr_indexOf_III prog_31_method_80_code 3 (.int) 3 0 0 D g [.ref (g (8 + 2 * 6)), .int x2, .int x3] ws (fun r u => ws = u ∧ (0 ≤ r.toInt + 1) ∧ (r.toInt ≤ 1) ∧ r = (F_jStr_indexOf_III_6 x2 x3)) := by
  intro sz
  refine q_into (by decide) (Nat.le_of_ble_eq_true rfl) ?_
  intro p e s m below meth c ls hsz C0 V hl
  have hx := C0.1
  have hb := C0.2.1
  replace pre0 : q_F (0 ≤ x3.toInt) := pre0
  have hl : lv_has ls 3 [(0, .ref (g (8 + 2 * 6))), (1, .int x2), (2, .int x3)] := hl
  refine lv_aload_n hx hb d_31_80_0 rfl (lv_at hl 0 rfl) ?_
  refine q_goi V (q_runVs (As := []) (rest := []) (d := 1) (mc := 0) (ms := 0) (i := 6) C0 V rfl LV_jStr_492 (T_jStr_isLatin1_6 l D g q ws   hI   _) rfl rfl rfl hl.1 rfl (Nat.le_of_ble_eq_true rfl) ⟨by decide, by decide⟩ ⟨Nat.le_of_ble_eq_true rfl, Nat.le_of_ble_eq_true rfl⟩ d_31_80_1) (fun a3 u1 H locs hp2 V => ?_)
  obtain ⟨rfl, b4, b5⟩ := hp2
  replace b4 : q_F (1 ≤ a3.toInt) := b4
  replace b5 : q_F (a3.toInt ≤ 1) := b5
  obtain rfl : a3 = (1 : Int32) := q_Ieq (x := a3.toInt) (y := 1) rfl (by decide) (by have t1 : 1 ≤ a3.toInt := b4; have t2 : a3.toInt ≤ 1 := b5; omega)
  refine lv_if_eq (tgt := 23) hx hb d_31_80_4 (by decide) (fun c7 => absurd c7 (by decide)) (fun c7 => ?_)
  refine lv_aload_n hx hb d_31_80_7 rfl (lv_at hl 0 rfl) ?_
  refine q_sval (i := 6) C0 V rfl rfl w_1018 d_31_80_8 ?_
  refine lv_iload_n hx hb d_31_80_11 rfl (lv_at hl 1 rfl) ?_
  refine lv_iload_n hx hb d_31_80_12 rfl (lv_at hl 2 rfl) ?_
  refine lv_aload_n hx hb d_31_80_13 rfl (lv_at hl 0 rfl) ?_
  refine q_goi V (q_runVs (As := []) (rest := [.int x3, .int x2, .ref (g (9 + 2 * 6))]) (d := 2) (mc := 0) (ms := 0) (i := 6) C0 V rfl LV_jStr_505 (T_jStr_length_6 l D g q ws   hI   _) rfl rfl rfl hl.1 rfl (Nat.le_of_ble_eq_true rfl) ⟨by decide, by decide⟩ ⟨Nat.le_of_ble_eq_true rfl, Nat.le_of_ble_eq_true rfl⟩ d_31_80_14) (fun a10 u8 H locs hp9 V => ?_)
  obtain ⟨rfl, b11, b12⟩ := hp9
  replace b11 : q_F (2 ≤ a10.toInt) := b11
  replace b12 : q_F (a10.toInt ≤ 2) := b12
  obtain rfl : a10 = (2 : Int32) := q_Ieq (x := a10.toInt) (y := 2) rfl (by decide) (by have t1 : 2 ≤ a10.toInt := b11; have t2 : a10.toInt ≤ 2 := b12; omega)
  refine q_goi V (q_runS (As := [.ref (g (9 + 2 * 6)), .int x2, .int x3, .int 2]) (rest := []) (d := 2) (mc := 0) (ms := 0) C0 V rfl LS_jStr_637 (X_jLat_indexOf_6 l D g q ws  x2 x3 2 hI  (by have y0 : (2 : Int32).toInt = 2 := rfl; have t1 : 0 ≤ x3.toInt := pre0; omega) (by have y0 : (2 : Int32).toInt = 2 := rfl; omega) _) rfl hl.1 rfl (Nat.le_of_ble_eq_true rfl) ⟨by decide, by decide⟩ ⟨Nat.le_of_ble_eq_true rfl, Nat.le_of_ble_eq_true rfl⟩ d_31_80_17) (fun a16 u14 H locs hp15 V => ?_)
  obtain ⟨rfl, b17, b18, hE19⟩ := hp15
  have e20 : a16 = (F_jLat_indexOf_6 x2 x3 (2 : Int32)) := hE19
  replace b17 : q_F (0 ≤ a16.toInt + 1) := b17
  replace b18 : q_F (a16.toInt ≤ 1) := b18
  refine lv_goto (tgt := 36) hx hb d_31_80_20 (by decide) ?_
  exact q_reti C0 V (⟨rfl, (show 0 ≤ a16.toInt + 1 from (by first | with_reducible exact q_fe b17 | (have t1 : 0 ≤ a16.toInt + 1 := b17; omega))), (show a16.toInt ≤ 1 from (by first | with_reducible exact q_fe b18 | (have t1 : a16.toInt ≤ 1 := b18; omega))), (show a16 = (F_jStr_indexOf_III_6 x2 x3) from (by rw [e20, F_jStr_indexOf_III_6.eq_1]))⟩) d_31_80_36
def F_jStr_indexOf_II_6 (x2 : Int32) : Int32 := ((F_jStr_indexOf_III_6 x2 (0 : Int32)) : Int32)
set_option maxRecDepth 100000 in
set_option maxHeartbeats 4000000 in
theorem X_jStr_indexOf_II_6 (l : Launch) (D : va_G) (g : Nat → ClassId) (q : Nat → Nat) (ws : va_W) (x2 : Int32) (hI : q_I (nsh g q) q ws) : q_mI l y_jStr_indexOf_II prog_31_method_79_code 2 (.int) 4 0 0 D g [.ref (g (8 + 2 * 6)), .int x2] ws (fun r u => ws = u ∧ (0 ≤ r.toInt + 1) ∧ (r.toInt ≤ 1) ∧ r = (F_jStr_indexOf_II_6 x2)) := by
  intro sz
  refine q_into (by decide) (Nat.le_of_ble_eq_true rfl) ?_
  intro p e s m below meth c ls hsz C0 V hl
  have hx := C0.1
  have hb := C0.2.1
  have hl : lv_has ls 2 [(0, .ref (g (8 + 2 * 6))), (1, .int x2)] := hl
  refine lv_aload_n hx hb d_31_79_0 rfl (lv_at hl 0 rfl) ?_
  refine lv_iload_n hx hb d_31_79_1 rfl (lv_at hl 1 rfl) ?_
  refine lv_iconst (v := 0) hx hb d_31_79_2 (by decide) ?_
  refine q_goi V (q_runVs (As := [.int x2, .int 0]) (rest := []) (d := 3) (mc := 0) (ms := 0) (i := 6) C0 V rfl LV_jStr_633 (X_jStr_indexOf_III_6 l D g q ws  x2 0 hI  (by have y0 : (0 : Int32).toInt = 0 := rfl; omega) _) rfl rfl rfl hl.1 rfl (Nat.le_of_ble_eq_true rfl) ⟨by decide, by decide⟩ ⟨Nat.le_of_ble_eq_true rfl, Nat.le_of_ble_eq_true rfl⟩ d_31_79_3) (fun a3 u1 H locs hp2 V => ?_)
  obtain ⟨rfl, b4, b5, hE6⟩ := hp2
  have e7 : a3 = (F_jStr_indexOf_III_6 x2 (0 : Int32)) := hE6
  replace b4 : q_F (0 ≤ a3.toInt + 1) := b4
  replace b5 : q_F (a3.toInt ≤ 1) := b5
  exact q_reti C0 V (⟨rfl, (show 0 ≤ a3.toInt + 1 from (by first | with_reducible exact q_fe b4 | (have t1 : 0 ≤ a3.toInt + 1 := b4; omega))), (show a3.toInt ≤ 1 from (by first | with_reducible exact q_fe b5 | (have t1 : a3.toInt ≤ 1 := b5; omega))), (show a3 = (F_jStr_indexOf_II_6 x2) from (by rw [e7, F_jStr_indexOf_II_6.eq_1]))⟩) d_31_79_6
def F_Dir_isOneOf_6 (t0_0 : Int32) (t0_1 : Int32) (t0_2 : Int32) (t0_3 : Int32) (t0_4 : Int32) (t0_5 : Int32) (t0_6 : Int32) : Int32 := if t0_4 < (0 : Int32) then ((0 : Int32)) else (if ((F_jStr_indexOf_II_6 ((t0_4.toUInt32 % 65536).toInt32 : Int32)) : Int32) < (0 : Int32) then ((0 : Int32)) else ((1 : Int32)))
set_option maxRecDepth 100000 in
set_option maxHeartbeats 4000000 in
theorem X_Dir_isOneOf_6 (l : Launch) (D : va_G) (g : Nat → ClassId) (q : Nat → Nat) (ws : va_W) (hI : q_I (nsh g q) q ws) (t0_0 : Int32) (t0_1 : Int32) (t0_2 : Int32) (t0_3 : Int32) (t0_4 : Int32) (t0_5 : Int32) (t0_6 : Int32) (hT0 : ws[47]? = (some (q 47, .inr (10, [.int t0_0, .int t0_1, .int t0_2, .int t0_3, .int t0_4, .int t0_5, .ref (q 1), .int t0_6])) : Option (Nat × va_E))) : q_mI l y_Dir_isOneOf prog_6_method_9_code 2 (.boolean) 5 0 0 D g [.ref (q 47), .ref (g (8 + 2 * 6))] ws (fun r u => ws = u ∧ (0 ≤ r.toInt) ∧ (r.toInt ≤ 1) ∧ r = (F_Dir_isOneOf_6 t0_0 t0_1 t0_2 t0_3 t0_4 t0_5 t0_6)) := by
  intro sz
  refine q_into (by decide) (Nat.le_of_ble_eq_true rfl) ?_
  intro p e s m below meth c ls hsz C0 V hl
  have hx := C0.1
  have hb := C0.2.1
  have hZ9 := (n_w47 hI hT0).2
  obtain ⟨-, btt0_6⟩ := hZ9
  clear btt0_6
  have hl : lv_has ls 2 [(0, .ref (q 47)), (1, .ref (g (8 + 2 * 6)))] := hl
  refine lv_aload_n hx hb d_6_9_0 rfl (lv_at hl 0 rfl) ?_
  refine q_get (ci := 10) (j := 4) (v := .int t0_4) C0 V i_Dir rfl rfl hT0 (by decide) w_361 rfl d_6_9_1 ?_
  refine lv_if_lt (tgt := 23) hx hb d_6_9_4 (by decide) (fun c12 => ?_) (fun c12 => ?_)
  ·
    refine lv_iconst (v := 0) hx hb d_6_9_23 (by decide) ?_
    exact q_retz C0 V (by decide) (⟨rfl, (show 0 ≤ (0 : Int32).toInt from (by have z7 : (0 : Int32).toInt = 0 := rfl; omega)), (show (0 : Int32).toInt ≤ 1 from (by have z7 : (0 : Int32).toInt = 0 := rfl; omega)), (show (0 : Int32) = (F_Dir_isOneOf_6 t0_0 t0_1 t0_2 t0_3 t0_4 t0_5 t0_6) from (by rw [F_Dir_isOneOf_6.eq_1, if_pos c12]))⟩) d_6_9_24
  ·
    refine lv_aload_n hx hb d_6_9_7 rfl (lv_at hl 1 rfl) ?_
    refine lv_aload_n hx hb d_6_9_8 rfl (lv_at hl 0 rfl) ?_
    refine q_get (ci := 10) (j := 4) (v := .int t0_4) C0 V i_Dir rfl rfl hT0 (by decide) w_361 rfl d_6_9_9 ?_
    refine lv_i2c hx hb d_6_9_12 rfl ?_
    obtain ⟨a15, e16⟩ := q_nm ((t0_4.toUInt32 % 65536).toInt32 : Int32)
    refine q_ti (v := a15) e16 ?_
    refine q_goi V (q_runVs (As := [.int a15]) (rest := []) (d := 4) (mc := 0) (ms := 0) (i := 6) C0 V rfl LV_Dir_63 (X_jStr_indexOf_II_6 l D g q ws  a15 hI   _) rfl rfl rfl hl.1 rfl (Nat.le_of_ble_eq_true rfl) ⟨by decide, by decide⟩ ⟨Nat.le_of_ble_eq_true rfl, Nat.le_of_ble_eq_true rfl⟩ d_6_9_13) (fun a20 u18 H locs hp19 V => ?_)
    obtain ⟨rfl, b21, b22, hE23⟩ := hp19
    have e24 : a20 = (F_jStr_indexOf_II_6 a15) := hE23
    clear b21
    clear b22
    refine lv_if_lt (tgt := 23) hx hb d_6_9_16 (by decide) (fun c25 => ?_) (fun c25 => ?_)
    ·
      refine lv_iconst (v := 0) hx hb d_6_9_23 (by decide) ?_
      exact q_retz C0 V (by decide) (⟨rfl, (show 0 ≤ (0 : Int32).toInt from (by have z7 : (0 : Int32).toInt = 0 := rfl; omega)), (show (0 : Int32).toInt ≤ 1 from (by have z7 : (0 : Int32).toInt = 0 := rfl; omega)), (show (0 : Int32) = (F_Dir_isOneOf_6 t0_0 t0_1 t0_2 t0_3 t0_4 t0_5 t0_6) from (by have c25x := c25; rw [e24, ← e16] at c25x; rw [F_Dir_isOneOf_6.eq_1, if_neg c12, if_pos c25x]))⟩) d_6_9_24
    ·
      refine lv_iconst (v := 1) hx hb d_6_9_19 (by decide) ?_
      refine lv_goto (tgt := 24) hx hb d_6_9_20 (by decide) ?_
      exact q_retz C0 V (by decide) (⟨rfl, (show 0 ≤ (1 : Int32).toInt from (by have z7 : (1 : Int32).toInt = 1 := rfl; omega)), (show (1 : Int32).toInt ≤ 1 from (by have z7 : (1 : Int32).toInt = 1 := rfl; omega)), (show (1 : Int32) = (F_Dir_isOneOf_6 t0_0 t0_1 t0_2 t0_3 t0_4 t0_5 t0_6) from (by have c25x := c25; rw [e24, ← e16] at c25x; rw [F_Dir_isOneOf_6.eq_1, if_neg c12, if_neg c25x]))⟩) d_6_9_24
def F_jLat_indexOfChar_7_L7 (x2 : Int32) (x3 : Int32) (x4 : Int32) (a1 : Int32) : Nat → Int32 → Int32
  | 0, _ => default
  | fm + 1, lx4 => if x4 ≤ lx4 then ((-1 : Int32)) else (if ((([37, 110] : List Int32).getD lx4.toNatClampNeg 0) : Int32) = a1 then (lx4) else (F_jLat_indexOfChar_7_L7 x2 x3 x4 a1 fm (lx4 + 1 : Int32)))
def F_jLat_indexOfChar_7 (x2 : Int32) (x3 : Int32) (x4 : Int32) : Int32 := F_jLat_indexOfChar_7_L7 x2 x3 x4 (x2.toInt8.toInt32 : Int32) ((2 - x3.toInt).toNat + 1) x3
set_option maxRecDepth 100000 in
set_option maxHeartbeats 4000000 in
theorem X_jLat_indexOfChar_7 (l : Launch) (D : va_G) (g : Nat → ClassId) (q : Nat → Nat) (ws : va_W) (x2 : Int32) (x3 : Int32) (x4 : Int32) (hI : q_I (nsh g q) q ws) (pre0 : 0 ≤ x3.toInt) (pre1 : x4.toInt ≤ 2) : q_mI l y_jLat_indexOfChar prog_33_method_23_code 6 (.int) 1 0 0 D g [.ref (g (9 + 2 * 7)), .int x2, .int x3, .int x4] ws (fun r u => ws = u ∧ (0 ≤ r.toInt + 1) ∧ (r.toInt ≤ 1) ∧ r = (F_jLat_indexOfChar_7 x2 x3 x4)) := by
  intro sz
  refine q_into (by decide) (Nat.le_of_ble_eq_true rfl) ?_
  intro p e s m below meth c ls hsz C0 V hl
  have hx := C0.1
  have hb := C0.2.1
  replace pre0 : q_F (0 ≤ x3.toInt) := pre0
  replace pre1 : q_F (x4.toInt ≤ 2) := pre1
  have hl : lv_has ls 6 [(0, .ref (g (9 + 2 * 7))), (1, .int x2), (2, .int x3), (3, .int x4)] := hl
  refine lv_iload_n hx hb d_33_23_0 rfl (lv_at hl 1 rfl) ?_
  refine lv_i2b hx hb d_33_23_1 rfl ?_
  obtain ⟨a1, e2⟩ := q_nm (x2.toInt8.toInt32 : Int32)
  refine q_ti (v := a1) e2 ?_
  refine lv_istore (lv' := [(4, .int a1), (0, .ref (g (9 + 2 * 7))), (1, .int x2), (2, .int x3), (3, .int x4)]) hx hb d_33_23_2 hl (by decide) rfl (fun ls hl => ?_)
  refine lv_iload_n hx hb d_33_23_4 rfl (lv_at hl 3 rfl) ?_
  refine lv_istore (lv' := [(5, .int x3), (4, .int a1), (0, .ref (g (9 + 2 * 7))), (1, .int x2), (2, .int x3), (3, .int x4)]) hx hb d_33_23_5 hl (by decide) rfl (fun ls hl => ?_)
  refine q_loop (X := Int32) (fun z H locs ls _ => q_F (x3.toInt ≤ z.toInt) ∧ q_Wd D g (va_A ws sz) s ws H locs ∧ lv_has ls 6 [(5, .int z), (4, .int a1), (0, .ref (g (9 + 2 * 7))), (3, .int x4)] ∧ (∃ n, (2 - z.toInt).toNat < n ∧ F_jLat_indexOfChar_7_L7 x2 x3 x4 a1 n z = (F_jLat_indexOfChar_7 x2 x3 x4))) (fun z => (2 - z.toInt).toNat) ?_ ((x3 : Int32)) _ _ _ ws ⟨(show q_F (x3.toInt ≤ x3.toInt) from (show x3.toInt ≤ x3.toInt from by omega)), V, q_lw hl (q_lw1 0 rfl (q_lw1 1 rfl (q_lw1 2 rfl (q_lw1 5 rfl q_lw0)))), ⟨((2 - x3.toInt).toNat + 1), Nat.lt_succ_self _, (show F_jLat_indexOfChar_7_L7 x2 x3 x4 a1 ((2 - x3.toInt).toNat + 1) x3 = (F_jLat_indexOfChar_7 x2 x3 x4) from (by rw [← e2, F_jLat_indexOfChar_7.eq_1]))⟩⟩
  rintro lx4 H locs ls _ ⟨i5, V, hl, ⟨fu9, hf10, hR7⟩⟩ ih6
  obtain ⟨fm11, rfl⟩ : ∃ m, fu9 = m + 1 := ⟨fu9 - 1, by omega⟩
  replace i5 : q_F (x3.toInt ≤ lx4.toInt) := i5
  replace hl : lv_has ls 6 [(5, .int lx4), (4, .int a1), (0, .ref (g (9 + 2 * 7))), (3, .int x4)] := hl
  refine lv_iload hx hb d_33_23_7 (lv_at hl 0 rfl) ?_
  refine lv_iload_n hx hb d_33_23_9 rfl (lv_at hl 3 rfl) ?_
  refine lv_icmp_ge (tgt := 31) hx hb d_33_23_10 (by decide) (fun c12 => ?_) (fun c12 => ?_)
  ·
    refine lv_iconst (v := (-1)) hx hb d_33_23_31 (by decide) ?_
    exact q_reti C0 V (⟨rfl, (show 0 ≤ (-1 : Int32).toInt + 1 from (by have z3 : (-1 : Int32).toInt = -1 := rfl; omega)), (show (-1 : Int32).toInt ≤ 1 from (by have z3 : (-1 : Int32).toInt = -1 := rfl; omega)), (show (-1 : Int32) = (F_jLat_indexOfChar_7 x2 x3 x4) from Eq.trans (by rw [F_jLat_indexOfChar_7_L7.eq_2, if_pos c12]) hR7)⟩) d_33_23_32
  ·
    have b14 : q_F (lx4.toInt < x4.toInt) := (q_nleI c12)
    refine lv_aload_n hx hb d_33_23_13 rfl (lv_at hl 2 rfl) ?_
    refine lv_iload hx hb d_33_23_14 (lv_at hl 0 rfl) ?_
    refine q_sbal (i := 7) (v := (([37, 110] : List Int32).getD lx4.toNatClampNeg 0)) C0 V rfl (show vp_in lx4 2 from q_ix (x := lx4.toInt) rfl (by have t1 : 0 ≤ x3.toInt := pre0; have t2 : x3.toInt ≤ lx4.toInt := i5; omega) (by have t1 : 0 ≤ x3.toInt := pre0; have t2 : x3.toInt ≤ lx4.toInt := i5; have t3 : x4.toInt ≤ 2 := pre1; have t4 : lx4.toInt < x4.toInt := b14; omega)) rfl d_33_23_16 ?_
    obtain ⟨a15, e16⟩ := q_nm ((([37, 110] : List Int32).getD lx4.toNatClampNeg 0) : Int32)
    refine q_ti (v := a15) e16 ?_
    refine lv_iload hx hb d_33_23_17 (lv_at hl 1 rfl) ?_
    refine lv_icmp_ne (tgt := 25) hx hb d_33_23_19 (by decide) (fun c17 => ?_) (fun c17 => ?_)
    ·
      obtain ⟨a19, e20⟩ := q_nm (lx4 + 1 : Int32)
      have b21 : q_F (a19.toInt = lx4.toInt + 1) := (by rw [← e20]; exact q_addI (y := 1) rfl (by decide) (by have _ := q_lo32 (x := lx4); have _ := q_hi32 (x := lx4); have t1 : lx4.toInt < x4.toInt := b14; have _ := q_lo32 (x := x4); have _ := q_hi32 (x := x4); omega) (by have _ := q_lo32 (x := lx4); have _ := q_hi32 (x := lx4); have t1 : lx4.toInt < x4.toInt := b14; have _ := q_lo32 (x := x4); have _ := q_hi32 (x := x4); omega))
      refine lv_iinc (v := a19) (lv' := [(5, .int a19), (4, .int a1), (0, .ref (g (9 + 2 * 7))), (3, .int x4)]) hx hb d_33_23_25 hl (k := 0) rfl (e20) (by decide) rfl (fun ls hl => ?_)
      refine lv_goto (tgt := 7) hx hb d_33_23_28 (by decide) ?_
      exact ih6 ((a19 : Int32)) _ _ _ ws (show (2 - a19.toInt).toNat < (2 - lx4.toInt).toNat from by have t1 : a19.toInt = lx4.toInt + 1 := b21; have t2 : x4.toInt ≤ 2 := pre1; have t3 : lx4.toInt < x4.toInt := b14; omega) ⟨(show q_F (x3.toInt ≤ a19.toInt) from (show x3.toInt ≤ a19.toInt from by have t1 : x3.toInt ≤ lx4.toInt := i5; have t2 : a19.toInt = lx4.toInt + 1 := b21; omega)), V, q_lw hl (q_lw1 0 rfl (q_lw1 1 rfl (q_lw1 2 rfl (q_lw1 3 rfl q_lw0)))), ⟨fm11, Nat.lt_of_lt_of_le (show (2 - a19.toInt).toNat < (2 - lx4.toInt).toNat from by have t1 : a19.toInt = lx4.toInt + 1 := b21; have t2 : x4.toInt ≤ 2 := pre1; have t3 : lx4.toInt < x4.toInt := b14; omega) (Nat.le_of_lt_succ hf10), (show F_jLat_indexOfChar_7_L7 x2 x3 x4 a1 fm11 a19 = (F_jLat_indexOfChar_7 x2 x3 x4) from Eq.trans (by have c17x := c17; rw [← e16] at c17x; rw [← e20, F_jLat_indexOfChar_7_L7.eq_2, if_neg c12, if_neg c17x]) hR7)⟩⟩
    ·
      refine lv_iload hx hb d_33_23_22 (lv_at hl 0 rfl) ?_
      exact q_reti C0 V (⟨rfl, (show 0 ≤ lx4.toInt + 1 from (by have t1 : 0 ≤ x3.toInt := pre0; have t2 : x3.toInt ≤ lx4.toInt := i5; omega)), (show lx4.toInt ≤ 1 from (by have t1 : x4.toInt ≤ 2 := pre1; have t2 : lx4.toInt < x4.toInt := b14; omega)), (show lx4 = (F_jLat_indexOfChar_7 x2 x3 x4) from Eq.trans (by have c17x := c17; rw [← e16] at c17x; rw [F_jLat_indexOfChar_7_L7.eq_2, if_neg c12, if_pos c17x]) hR7)⟩) d_33_23_24
def F_jLat_indexOf_7 (x2 : Int32) (x3 : Int32) (x4 : Int32) : Int32 := if ((F_jLat_canEncode x2) : Int32) = (0 : Int32) then ((-1 : Int32)) else (if (if x3 < 0 then 0 else x3 : Int32) < (if 2 < x4 then 2 else x4 : Int32) then (((F_jLat_indexOfChar_7 x2 (if x3 < 0 then 0 else x3 : Int32) (if 2 < x4 then 2 else x4 : Int32)) : Int32)) else ((-1 : Int32)))
set_option maxRecDepth 100000 in
set_option maxHeartbeats 4000000 in
theorem X_jLat_indexOf_7 (l : Launch) (D : va_G) (g : Nat → ClassId) (q : Nat → Nat) (ws : va_W) (x2 : Int32) (x3 : Int32) (x4 : Int32) (hI : q_I (nsh g q) q ws) (pre0 : 0 ≤ x3.toInt) (pre1 : x4.toInt ≤ 2) : q_mI l y_jLat_indexOf prog_33_method_22_code 4 (.int) 2 0 0 D g [.ref (g (9 + 2 * 7)), .int x2, .int x3, .int x4] ws (fun r u => ws = u ∧ (0 ≤ r.toInt + 1) ∧ (r.toInt ≤ 1) ∧ r = (F_jLat_indexOf_7 x2 x3 x4)) := by
  intro sz
  refine q_into (by decide) (Nat.le_of_ble_eq_true rfl) ?_
  intro p e s m below meth c ls hsz C0 V hl
  have hx := C0.1
  have hb := C0.2.1
  clear pre0
  clear pre1
  have hl : lv_has ls 4 [(0, .ref (g (9 + 2 * 7))), (1, .int x2), (2, .int x3), (3, .int x4)] := hl
  refine lv_iload_n hx hb d_33_22_0 rfl (lv_at hl 1 rfl) ?_
  refine q_goi V (q_runS (As := [.int x2]) (rest := []) (d := 1) (mc := 0) (ms := 0) C0 V rfl LS_jLat_88 (X_jLat_canEncode l D g q ws  x2 hI   _) rfl hl.1 rfl (Nat.le_of_ble_eq_true rfl) ⟨by decide, by decide⟩ ⟨Nat.le_of_ble_eq_true rfl, Nat.le_of_ble_eq_true rfl⟩ d_33_22_1) (fun a3 u1 H locs hp2 V => ?_)
  obtain ⟨rfl, b4, b5, hE6⟩ := hp2
  have e7 : a3 = (F_jLat_canEncode x2) := hE6
  clear b4
  clear b5
  refine lv_if_ne (tgt := 9) hx hb d_33_22_4 (by decide) (fun c8 => ?_) (fun c8 => ?_)
  ·
    refine lv_iload_n hx hb d_33_22_9 rfl (lv_at hl 2 rfl) ?_
    refine lv_iconst (v := 0) hx hb d_33_22_10 (by decide) ?_
    refine q_max C0 hl.1 rfl w_1773 w_803 w_7 w_804 ⟨Nat.le_of_ble_eq_true rfl, Nat.le_of_ble_eq_true rfl⟩ ⟨Nat.le_of_ble_eq_true rfl, Nat.le_of_ble_eq_true rfl⟩ d_33_22_11 ?_
    obtain ⟨a10, e11⟩ := q_nm (if x3 < 0 then 0 else x3 : Int32)
    refine q_ti (v := a10) e11 ?_
    have b12 : q_F (x3.toInt ≤ a10.toInt ∧ 0 ≤ a10.toInt ∧ (a10.toInt = x3.toInt ∨ a10.toInt = 0)) := (by rw [← e11]; show x3.toInt ≤ (if x3 < 0 then 0 else x3 : Int32).toInt ∧ 0 ≤ (if x3 < 0 then 0 else x3 : Int32).toInt ∧ ((if x3 < 0 then 0 else x3 : Int32).toInt = x3.toInt ∨ (if x3 < 0 then 0 else x3 : Int32).toInt = 0); exact (by have y1 : (0 : Int32).toInt = 0 := rfl; have z := s_max (a := x3) (b := 0); omega))
    refine lv_istore_n (lv' := [(2, .int a10), (0, .ref (g (9 + 2 * 7))), (1, .int x2), (3, .int x4)]) hx hb d_33_22_14 rfl hl (by decide) rfl (fun ls hl => ?_)
    refine lv_iload_n hx hb d_33_22_15 rfl (lv_at hl 3 rfl) ?_
    refine lv_aload_n hx hb d_33_22_16 rfl (lv_at hl 1 rfl) ?_
    refine q_slen (i := 7) (v := 2) C0 V rfl (by decide) d_33_22_17 ?_
    refine q_min C0 hl.1 rfl w_1774 w_774 w_7 w_775 ⟨Nat.le_of_ble_eq_true rfl, Nat.le_of_ble_eq_true rfl⟩ ⟨Nat.le_of_ble_eq_true rfl, Nat.le_of_ble_eq_true rfl⟩ d_33_22_18 ?_
    obtain ⟨a13, e14⟩ := q_nm (if 2 < x4 then 2 else x4 : Int32)
    refine q_ti (v := a13) e14 ?_
    have b15 : q_F (a13.toInt ≤ x4.toInt ∧ a13.toInt ≤ 2 ∧ (a13.toInt = x4.toInt ∨ a13.toInt = 2)) := (by rw [← e14]; show (if 2 < x4 then 2 else x4 : Int32).toInt ≤ x4.toInt ∧ (if 2 < x4 then 2 else x4 : Int32).toInt ≤ 2 ∧ ((if 2 < x4 then 2 else x4 : Int32).toInt = x4.toInt ∨ (if 2 < x4 then 2 else x4 : Int32).toInt = 2); exact (by have y1 : (2 : Int32).toInt = 2 := rfl; have z := s_min (a := x4) (b := 2); omega))
    refine lv_istore_n (lv' := [(3, .int a13), (2, .int a10), (0, .ref (g (9 + 2 * 7))), (1, .int x2)]) hx hb d_33_22_21 rfl hl (by decide) rfl (fun ls hl => ?_)
    refine lv_iload_n hx hb d_33_22_22 rfl (lv_at hl 1 rfl) ?_
    refine lv_iload_n hx hb d_33_22_23 rfl (lv_at hl 0 rfl) ?_
    refine lv_icmp_lt (tgt := 29) hx hb d_33_22_24 (by decide) (fun c16 => ?_) (fun c16 => ?_)
    ·
      refine lv_aload_n hx hb d_33_22_29 rfl (lv_at hl 2 rfl) ?_
      refine lv_iload_n hx hb d_33_22_30 rfl (lv_at hl 3 rfl) ?_
      refine lv_iload_n hx hb d_33_22_31 rfl (lv_at hl 1 rfl) ?_
      refine lv_iload_n hx hb d_33_22_32 rfl (lv_at hl 0 rfl) ?_
      refine q_goi V (q_runS (As := [.ref (g (9 + 2 * 7)), .int x2, .int a10, .int a13]) (rest := []) (d := 1) (mc := 0) (ms := 0) C0 V rfl LS_jLat_95 (X_jLat_indexOfChar_7 l D g q ws  x2 a10 a13 hI  (by have t1 : x3.toInt ≤ a10.toInt ∧ 0 ≤ a10.toInt ∧ (a10.toInt = x3.toInt ∨ a10.toInt = 0) := b12; omega) (by have t1 : a13.toInt ≤ x4.toInt ∧ a13.toInt ≤ 2 ∧ (a13.toInt = x4.toInt ∨ a13.toInt = 2) := b15; omega) _) rfl hl.1 rfl (Nat.le_of_ble_eq_true rfl) ⟨by decide, by decide⟩ ⟨Nat.le_of_ble_eq_true rfl, Nat.le_of_ble_eq_true rfl⟩ d_33_22_33) (fun a20 u18 H locs hp19 V => ?_)
      obtain ⟨rfl, b21, b22, hE23⟩ := hp19
      have e24 : a20 = (F_jLat_indexOfChar_7 x2 a10 a13) := hE23
      replace b21 : q_F (0 ≤ a20.toInt + 1) := b21
      replace b22 : q_F (a20.toInt ≤ 1) := b22
      exact q_reti C0 V (⟨rfl, (show 0 ≤ a20.toInt + 1 from (by first | with_reducible exact q_fe b21 | (have t1 : 0 ≤ a20.toInt + 1 := b21; omega))), (show a20.toInt ≤ 1 from (by first | with_reducible exact q_fe b22 | (have t1 : a20.toInt ≤ 1 := b22; omega))), (show a20 = (F_jLat_indexOf_7 x2 x3 x4) from (by have c8x := c8; rw [e7] at c8x; have c16x := c16; rw [← e14, ← e11] at c16x; rw [e24, ← e14, ← e11, F_jLat_indexOf_7.eq_1, if_neg c8x, if_pos c16x]))⟩) d_33_22_36
    ·
      refine lv_iconst (v := (-1)) hx hb d_33_22_27 (by decide) ?_
      exact q_reti C0 V (⟨rfl, (show 0 ≤ (-1 : Int32).toInt + 1 from (by have z3 : (-1 : Int32).toInt = -1 := rfl; omega)), (show (-1 : Int32).toInt ≤ 1 from (by have z3 : (-1 : Int32).toInt = -1 := rfl; omega)), (show (-1 : Int32) = (F_jLat_indexOf_7 x2 x3 x4) from (by have c8x := c8; rw [e7] at c8x; have c16x := c16; rw [← e14, ← e11] at c16x; rw [F_jLat_indexOf_7.eq_1, if_neg c8x, if_neg c16x]))⟩) d_33_22_28
  ·
    refine lv_iconst (v := (-1)) hx hb d_33_22_7 (by decide) ?_
    exact q_reti C0 V (⟨rfl, (show 0 ≤ (-1 : Int32).toInt + 1 from (by have z3 : (-1 : Int32).toInt = -1 := rfl; omega)), (show (-1 : Int32).toInt ≤ 1 from (by have z3 : (-1 : Int32).toInt = -1 := rfl; omega)), (show (-1 : Int32) = (F_jLat_indexOf_7 x2 x3 x4) from (by have c8x := c8; rw [e7] at c8x; rw [F_jLat_indexOf_7.eq_1, if_pos c8x]))⟩) d_33_22_8
def F_jStr_indexOf_III_7 (x2 : Int32) (x3 : Int32) : Int32 := ((F_jLat_indexOf_7 x2 x3 (2 : Int32)) : Int32)
set_option maxRecDepth 100000 in
set_option maxHeartbeats 4000000 in
theorem X_jStr_indexOf_III_7 (l : Launch) (D : va_G) (g : Nat → ClassId) (q : Nat → Nat) (ws : va_W) (x2 : Int32) (x3 : Int32) (hI : q_I (nsh g q) q ws) (pre0 : 0 ≤ x3.toInt) : q_mI l y_jStr_indexOf_III prog_31_method_80_code 3 (.int) 3 0 0 D g [.ref (g (8 + 2 * 7)), .int x2, .int x3] ws (fun r u => ws = u ∧ (0 ≤ r.toInt + 1) ∧ (r.toInt ≤ 1) ∧ r = (F_jStr_indexOf_III_7 x2 x3)) := by
  intro sz
  refine q_into (by decide) (Nat.le_of_ble_eq_true rfl) ?_
  intro p e s m below meth c ls hsz C0 V hl
  have hx := C0.1
  have hb := C0.2.1
  replace pre0 : q_F (0 ≤ x3.toInt) := pre0
  have hl : lv_has ls 3 [(0, .ref (g (8 + 2 * 7))), (1, .int x2), (2, .int x3)] := hl
  refine lv_aload_n hx hb d_31_80_0 rfl (lv_at hl 0 rfl) ?_
  refine q_goi V (q_runVs (As := []) (rest := []) (d := 1) (mc := 0) (ms := 0) (i := 7) C0 V rfl LV_jStr_492 (T_jStr_isLatin1_7 l D g q ws   hI   _) rfl rfl rfl hl.1 rfl (Nat.le_of_ble_eq_true rfl) ⟨by decide, by decide⟩ ⟨Nat.le_of_ble_eq_true rfl, Nat.le_of_ble_eq_true rfl⟩ d_31_80_1) (fun a3 u1 H locs hp2 V => ?_)
  obtain ⟨rfl, b4, b5⟩ := hp2
  replace b4 : q_F (1 ≤ a3.toInt) := b4
  replace b5 : q_F (a3.toInt ≤ 1) := b5
  obtain rfl : a3 = (1 : Int32) := q_Ieq (x := a3.toInt) (y := 1) rfl (by decide) (by have t1 : 1 ≤ a3.toInt := b4; have t2 : a3.toInt ≤ 1 := b5; omega)
  refine lv_if_eq (tgt := 23) hx hb d_31_80_4 (by decide) (fun c7 => absurd c7 (by decide)) (fun c7 => ?_)
  refine lv_aload_n hx hb d_31_80_7 rfl (lv_at hl 0 rfl) ?_
  refine q_sval (i := 7) C0 V rfl rfl w_1018 d_31_80_8 ?_
  refine lv_iload_n hx hb d_31_80_11 rfl (lv_at hl 1 rfl) ?_
  refine lv_iload_n hx hb d_31_80_12 rfl (lv_at hl 2 rfl) ?_
  refine lv_aload_n hx hb d_31_80_13 rfl (lv_at hl 0 rfl) ?_
  refine q_goi V (q_runVs (As := []) (rest := [.int x3, .int x2, .ref (g (9 + 2 * 7))]) (d := 2) (mc := 0) (ms := 0) (i := 7) C0 V rfl LV_jStr_505 (T_jStr_length_7 l D g q ws   hI   _) rfl rfl rfl hl.1 rfl (Nat.le_of_ble_eq_true rfl) ⟨by decide, by decide⟩ ⟨Nat.le_of_ble_eq_true rfl, Nat.le_of_ble_eq_true rfl⟩ d_31_80_14) (fun a10 u8 H locs hp9 V => ?_)
  obtain ⟨rfl, b11, b12⟩ := hp9
  replace b11 : q_F (2 ≤ a10.toInt) := b11
  replace b12 : q_F (a10.toInt ≤ 2) := b12
  obtain rfl : a10 = (2 : Int32) := q_Ieq (x := a10.toInt) (y := 2) rfl (by decide) (by have t1 : 2 ≤ a10.toInt := b11; have t2 : a10.toInt ≤ 2 := b12; omega)
  refine q_goi V (q_runS (As := [.ref (g (9 + 2 * 7)), .int x2, .int x3, .int 2]) (rest := []) (d := 2) (mc := 0) (ms := 0) C0 V rfl LS_jStr_637 (X_jLat_indexOf_7 l D g q ws  x2 x3 2 hI  (by have y0 : (2 : Int32).toInt = 2 := rfl; have t1 : 0 ≤ x3.toInt := pre0; omega) (by have y0 : (2 : Int32).toInt = 2 := rfl; omega) _) rfl hl.1 rfl (Nat.le_of_ble_eq_true rfl) ⟨by decide, by decide⟩ ⟨Nat.le_of_ble_eq_true rfl, Nat.le_of_ble_eq_true rfl⟩ d_31_80_17) (fun a16 u14 H locs hp15 V => ?_)
  obtain ⟨rfl, b17, b18, hE19⟩ := hp15
  have e20 : a16 = (F_jLat_indexOf_7 x2 x3 (2 : Int32)) := hE19
  replace b17 : q_F (0 ≤ a16.toInt + 1) := b17
  replace b18 : q_F (a16.toInt ≤ 1) := b18
  refine lv_goto (tgt := 36) hx hb d_31_80_20 (by decide) ?_
  exact q_reti C0 V (⟨rfl, (show 0 ≤ a16.toInt + 1 from (by first | with_reducible exact q_fe b17 | (have t1 : 0 ≤ a16.toInt + 1 := b17; omega))), (show a16.toInt ≤ 1 from (by first | with_reducible exact q_fe b18 | (have t1 : a16.toInt ≤ 1 := b18; omega))), (show a16 = (F_jStr_indexOf_III_7 x2 x3) from (by rw [e20, F_jStr_indexOf_III_7.eq_1]))⟩) d_31_80_36
def F_jStr_indexOf_II_7 (x2 : Int32) : Int32 := ((F_jStr_indexOf_III_7 x2 (0 : Int32)) : Int32)
set_option maxRecDepth 100000 in
set_option maxHeartbeats 4000000 in
theorem X_jStr_indexOf_II_7 (l : Launch) (D : va_G) (g : Nat → ClassId) (q : Nat → Nat) (ws : va_W) (x2 : Int32) (hI : q_I (nsh g q) q ws) : q_mI l y_jStr_indexOf_II prog_31_method_79_code 2 (.int) 4 0 0 D g [.ref (g (8 + 2 * 7)), .int x2] ws (fun r u => ws = u ∧ (0 ≤ r.toInt + 1) ∧ (r.toInt ≤ 1) ∧ r = (F_jStr_indexOf_II_7 x2)) := by
  intro sz
  refine q_into (by decide) (Nat.le_of_ble_eq_true rfl) ?_
  intro p e s m below meth c ls hsz C0 V hl
  have hx := C0.1
  have hb := C0.2.1
  have hl : lv_has ls 2 [(0, .ref (g (8 + 2 * 7))), (1, .int x2)] := hl
  refine lv_aload_n hx hb d_31_79_0 rfl (lv_at hl 0 rfl) ?_
  refine lv_iload_n hx hb d_31_79_1 rfl (lv_at hl 1 rfl) ?_
  refine lv_iconst (v := 0) hx hb d_31_79_2 (by decide) ?_
  refine q_goi V (q_runVs (As := [.int x2, .int 0]) (rest := []) (d := 3) (mc := 0) (ms := 0) (i := 7) C0 V rfl LV_jStr_633 (X_jStr_indexOf_III_7 l D g q ws  x2 0 hI  (by have y0 : (0 : Int32).toInt = 0 := rfl; omega) _) rfl rfl rfl hl.1 rfl (Nat.le_of_ble_eq_true rfl) ⟨by decide, by decide⟩ ⟨Nat.le_of_ble_eq_true rfl, Nat.le_of_ble_eq_true rfl⟩ d_31_79_3) (fun a3 u1 H locs hp2 V => ?_)
  obtain ⟨rfl, b4, b5, hE6⟩ := hp2
  have e7 : a3 = (F_jStr_indexOf_III_7 x2 (0 : Int32)) := hE6
  replace b4 : q_F (0 ≤ a3.toInt + 1) := b4
  replace b5 : q_F (a3.toInt ≤ 1) := b5
  exact q_reti C0 V (⟨rfl, (show 0 ≤ a3.toInt + 1 from (by first | with_reducible exact q_fe b4 | (have t1 : 0 ≤ a3.toInt + 1 := b4; omega))), (show a3.toInt ≤ 1 from (by first | with_reducible exact q_fe b5 | (have t1 : a3.toInt ≤ 1 := b5; omega))), (show a3 = (F_jStr_indexOf_II_7 x2) from (by rw [e7, F_jStr_indexOf_II_7.eq_1]))⟩) d_31_79_6
def F_Dir_isOneOf_7 (t0_0 : Int32) (t0_1 : Int32) (t0_2 : Int32) (t0_3 : Int32) (t0_4 : Int32) (t0_5 : Int32) (t0_6 : Int32) : Int32 := if t0_4 < (0 : Int32) then ((0 : Int32)) else (if ((F_jStr_indexOf_II_7 ((t0_4.toUInt32 % 65536).toInt32 : Int32)) : Int32) < (0 : Int32) then ((0 : Int32)) else ((1 : Int32)))
set_option maxRecDepth 100000 in
set_option maxHeartbeats 4000000 in
theorem X_Dir_isOneOf_7 (l : Launch) (D : va_G) (g : Nat → ClassId) (q : Nat → Nat) (ws : va_W) (hI : q_I (nsh g q) q ws) (t0_0 : Int32) (t0_1 : Int32) (t0_2 : Int32) (t0_3 : Int32) (t0_4 : Int32) (t0_5 : Int32) (t0_6 : Int32) (hT0 : ws[47]? = (some (q 47, .inr (10, [.int t0_0, .int t0_1, .int t0_2, .int t0_3, .int t0_4, .int t0_5, .ref (q 1), .int t0_6])) : Option (Nat × va_E))) : q_mI l y_Dir_isOneOf prog_6_method_9_code 2 (.boolean) 5 0 0 D g [.ref (q 47), .ref (g (8 + 2 * 7))] ws (fun r u => ws = u ∧ (0 ≤ r.toInt) ∧ (r.toInt ≤ 1) ∧ r = (F_Dir_isOneOf_7 t0_0 t0_1 t0_2 t0_3 t0_4 t0_5 t0_6)) := by
  intro sz
  refine q_into (by decide) (Nat.le_of_ble_eq_true rfl) ?_
  intro p e s m below meth c ls hsz C0 V hl
  have hx := C0.1
  have hb := C0.2.1
  have hZ9 := (n_w47 hI hT0).2
  obtain ⟨-, btt0_6⟩ := hZ9
  clear btt0_6
  have hl : lv_has ls 2 [(0, .ref (q 47)), (1, .ref (g (8 + 2 * 7)))] := hl
  refine lv_aload_n hx hb d_6_9_0 rfl (lv_at hl 0 rfl) ?_
  refine q_get (ci := 10) (j := 4) (v := .int t0_4) C0 V i_Dir rfl rfl hT0 (by decide) w_361 rfl d_6_9_1 ?_
  refine lv_if_lt (tgt := 23) hx hb d_6_9_4 (by decide) (fun c12 => ?_) (fun c12 => ?_)
  ·
    refine lv_iconst (v := 0) hx hb d_6_9_23 (by decide) ?_
    exact q_retz C0 V (by decide) (⟨rfl, (show 0 ≤ (0 : Int32).toInt from (by have z7 : (0 : Int32).toInt = 0 := rfl; omega)), (show (0 : Int32).toInt ≤ 1 from (by have z7 : (0 : Int32).toInt = 0 := rfl; omega)), (show (0 : Int32) = (F_Dir_isOneOf_7 t0_0 t0_1 t0_2 t0_3 t0_4 t0_5 t0_6) from (by rw [F_Dir_isOneOf_7.eq_1, if_pos c12]))⟩) d_6_9_24
  ·
    refine lv_aload_n hx hb d_6_9_7 rfl (lv_at hl 1 rfl) ?_
    refine lv_aload_n hx hb d_6_9_8 rfl (lv_at hl 0 rfl) ?_
    refine q_get (ci := 10) (j := 4) (v := .int t0_4) C0 V i_Dir rfl rfl hT0 (by decide) w_361 rfl d_6_9_9 ?_
    refine lv_i2c hx hb d_6_9_12 rfl ?_
    obtain ⟨a15, e16⟩ := q_nm ((t0_4.toUInt32 % 65536).toInt32 : Int32)
    refine q_ti (v := a15) e16 ?_
    refine q_goi V (q_runVs (As := [.int a15]) (rest := []) (d := 4) (mc := 0) (ms := 0) (i := 7) C0 V rfl LV_Dir_63 (X_jStr_indexOf_II_7 l D g q ws  a15 hI   _) rfl rfl rfl hl.1 rfl (Nat.le_of_ble_eq_true rfl) ⟨by decide, by decide⟩ ⟨Nat.le_of_ble_eq_true rfl, Nat.le_of_ble_eq_true rfl⟩ d_6_9_13) (fun a20 u18 H locs hp19 V => ?_)
    obtain ⟨rfl, b21, b22, hE23⟩ := hp19
    have e24 : a20 = (F_jStr_indexOf_II_7 a15) := hE23
    clear b21
    clear b22
    refine lv_if_lt (tgt := 23) hx hb d_6_9_16 (by decide) (fun c25 => ?_) (fun c25 => ?_)
    ·
      refine lv_iconst (v := 0) hx hb d_6_9_23 (by decide) ?_
      exact q_retz C0 V (by decide) (⟨rfl, (show 0 ≤ (0 : Int32).toInt from (by have z7 : (0 : Int32).toInt = 0 := rfl; omega)), (show (0 : Int32).toInt ≤ 1 from (by have z7 : (0 : Int32).toInt = 0 := rfl; omega)), (show (0 : Int32) = (F_Dir_isOneOf_7 t0_0 t0_1 t0_2 t0_3 t0_4 t0_5 t0_6) from (by have c25x := c25; rw [e24, ← e16] at c25x; rw [F_Dir_isOneOf_7.eq_1, if_neg c12, if_pos c25x]))⟩) d_6_9_24
    ·
      refine lv_iconst (v := 1) hx hb d_6_9_19 (by decide) ?_
      refine lv_goto (tgt := 24) hx hb d_6_9_20 (by decide) ?_
      exact q_retz C0 V (by decide) (⟨rfl, (show 0 ≤ (1 : Int32).toInt from (by have z7 : (1 : Int32).toInt = 1 := rfl; omega)), (show (1 : Int32).toInt ≤ 1 from (by have z7 : (1 : Int32).toInt = 1 := rfl; omega)), (show (1 : Int32) = (F_Dir_isOneOf_7 t0_0 t0_1 t0_2 t0_3 t0_4 t0_5 t0_6) from (by have c25x := c25; rw [e24, ← e16] at c25x; rw [F_Dir_isOneOf_7.eq_1, if_neg c12, if_neg c25x]))⟩) d_6_9_24
def F_jLat_indexOfChar_8_L7 (x2 : Int32) (x3 : Int32) (x4 : Int32) (a1 : Int32) : Nat → Int32 → Int32
  | 0, _ => default
  | fm + 1, lx4 => if x4 ≤ lx4 then ((-1 : Int32)) else (if ((([98, 66, 115, 83] : List Int32).getD lx4.toNatClampNeg 0) : Int32) = a1 then (lx4) else (F_jLat_indexOfChar_8_L7 x2 x3 x4 a1 fm (lx4 + 1 : Int32)))
def F_jLat_indexOfChar_8 (x2 : Int32) (x3 : Int32) (x4 : Int32) : Int32 := F_jLat_indexOfChar_8_L7 x2 x3 x4 (x2.toInt8.toInt32 : Int32) ((4 - x3.toInt).toNat + 1) x3
set_option maxRecDepth 100000 in
set_option maxHeartbeats 4000000 in
theorem X_jLat_indexOfChar_8 (l : Launch) (D : va_G) (g : Nat → ClassId) (q : Nat → Nat) (ws : va_W) (x2 : Int32) (x3 : Int32) (x4 : Int32) (hI : q_I (nsh g q) q ws) (pre0 : 0 ≤ x3.toInt) (pre1 : x4.toInt ≤ 4) : q_mI l y_jLat_indexOfChar prog_33_method_23_code 6 (.int) 1 0 0 D g [.ref (g (9 + 2 * 8)), .int x2, .int x3, .int x4] ws (fun r u => ws = u ∧ (0 ≤ r.toInt + 1) ∧ (r.toInt ≤ 3) ∧ r = (F_jLat_indexOfChar_8 x2 x3 x4)) := by
  intro sz
  refine q_into (by decide) (Nat.le_of_ble_eq_true rfl) ?_
  intro p e s m below meth c ls hsz C0 V hl
  have hx := C0.1
  have hb := C0.2.1
  replace pre0 : q_F (0 ≤ x3.toInt) := pre0
  replace pre1 : q_F (x4.toInt ≤ 4) := pre1
  have hl : lv_has ls 6 [(0, .ref (g (9 + 2 * 8))), (1, .int x2), (2, .int x3), (3, .int x4)] := hl
  refine lv_iload_n hx hb d_33_23_0 rfl (lv_at hl 1 rfl) ?_
  refine lv_i2b hx hb d_33_23_1 rfl ?_
  obtain ⟨a1, e2⟩ := q_nm (x2.toInt8.toInt32 : Int32)
  refine q_ti (v := a1) e2 ?_
  refine lv_istore (lv' := [(4, .int a1), (0, .ref (g (9 + 2 * 8))), (1, .int x2), (2, .int x3), (3, .int x4)]) hx hb d_33_23_2 hl (by decide) rfl (fun ls hl => ?_)
  refine lv_iload_n hx hb d_33_23_4 rfl (lv_at hl 3 rfl) ?_
  refine lv_istore (lv' := [(5, .int x3), (4, .int a1), (0, .ref (g (9 + 2 * 8))), (1, .int x2), (2, .int x3), (3, .int x4)]) hx hb d_33_23_5 hl (by decide) rfl (fun ls hl => ?_)
  refine q_loop (X := Int32) (fun z H locs ls _ => q_F (x3.toInt ≤ z.toInt) ∧ q_Wd D g (va_A ws sz) s ws H locs ∧ lv_has ls 6 [(5, .int z), (4, .int a1), (0, .ref (g (9 + 2 * 8))), (3, .int x4)] ∧ (∃ n, (4 - z.toInt).toNat < n ∧ F_jLat_indexOfChar_8_L7 x2 x3 x4 a1 n z = (F_jLat_indexOfChar_8 x2 x3 x4))) (fun z => (4 - z.toInt).toNat) ?_ ((x3 : Int32)) _ _ _ ws ⟨(show q_F (x3.toInt ≤ x3.toInt) from (show x3.toInt ≤ x3.toInt from by omega)), V, q_lw hl (q_lw1 0 rfl (q_lw1 1 rfl (q_lw1 2 rfl (q_lw1 5 rfl q_lw0)))), ⟨((4 - x3.toInt).toNat + 1), Nat.lt_succ_self _, (show F_jLat_indexOfChar_8_L7 x2 x3 x4 a1 ((4 - x3.toInt).toNat + 1) x3 = (F_jLat_indexOfChar_8 x2 x3 x4) from (by rw [← e2, F_jLat_indexOfChar_8.eq_1]))⟩⟩
  rintro lx4 H locs ls _ ⟨i5, V, hl, ⟨fu9, hf10, hR7⟩⟩ ih6
  obtain ⟨fm11, rfl⟩ : ∃ m, fu9 = m + 1 := ⟨fu9 - 1, by omega⟩
  replace i5 : q_F (x3.toInt ≤ lx4.toInt) := i5
  replace hl : lv_has ls 6 [(5, .int lx4), (4, .int a1), (0, .ref (g (9 + 2 * 8))), (3, .int x4)] := hl
  refine lv_iload hx hb d_33_23_7 (lv_at hl 0 rfl) ?_
  refine lv_iload_n hx hb d_33_23_9 rfl (lv_at hl 3 rfl) ?_
  refine lv_icmp_ge (tgt := 31) hx hb d_33_23_10 (by decide) (fun c12 => ?_) (fun c12 => ?_)
  ·
    refine lv_iconst (v := (-1)) hx hb d_33_23_31 (by decide) ?_
    exact q_reti C0 V (⟨rfl, (show 0 ≤ (-1 : Int32).toInt + 1 from (by have z3 : (-1 : Int32).toInt = -1 := rfl; omega)), (show (-1 : Int32).toInt ≤ 3 from (by have z3 : (-1 : Int32).toInt = -1 := rfl; omega)), (show (-1 : Int32) = (F_jLat_indexOfChar_8 x2 x3 x4) from Eq.trans (by rw [F_jLat_indexOfChar_8_L7.eq_2, if_pos c12]) hR7)⟩) d_33_23_32
  ·
    have b14 : q_F (lx4.toInt < x4.toInt) := (q_nleI c12)
    refine lv_aload_n hx hb d_33_23_13 rfl (lv_at hl 2 rfl) ?_
    refine lv_iload hx hb d_33_23_14 (lv_at hl 0 rfl) ?_
    refine q_sbal (i := 8) (v := (([98, 66, 115, 83] : List Int32).getD lx4.toNatClampNeg 0)) C0 V rfl (show vp_in lx4 4 from q_ix (x := lx4.toInt) rfl (by have t1 : 0 ≤ x3.toInt := pre0; have t2 : x3.toInt ≤ lx4.toInt := i5; omega) (by have t1 : 0 ≤ x3.toInt := pre0; have t2 : x3.toInt ≤ lx4.toInt := i5; have t3 : x4.toInt ≤ 4 := pre1; have t4 : lx4.toInt < x4.toInt := b14; omega)) rfl d_33_23_16 ?_
    obtain ⟨a15, e16⟩ := q_nm ((([98, 66, 115, 83] : List Int32).getD lx4.toNatClampNeg 0) : Int32)
    refine q_ti (v := a15) e16 ?_
    refine lv_iload hx hb d_33_23_17 (lv_at hl 1 rfl) ?_
    refine lv_icmp_ne (tgt := 25) hx hb d_33_23_19 (by decide) (fun c17 => ?_) (fun c17 => ?_)
    ·
      obtain ⟨a19, e20⟩ := q_nm (lx4 + 1 : Int32)
      have b21 : q_F (a19.toInt = lx4.toInt + 1) := (by rw [← e20]; exact q_addI (y := 1) rfl (by decide) (by have _ := q_lo32 (x := lx4); have _ := q_hi32 (x := lx4); have t1 : lx4.toInt < x4.toInt := b14; have _ := q_lo32 (x := x4); have _ := q_hi32 (x := x4); omega) (by have _ := q_lo32 (x := lx4); have _ := q_hi32 (x := lx4); have t1 : lx4.toInt < x4.toInt := b14; have _ := q_lo32 (x := x4); have _ := q_hi32 (x := x4); omega))
      refine lv_iinc (v := a19) (lv' := [(5, .int a19), (4, .int a1), (0, .ref (g (9 + 2 * 8))), (3, .int x4)]) hx hb d_33_23_25 hl (k := 0) rfl (e20) (by decide) rfl (fun ls hl => ?_)
      refine lv_goto (tgt := 7) hx hb d_33_23_28 (by decide) ?_
      exact ih6 ((a19 : Int32)) _ _ _ ws (show (4 - a19.toInt).toNat < (4 - lx4.toInt).toNat from by have t1 : a19.toInt = lx4.toInt + 1 := b21; have t2 : x4.toInt ≤ 4 := pre1; have t3 : lx4.toInt < x4.toInt := b14; omega) ⟨(show q_F (x3.toInt ≤ a19.toInt) from (show x3.toInt ≤ a19.toInt from by have t1 : x3.toInt ≤ lx4.toInt := i5; have t2 : a19.toInt = lx4.toInt + 1 := b21; omega)), V, q_lw hl (q_lw1 0 rfl (q_lw1 1 rfl (q_lw1 2 rfl (q_lw1 3 rfl q_lw0)))), ⟨fm11, Nat.lt_of_lt_of_le (show (4 - a19.toInt).toNat < (4 - lx4.toInt).toNat from by have t1 : a19.toInt = lx4.toInt + 1 := b21; have t2 : x4.toInt ≤ 4 := pre1; have t3 : lx4.toInt < x4.toInt := b14; omega) (Nat.le_of_lt_succ hf10), (show F_jLat_indexOfChar_8_L7 x2 x3 x4 a1 fm11 a19 = (F_jLat_indexOfChar_8 x2 x3 x4) from Eq.trans (by have c17x := c17; rw [← e16] at c17x; rw [← e20, F_jLat_indexOfChar_8_L7.eq_2, if_neg c12, if_neg c17x]) hR7)⟩⟩
    ·
      refine lv_iload hx hb d_33_23_22 (lv_at hl 0 rfl) ?_
      exact q_reti C0 V (⟨rfl, (show 0 ≤ lx4.toInt + 1 from (by have t1 : 0 ≤ x3.toInt := pre0; have t2 : x3.toInt ≤ lx4.toInt := i5; omega)), (show lx4.toInt ≤ 3 from (by have t1 : x4.toInt ≤ 4 := pre1; have t2 : lx4.toInt < x4.toInt := b14; omega)), (show lx4 = (F_jLat_indexOfChar_8 x2 x3 x4) from Eq.trans (by have c17x := c17; rw [← e16] at c17x; rw [F_jLat_indexOfChar_8_L7.eq_2, if_neg c12, if_pos c17x]) hR7)⟩) d_33_23_24
def F_jLat_indexOf_8 (x2 : Int32) (x3 : Int32) (x4 : Int32) : Int32 := if ((F_jLat_canEncode x2) : Int32) = (0 : Int32) then ((-1 : Int32)) else (if (if x3 < 0 then 0 else x3 : Int32) < (if 4 < x4 then 4 else x4 : Int32) then (((F_jLat_indexOfChar_8 x2 (if x3 < 0 then 0 else x3 : Int32) (if 4 < x4 then 4 else x4 : Int32)) : Int32)) else ((-1 : Int32)))
set_option maxRecDepth 100000 in
set_option maxHeartbeats 4000000 in
theorem X_jLat_indexOf_8 (l : Launch) (D : va_G) (g : Nat → ClassId) (q : Nat → Nat) (ws : va_W) (x2 : Int32) (x3 : Int32) (x4 : Int32) (hI : q_I (nsh g q) q ws) (pre0 : 0 ≤ x3.toInt) (pre1 : x4.toInt ≤ 4) : q_mI l y_jLat_indexOf prog_33_method_22_code 4 (.int) 2 0 0 D g [.ref (g (9 + 2 * 8)), .int x2, .int x3, .int x4] ws (fun r u => ws = u ∧ (0 ≤ r.toInt + 1) ∧ (r.toInt ≤ 3) ∧ r = (F_jLat_indexOf_8 x2 x3 x4)) := by
  intro sz
  refine q_into (by decide) (Nat.le_of_ble_eq_true rfl) ?_
  intro p e s m below meth c ls hsz C0 V hl
  have hx := C0.1
  have hb := C0.2.1
  clear pre0
  clear pre1
  have hl : lv_has ls 4 [(0, .ref (g (9 + 2 * 8))), (1, .int x2), (2, .int x3), (3, .int x4)] := hl
  refine lv_iload_n hx hb d_33_22_0 rfl (lv_at hl 1 rfl) ?_
  refine q_goi V (q_runS (As := [.int x2]) (rest := []) (d := 1) (mc := 0) (ms := 0) C0 V rfl LS_jLat_88 (X_jLat_canEncode l D g q ws  x2 hI   _) rfl hl.1 rfl (Nat.le_of_ble_eq_true rfl) ⟨by decide, by decide⟩ ⟨Nat.le_of_ble_eq_true rfl, Nat.le_of_ble_eq_true rfl⟩ d_33_22_1) (fun a3 u1 H locs hp2 V => ?_)
  obtain ⟨rfl, b4, b5, hE6⟩ := hp2
  have e7 : a3 = (F_jLat_canEncode x2) := hE6
  clear b4
  clear b5
  refine lv_if_ne (tgt := 9) hx hb d_33_22_4 (by decide) (fun c8 => ?_) (fun c8 => ?_)
  ·
    refine lv_iload_n hx hb d_33_22_9 rfl (lv_at hl 2 rfl) ?_
    refine lv_iconst (v := 0) hx hb d_33_22_10 (by decide) ?_
    refine q_max C0 hl.1 rfl w_1773 w_803 w_7 w_804 ⟨Nat.le_of_ble_eq_true rfl, Nat.le_of_ble_eq_true rfl⟩ ⟨Nat.le_of_ble_eq_true rfl, Nat.le_of_ble_eq_true rfl⟩ d_33_22_11 ?_
    obtain ⟨a10, e11⟩ := q_nm (if x3 < 0 then 0 else x3 : Int32)
    refine q_ti (v := a10) e11 ?_
    have b12 : q_F (x3.toInt ≤ a10.toInt ∧ 0 ≤ a10.toInt ∧ (a10.toInt = x3.toInt ∨ a10.toInt = 0)) := (by rw [← e11]; show x3.toInt ≤ (if x3 < 0 then 0 else x3 : Int32).toInt ∧ 0 ≤ (if x3 < 0 then 0 else x3 : Int32).toInt ∧ ((if x3 < 0 then 0 else x3 : Int32).toInt = x3.toInt ∨ (if x3 < 0 then 0 else x3 : Int32).toInt = 0); exact (by have y1 : (0 : Int32).toInt = 0 := rfl; have z := s_max (a := x3) (b := 0); omega))
    refine lv_istore_n (lv' := [(2, .int a10), (0, .ref (g (9 + 2 * 8))), (1, .int x2), (3, .int x4)]) hx hb d_33_22_14 rfl hl (by decide) rfl (fun ls hl => ?_)
    refine lv_iload_n hx hb d_33_22_15 rfl (lv_at hl 3 rfl) ?_
    refine lv_aload_n hx hb d_33_22_16 rfl (lv_at hl 1 rfl) ?_
    refine q_slen (i := 8) (v := 4) C0 V rfl (by decide) d_33_22_17 ?_
    refine q_min C0 hl.1 rfl w_1774 w_774 w_7 w_775 ⟨Nat.le_of_ble_eq_true rfl, Nat.le_of_ble_eq_true rfl⟩ ⟨Nat.le_of_ble_eq_true rfl, Nat.le_of_ble_eq_true rfl⟩ d_33_22_18 ?_
    obtain ⟨a13, e14⟩ := q_nm (if 4 < x4 then 4 else x4 : Int32)
    refine q_ti (v := a13) e14 ?_
    have b15 : q_F (a13.toInt ≤ x4.toInt ∧ a13.toInt ≤ 4 ∧ (a13.toInt = x4.toInt ∨ a13.toInt = 4)) := (by rw [← e14]; show (if 4 < x4 then 4 else x4 : Int32).toInt ≤ x4.toInt ∧ (if 4 < x4 then 4 else x4 : Int32).toInt ≤ 4 ∧ ((if 4 < x4 then 4 else x4 : Int32).toInt = x4.toInt ∨ (if 4 < x4 then 4 else x4 : Int32).toInt = 4); exact (by have y1 : (4 : Int32).toInt = 4 := rfl; have z := s_min (a := x4) (b := 4); omega))
    refine lv_istore_n (lv' := [(3, .int a13), (2, .int a10), (0, .ref (g (9 + 2 * 8))), (1, .int x2)]) hx hb d_33_22_21 rfl hl (by decide) rfl (fun ls hl => ?_)
    refine lv_iload_n hx hb d_33_22_22 rfl (lv_at hl 1 rfl) ?_
    refine lv_iload_n hx hb d_33_22_23 rfl (lv_at hl 0 rfl) ?_
    refine lv_icmp_lt (tgt := 29) hx hb d_33_22_24 (by decide) (fun c16 => ?_) (fun c16 => ?_)
    ·
      refine lv_aload_n hx hb d_33_22_29 rfl (lv_at hl 2 rfl) ?_
      refine lv_iload_n hx hb d_33_22_30 rfl (lv_at hl 3 rfl) ?_
      refine lv_iload_n hx hb d_33_22_31 rfl (lv_at hl 1 rfl) ?_
      refine lv_iload_n hx hb d_33_22_32 rfl (lv_at hl 0 rfl) ?_
      refine q_goi V (q_runS (As := [.ref (g (9 + 2 * 8)), .int x2, .int a10, .int a13]) (rest := []) (d := 1) (mc := 0) (ms := 0) C0 V rfl LS_jLat_95 (X_jLat_indexOfChar_8 l D g q ws  x2 a10 a13 hI  (by have t1 : x3.toInt ≤ a10.toInt ∧ 0 ≤ a10.toInt ∧ (a10.toInt = x3.toInt ∨ a10.toInt = 0) := b12; omega) (by have t1 : a13.toInt ≤ x4.toInt ∧ a13.toInt ≤ 4 ∧ (a13.toInt = x4.toInt ∨ a13.toInt = 4) := b15; omega) _) rfl hl.1 rfl (Nat.le_of_ble_eq_true rfl) ⟨by decide, by decide⟩ ⟨Nat.le_of_ble_eq_true rfl, Nat.le_of_ble_eq_true rfl⟩ d_33_22_33) (fun a20 u18 H locs hp19 V => ?_)
      obtain ⟨rfl, b21, b22, hE23⟩ := hp19
      have e24 : a20 = (F_jLat_indexOfChar_8 x2 a10 a13) := hE23
      replace b21 : q_F (0 ≤ a20.toInt + 1) := b21
      replace b22 : q_F (a20.toInt ≤ 3) := b22
      exact q_reti C0 V (⟨rfl, (show 0 ≤ a20.toInt + 1 from (by first | with_reducible exact q_fe b21 | (have t1 : 0 ≤ a20.toInt + 1 := b21; omega))), (show a20.toInt ≤ 3 from (by first | with_reducible exact q_fe b22 | (have t1 : a20.toInt ≤ 3 := b22; omega))), (show a20 = (F_jLat_indexOf_8 x2 x3 x4) from (by have c8x := c8; rw [e7] at c8x; have c16x := c16; rw [← e14, ← e11] at c16x; rw [e24, ← e14, ← e11, F_jLat_indexOf_8.eq_1, if_neg c8x, if_pos c16x]))⟩) d_33_22_36
    ·
      refine lv_iconst (v := (-1)) hx hb d_33_22_27 (by decide) ?_
      exact q_reti C0 V (⟨rfl, (show 0 ≤ (-1 : Int32).toInt + 1 from (by have z3 : (-1 : Int32).toInt = -1 := rfl; omega)), (show (-1 : Int32).toInt ≤ 3 from (by have z3 : (-1 : Int32).toInt = -1 := rfl; omega)), (show (-1 : Int32) = (F_jLat_indexOf_8 x2 x3 x4) from (by have c8x := c8; rw [e7] at c8x; have c16x := c16; rw [← e14, ← e11] at c16x; rw [F_jLat_indexOf_8.eq_1, if_neg c8x, if_neg c16x]))⟩) d_33_22_28
  ·
    refine lv_iconst (v := (-1)) hx hb d_33_22_7 (by decide) ?_
    exact q_reti C0 V (⟨rfl, (show 0 ≤ (-1 : Int32).toInt + 1 from (by have z3 : (-1 : Int32).toInt = -1 := rfl; omega)), (show (-1 : Int32).toInt ≤ 3 from (by have z3 : (-1 : Int32).toInt = -1 := rfl; omega)), (show (-1 : Int32) = (F_jLat_indexOf_8 x2 x3 x4) from (by have c8x := c8; rw [e7] at c8x; rw [F_jLat_indexOf_8.eq_1, if_pos c8x]))⟩) d_33_22_8
def F_jStr_indexOf_III_8 (x2 : Int32) (x3 : Int32) : Int32 := ((F_jLat_indexOf_8 x2 x3 (4 : Int32)) : Int32)
set_option maxRecDepth 100000 in
set_option maxHeartbeats 4000000 in
theorem X_jStr_indexOf_III_8 (l : Launch) (D : va_G) (g : Nat → ClassId) (q : Nat → Nat) (ws : va_W) (x2 : Int32) (x3 : Int32) (hI : q_I (nsh g q) q ws) (pre0 : 0 ≤ x3.toInt) : q_mI l y_jStr_indexOf_III prog_31_method_80_code 3 (.int) 3 0 0 D g [.ref (g (8 + 2 * 8)), .int x2, .int x3] ws (fun r u => ws = u ∧ (0 ≤ r.toInt + 1) ∧ (r.toInt ≤ 3) ∧ r = (F_jStr_indexOf_III_8 x2 x3)) := by
  intro sz
  refine q_into (by decide) (Nat.le_of_ble_eq_true rfl) ?_
  intro p e s m below meth c ls hsz C0 V hl
  have hx := C0.1
  have hb := C0.2.1
  replace pre0 : q_F (0 ≤ x3.toInt) := pre0
  have hl : lv_has ls 3 [(0, .ref (g (8 + 2 * 8))), (1, .int x2), (2, .int x3)] := hl
  refine lv_aload_n hx hb d_31_80_0 rfl (lv_at hl 0 rfl) ?_
  refine q_goi V (q_runVs (As := []) (rest := []) (d := 1) (mc := 0) (ms := 0) (i := 8) C0 V rfl LV_jStr_492 (T_jStr_isLatin1_8 l D g q ws   hI   _) rfl rfl rfl hl.1 rfl (Nat.le_of_ble_eq_true rfl) ⟨by decide, by decide⟩ ⟨Nat.le_of_ble_eq_true rfl, Nat.le_of_ble_eq_true rfl⟩ d_31_80_1) (fun a3 u1 H locs hp2 V => ?_)
  obtain ⟨rfl, b4, b5⟩ := hp2
  replace b4 : q_F (1 ≤ a3.toInt) := b4
  replace b5 : q_F (a3.toInt ≤ 1) := b5
  obtain rfl : a3 = (1 : Int32) := q_Ieq (x := a3.toInt) (y := 1) rfl (by decide) (by have t1 : 1 ≤ a3.toInt := b4; have t2 : a3.toInt ≤ 1 := b5; omega)
  refine lv_if_eq (tgt := 23) hx hb d_31_80_4 (by decide) (fun c7 => absurd c7 (by decide)) (fun c7 => ?_)
  refine lv_aload_n hx hb d_31_80_7 rfl (lv_at hl 0 rfl) ?_
  refine q_sval (i := 8) C0 V rfl rfl w_1018 d_31_80_8 ?_
  refine lv_iload_n hx hb d_31_80_11 rfl (lv_at hl 1 rfl) ?_
  refine lv_iload_n hx hb d_31_80_12 rfl (lv_at hl 2 rfl) ?_
  refine lv_aload_n hx hb d_31_80_13 rfl (lv_at hl 0 rfl) ?_
  refine q_goi V (q_runVs (As := []) (rest := [.int x3, .int x2, .ref (g (9 + 2 * 8))]) (d := 2) (mc := 0) (ms := 0) (i := 8) C0 V rfl LV_jStr_505 (T_jStr_length_8 l D g q ws   hI   _) rfl rfl rfl hl.1 rfl (Nat.le_of_ble_eq_true rfl) ⟨by decide, by decide⟩ ⟨Nat.le_of_ble_eq_true rfl, Nat.le_of_ble_eq_true rfl⟩ d_31_80_14) (fun a10 u8 H locs hp9 V => ?_)
  obtain ⟨rfl, b11, b12⟩ := hp9
  replace b11 : q_F (4 ≤ a10.toInt) := b11
  replace b12 : q_F (a10.toInt ≤ 4) := b12
  obtain rfl : a10 = (4 : Int32) := q_Ieq (x := a10.toInt) (y := 4) rfl (by decide) (by have t1 : 4 ≤ a10.toInt := b11; have t2 : a10.toInt ≤ 4 := b12; omega)
  refine q_goi V (q_runS (As := [.ref (g (9 + 2 * 8)), .int x2, .int x3, .int 4]) (rest := []) (d := 2) (mc := 0) (ms := 0) C0 V rfl LS_jStr_637 (X_jLat_indexOf_8 l D g q ws  x2 x3 4 hI  (by have y0 : (4 : Int32).toInt = 4 := rfl; have t1 : 0 ≤ x3.toInt := pre0; omega) (by have y0 : (4 : Int32).toInt = 4 := rfl; omega) _) rfl hl.1 rfl (Nat.le_of_ble_eq_true rfl) ⟨by decide, by decide⟩ ⟨Nat.le_of_ble_eq_true rfl, Nat.le_of_ble_eq_true rfl⟩ d_31_80_17) (fun a16 u14 H locs hp15 V => ?_)
  obtain ⟨rfl, b17, b18, hE19⟩ := hp15
  have e20 : a16 = (F_jLat_indexOf_8 x2 x3 (4 : Int32)) := hE19
  replace b17 : q_F (0 ≤ a16.toInt + 1) := b17
  replace b18 : q_F (a16.toInt ≤ 3) := b18
  refine lv_goto (tgt := 36) hx hb d_31_80_20 (by decide) ?_
  exact q_reti C0 V (⟨rfl, (show 0 ≤ a16.toInt + 1 from (by first | with_reducible exact q_fe b17 | (have t1 : 0 ≤ a16.toInt + 1 := b17; omega))), (show a16.toInt ≤ 3 from (by first | with_reducible exact q_fe b18 | (have t1 : a16.toInt ≤ 3 := b18; omega))), (show a16 = (F_jStr_indexOf_III_8 x2 x3) from (by rw [e20, F_jStr_indexOf_III_8.eq_1]))⟩) d_31_80_36
def F_jStr_indexOf_II_8 (x2 : Int32) : Int32 := ((F_jStr_indexOf_III_8 x2 (0 : Int32)) : Int32)
set_option maxRecDepth 100000 in
set_option maxHeartbeats 4000000 in
theorem X_jStr_indexOf_II_8 (l : Launch) (D : va_G) (g : Nat → ClassId) (q : Nat → Nat) (ws : va_W) (x2 : Int32) (hI : q_I (nsh g q) q ws) : q_mI l y_jStr_indexOf_II prog_31_method_79_code 2 (.int) 4 0 0 D g [.ref (g (8 + 2 * 8)), .int x2] ws (fun r u => ws = u ∧ (0 ≤ r.toInt + 1) ∧ (r.toInt ≤ 3) ∧ r = (F_jStr_indexOf_II_8 x2)) := by
  intro sz
  refine q_into (by decide) (Nat.le_of_ble_eq_true rfl) ?_
  intro p e s m below meth c ls hsz C0 V hl
  have hx := C0.1
  have hb := C0.2.1
  have hl : lv_has ls 2 [(0, .ref (g (8 + 2 * 8))), (1, .int x2)] := hl
  refine lv_aload_n hx hb d_31_79_0 rfl (lv_at hl 0 rfl) ?_
  refine lv_iload_n hx hb d_31_79_1 rfl (lv_at hl 1 rfl) ?_
  refine lv_iconst (v := 0) hx hb d_31_79_2 (by decide) ?_
  refine q_goi V (q_runVs (As := [.int x2, .int 0]) (rest := []) (d := 3) (mc := 0) (ms := 0) (i := 8) C0 V rfl LV_jStr_633 (X_jStr_indexOf_III_8 l D g q ws  x2 0 hI  (by have y0 : (0 : Int32).toInt = 0 := rfl; omega) _) rfl rfl rfl hl.1 rfl (Nat.le_of_ble_eq_true rfl) ⟨by decide, by decide⟩ ⟨Nat.le_of_ble_eq_true rfl, Nat.le_of_ble_eq_true rfl⟩ d_31_79_3) (fun a3 u1 H locs hp2 V => ?_)
  obtain ⟨rfl, b4, b5, hE6⟩ := hp2
  have e7 : a3 = (F_jStr_indexOf_III_8 x2 (0 : Int32)) := hE6
  replace b4 : q_F (0 ≤ a3.toInt + 1) := b4
  replace b5 : q_F (a3.toInt ≤ 3) := b5
  exact q_reti C0 V (⟨rfl, (show 0 ≤ a3.toInt + 1 from (by first | with_reducible exact q_fe b4 | (have t1 : 0 ≤ a3.toInt + 1 := b4; omega))), (show a3.toInt ≤ 3 from (by first | with_reducible exact q_fe b5 | (have t1 : a3.toInt ≤ 3 := b5; omega))), (show a3 = (F_jStr_indexOf_II_8 x2) from (by rw [e7, F_jStr_indexOf_II_8.eq_1]))⟩) d_31_79_6
def F_Dir_isOneOf_8 (t0_0 : Int32) (t0_1 : Int32) (t0_2 : Int32) (t0_3 : Int32) (t0_4 : Int32) (t0_5 : Int32) (t0_6 : Int32) : Int32 := if t0_4 < (0 : Int32) then ((0 : Int32)) else (if ((F_jStr_indexOf_II_8 ((t0_4.toUInt32 % 65536).toInt32 : Int32)) : Int32) < (0 : Int32) then ((0 : Int32)) else ((1 : Int32)))
set_option maxRecDepth 100000 in
set_option maxHeartbeats 4000000 in
theorem X_Dir_isOneOf_8 (l : Launch) (D : va_G) (g : Nat → ClassId) (q : Nat → Nat) (ws : va_W) (hI : q_I (nsh g q) q ws) (t0_0 : Int32) (t0_1 : Int32) (t0_2 : Int32) (t0_3 : Int32) (t0_4 : Int32) (t0_5 : Int32) (t0_6 : Int32) (hT0 : ws[47]? = (some (q 47, .inr (10, [.int t0_0, .int t0_1, .int t0_2, .int t0_3, .int t0_4, .int t0_5, .ref (q 1), .int t0_6])) : Option (Nat × va_E))) : q_mI l y_Dir_isOneOf prog_6_method_9_code 2 (.boolean) 5 0 0 D g [.ref (q 47), .ref (g (8 + 2 * 8))] ws (fun r u => ws = u ∧ (0 ≤ r.toInt) ∧ (r.toInt ≤ 1) ∧ r = (F_Dir_isOneOf_8 t0_0 t0_1 t0_2 t0_3 t0_4 t0_5 t0_6)) := by
  intro sz
  refine q_into (by decide) (Nat.le_of_ble_eq_true rfl) ?_
  intro p e s m below meth c ls hsz C0 V hl
  have hx := C0.1
  have hb := C0.2.1
  have hZ9 := (n_w47 hI hT0).2
  obtain ⟨-, btt0_6⟩ := hZ9
  clear btt0_6
  have hl : lv_has ls 2 [(0, .ref (q 47)), (1, .ref (g (8 + 2 * 8)))] := hl
  refine lv_aload_n hx hb d_6_9_0 rfl (lv_at hl 0 rfl) ?_
  refine q_get (ci := 10) (j := 4) (v := .int t0_4) C0 V i_Dir rfl rfl hT0 (by decide) w_361 rfl d_6_9_1 ?_
  refine lv_if_lt (tgt := 23) hx hb d_6_9_4 (by decide) (fun c12 => ?_) (fun c12 => ?_)
  ·
    refine lv_iconst (v := 0) hx hb d_6_9_23 (by decide) ?_
    exact q_retz C0 V (by decide) (⟨rfl, (show 0 ≤ (0 : Int32).toInt from (by have z7 : (0 : Int32).toInt = 0 := rfl; omega)), (show (0 : Int32).toInt ≤ 1 from (by have z7 : (0 : Int32).toInt = 0 := rfl; omega)), (show (0 : Int32) = (F_Dir_isOneOf_8 t0_0 t0_1 t0_2 t0_3 t0_4 t0_5 t0_6) from (by rw [F_Dir_isOneOf_8.eq_1, if_pos c12]))⟩) d_6_9_24
  ·
    refine lv_aload_n hx hb d_6_9_7 rfl (lv_at hl 1 rfl) ?_
    refine lv_aload_n hx hb d_6_9_8 rfl (lv_at hl 0 rfl) ?_
    refine q_get (ci := 10) (j := 4) (v := .int t0_4) C0 V i_Dir rfl rfl hT0 (by decide) w_361 rfl d_6_9_9 ?_
    refine lv_i2c hx hb d_6_9_12 rfl ?_
    obtain ⟨a15, e16⟩ := q_nm ((t0_4.toUInt32 % 65536).toInt32 : Int32)
    refine q_ti (v := a15) e16 ?_
    refine q_goi V (q_runVs (As := [.int a15]) (rest := []) (d := 4) (mc := 0) (ms := 0) (i := 8) C0 V rfl LV_Dir_63 (X_jStr_indexOf_II_8 l D g q ws  a15 hI   _) rfl rfl rfl hl.1 rfl (Nat.le_of_ble_eq_true rfl) ⟨by decide, by decide⟩ ⟨Nat.le_of_ble_eq_true rfl, Nat.le_of_ble_eq_true rfl⟩ d_6_9_13) (fun a20 u18 H locs hp19 V => ?_)
    obtain ⟨rfl, b21, b22, hE23⟩ := hp19
    have e24 : a20 = (F_jStr_indexOf_II_8 a15) := hE23
    clear b21
    clear b22
    refine lv_if_lt (tgt := 23) hx hb d_6_9_16 (by decide) (fun c25 => ?_) (fun c25 => ?_)
    ·
      refine lv_iconst (v := 0) hx hb d_6_9_23 (by decide) ?_
      exact q_retz C0 V (by decide) (⟨rfl, (show 0 ≤ (0 : Int32).toInt from (by have z7 : (0 : Int32).toInt = 0 := rfl; omega)), (show (0 : Int32).toInt ≤ 1 from (by have z7 : (0 : Int32).toInt = 0 := rfl; omega)), (show (0 : Int32) = (F_Dir_isOneOf_8 t0_0 t0_1 t0_2 t0_3 t0_4 t0_5 t0_6) from (by have c25x := c25; rw [e24, ← e16] at c25x; rw [F_Dir_isOneOf_8.eq_1, if_neg c12, if_pos c25x]))⟩) d_6_9_24
    ·
      refine lv_iconst (v := 1) hx hb d_6_9_19 (by decide) ?_
      refine lv_goto (tgt := 24) hx hb d_6_9_20 (by decide) ?_
      exact q_retz C0 V (by decide) (⟨rfl, (show 0 ≤ (1 : Int32).toInt from (by have z7 : (1 : Int32).toInt = 1 := rfl; omega)), (show (1 : Int32).toInt ≤ 1 from (by have z7 : (1 : Int32).toInt = 1 := rfl; omega)), (show (1 : Int32) = (F_Dir_isOneOf_8 t0_0 t0_1 t0_2 t0_3 t0_4 t0_5 t0_6) from (by have c25x := c25; rw [e24, ← e16] at c25x; rw [F_Dir_isOneOf_8.eq_1, if_neg c12, if_neg c25x]))⟩) d_6_9_24
def F_jLat_indexOfChar_9_L7 (x2 : Int32) (x3 : Int32) (x4 : Int32) (a1 : Int32) : Nat → Int32 → Int32
  | 0, _ => default
  | fm + 1, lx4 => if x4 ≤ lx4 then ((-1 : Int32)) else (if ((([99, 67] : List Int32).getD lx4.toNatClampNeg 0) : Int32) = a1 then (lx4) else (F_jLat_indexOfChar_9_L7 x2 x3 x4 a1 fm (lx4 + 1 : Int32)))
def F_jLat_indexOfChar_9 (x2 : Int32) (x3 : Int32) (x4 : Int32) : Int32 := F_jLat_indexOfChar_9_L7 x2 x3 x4 (x2.toInt8.toInt32 : Int32) ((2 - x3.toInt).toNat + 1) x3
set_option maxRecDepth 100000 in
set_option maxHeartbeats 4000000 in
theorem X_jLat_indexOfChar_9 (l : Launch) (D : va_G) (g : Nat → ClassId) (q : Nat → Nat) (ws : va_W) (x2 : Int32) (x3 : Int32) (x4 : Int32) (hI : q_I (nsh g q) q ws) (pre0 : 0 ≤ x3.toInt) (pre1 : x4.toInt ≤ 2) : q_mI l y_jLat_indexOfChar prog_33_method_23_code 6 (.int) 1 0 0 D g [.ref (g (9 + 2 * 9)), .int x2, .int x3, .int x4] ws (fun r u => ws = u ∧ (0 ≤ r.toInt + 1) ∧ (r.toInt ≤ 1) ∧ r = (F_jLat_indexOfChar_9 x2 x3 x4)) := by
  intro sz
  refine q_into (by decide) (Nat.le_of_ble_eq_true rfl) ?_
  intro p e s m below meth c ls hsz C0 V hl
  have hx := C0.1
  have hb := C0.2.1
  replace pre0 : q_F (0 ≤ x3.toInt) := pre0
  replace pre1 : q_F (x4.toInt ≤ 2) := pre1
  have hl : lv_has ls 6 [(0, .ref (g (9 + 2 * 9))), (1, .int x2), (2, .int x3), (3, .int x4)] := hl
  refine lv_iload_n hx hb d_33_23_0 rfl (lv_at hl 1 rfl) ?_
  refine lv_i2b hx hb d_33_23_1 rfl ?_
  obtain ⟨a1, e2⟩ := q_nm (x2.toInt8.toInt32 : Int32)
  refine q_ti (v := a1) e2 ?_
  refine lv_istore (lv' := [(4, .int a1), (0, .ref (g (9 + 2 * 9))), (1, .int x2), (2, .int x3), (3, .int x4)]) hx hb d_33_23_2 hl (by decide) rfl (fun ls hl => ?_)
  refine lv_iload_n hx hb d_33_23_4 rfl (lv_at hl 3 rfl) ?_
  refine lv_istore (lv' := [(5, .int x3), (4, .int a1), (0, .ref (g (9 + 2 * 9))), (1, .int x2), (2, .int x3), (3, .int x4)]) hx hb d_33_23_5 hl (by decide) rfl (fun ls hl => ?_)
  refine q_loop (X := Int32) (fun z H locs ls _ => q_F (x3.toInt ≤ z.toInt) ∧ q_Wd D g (va_A ws sz) s ws H locs ∧ lv_has ls 6 [(5, .int z), (4, .int a1), (0, .ref (g (9 + 2 * 9))), (3, .int x4)] ∧ (∃ n, (2 - z.toInt).toNat < n ∧ F_jLat_indexOfChar_9_L7 x2 x3 x4 a1 n z = (F_jLat_indexOfChar_9 x2 x3 x4))) (fun z => (2 - z.toInt).toNat) ?_ ((x3 : Int32)) _ _ _ ws ⟨(show q_F (x3.toInt ≤ x3.toInt) from (show x3.toInt ≤ x3.toInt from by omega)), V, q_lw hl (q_lw1 0 rfl (q_lw1 1 rfl (q_lw1 2 rfl (q_lw1 5 rfl q_lw0)))), ⟨((2 - x3.toInt).toNat + 1), Nat.lt_succ_self _, (show F_jLat_indexOfChar_9_L7 x2 x3 x4 a1 ((2 - x3.toInt).toNat + 1) x3 = (F_jLat_indexOfChar_9 x2 x3 x4) from (by rw [← e2, F_jLat_indexOfChar_9.eq_1]))⟩⟩
  rintro lx4 H locs ls _ ⟨i5, V, hl, ⟨fu9, hf10, hR7⟩⟩ ih6
  obtain ⟨fm11, rfl⟩ : ∃ m, fu9 = m + 1 := ⟨fu9 - 1, by omega⟩
  replace i5 : q_F (x3.toInt ≤ lx4.toInt) := i5
  replace hl : lv_has ls 6 [(5, .int lx4), (4, .int a1), (0, .ref (g (9 + 2 * 9))), (3, .int x4)] := hl
  refine lv_iload hx hb d_33_23_7 (lv_at hl 0 rfl) ?_
  refine lv_iload_n hx hb d_33_23_9 rfl (lv_at hl 3 rfl) ?_
  refine lv_icmp_ge (tgt := 31) hx hb d_33_23_10 (by decide) (fun c12 => ?_) (fun c12 => ?_)
  ·
    refine lv_iconst (v := (-1)) hx hb d_33_23_31 (by decide) ?_
    exact q_reti C0 V (⟨rfl, (show 0 ≤ (-1 : Int32).toInt + 1 from (by have z3 : (-1 : Int32).toInt = -1 := rfl; omega)), (show (-1 : Int32).toInt ≤ 1 from (by have z3 : (-1 : Int32).toInt = -1 := rfl; omega)), (show (-1 : Int32) = (F_jLat_indexOfChar_9 x2 x3 x4) from Eq.trans (by rw [F_jLat_indexOfChar_9_L7.eq_2, if_pos c12]) hR7)⟩) d_33_23_32
  ·
    have b14 : q_F (lx4.toInt < x4.toInt) := (q_nleI c12)
    refine lv_aload_n hx hb d_33_23_13 rfl (lv_at hl 2 rfl) ?_
    refine lv_iload hx hb d_33_23_14 (lv_at hl 0 rfl) ?_
    refine q_sbal (i := 9) (v := (([99, 67] : List Int32).getD lx4.toNatClampNeg 0)) C0 V rfl (show vp_in lx4 2 from q_ix (x := lx4.toInt) rfl (by have t1 : 0 ≤ x3.toInt := pre0; have t2 : x3.toInt ≤ lx4.toInt := i5; omega) (by have t1 : 0 ≤ x3.toInt := pre0; have t2 : x3.toInt ≤ lx4.toInt := i5; have t3 : x4.toInt ≤ 2 := pre1; have t4 : lx4.toInt < x4.toInt := b14; omega)) rfl d_33_23_16 ?_
    obtain ⟨a15, e16⟩ := q_nm ((([99, 67] : List Int32).getD lx4.toNatClampNeg 0) : Int32)
    refine q_ti (v := a15) e16 ?_
    refine lv_iload hx hb d_33_23_17 (lv_at hl 1 rfl) ?_
    refine lv_icmp_ne (tgt := 25) hx hb d_33_23_19 (by decide) (fun c17 => ?_) (fun c17 => ?_)
    ·
      obtain ⟨a19, e20⟩ := q_nm (lx4 + 1 : Int32)
      have b21 : q_F (a19.toInt = lx4.toInt + 1) := (by rw [← e20]; exact q_addI (y := 1) rfl (by decide) (by have _ := q_lo32 (x := lx4); have _ := q_hi32 (x := lx4); have t1 : lx4.toInt < x4.toInt := b14; have _ := q_lo32 (x := x4); have _ := q_hi32 (x := x4); omega) (by have _ := q_lo32 (x := lx4); have _ := q_hi32 (x := lx4); have t1 : lx4.toInt < x4.toInt := b14; have _ := q_lo32 (x := x4); have _ := q_hi32 (x := x4); omega))
      refine lv_iinc (v := a19) (lv' := [(5, .int a19), (4, .int a1), (0, .ref (g (9 + 2 * 9))), (3, .int x4)]) hx hb d_33_23_25 hl (k := 0) rfl (e20) (by decide) rfl (fun ls hl => ?_)
      refine lv_goto (tgt := 7) hx hb d_33_23_28 (by decide) ?_
      exact ih6 ((a19 : Int32)) _ _ _ ws (show (2 - a19.toInt).toNat < (2 - lx4.toInt).toNat from by have t1 : a19.toInt = lx4.toInt + 1 := b21; have t2 : x4.toInt ≤ 2 := pre1; have t3 : lx4.toInt < x4.toInt := b14; omega) ⟨(show q_F (x3.toInt ≤ a19.toInt) from (show x3.toInt ≤ a19.toInt from by have t1 : x3.toInt ≤ lx4.toInt := i5; have t2 : a19.toInt = lx4.toInt + 1 := b21; omega)), V, q_lw hl (q_lw1 0 rfl (q_lw1 1 rfl (q_lw1 2 rfl (q_lw1 3 rfl q_lw0)))), ⟨fm11, Nat.lt_of_lt_of_le (show (2 - a19.toInt).toNat < (2 - lx4.toInt).toNat from by have t1 : a19.toInt = lx4.toInt + 1 := b21; have t2 : x4.toInt ≤ 2 := pre1; have t3 : lx4.toInt < x4.toInt := b14; omega) (Nat.le_of_lt_succ hf10), (show F_jLat_indexOfChar_9_L7 x2 x3 x4 a1 fm11 a19 = (F_jLat_indexOfChar_9 x2 x3 x4) from Eq.trans (by have c17x := c17; rw [← e16] at c17x; rw [← e20, F_jLat_indexOfChar_9_L7.eq_2, if_neg c12, if_neg c17x]) hR7)⟩⟩
    ·
      refine lv_iload hx hb d_33_23_22 (lv_at hl 0 rfl) ?_
      exact q_reti C0 V (⟨rfl, (show 0 ≤ lx4.toInt + 1 from (by have t1 : 0 ≤ x3.toInt := pre0; have t2 : x3.toInt ≤ lx4.toInt := i5; omega)), (show lx4.toInt ≤ 1 from (by have t1 : x4.toInt ≤ 2 := pre1; have t2 : lx4.toInt < x4.toInt := b14; omega)), (show lx4 = (F_jLat_indexOfChar_9 x2 x3 x4) from Eq.trans (by have c17x := c17; rw [← e16] at c17x; rw [F_jLat_indexOfChar_9_L7.eq_2, if_neg c12, if_pos c17x]) hR7)⟩) d_33_23_24
def F_jLat_indexOf_9 (x2 : Int32) (x3 : Int32) (x4 : Int32) : Int32 := if ((F_jLat_canEncode x2) : Int32) = (0 : Int32) then ((-1 : Int32)) else (if (if x3 < 0 then 0 else x3 : Int32) < (if 2 < x4 then 2 else x4 : Int32) then (((F_jLat_indexOfChar_9 x2 (if x3 < 0 then 0 else x3 : Int32) (if 2 < x4 then 2 else x4 : Int32)) : Int32)) else ((-1 : Int32)))
set_option maxRecDepth 100000 in
set_option maxHeartbeats 4000000 in
theorem X_jLat_indexOf_9 (l : Launch) (D : va_G) (g : Nat → ClassId) (q : Nat → Nat) (ws : va_W) (x2 : Int32) (x3 : Int32) (x4 : Int32) (hI : q_I (nsh g q) q ws) (pre0 : 0 ≤ x3.toInt) (pre1 : x4.toInt ≤ 2) : q_mI l y_jLat_indexOf prog_33_method_22_code 4 (.int) 2 0 0 D g [.ref (g (9 + 2 * 9)), .int x2, .int x3, .int x4] ws (fun r u => ws = u ∧ (0 ≤ r.toInt + 1) ∧ (r.toInt ≤ 1) ∧ r = (F_jLat_indexOf_9 x2 x3 x4)) := by
  intro sz
  refine q_into (by decide) (Nat.le_of_ble_eq_true rfl) ?_
  intro p e s m below meth c ls hsz C0 V hl
  have hx := C0.1
  have hb := C0.2.1
  clear pre0
  clear pre1
  have hl : lv_has ls 4 [(0, .ref (g (9 + 2 * 9))), (1, .int x2), (2, .int x3), (3, .int x4)] := hl
  refine lv_iload_n hx hb d_33_22_0 rfl (lv_at hl 1 rfl) ?_
  refine q_goi V (q_runS (As := [.int x2]) (rest := []) (d := 1) (mc := 0) (ms := 0) C0 V rfl LS_jLat_88 (X_jLat_canEncode l D g q ws  x2 hI   _) rfl hl.1 rfl (Nat.le_of_ble_eq_true rfl) ⟨by decide, by decide⟩ ⟨Nat.le_of_ble_eq_true rfl, Nat.le_of_ble_eq_true rfl⟩ d_33_22_1) (fun a3 u1 H locs hp2 V => ?_)
  obtain ⟨rfl, b4, b5, hE6⟩ := hp2
  have e7 : a3 = (F_jLat_canEncode x2) := hE6
  clear b4
  clear b5
  refine lv_if_ne (tgt := 9) hx hb d_33_22_4 (by decide) (fun c8 => ?_) (fun c8 => ?_)
  ·
    refine lv_iload_n hx hb d_33_22_9 rfl (lv_at hl 2 rfl) ?_
    refine lv_iconst (v := 0) hx hb d_33_22_10 (by decide) ?_
    refine q_max C0 hl.1 rfl w_1773 w_803 w_7 w_804 ⟨Nat.le_of_ble_eq_true rfl, Nat.le_of_ble_eq_true rfl⟩ ⟨Nat.le_of_ble_eq_true rfl, Nat.le_of_ble_eq_true rfl⟩ d_33_22_11 ?_
    obtain ⟨a10, e11⟩ := q_nm (if x3 < 0 then 0 else x3 : Int32)
    refine q_ti (v := a10) e11 ?_
    have b12 : q_F (x3.toInt ≤ a10.toInt ∧ 0 ≤ a10.toInt ∧ (a10.toInt = x3.toInt ∨ a10.toInt = 0)) := (by rw [← e11]; show x3.toInt ≤ (if x3 < 0 then 0 else x3 : Int32).toInt ∧ 0 ≤ (if x3 < 0 then 0 else x3 : Int32).toInt ∧ ((if x3 < 0 then 0 else x3 : Int32).toInt = x3.toInt ∨ (if x3 < 0 then 0 else x3 : Int32).toInt = 0); exact (by have y1 : (0 : Int32).toInt = 0 := rfl; have z := s_max (a := x3) (b := 0); omega))
    refine lv_istore_n (lv' := [(2, .int a10), (0, .ref (g (9 + 2 * 9))), (1, .int x2), (3, .int x4)]) hx hb d_33_22_14 rfl hl (by decide) rfl (fun ls hl => ?_)
    refine lv_iload_n hx hb d_33_22_15 rfl (lv_at hl 3 rfl) ?_
    refine lv_aload_n hx hb d_33_22_16 rfl (lv_at hl 1 rfl) ?_
    refine q_slen (i := 9) (v := 2) C0 V rfl (by decide) d_33_22_17 ?_
    refine q_min C0 hl.1 rfl w_1774 w_774 w_7 w_775 ⟨Nat.le_of_ble_eq_true rfl, Nat.le_of_ble_eq_true rfl⟩ ⟨Nat.le_of_ble_eq_true rfl, Nat.le_of_ble_eq_true rfl⟩ d_33_22_18 ?_
    obtain ⟨a13, e14⟩ := q_nm (if 2 < x4 then 2 else x4 : Int32)
    refine q_ti (v := a13) e14 ?_
    have b15 : q_F (a13.toInt ≤ x4.toInt ∧ a13.toInt ≤ 2 ∧ (a13.toInt = x4.toInt ∨ a13.toInt = 2)) := (by rw [← e14]; show (if 2 < x4 then 2 else x4 : Int32).toInt ≤ x4.toInt ∧ (if 2 < x4 then 2 else x4 : Int32).toInt ≤ 2 ∧ ((if 2 < x4 then 2 else x4 : Int32).toInt = x4.toInt ∨ (if 2 < x4 then 2 else x4 : Int32).toInt = 2); exact (by have y1 : (2 : Int32).toInt = 2 := rfl; have z := s_min (a := x4) (b := 2); omega))
    refine lv_istore_n (lv' := [(3, .int a13), (2, .int a10), (0, .ref (g (9 + 2 * 9))), (1, .int x2)]) hx hb d_33_22_21 rfl hl (by decide) rfl (fun ls hl => ?_)
    refine lv_iload_n hx hb d_33_22_22 rfl (lv_at hl 1 rfl) ?_
    refine lv_iload_n hx hb d_33_22_23 rfl (lv_at hl 0 rfl) ?_
    refine lv_icmp_lt (tgt := 29) hx hb d_33_22_24 (by decide) (fun c16 => ?_) (fun c16 => ?_)
    ·
      refine lv_aload_n hx hb d_33_22_29 rfl (lv_at hl 2 rfl) ?_
      refine lv_iload_n hx hb d_33_22_30 rfl (lv_at hl 3 rfl) ?_
      refine lv_iload_n hx hb d_33_22_31 rfl (lv_at hl 1 rfl) ?_
      refine lv_iload_n hx hb d_33_22_32 rfl (lv_at hl 0 rfl) ?_
      refine q_goi V (q_runS (As := [.ref (g (9 + 2 * 9)), .int x2, .int a10, .int a13]) (rest := []) (d := 1) (mc := 0) (ms := 0) C0 V rfl LS_jLat_95 (X_jLat_indexOfChar_9 l D g q ws  x2 a10 a13 hI  (by have t1 : x3.toInt ≤ a10.toInt ∧ 0 ≤ a10.toInt ∧ (a10.toInt = x3.toInt ∨ a10.toInt = 0) := b12; omega) (by have t1 : a13.toInt ≤ x4.toInt ∧ a13.toInt ≤ 2 ∧ (a13.toInt = x4.toInt ∨ a13.toInt = 2) := b15; omega) _) rfl hl.1 rfl (Nat.le_of_ble_eq_true rfl) ⟨by decide, by decide⟩ ⟨Nat.le_of_ble_eq_true rfl, Nat.le_of_ble_eq_true rfl⟩ d_33_22_33) (fun a20 u18 H locs hp19 V => ?_)
      obtain ⟨rfl, b21, b22, hE23⟩ := hp19
      have e24 : a20 = (F_jLat_indexOfChar_9 x2 a10 a13) := hE23
      replace b21 : q_F (0 ≤ a20.toInt + 1) := b21
      replace b22 : q_F (a20.toInt ≤ 1) := b22
      exact q_reti C0 V (⟨rfl, (show 0 ≤ a20.toInt + 1 from (by first | with_reducible exact q_fe b21 | (have t1 : 0 ≤ a20.toInt + 1 := b21; omega))), (show a20.toInt ≤ 1 from (by first | with_reducible exact q_fe b22 | (have t1 : a20.toInt ≤ 1 := b22; omega))), (show a20 = (F_jLat_indexOf_9 x2 x3 x4) from (by have c8x := c8; rw [e7] at c8x; have c16x := c16; rw [← e14, ← e11] at c16x; rw [e24, ← e14, ← e11, F_jLat_indexOf_9.eq_1, if_neg c8x, if_pos c16x]))⟩) d_33_22_36
    ·
      refine lv_iconst (v := (-1)) hx hb d_33_22_27 (by decide) ?_
      exact q_reti C0 V (⟨rfl, (show 0 ≤ (-1 : Int32).toInt + 1 from (by have z3 : (-1 : Int32).toInt = -1 := rfl; omega)), (show (-1 : Int32).toInt ≤ 1 from (by have z3 : (-1 : Int32).toInt = -1 := rfl; omega)), (show (-1 : Int32) = (F_jLat_indexOf_9 x2 x3 x4) from (by have c8x := c8; rw [e7] at c8x; have c16x := c16; rw [← e14, ← e11] at c16x; rw [F_jLat_indexOf_9.eq_1, if_neg c8x, if_neg c16x]))⟩) d_33_22_28
  ·
    refine lv_iconst (v := (-1)) hx hb d_33_22_7 (by decide) ?_
    exact q_reti C0 V (⟨rfl, (show 0 ≤ (-1 : Int32).toInt + 1 from (by have z3 : (-1 : Int32).toInt = -1 := rfl; omega)), (show (-1 : Int32).toInt ≤ 1 from (by have z3 : (-1 : Int32).toInt = -1 := rfl; omega)), (show (-1 : Int32) = (F_jLat_indexOf_9 x2 x3 x4) from (by have c8x := c8; rw [e7] at c8x; rw [F_jLat_indexOf_9.eq_1, if_pos c8x]))⟩) d_33_22_8
def F_jStr_indexOf_III_9 (x2 : Int32) (x3 : Int32) : Int32 := ((F_jLat_indexOf_9 x2 x3 (2 : Int32)) : Int32)
set_option maxRecDepth 100000 in
set_option maxHeartbeats 4000000 in
theorem X_jStr_indexOf_III_9 (l : Launch) (D : va_G) (g : Nat → ClassId) (q : Nat → Nat) (ws : va_W) (x2 : Int32) (x3 : Int32) (hI : q_I (nsh g q) q ws) (pre0 : 0 ≤ x3.toInt) : q_mI l y_jStr_indexOf_III prog_31_method_80_code 3 (.int) 3 0 0 D g [.ref (g (8 + 2 * 9)), .int x2, .int x3] ws (fun r u => ws = u ∧ (0 ≤ r.toInt + 1) ∧ (r.toInt ≤ 1) ∧ r = (F_jStr_indexOf_III_9 x2 x3)) := by
  intro sz
  refine q_into (by decide) (Nat.le_of_ble_eq_true rfl) ?_
  intro p e s m below meth c ls hsz C0 V hl
  have hx := C0.1
  have hb := C0.2.1
  replace pre0 : q_F (0 ≤ x3.toInt) := pre0
  have hl : lv_has ls 3 [(0, .ref (g (8 + 2 * 9))), (1, .int x2), (2, .int x3)] := hl
  refine lv_aload_n hx hb d_31_80_0 rfl (lv_at hl 0 rfl) ?_
  refine q_goi V (q_runVs (As := []) (rest := []) (d := 1) (mc := 0) (ms := 0) (i := 9) C0 V rfl LV_jStr_492 (T_jStr_isLatin1_9 l D g q ws   hI   _) rfl rfl rfl hl.1 rfl (Nat.le_of_ble_eq_true rfl) ⟨by decide, by decide⟩ ⟨Nat.le_of_ble_eq_true rfl, Nat.le_of_ble_eq_true rfl⟩ d_31_80_1) (fun a3 u1 H locs hp2 V => ?_)
  obtain ⟨rfl, b4, b5⟩ := hp2
  replace b4 : q_F (1 ≤ a3.toInt) := b4
  replace b5 : q_F (a3.toInt ≤ 1) := b5
  obtain rfl : a3 = (1 : Int32) := q_Ieq (x := a3.toInt) (y := 1) rfl (by decide) (by have t1 : 1 ≤ a3.toInt := b4; have t2 : a3.toInt ≤ 1 := b5; omega)
  refine lv_if_eq (tgt := 23) hx hb d_31_80_4 (by decide) (fun c7 => absurd c7 (by decide)) (fun c7 => ?_)
  refine lv_aload_n hx hb d_31_80_7 rfl (lv_at hl 0 rfl) ?_
  refine q_sval (i := 9) C0 V rfl rfl w_1018 d_31_80_8 ?_
  refine lv_iload_n hx hb d_31_80_11 rfl (lv_at hl 1 rfl) ?_
  refine lv_iload_n hx hb d_31_80_12 rfl (lv_at hl 2 rfl) ?_
  refine lv_aload_n hx hb d_31_80_13 rfl (lv_at hl 0 rfl) ?_
  refine q_goi V (q_runVs (As := []) (rest := [.int x3, .int x2, .ref (g (9 + 2 * 9))]) (d := 2) (mc := 0) (ms := 0) (i := 9) C0 V rfl LV_jStr_505 (T_jStr_length_9 l D g q ws   hI   _) rfl rfl rfl hl.1 rfl (Nat.le_of_ble_eq_true rfl) ⟨by decide, by decide⟩ ⟨Nat.le_of_ble_eq_true rfl, Nat.le_of_ble_eq_true rfl⟩ d_31_80_14) (fun a10 u8 H locs hp9 V => ?_)
  obtain ⟨rfl, b11, b12⟩ := hp9
  replace b11 : q_F (2 ≤ a10.toInt) := b11
  replace b12 : q_F (a10.toInt ≤ 2) := b12
  obtain rfl : a10 = (2 : Int32) := q_Ieq (x := a10.toInt) (y := 2) rfl (by decide) (by have t1 : 2 ≤ a10.toInt := b11; have t2 : a10.toInt ≤ 2 := b12; omega)
  refine q_goi V (q_runS (As := [.ref (g (9 + 2 * 9)), .int x2, .int x3, .int 2]) (rest := []) (d := 2) (mc := 0) (ms := 0) C0 V rfl LS_jStr_637 (X_jLat_indexOf_9 l D g q ws  x2 x3 2 hI  (by have y0 : (2 : Int32).toInt = 2 := rfl; have t1 : 0 ≤ x3.toInt := pre0; omega) (by have y0 : (2 : Int32).toInt = 2 := rfl; omega) _) rfl hl.1 rfl (Nat.le_of_ble_eq_true rfl) ⟨by decide, by decide⟩ ⟨Nat.le_of_ble_eq_true rfl, Nat.le_of_ble_eq_true rfl⟩ d_31_80_17) (fun a16 u14 H locs hp15 V => ?_)
  obtain ⟨rfl, b17, b18, hE19⟩ := hp15
  have e20 : a16 = (F_jLat_indexOf_9 x2 x3 (2 : Int32)) := hE19
  replace b17 : q_F (0 ≤ a16.toInt + 1) := b17
  replace b18 : q_F (a16.toInt ≤ 1) := b18
  refine lv_goto (tgt := 36) hx hb d_31_80_20 (by decide) ?_
  exact q_reti C0 V (⟨rfl, (show 0 ≤ a16.toInt + 1 from (by first | with_reducible exact q_fe b17 | (have t1 : 0 ≤ a16.toInt + 1 := b17; omega))), (show a16.toInt ≤ 1 from (by first | with_reducible exact q_fe b18 | (have t1 : a16.toInt ≤ 1 := b18; omega))), (show a16 = (F_jStr_indexOf_III_9 x2 x3) from (by rw [e20, F_jStr_indexOf_III_9.eq_1]))⟩) d_31_80_36
def F_jStr_indexOf_II_9 (x2 : Int32) : Int32 := ((F_jStr_indexOf_III_9 x2 (0 : Int32)) : Int32)
set_option maxRecDepth 100000 in
set_option maxHeartbeats 4000000 in
theorem X_jStr_indexOf_II_9 (l : Launch) (D : va_G) (g : Nat → ClassId) (q : Nat → Nat) (ws : va_W) (x2 : Int32) (hI : q_I (nsh g q) q ws) : q_mI l y_jStr_indexOf_II prog_31_method_79_code 2 (.int) 4 0 0 D g [.ref (g (8 + 2 * 9)), .int x2] ws (fun r u => ws = u ∧ (0 ≤ r.toInt + 1) ∧ (r.toInt ≤ 1) ∧ r = (F_jStr_indexOf_II_9 x2)) := by
  intro sz
  refine q_into (by decide) (Nat.le_of_ble_eq_true rfl) ?_
  intro p e s m below meth c ls hsz C0 V hl
  have hx := C0.1
  have hb := C0.2.1
  have hl : lv_has ls 2 [(0, .ref (g (8 + 2 * 9))), (1, .int x2)] := hl
  refine lv_aload_n hx hb d_31_79_0 rfl (lv_at hl 0 rfl) ?_
  refine lv_iload_n hx hb d_31_79_1 rfl (lv_at hl 1 rfl) ?_
  refine lv_iconst (v := 0) hx hb d_31_79_2 (by decide) ?_
  refine q_goi V (q_runVs (As := [.int x2, .int 0]) (rest := []) (d := 3) (mc := 0) (ms := 0) (i := 9) C0 V rfl LV_jStr_633 (X_jStr_indexOf_III_9 l D g q ws  x2 0 hI  (by have y0 : (0 : Int32).toInt = 0 := rfl; omega) _) rfl rfl rfl hl.1 rfl (Nat.le_of_ble_eq_true rfl) ⟨by decide, by decide⟩ ⟨Nat.le_of_ble_eq_true rfl, Nat.le_of_ble_eq_true rfl⟩ d_31_79_3) (fun a3 u1 H locs hp2 V => ?_)
  obtain ⟨rfl, b4, b5, hE6⟩ := hp2
  have e7 : a3 = (F_jStr_indexOf_III_9 x2 (0 : Int32)) := hE6
  replace b4 : q_F (0 ≤ a3.toInt + 1) := b4
  replace b5 : q_F (a3.toInt ≤ 1) := b5
  exact q_reti C0 V (⟨rfl, (show 0 ≤ a3.toInt + 1 from (by first | with_reducible exact q_fe b4 | (have t1 : 0 ≤ a3.toInt + 1 := b4; omega))), (show a3.toInt ≤ 1 from (by first | with_reducible exact q_fe b5 | (have t1 : a3.toInt ≤ 1 := b5; omega))), (show a3 = (F_jStr_indexOf_II_9 x2) from (by rw [e7, F_jStr_indexOf_II_9.eq_1]))⟩) d_31_79_6

