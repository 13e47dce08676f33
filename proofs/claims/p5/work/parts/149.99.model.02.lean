theorem d_14_14_0 : decode prog_14_method_14_code 0 = .ok (.iload_n 0, 1) := by decide +kernel
theorem d_14_14_1 : decode prog_14_method_14_code 1 = .ok (.lload_n 1, 1) := by decide +kernel
theorem d_14_14_2 : decode prog_14_method_14_code 2 = .ok (.invokestatic 76, 3) := by decide +kernel
theorem d_14_14_5 : decode prog_14_method_14_code 5 = .ok (.ifCond .ne 31, 3) := by decide +kernel
theorem d_14_14_36 : decode prog_14_method_14_code 36 = .ok (.iconst 1, 1) := by decide +kernel
theorem d_14_14_37 : decode prog_14_method_14_code 37 = .ok (.goto 4, 3) := by decide +kernel
theorem d_14_14_41 : decode prog_14_method_14_code 41 = .ok (.ireturn, 1) := by decide +kernel
theorem d_14_14_8 : decode prog_14_method_14_code 8 = .ok (.iload_n 0, 1) := by decide +kernel
theorem d_14_14_9 : decode prog_14_method_14_code 9 = .ok (.iconst 3, 1) := by decide +kernel
theorem d_14_14_10 : decode prog_14_method_14_code 10 = .ok (.if_icmp .ne 16, 3) := by decide +kernel
theorem d_14_14_26 : decode prog_14_method_14_code 26 = .ok (.lload_n 1, 1) := by decide +kernel
theorem d_14_14_27 : decode prog_14_method_14_code 27 = .ok (.ldc2_w 82, 3) := by decide +kernel
set_option maxRecDepth 100000 in
theorem w_2671 : (Cond.constantLong "NumberHouseModel" (82 : Nat) (4503599627370495 : Int64)) ∈ q_tbl := q_of12 31 rfl (by decide +kernel)
theorem d_14_14_30 : decode prog_14_method_14_code 30 = .ok (.land, 1) := by decide +kernel
theorem d_14_14_31 : decode prog_14_method_14_code 31 = .ok (.lconst 0, 1) := by decide +kernel
theorem d_14_14_32 : decode prog_14_method_14_code 32 = .ok (.lcmp, 1) := by decide +kernel
theorem d_14_14_33 : decode prog_14_method_14_code 33 = .ok (.ifCond .ne 7, 3) := by decide +kernel
theorem d_14_14_40 : decode prog_14_method_14_code 40 = .ok (.iconst 0, 1) := by decide +kernel
theorem d_14_14_13 : decode prog_14_method_14_code 13 = .ok (.lload_n 1, 1) := by decide +kernel
theorem d_14_14_14 : decode prog_14_method_14_code 14 = .ok (.ldc2_w 80, 3) := by decide +kernel
set_option maxRecDepth 100000 in
theorem w_2670 : (Cond.constantLong "NumberHouseModel" (80 : Nat) (8388607 : Int64)) ∈ q_tbl := q_of12 30 rfl (by decide +kernel)
theorem d_14_14_17 : decode prog_14_method_14_code 17 = .ok (.land, 1) := by decide +kernel
theorem d_14_14_18 : decode prog_14_method_14_code 18 = .ok (.lconst 0, 1) := by decide +kernel
theorem d_14_14_19 : decode prog_14_method_14_code 19 = .ok (.lcmp, 1) := by decide +kernel
theorem d_14_14_20 : decode prog_14_method_14_code 20 = .ok (.ifCond .ne 20, 3) := by decide +kernel
theorem d_14_14_23 : decode prog_14_method_14_code 23 = .ok (.goto 13, 3) := by decide +kernel
def y_NM_isNumber : MethodName := ⟨"NumberHouseModel", "isNumber", "(IJ)Z"⟩
def F_NM_isNumber (x1 : Int32) (x2 : Int64) : Int32 := if ((F_NM_isFinite x1 x2) : Int32) = (0 : Int32) then (if x1 = (3 : Int32) then (if (lg_cmp (x2 &&& 8388607 : Int64) 0 : Int32) = (0 : Int32) then ((1 : Int32)) else ((0 : Int32))) else (if (lg_cmp (x2 &&& 4503599627370495 : Int64) 0 : Int32) = (0 : Int32) then ((1 : Int32)) else ((0 : Int32)))) else ((1 : Int32))
set_option maxRecDepth 100000 in
set_option maxHeartbeats 4000000 in
theorem X_NM_isNumber (l : Launch) (D : va_G) (g : Nat → ClassId) (q : Nat → Nat) (ws : va_W) (x1 : Int32) (x2 : Int64) (hI : q_I (msh g q) q ws) : q_mI l y_NM_isNumber prog_14_method_14_code 3 (.boolean) 2 0 0 D g [.int x1, .long x2] ws (fun r u => ws = u ∧ (0 ≤ r.toInt) ∧ (r.toInt ≤ 1) ∧ r = (F_NM_isNumber x1 x2)) := by
  intro sz
  refine q_into (by decide) (Nat.le_of_ble_eq_true rfl) ?_
  intro p e s m below meth c ls hsz C0 V hl
  have hx := C0.1
  have hb := C0.2.1
  have hl : lv_has ls 3 [(0, .int x1), (1, .long x2)] := hl
  refine lv_iload_n hx hb d_14_14_0 rfl (lv_at hl 0 rfl) ?_
  refine lv_lload_n hx hb d_14_14_1 rfl (lv_at hl 1 rfl) ?_
  refine q_goi V (q_runS (As := [.int x1, .long x2]) (rest := []) (d := 1) (mc := 0) (ms := 0) C0 V rfl LS_NM_76 (X_NM_isFinite l D g q ws  x1 x2 hI   _) rfl hl.1 rfl (Nat.le_of_ble_eq_true rfl) ⟨by decide, by decide⟩ ⟨Nat.le_of_ble_eq_true rfl, Nat.le_of_ble_eq_true rfl⟩ d_14_14_2) (fun a3 u1 H locs hp2 V => ?_)
  obtain ⟨rfl, b4, b5, hE6⟩ := hp2
  have e7 : a3 = (F_NM_isFinite x1 x2) := hE6
  clear b4
  clear b5
  refine lv_if_ne (tgt := 36) hx hb d_14_14_5 (by decide) (fun c8 => ?_) (fun c8 => ?_)
  ·
    refine lv_iconst (v := 1) hx hb d_14_14_36 (by decide) ?_
    refine lv_goto (tgt := 41) hx hb d_14_14_37 (by decide) ?_
    exact q_retz C0 V (by decide) (⟨rfl, (show 0 ≤ (1 : Int32).toInt from (by have z2 : (1 : Int32).toInt = 1 := rfl; omega)), (show (1 : Int32).toInt ≤ 1 from (by have z2 : (1 : Int32).toInt = 1 := rfl; omega)), (show (1 : Int32) = (F_NM_isNumber x1 x2) from (by have c8x := c8; rw [e7] at c8x; rw [F_NM_isNumber.eq_1, if_neg c8x]))⟩) d_14_14_41
  ·
    refine lv_iload_n hx hb d_14_14_8 rfl (lv_at hl 0 rfl) ?_
    refine lv_iconst (v := 3) hx hb d_14_14_9 (by decide) ?_
    refine lv_icmp_ne (tgt := 26) hx hb d_14_14_10 (by decide) (fun c11 => ?_) (fun c11 => ?_)
    ·
      refine lv_lload_n hx hb d_14_14_26 rfl (lv_at hl 1 rfl) ?_
      refine q_ldc2 C0 rfl w_2671 d_14_14_27 ?_
      refine lv_land hx hb d_14_14_30 ?_
      obtain ⟨j13, e14⟩ := q_nm (x2 &&& 4503599627370495 : Int64)
      refine q_tl (v := j13) e14 ?_
      refine lv_lconst (v := 0) hx hb d_14_14_31 (by decide) ?_
      refine W.lcmp hx hb d_14_14_32 ?_
      obtain ⟨a16, e17⟩ := q_nm (lg_cmp j13 0 : Int32)
      refine q_ti (v := a16) e17 ?_
      refine lv_if_ne (tgt := 40) hx hb d_14_14_33 (by decide) (fun c19 => ?_) (fun c19 => ?_)
      ·
        refine lv_iconst (v := 0) hx hb d_14_14_40 (by decide) ?_
        exact q_retz C0 V (by decide) (⟨rfl, (show 0 ≤ (0 : Int32).toInt from (by have z2 : (0 : Int32).toInt = 0 := rfl; omega)), (show (0 : Int32).toInt ≤ 1 from (by have z2 : (0 : Int32).toInt = 0 := rfl; omega)), (show (0 : Int32) = (F_NM_isNumber x1 x2) from (by have c8x := c8; rw [e7] at c8x; have c19x := c19; rw [← e17, ← e14] at c19x; rw [F_NM_isNumber.eq_1, if_pos c8x, if_neg c11, if_neg c19x]))⟩) d_14_14_41
      ·
        refine lv_iconst (v := 1) hx hb d_14_14_36 (by decide) ?_
        refine lv_goto (tgt := 41) hx hb d_14_14_37 (by decide) ?_
        exact q_retz C0 V (by decide) (⟨rfl, (show 0 ≤ (1 : Int32).toInt from (by have z2 : (1 : Int32).toInt = 1 := rfl; omega)), (show (1 : Int32).toInt ≤ 1 from (by have z2 : (1 : Int32).toInt = 1 := rfl; omega)), (show (1 : Int32) = (F_NM_isNumber x1 x2) from (by have c8x := c8; rw [e7] at c8x; have c19x := c19; rw [← e17, ← e14] at c19x; rw [F_NM_isNumber.eq_1, if_pos c8x, if_neg c11, if_pos c19x]))⟩) d_14_14_41
    ·
      refine lv_lload_n hx hb d_14_14_13 rfl (lv_at hl 1 rfl) ?_
      refine q_ldc2 C0 rfl w_2670 d_14_14_14 ?_
      refine lv_land hx hb d_14_14_17 ?_
      obtain ⟨j23, e24⟩ := q_nm (x2 &&& 8388607 : Int64)
      refine q_tl (v := j23) e24 ?_
      refine lv_lconst (v := 0) hx hb d_14_14_18 (by decide) ?_
      refine W.lcmp hx hb d_14_14_19 ?_
      obtain ⟨a26, e27⟩ := q_nm (lg_cmp j23 0 : Int32)
      refine q_ti (v := a26) e27 ?_
      refine lv_if_ne (tgt := 40) hx hb d_14_14_20 (by decide) (fun c29 => ?_) (fun c29 => ?_)
      ·
        refine lv_iconst (v := 0) hx hb d_14_14_40 (by decide) ?_
        exact q_retz C0 V (by decide) (⟨rfl, (show 0 ≤ (0 : Int32).toInt from (by have z2 : (0 : Int32).toInt = 0 := rfl; omega)), (show (0 : Int32).toInt ≤ 1 from (by have z2 : (0 : Int32).toInt = 0 := rfl; omega)), (show (0 : Int32) = (F_NM_isNumber x1 x2) from (by have c8x := c8; rw [e7] at c8x; have c29x := c29; rw [← e27, ← e24] at c29x; rw [F_NM_isNumber.eq_1, if_pos c8x, if_pos c11, if_neg c29x]))⟩) d_14_14_41
      ·
        refine lv_goto (tgt := 36) hx hb d_14_14_23 (by decide) ?_
        refine lv_iconst (v := 1) hx hb d_14_14_36 (by decide) ?_
        refine lv_goto (tgt := 41) hx hb d_14_14_37 (by decide) ?_
        exact q_retz C0 V (by decide) (⟨rfl, (show 0 ≤ (1 : Int32).toInt from (by have z2 : (1 : Int32).toInt = 1 := rfl; omega)), (show (1 : Int32).toInt ≤ 1 from (by have z2 : (1 : Int32).toInt = 1 := rfl; omega)), (show (1 : Int32) = (F_NM_isNumber x1 x2) from (by have c8x := c8; rw [e7] at c8x; have c29x := c29; rw [← e27, ← e24] at c29x; rw [F_NM_isNumber.eq_1, if_pos c8x, if_pos c11, if_pos c29x]))⟩) d_14_14_41
theorem d_14_18_0 : decode prog_14_method_18_code 0 = .ok (.iload_n 0, 1) := by decide +kernel
theorem d_14_18_1 : decode prog_14_method_18_code 1 = .ok (.iconst 3, 1) := by decide +kernel
theorem d_14_18_14 : decode prog_14_method_18_code 14 = .ok (.lstore_n 3, 1) := by decide +kernel
theorem d_14_18_15 : decode prog_14_method_18_code 15 = .ok (.lload_n 1, 1) := by decide +kernel
theorem d_14_18_16 : decode prog_14_method_18_code 16 = .ok (.lload_n 3, 1) := by decide +kernel
theorem d_14_18_17 : decode prog_14_method_18_code 17 = .ok (.land, 1) := by decide +kernel
theorem d_14_18_18 : decode prog_14_method_18_code 18 = .ok (.lconst 0, 1) := by decide +kernel
theorem d_14_18_19 : decode prog_14_method_18_code 19 = .ok (.lcmp, 1) := by decide +kernel
theorem d_14_18_20 : decode prog_14_method_18_code 20 = .ok (.ifCond .ne 7, 3) := by decide +kernel
theorem d_14_18_27 : decode prog_14_method_18_code 27 = .ok (.lload_n 1, 1) := by decide +kernel
theorem d_14_18_28 : decode prog_14_method_18_code 28 = .ok (.lload_n 3, 1) := by decide +kernel
theorem d_14_18_29 : decode prog_14_method_18_code 29 = .ok (.ldc2_w 155, 3) := by decide +kernel
set_option maxRecDepth 100000 in
theorem w_2677 : (Cond.constantLong "NumberHouseModel" (155 : Nat) (-1 : Int64)) ∈ q_tbl := q_of12 37 rfl (by decide +kernel)
theorem d_14_18_32 : decode prog_14_method_18_code 32 = .ok (.lxor, 1) := by decide +kernel
theorem d_14_18_33 : decode prog_14_method_18_code 33 = .ok (.land, 1) := by decide +kernel
theorem d_14_18_34 : decode prog_14_method_18_code 34 = .ok (.lneg, 1) := by decide +kernel
theorem d_14_18_35 : decode prog_14_method_18_code 35 = .ok (.lreturn, 1) := by decide +kernel
theorem d_14_18_23 : decode prog_14_method_18_code 23 = .ok (.lload_n 1, 1) := by decide +kernel
theorem d_14_18_24 : decode prog_14_method_18_code 24 = .ok (.goto 11, 3) := by decide +kernel
theorem d_14_18_2 : decode prog_14_method_18_code 2 = .ok (.if_icmp .ne 9, 3) := by decide +kernel
theorem d_14_18_11 : decode prog_14_method_18_code 11 = .ok (.ldc2_w 153, 3) := by decide +kernel
set_option maxRecDepth 100000 in
theorem w_2676 : (Cond.constantLong "NumberHouseModel" (153 : Nat) (-9223372036854775808 : Int64)) ∈ q_tbl := q_of12 36 rfl (by decide +kernel)
theorem d_14_18_5 : decode prog_14_method_18_code 5 = .ok (.ldc2_w 149, 3) := by decide +kernel
set_option maxRecDepth 100000 in
theorem w_2675 : (Cond.constantLong "NumberHouseModel" (149 : Nat) (2147483648 : Int64)) ∈ q_tbl := q_of12 35 rfl (by decide +kernel)
theorem d_14_18_8 : decode prog_14_method_18_code 8 = .ok (.goto 6, 3) := by decide +kernel
def y_NM_placeOf : MethodName := ⟨"NumberHouseModel", "placeOf", "(IJ)J"⟩
def F_NM_placeOf_J14 (x1 : Int32) (x2 : Int64) (lx1 : Int64) : Int64 := if (lg_cmp (x2 &&& lx1 : Int64) 0 : Int32) = (0 : Int32) then (x2) else ((-(x2 &&& (lx1 ^^^ (-1) : Int64) : Int64) : Int64))
def F_NM_placeOf (x1 : Int32) (x2 : Int64) : Int64 := if x1 = (3 : Int32) then (F_NM_placeOf_J14 x1 x2 2147483648) else (F_NM_placeOf_J14 x1 x2 (-9223372036854775808))
set_option maxRecDepth 100000 in
set_option maxHeartbeats 4000000 in
theorem X_NM_placeOf (l : Launch) (D : va_G) (g : Nat → ClassId) (q : Nat → Nat) (ws : va_W) (x1 : Int32) (x2 : Int64) (hI : q_I (msh g q) q ws) : q_mL l y_NM_placeOf prog_14_method_18_code 5 1 0 0 D g [.int x1, .long x2] ws (fun r u => ws = u ∧ r = (F_NM_placeOf x1 x2)) := by
  intro sz
  refine q_into (by decide) (Nat.le_of_ble_eq_true rfl) ?_
  intro p e s m below meth c ls hsz C0 V hl
  have hx := C0.1
  have hb := C0.2.1
  have hl : lv_has ls 5 [(0, .int x1), (1, .long x2)] := hl
  refine lv_iload_n hx hb d_14_18_0 rfl (lv_at hl 0 rfl) ?_
  refine lv_iconst (v := 3) hx hb d_14_18_1 (by decide) ?_
  refine q_join (X := Int64) (fun z H locs ls _ => q_F (z.toInt ≤ 2147483648) ∧ q_Wd D g (va_A ws sz) s ws H locs ∧ lv_has ls 5 [(1, .long x2)] ∧ F_NM_placeOf_J14 x1 x2 z = (F_NM_placeOf x1 x2)) (fun z => [.long z]) 14 0 0 ?_ ?_
  ·
    rintro lx1 H locs ls _ ⟨i3, V, hl, hR4⟩
    clear i3
    replace hl : lv_has ls 5 [(1, .long x2)] := hl
    refine lv_lstore_n (lv' := [(3, .long lx1), (1, .long x2)]) hx hb d_14_18_14 rfl hl (by decide) rfl (fun ls hl => ?_)
    refine lv_lload_n hx hb d_14_18_15 rfl (lv_at hl 1 rfl) ?_
    refine lv_lload_n hx hb d_14_18_16 rfl (lv_at hl 0 rfl) ?_
    refine lv_land hx hb d_14_18_17 ?_
    obtain ⟨j9, e10⟩ := q_nm (x2 &&& lx1 : Int64)
    refine q_tl (v := j9) e10 ?_
    refine lv_lconst (v := 0) hx hb d_14_18_18 (by decide) ?_
    refine W.lcmp hx hb d_14_18_19 ?_
    obtain ⟨a11, e12⟩ := q_nm (lg_cmp j9 0 : Int32)
    refine q_ti (v := a11) e12 ?_
    refine lv_if_ne (tgt := 27) hx hb d_14_18_20 (by decide) (fun c14 => ?_) (fun c14 => ?_)
    ·
      refine lv_lload_n hx hb d_14_18_27 rfl (lv_at hl 1 rfl) ?_
      refine lv_lload_n hx hb d_14_18_28 rfl (lv_at hl 0 rfl) ?_
      refine q_ldc2 C0 rfl w_2677 d_14_18_29 ?_
      refine lv_lxor hx hb d_14_18_32 ?_
      obtain ⟨j16, e17⟩ := q_nm (lx1 ^^^ (-1) : Int64)
      refine q_tl (v := j16) e17 ?_
      refine lv_land hx hb d_14_18_33 ?_
      obtain ⟨j18, e19⟩ := q_nm (x2 &&& j16 : Int64)
      refine q_tl (v := j18) e19 ?_
      refine lv_lneg hx hb d_14_18_34 ?_
      obtain ⟨j20, e21⟩ := q_nm (-j18 : Int64)
      refine q_tl (v := j20) e21 ?_
      exact q_retl C0 V (⟨rfl, (show j20 = (F_NM_placeOf x1 x2) from Eq.trans (by have c14x := c14; rw [← e12, ← e10] at c14x; rw [← e21, ← e19, ← e17, F_NM_placeOf_J14.eq_1, if_neg c14x]) hR4)⟩) d_14_18_35
    ·
      refine lv_lload_n hx hb d_14_18_23 rfl (lv_at hl 1 rfl) ?_
      refine lv_goto (tgt := 35) hx hb d_14_18_24 (by decide) ?_
      exact q_retl C0 V (⟨rfl, (show x2 = (F_NM_placeOf x1 x2) from Eq.trans (by have c14x := c14; rw [← e12, ← e10] at c14x; rw [F_NM_placeOf_J14.eq_1, if_pos c14x]) hR4)⟩) d_14_18_35
  ·
    intro J2
    refine lv_icmp_ne (tgt := 11) hx hb d_14_18_2 (by decide) (fun c23 => ?_) (fun c23 => ?_)
    ·
      refine q_ldc2 C0 rfl w_2676 d_14_18_11 ?_
      exact J2 (((-9223372036854775808) : Int64)) _ _ _ ws ⟨(show q_F ((-9223372036854775808) ≤ 2147483648) from (show (-9223372036854775808) ≤ 2147483648 from by omega)), V, q_lw hl (q_lw1 1 rfl q_lw0), (show F_NM_placeOf_J14 x1 x2 (-9223372036854775808) = (F_NM_placeOf x1 x2) from (by rw [F_NM_placeOf.eq_1, if_neg c23]))⟩
    ·
      refine q_ldc2 C0 rfl w_2675 d_14_18_5 ?_
      refine lv_goto (tgt := 14) hx hb d_14_18_8 (by decide) ?_
      exact J2 ((2147483648 : Int64)) _ _ _ ws ⟨(show q_F (2147483648 ≤ 2147483648) from (show 2147483648 ≤ 2147483648 from by omega)), V, q_lw hl (q_lw1 1 rfl q_lw0), (show F_NM_placeOf_J14 x1 x2 2147483648 = (F_NM_placeOf x1 x2) from (by rw [F_NM_placeOf.eq_1, if_pos c23]))⟩
theorem d_14_19_0 : decode prog_14_method_19_code 0 = .ok (.aload_n 0, 1) := by decide +kernel
theorem d_14_19_1 : decode prog_14_method_19_code 1 = .ok (.iload_n 1, 1) := by decide +kernel
theorem d_14_19_2 : decode prog_14_method_19_code 2 = .ok (.iload_n 2, 1) := by decide +kernel
theorem d_14_19_3 : decode prog_14_method_19_code 3 = .ok (.invokestatic 84, 3) := by decide +kernel
theorem d_14_19_21 : decode prog_14_method_19_code 21 = .ok (.putfield 58, 3) := by decide +kernel
theorem d_14_19_24 : decode prog_14_method_19_code 24 = .ok (.aload_n 0, 1) := by decide +kernel
theorem d_14_19_25 : decode prog_14_method_19_code 25 = .ok (.getfield 58, 3) := by decide +kernel
theorem d_14_19_28 : decode prog_14_method_19_code 28 = .ok (.ifCond .le 5, 3) := by decide +kernel
theorem d_14_19_33 : decode prog_14_method_19_code 33 = .ok (.iload_n 1, 1) := by decide +kernel
theorem d_14_19_34 : decode prog_14_method_19_code 34 = .ok (.iconst 2, 1) := by decide +kernel
theorem d_14_19_35 : decode prog_14_method_19_code 35 = .ok (.if_icmp .ge 29, 3) := by decide +kernel
theorem d_14_19_64 : decode prog_14_method_19_code 64 = .ok (.aload_n 0, 1) := by decide +kernel
theorem d_14_19_65 : decode prog_14_method_19_code 65 = .ok (.iload_n 1, 1) := by decide +kernel
theorem d_14_19_66 : decode prog_14_method_19_code 66 = .ok (.iload_n 2, 1) := by decide +kernel
theorem d_14_19_67 : decode prog_14_method_19_code 67 = .ok (.invokevirtual 138, 3) := by decide +kernel
theorem d_14_19_70 : decode prog_14_method_19_code 70 = .ok (.lstore 4, 2) := by decide +kernel
theorem d_14_19_72 : decode prog_14_method_19_code 72 = .ok (.aload_n 0, 1) := by decide +kernel
theorem d_14_19_73 : decode prog_14_method_19_code 73 = .ok (.iload_n 1, 1) := by decide +kernel
theorem d_14_19_74 : decode prog_14_method_19_code 74 = .ok (.iload_n 3, 1) := by decide +kernel
theorem d_14_19_75 : decode prog_14_method_19_code 75 = .ok (.invokevirtual 138, 3) := by decide +kernel
theorem d_14_19_78 : decode prog_14_method_19_code 78 = .ok (.lstore 6, 2) := by decide +kernel
theorem d_14_19_80 : decode prog_14_method_19_code 80 = .ok (.aload_n 0, 1) := by decide +kernel
theorem d_14_19_81 : decode prog_14_method_19_code 81 = .ok (.iload_n 1, 1) := by decide +kernel
theorem d_14_19_82 : decode prog_14_method_19_code 82 = .ok (.lload 4, 2) := by decide +kernel
theorem d_14_19_84 : decode prog_14_method_19_code 84 = .ok (.invokestatic 161, 3) := by decide +kernel
set_option maxRecDepth 100000 in
theorem w_2669 : (Cond.code ({ cls := "NumberHouseModel", name := "isNumber", desc := "(IJ)Z" } : MethodName) prog_14_method_14_code (3 : Nat) (some .boolean)) ∈ q_tbl := q_of12 29 rfl (by decide +kernel)
set_option maxRecDepth 100000 in
theorem w_2667 : (Cond.methodLink "NumberHouseModel" (161 : Nat) ({ cls := "NumberHouseModel", name := "isNumber", desc := "(IJ)Z" } : MethodName)) ∈ q_tbl := q_of12 27 rfl (by decide +kernel)
set_option maxRecDepth 100000 in
theorem w_2668 : (Cond.static ({ cls := "NumberHouseModel", name := "isNumber", desc := "(IJ)Z" } : MethodName)) ∈ q_tbl := q_of12 28 rfl (by decide +kernel)
theorem LS_NM_161 : q_LS "NumberHouseModel" 161 y_NM_isNumber prog_14_method_14_code 3 (some .boolean) 2 := ⟨w_2669, w_14, w_2667, w_2668, ⟨by decide, by decide, by decide +kernel⟩⟩
theorem d_14_19_104 : decode prog_14_method_19_code 104 = .ok (.putfield 58, 3) := by decide +kernel
theorem d_14_19_107 : decode prog_14_method_19_code 107 = .ok (.iload_n 1, 1) := by decide +kernel
theorem d_14_19_108 : decode prog_14_method_19_code 108 = .ok (.lload 4, 2) := by decide +kernel
theorem d_14_19_110 : decode prog_14_method_19_code 110 = .ok (.invokestatic 164, 3) := by decide +kernel
set_option maxRecDepth 100000 in
theorem w_2674 : (Cond.code ({ cls := "NumberHouseModel", name := "placeOf", desc := "(IJ)J" } : MethodName) prog_14_method_18_code (5 : Nat) (some .long)) ∈ q_tbl := q_of12 34 rfl (by decide +kernel)
set_option maxRecDepth 100000 in
theorem w_2672 : (Cond.methodLink "NumberHouseModel" (164 : Nat) ({ cls := "NumberHouseModel", name := "placeOf", desc := "(IJ)J" } : MethodName)) ∈ q_tbl := q_of12 32 rfl (by decide +kernel)
set_option maxRecDepth 100000 in
theorem w_2673 : (Cond.static ({ cls := "NumberHouseModel", name := "placeOf", desc := "(IJ)J" } : MethodName)) ∈ q_tbl := q_of12 33 rfl (by decide +kernel)
theorem LS_NM_164 : q_LS "NumberHouseModel" 164 y_NM_placeOf prog_14_method_18_code 5 (some .long) 2 := ⟨w_2674, w_14, w_2672, w_2673, ⟨by decide, by decide, by decide +kernel⟩⟩
theorem d_14_19_113 : decode prog_14_method_19_code 113 = .ok (.lstore 8, 2) := by decide +kernel
theorem d_14_19_115 : decode prog_14_method_19_code 115 = .ok (.iload_n 1, 1) := by decide +kernel
theorem d_14_19_116 : decode prog_14_method_19_code 116 = .ok (.lload 6, 2) := by decide +kernel
theorem d_14_19_118 : decode prog_14_method_19_code 118 = .ok (.invokestatic 164, 3) := by decide +kernel
theorem d_14_19_121 : decode prog_14_method_19_code 121 = .ok (.lstore 10, 2) := by decide +kernel
theorem d_14_19_123 : decode prog_14_method_19_code 123 = .ok (.aload_n 0, 1) := by decide +kernel
theorem d_14_19_124 : decode prog_14_method_19_code 124 = .ok (.getfield 58, 3) := by decide +kernel
theorem d_14_19_127 : decode prog_14_method_19_code 127 = .ok (.ifCond .le 7, 3) := by decide +kernel
theorem d_14_19_134 : decode prog_14_method_19_code 134 = .ok (.lload 8, 2) := by decide +kernel
theorem d_14_19_136 : decode prog_14_method_19_code 136 = .ok (.lload 10, 2) := by decide +kernel
theorem d_14_19_138 : decode prog_14_method_19_code 138 = .ok (.lcmp, 1) := by decide +kernel
theorem d_14_19_139 : decode prog_14_method_19_code 139 = .ok (.ifCond .ge 7, 3) := by decide +kernel
theorem d_14_19_146 : decode prog_14_method_19_code 146 = .ok (.lload 8, 2) := by decide +kernel
theorem d_14_19_148 : decode prog_14_method_19_code 148 = .ok (.lload 10, 2) := by decide +kernel
theorem d_14_19_150 : decode prog_14_method_19_code 150 = .ok (.lcmp, 1) := by decide +kernel
theorem d_14_19_151 : decode prog_14_method_19_code 151 = .ok (.ifCond .le 7, 3) := by decide +kernel
theorem d_14_19_158 : decode prog_14_method_19_code 158 = .ok (.iconst 0, 1) := by decide +kernel
theorem d_14_19_159 : decode prog_14_method_19_code 159 = .ok (.ireturn, 1) := by decide +kernel
theorem d_14_19_154 : decode prog_14_method_19_code 154 = .ok (.iconst 1, 1) := by decide +kernel
theorem d_14_19_155 : decode prog_14_method_19_code 155 = .ok (.goto 4, 3) := by decide +kernel
theorem d_14_19_142 : decode prog_14_method_19_code 142 = .ok (.iconst (-1), 1) := by decide +kernel
theorem d_14_19_143 : decode prog_14_method_19_code 143 = .ok (.goto 16, 3) := by decide +kernel
theorem d_14_19_130 : decode prog_14_method_19_code 130 = .ok (.iconst 0, 1) := by decide +kernel
theorem d_14_19_131 : decode prog_14_method_19_code 131 = .ok (.goto 28, 3) := by decide +kernel
theorem d_14_19_99 : decode prog_14_method_19_code 99 = .ok (.iconst 2, 1) := by decide +kernel
theorem d_14_19_100 : decode prog_14_method_19_code 100 = .ok (.goto 4, 3) := by decide +kernel
theorem d_14_19_87 : decode prog_14_method_19_code 87 = .ok (.ifCond .eq 12, 3) := by decide +kernel
theorem d_14_19_90 : decode prog_14_method_19_code 90 = .ok (.iload_n 1, 1) := by decide +kernel
theorem d_14_19_91 : decode prog_14_method_19_code 91 = .ok (.lload 6, 2) := by decide +kernel
theorem d_14_19_93 : decode prog_14_method_19_code 93 = .ok (.invokestatic 161, 3) := by decide +kernel
theorem d_14_19_96 : decode prog_14_method_19_code 96 = .ok (.ifCond .ne 7, 3) := by decide +kernel
theorem d_14_19_103 : decode prog_14_method_19_code 103 = .ok (.iconst 0, 1) := by decide +kernel
theorem d_14_19_38 : decode prog_14_method_19_code 38 = .ok (.iload_n 1, 1) := by decide +kernel
theorem d_14_19_39 : decode prog_14_method_19_code 39 = .ok (.ifCond .ne 15, 3) := by decide +kernel
theorem d_14_19_54 : decode prog_14_method_19_code 54 = .ok (.aload_n 0, 1) := by decide +kernel
theorem d_14_19_55 : decode prog_14_method_19_code 55 = .ok (.getfield 26, 3) := by decide +kernel
theorem d_14_19_58 : decode prog_14_method_19_code 58 = .ok (.iload_n 2, 1) := by decide +kernel
theorem d_14_19_59 : decode prog_14_method_19_code 59 = .ok (.iload_n 3, 1) := by decide +kernel
theorem d_14_19_60 : decode prog_14_method_19_code 60 = .ok (.invokevirtual 160, 3) := by decide +kernel
set_option maxRecDepth 100000 in
theorem w_2662 : (Cond.code ({ cls := "NumberHouseModel$DecimalRows", name := "compare", desc := "(II)I" } : MethodName) prog_15_method_24_code (5 : Nat) (some .int)) ∈ q_tbl := q_of12 22 rfl (by decide +kernel)
set_option maxRecDepth 100000 in
theorem w_2659 : (Cond.methodLink "NumberHouseModel" (160 : Nat) ({ cls := "NumberHouseModel$DecimalRows", name := "compare", desc := "(II)I" } : MethodName)) ∈ q_tbl := q_of12 19 rfl (by decide +kernel)
set_option maxRecDepth 100000 in
theorem w_2660 : (Cond.instanceMethod ({ cls := "NumberHouseModel$DecimalRows", name := "compare", desc := "(II)I" } : MethodName)) ∈ q_tbl := q_of12 20 rfl (by decide +kernel)
set_option maxRecDepth 100000 in
theorem w_2661 : (Cond.selects "NumberHouseModel$DecimalRows" ({ cls := "NumberHouseModel$DecimalRows", name := "compare", desc := "(II)I" } : MethodName) ({ cls := "NumberHouseModel$DecimalRows", name := "compare", desc := "(II)I" } : MethodName)) ∈ q_tbl := q_of12 21 rfl (by decide +kernel)
theorem LV_NM_160 : q_LV "NumberHouseModel" 160 y_DR_compare prog_15_method_24_code 5 (some .int) 2 := ⟨w_2662, w_16, w_2659, w_2660, w_2661, ⟨by decide, by decide, by decide +kernel⟩⟩
theorem d_14_19_63 : decode prog_14_method_19_code 63 = .ok (.ireturn, 1) := by decide +kernel
theorem d_14_19_42 : decode prog_14_method_19_code 42 = .ok (.aload_n 0, 1) := by decide +kernel
theorem d_14_19_43 : decode prog_14_method_19_code 43 = .ok (.getfield 19, 3) := by decide +kernel
theorem d_14_19_46 : decode prog_14_method_19_code 46 = .ok (.iload_n 2, 1) := by decide +kernel
theorem d_14_19_47 : decode prog_14_method_19_code 47 = .ok (.iload_n 3, 1) := by decide +kernel
theorem d_14_19_48 : decode prog_14_method_19_code 48 = .ok (.invokevirtual 157, 3) := by decide +kernel
set_option maxRecDepth 100000 in
theorem w_2651 : (Cond.code ({ cls := "NumberHouseModel$WholeRows", name := "compare", desc := "(II)I" } : MethodName) prog_19_method_40_code (4 : Nat) (some .int)) ∈ q_tbl := q_of12 11 rfl (by decide +kernel)
set_option maxRecDepth 100000 in
theorem w_2648 : (Cond.methodLink "NumberHouseModel" (157 : Nat) ({ cls := "NumberHouseModel$WholeRows", name := "compare", desc := "(II)I" } : MethodName)) ∈ q_tbl := q_of12 8 rfl (by decide +kernel)
set_option maxRecDepth 100000 in
theorem w_2649 : (Cond.instanceMethod ({ cls := "NumberHouseModel$WholeRows", name := "compare", desc := "(II)I" } : MethodName)) ∈ q_tbl := q_of12 9 rfl (by decide +kernel)
set_option maxRecDepth 100000 in
theorem w_2650 : (Cond.selects "NumberHouseModel$WholeRows" ({ cls := "NumberHouseModel$WholeRows", name := "compare", desc := "(II)I" } : MethodName) ({ cls := "NumberHouseModel$WholeRows", name := "compare", desc := "(II)I" } : MethodName)) ∈ q_tbl := q_of12 10 rfl (by decide +kernel)
theorem LV_NM_157 : q_LV "NumberHouseModel" 157 y_WR_compare prog_19_method_40_code 4 (some .int) 2 := ⟨w_2651, w_15, w_2648, w_2649, w_2650, ⟨by decide, by decide, by decide +kernel⟩⟩
theorem d_14_19_51 : decode prog_14_method_19_code 51 = .ok (.goto 12, 3) := by decide +kernel
theorem d_14_19_31 : decode prog_14_method_19_code 31 = .ok (.iconst 0, 1) := by decide +kernel
theorem d_14_19_32 : decode prog_14_method_19_code 32 = .ok (.ireturn, 1) := by decide +kernel
theorem d_14_19_16 : decode prog_14_method_19_code 16 = .ok (.iconst 1, 1) := by decide +kernel
theorem d_14_19_17 : decode prog_14_method_19_code 17 = .ok (.goto 4, 3) := by decide +kernel
theorem d_14_19_6 : decode prog_14_method_19_code 6 = .ok (.ifCond .ne 10, 3) := by decide +kernel
theorem d_14_19_9 : decode prog_14_method_19_code 9 = .ok (.iload_n 3, 1) := by decide +kernel
theorem d_14_19_10 : decode prog_14_method_19_code 10 = .ok (.invokestatic 70, 3) := by decide +kernel
theorem d_14_19_13 : decode prog_14_method_19_code 13 = .ok (.ifCond .eq 7, 3) := by decide +kernel
theorem d_14_19_20 : decode prog_14_method_19_code 20 = .ok (.iconst 0, 1) := by decide +kernel
def y_NM_compare : MethodName := ⟨"NumberHouseModel", "compare", "(III)I"⟩
def F_NM_compare_J104 (x2 : Int32) (x3 : Int32) (x4 : Int32) (t0_0 : Int32) (t0_1 : Int32) (t0_2 : Int32) (t1_0 : Int32) (t1_1 : Int32) (t1_2 : Int32) (t1_3 : Int32) (t1_4 : Int32) (t1_5 : Int32) (t1_6 : Int32) (t2_0 : (Nat → Int32)) (t3_0 : (Nat → Int32)) (t4_0 : (Nat → Int32)) (t5_0 : (Nat → Int32)) (t6_0 : Int32) (t6_1 : Int32) (t6_2 : Int32) (t6_3 : Int64) (t6_4 : Int32) (t6_5 : Int32) (t6_6 : Int32) (t6_7 : Int32) (t6_8 : Int32) (t6_9 : Int32) (t6_10 : Int32) (t7_0 : (Nat → Int32)) (t8_0 : (Nat → Int32)) (t9_0 : (Nat → Int32)) (t10_0 : (Nat → Int32)) (t11_0 : (Nat → Int64)) (lx69 : Int32) (j105 : Int64) (j99 : Int64) (lx115 : Int32) : Int32 × Int32 × Int32 × Int32 × Int32 × Int32 × Int32 × Int32 × Int32 × (Nat → Int32) × (Nat → Int32) × Int32 × Int32 × Int32 × Int64 × Int32 × Int32 × Int32 × Int32 × Int32 × Int32 × Int32 := if lx115 ≤ (0 : Int32) then (if (0 : Int32) ≤ (lg_cmp ((F_NM_placeOf x2 j99) : Int64) ((F_NM_placeOf x2 j105) : Int64) : Int32) then (if (lg_cmp ((F_NM_placeOf x2 j99) : Int64) ((F_NM_placeOf x2 j105) : Int64) : Int32) ≤ (0 : Int32) then (((0 : Int32), lx115, t1_0, t1_1, t1_2, t1_3, t1_4, t1_5, t1_6, t4_0, t5_0, t6_0, t6_1, t6_2, t6_3, t6_4, t6_5, t6_6, t6_7, t6_8, t6_9, t6_10)) else (((1 : Int32), lx115, t1_0, t1_1, t1_2, t1_3, t1_4, t1_5, t1_6, t4_0, t5_0, t6_0, t6_1, t6_2, t6_3, t6_4, t6_5, t6_6, t6_7, t6_8, t6_9, t6_10))) else (((-1 : Int32), lx115, t1_0, t1_1, t1_2, t1_3, t1_4, t1_5, t1_6, t4_0, t5_0, t6_0, t6_1, t6_2, t6_3, t6_4, t6_5, t6_6, t6_7, t6_8, t6_9, t6_10))) else (((0 : Int32), lx115, t1_0, t1_1, t1_2, t1_3, t1_4, t1_5, t1_6, t4_0, t5_0, t6_0, t6_1, t6_2, t6_3, t6_4, t6_5, t6_6, t6_7, t6_8, t6_9, t6_10))
def F_NM_compare_J99 (x2 : Int32) (x3 : Int32) (x4 : Int32) (t0_0 : Int32) (t0_1 : Int32) (t0_2 : Int32) (t1_0 : Int32) (t1_1 : Int32) (t1_2 : Int32) (t1_3 : Int32) (t1_4 : Int32) (t1_5 : Int32) (t1_6 : Int32) (t2_0 : (Nat → Int32)) (t3_0 : (Nat → Int32)) (t4_0 : (Nat → Int32)) (t5_0 : (Nat → Int32)) (t6_0 : Int32) (t6_1 : Int32) (t6_2 : Int32) (t6_3 : Int64) (t6_4 : Int32) (t6_5 : Int32) (t6_6 : Int32) (t6_7 : Int32) (t6_8 : Int32) (t6_9 : Int32) (t6_10 : Int32) (t7_0 : (Nat → Int32)) (t8_0 : (Nat → Int32)) (t9_0 : (Nat → Int32)) (t10_0 : (Nat → Int32)) (t11_0 : (Nat → Int64)) (lx69 : Int32) (j105 : Int64) (j99 : Int64) : Int32 × Int32 × Int32 × Int32 × Int32 × Int32 × Int32 × Int32 × Int32 × (Nat → Int32) × (Nat → Int32) × Int32 × Int32 × Int32 × Int64 × Int32 × Int32 × Int32 × Int32 × Int32 × Int32 × Int32 := F_NM_compare_J104 x2 x3 x4 t0_0 t0_1 t0_2 t1_0 t1_1 t1_2 t1_3 t1_4 t1_5 t1_6 t2_0 t3_0 t4_0 t5_0 t6_0 t6_1 t6_2 t6_3 t6_4 t6_5 t6_6 t6_7 t6_8 t6_9 t6_10 t7_0 t8_0 t9_0 t10_0 t11_0 lx69 j105 j99 2
def F_NM_compare_c60 (x2 : Int32) (x3 : Int32) (x4 : Int32) (t0_0 : Int32) (t0_1 : Int32) (t0_2 : Int32) (t1_0 : Int32) (t1_1 : Int32) (t1_2 : Int32) (t1_3 : Int32) (t1_4 : Int32) (t1_5 : Int32) (t1_6 : Int32) (t2_0 : (Nat → Int32)) (t3_0 : (Nat → Int32)) (t4_0 : (Nat → Int32)) (t5_0 : (Nat → Int32)) (t6_0 : Int32) (t6_1 : Int32) (t6_2 : Int32) (t6_3 : Int64) (t6_4 : Int32) (t6_5 : Int32) (t6_6 : Int32) (t6_7 : Int32) (t6_8 : Int32) (t6_9 : Int32) (t6_10 : Int32) (t7_0 : (Nat → Int32)) (t8_0 : (Nat → Int32)) (t9_0 : (Nat → Int32)) (t10_0 : (Nat → Int32)) (t11_0 : (Nat → Int64)) (lx69 : Int32) (p237 : (Int32 × Int32 × Int32 × Int32 × Int64 × Int32 × Int32 × Int32 × Int32 × Int32 × Int32 × Int32)) : Int32 × Int32 × Int32 × Int32 × Int32 × Int32 × Int32 × Int32 × Int32 × (Nat → Int32) × (Nat → Int32) × Int32 × Int32 × Int32 × Int64 × Int32 × Int32 × Int32 × Int32 × Int32 × Int32 × Int32 := ((p237.1 : Int32), lx69, t1_0, t1_1, t1_2, t1_3, t1_4, t1_5, t1_6, t4_0, t5_0, (p237.2.1 : Int32), (p237.2.2.1 : Int32), (p237.2.2.2.1 : Int32), (p237.2.2.2.2.1 : Int64), (p237.2.2.2.2.2.1 : Int32), (p237.2.2.2.2.2.2.1 : Int32), (p237.2.2.2.2.2.2.2.1 : Int32), (p237.2.2.2.2.2.2.2.2.1 : Int32), (p237.2.2.2.2.2.2.2.2.2.1 : Int32), (p237.2.2.2.2.2.2.2.2.2.2.1 : Int32), (p237.2.2.2.2.2.2.2.2.2.2.2 : Int32))
def F_NM_compare_c48 (x2 : Int32) (x3 : Int32) (x4 : Int32) (t0_0 : Int32) (t0_1 : Int32) (t0_2 : Int32) (t1_0 : Int32) (t1_1 : Int32) (t1_2 : Int32) (t1_3 : Int32) (t1_4 : Int32) (t1_5 : Int32) (t1_6 : Int32) (t2_0 : (Nat → Int32)) (t3_0 : (Nat → Int32)) (t4_0 : (Nat → Int32)) (t5_0 : (Nat → Int32)) (t6_0 : Int32) (t6_1 : Int32) (t6_2 : Int32) (t6_3 : Int64) (t6_4 : Int32) (t6_5 : Int32) (t6_6 : Int32) (t6_7 : Int32) (t6_8 : Int32) (t6_9 : Int32) (t6_10 : Int32) (t7_0 : (Nat → Int32)) (t8_0 : (Nat → Int32)) (t9_0 : (Nat → Int32)) (t10_0 : (Nat → Int32)) (t11_0 : (Nat → Int64)) (lx69 : Int32) (p291 : (Int32 × Int32 × Int32 × Int32 × Int32 × Int32 × Int32 × Int32 × (Nat → Int32) × (Nat → Int32))) : Int32 × Int32 × Int32 × Int32 × Int32 × Int32 × Int32 × Int32 × Int32 × (Nat → Int32) × (Nat → Int32) × Int32 × Int32 × Int32 × Int64 × Int32 × Int32 × Int32 × Int32 × Int32 × Int32 × Int32 := ((p291.1 : Int32), lx69, (p291.2.1 : Int32), (p291.2.2.1 : Int32), (p291.2.2.2.1 : Int32), (p291.2.2.2.2.1 : Int32), (p291.2.2.2.2.2.1 : Int32), (p291.2.2.2.2.2.2.1 : Int32), (p291.2.2.2.2.2.2.2.1 : Int32), (p291.2.2.2.2.2.2.2.2.1 : (Nat → Int32)), (p291.2.2.2.2.2.2.2.2.2 : (Nat → Int32)), t6_0, t6_1, t6_2, t6_3, t6_4, t6_5, t6_6, t6_7, t6_8, t6_9, t6_10)
def F_NM_compare_J21 (x2 : Int32) (x3 : Int32) (x4 : Int32) (t0_0 : Int32) (t0_1 : Int32) (t0_2 : Int32) (t1_0 : Int32) (t1_1 : Int32) (t1_2 : Int32) (t1_3 : Int32) (t1_4 : Int32) (t1_5 : Int32) (t1_6 : Int32) (t2_0 : (Nat → Int32)) (t3_0 : (Nat → Int32)) (t4_0 : (Nat → Int32)) (t5_0 : (Nat → Int32)) (t6_0 : Int32) (t6_1 : Int32) (t6_2 : Int32) (t6_3 : Int64) (t6_4 : Int32) (t6_5 : Int32) (t6_6 : Int32) (t6_7 : Int32) (t6_8 : Int32) (t6_9 : Int32) (t6_10 : Int32) (t7_0 : (Nat → Int32)) (t8_0 : (Nat → Int32)) (t9_0 : (Nat → Int32)) (t10_0 : (Nat → Int32)) (t11_0 : (Nat → Int64)) (lx69 : Int32) : Int32 × Int32 × Int32 × Int32 × Int32 × Int32 × Int32 × Int32 × Int32 × (Nat → Int32) × (Nat → Int32) × Int32 × Int32 × Int32 × Int64 × Int32 × Int32 × Int32 × Int32 × Int32 × Int32 × Int32 := if lx69 ≤ (0 : Int32) then (if (2 : Int32) ≤ x2 then (if ((F_NM_isNumber x2 ((F_NM_bitsOf x2 x3 lx69 t0_1 t0_2 t11_0) : Int64)) : Int32) = (0 : Int32) then (F_NM_compare_J99 x2 x3 x4 t0_0 t0_1 t0_2 t1_0 t1_1 t1_2 t1_3 t1_4 t1_5 t1_6 t2_0 t3_0 t4_0 t5_0 t6_0 t6_1 t6_2 t6_3 t6_4 t6_5 t6_6 t6_7 t6_8 t6_9 t6_10 t7_0 t8_0 t9_0 t10_0 t11_0 lx69 ((F_NM_bitsOf x2 x4 lx69 t0_1 t0_2 t11_0) : Int64) ((F_NM_bitsOf x2 x3 lx69 t0_1 t0_2 t11_0) : Int64)) else (if ((F_NM_isNumber x2 ((F_NM_bitsOf x2 x4 lx69 t0_1 t0_2 t11_0) : Int64)) : Int32) = (0 : Int32) then (F_NM_compare_J99 x2 x3 x4 t0_0 t0_1 t0_2 t1_0 t1_1 t1_2 t1_3 t1_4 t1_5 t1_6 t2_0 t3_0 t4_0 t5_0 t6_0 t6_1 t6_2 t6_3 t6_4 t6_5 t6_6 t6_7 t6_8 t6_9 t6_10 t7_0 t8_0 t9_0 t10_0 t11_0 lx69 ((F_NM_bitsOf x2 x4 lx69 t0_1 t0_2 t11_0) : Int64) ((F_NM_bitsOf x2 x3 lx69 t0_1 t0_2 t11_0) : Int64)) else (F_NM_compare_J104 x2 x3 x4 t0_0 t0_1 t0_2 t1_0 t1_1 t1_2 t1_3 t1_4 t1_5 t1_6 t2_0 t3_0 t4_0 t5_0 t6_0 t6_1 t6_2 t6_3 t6_4 t6_5 t6_6 t6_7 t6_8 t6_9 t6_10 t7_0 t8_0 t9_0 t10_0 t11_0 lx69 ((F_NM_bitsOf x2 x4 lx69 t0_1 t0_2 t11_0) : Int64) ((F_NM_bitsOf x2 x3 lx69 t0_1 t0_2 t11_0) : Int64) 0))) else (if x2 = (0 : Int32) then (F_NM_compare_c48 x2 x3 x4 t0_0 t0_1 t0_2 t1_0 t1_1 t1_2 t1_3 t1_4 t1_5 t1_6 t2_0 t3_0 t4_0 t5_0 t6_0 t6_1 t6_2 t6_3 t6_4 t6_5 t6_6 t6_7 t6_8 t6_9 t6_10 t7_0 t8_0 t9_0 t10_0 t11_0 lx69 ((F_WR_compare x3 x4 t1_0 t1_1 t1_2 t1_3 t1_4 t1_5 t1_6 t2_0 t3_0 t4_0 t5_0) : (Int32 × Int32 × Int32 × Int32 × Int32 × Int32 × Int32 × Int32 × (Nat → Int32) × (Nat → Int32)))) else (F_NM_compare_c60 x2 x3 x4 t0_0 t0_1 t0_2 t1_0 t1_1 t1_2 t1_3 t1_4 t1_5 t1_6 t2_0 t3_0 t4_0 t5_0 t6_0 t6_1 t6_2 t6_3 t6_4 t6_5 t6_6 t6_7 t6_8 t6_9 t6_10 t7_0 t8_0 t9_0 t10_0 t11_0 lx69 ((F_DR_compare x3 x4 t6_0 t6_1 t6_2 t6_3 t6_4 t6_5 t6_6 t6_7 t6_8 t6_9 t6_10 t7_0 t8_0 t9_0 t10_0) : (Int32 × Int32 × Int32 × Int32 × Int64 × Int32 × Int32 × Int32 × Int32 × Int32 × Int32 × Int32))))) else (((0 : Int32), lx69, t1_0, t1_1, t1_2, t1_3, t1_4, t1_5, t1_6, t4_0, t5_0, t6_0, t6_1, t6_2, t6_3, t6_4, t6_5, t6_6, t6_7, t6_8, t6_9, t6_10))
def F_NM_compare_J16 (x2 : Int32) (x3 : Int32) (x4 : Int32) (t0_0 : Int32) (t0_1 : Int32) (t0_2 : Int32) (t1_0 : Int32) (t1_1 : Int32) (t1_2 : Int32) (t1_3 : Int32) (t1_4 : Int32) (t1_5 : Int32) (t1_6 : Int32) (t2_0 : (Nat → Int32)) (t3_0 : (Nat → Int32)) (t4_0 : (Nat → Int32)) (t5_0 : (Nat → Int32)) (t6_0 : Int32) (t6_1 : Int32) (t6_2 : Int32) (t6_3 : Int64) (t6_4 : Int32) (t6_5 : Int32) (t6_6 : Int32) (t6_7 : Int32) (t6_8 : Int32) (t6_9 : Int32) (t6_10 : Int32) (t7_0 : (Nat → Int32)) (t8_0 : (Nat → Int32)) (t9_0 : (Nat → Int32)) (t10_0 : (Nat → Int32)) (t11_0 : (Nat → Int64)) : Int32 × Int32 × Int32 × Int32 × Int32 × Int32 × Int32 × Int32 × Int32 × (Nat → Int32) × (Nat → Int32) × Int32 × Int32 × Int32 × Int64 × Int32 × Int32 × Int32 × Int32 × Int32 × Int32 × Int32 := F_NM_compare_J21 x2 x3 x4 t0_0 t0_1 t0_2 t1_0 t1_1 t1_2 t1_3 t1_4 t1_5 t1_6 t2_0 t3_0 t4_0 t5_0 t6_0 t6_1 t6_2 t6_3 t6_4 t6_5 t6_6 t6_7 t6_8 t6_9 t6_10 t7_0 t8_0 t9_0 t10_0 t11_0 1
def F_NM_compare (x2 : Int32) (x3 : Int32) (x4 : Int32) (t0_0 : Int32) (t0_1 : Int32) (t0_2 : Int32) (t1_0 : Int32) (t1_1 : Int32) (t1_2 : Int32) (t1_3 : Int32) (t1_4 : Int32) (t1_5 : Int32) (t1_6 : Int32) (t2_0 : (Nat → Int32)) (t3_0 : (Nat → Int32)) (t4_0 : (Nat → Int32)) (t5_0 : (Nat → Int32)) (t6_0 : Int32) (t6_1 : Int32) (t6_2 : Int32) (t6_3 : Int64) (t6_4 : Int32) (t6_5 : Int32) (t6_6 : Int32) (t6_7 : Int32) (t6_8 : Int32) (t6_9 : Int32) (t6_10 : Int32) (t7_0 : (Nat → Int32)) (t8_0 : (Nat → Int32)) (t9_0 : (Nat → Int32)) (t10_0 : (Nat → Int32)) (t11_0 : (Nat → Int64)) : Int32 × Int32 × Int32 × Int32 × Int32 × Int32 × Int32 × Int32 × Int32 × (Nat → Int32) × (Nat → Int32) × Int32 × Int32 × Int32 × Int64 × Int32 × Int32 × Int32 × Int32 × Int32 × Int32 × Int32 := if ((F_NM_no_IIZ x2 x3) : Int32) = (0 : Int32) then (if ((F_NM_no_IZ x4) : Int32) = (0 : Int32) then (F_NM_compare_J21 x2 x3 x4 t0_0 t0_1 t0_2 t1_0 t1_1 t1_2 t1_3 t1_4 t1_5 t1_6 t2_0 t3_0 t4_0 t5_0 t6_0 t6_1 t6_2 t6_3 t6_4 t6_5 t6_6 t6_7 t6_8 t6_9 t6_10 t7_0 t8_0 t9_0 t10_0 t11_0 0) else (F_NM_compare_J16 x2 x3 x4 t0_0 t0_1 t0_2 t1_0 t1_1 t1_2 t1_3 t1_4 t1_5 t1_6 t2_0 t3_0 t4_0 t5_0 t6_0 t6_1 t6_2 t6_3 t6_4 t6_5 t6_6 t6_7 t6_8 t6_9 t6_10 t7_0 t8_0 t9_0 t10_0 t11_0)) else (F_NM_compare_J16 x2 x3 x4 t0_0 t0_1 t0_2 t1_0 t1_1 t1_2 t1_3 t1_4 t1_5 t1_6 t2_0 t3_0 t4_0 t5_0 t6_0 t6_1 t6_2 t6_3 t6_4 t6_5 t6_6 t6_7 t6_8 t6_9 t6_10 t7_0 t8_0 t9_0 t10_0 t11_0)
def S_NM_compare_J104 (x2 : Int32) (x3 : Int32) (x4 : Int32) (t0_0 : Int32) (t0_1 : Int32) (t0_2 : Int32) (t1_0 : Int32) (t1_1 : Int32) (t1_2 : Int32) (t1_3 : Int32) (t1_4 : Int32) (t1_5 : Int32) (t1_6 : Int32) (t2_0 : (Nat → Int32)) (t3_0 : (Nat → Int32)) (t4_0 : (Nat → Int32)) (t5_0 : (Nat → Int32)) (t6_0 : Int32) (t6_1 : Int32) (t6_2 : Int32) (t6_3 : Int64) (t6_4 : Int32) (t6_5 : Int32) (t6_6 : Int32) (t6_7 : Int32) (t6_8 : Int32) (t6_9 : Int32) (t6_10 : Int32) (t7_0 : (Nat → Int32)) (t8_0 : (Nat → Int32)) (t9_0 : (Nat → Int32)) (t10_0 : (Nat → Int32)) (t11_0 : (Nat → Int64)) (lx69 : Int32) (j105 : Int64) (j99 : Int64) (lx115 : Int32) : Prop := if lx115 ≤ (0 : Int32) then (if (0 : Int32) ≤ (lg_cmp ((F_NM_placeOf x2 j99) : Int64) ((F_NM_placeOf x2 j105) : Int64) : Int32) then (if (lg_cmp ((F_NM_placeOf x2 j99) : Int64) ((F_NM_placeOf x2 j105) : Int64) : Int32) ≤ (0 : Int32) then (True) else (True)) else (True)) else (True)
def S_NM_compare_J99 (x2 : Int32) (x3 : Int32) (x4 : Int32) (t0_0 : Int32) (t0_1 : Int32) (t0_2 : Int32) (t1_0 : Int32) (t1_1 : Int32) (t1_2 : Int32) (t1_3 : Int32) (t1_4 : Int32) (t1_5 : Int32) (t1_6 : Int32) (t2_0 : (Nat → Int32)) (t3_0 : (Nat → Int32)) (t4_0 : (Nat → Int32)) (t5_0 : (Nat → Int32)) (t6_0 : Int32) (t6_1 : Int32) (t6_2 : Int32) (t6_3 : Int64) (t6_4 : Int32) (t6_5 : Int32) (t6_6 : Int32) (t6_7 : Int32) (t6_8 : Int32) (t6_9 : Int32) (t6_10 : Int32) (t7_0 : (Nat → Int32)) (t8_0 : (Nat → Int32)) (t9_0 : (Nat → Int32)) (t10_0 : (Nat → Int32)) (t11_0 : (Nat → Int64)) (lx69 : Int32) (j105 : Int64) (j99 : Int64) : Prop := S_NM_compare_J104 x2 x3 x4 t0_0 t0_1 t0_2 t1_0 t1_1 t1_2 t1_3 t1_4 t1_5 t1_6 t2_0 t3_0 t4_0 t5_0 t6_0 t6_1 t6_2 t6_3 t6_4 t6_5 t6_6 t6_7 t6_8 t6_9 t6_10 t7_0 t8_0 t9_0 t10_0 t11_0 lx69 j105 j99 2
def S_NM_compare_c60 (x2 : Int32) (x3 : Int32) (x4 : Int32) (t0_0 : Int32) (t0_1 : Int32) (t0_2 : Int32) (t1_0 : Int32) (t1_1 : Int32) (t1_2 : Int32) (t1_3 : Int32) (t1_4 : Int32) (t1_5 : Int32) (t1_6 : Int32) (t2_0 : (Nat → Int32)) (t3_0 : (Nat → Int32)) (t4_0 : (Nat → Int32)) (t5_0 : (Nat → Int32)) (t6_0 : Int32) (t6_1 : Int32) (t6_2 : Int32) (t6_3 : Int64) (t6_4 : Int32) (t6_5 : Int32) (t6_6 : Int32) (t6_7 : Int32) (t6_8 : Int32) (t6_9 : Int32) (t6_10 : Int32) (t7_0 : (Nat → Int32)) (t8_0 : (Nat → Int32)) (t9_0 : (Nat → Int32)) (t10_0 : (Nat → Int32)) (t11_0 : (Nat → Int64)) (lx69 : Int32) (p237 : (Int32 × Int32 × Int32 × Int32 × Int64 × Int32 × Int32 × Int32 × Int32 × Int32 × Int32 × Int32)) : Prop := True
def S_NM_compare_c48 (x2 : Int32) (x3 : Int32) (x4 : Int32) (t0_0 : Int32) (t0_1 : Int32) (t0_2 : Int32) (t1_0 : Int32) (t1_1 : Int32) (t1_2 : Int32) (t1_3 : Int32) (t1_4 : Int32) (t1_5 : Int32) (t1_6 : Int32) (t2_0 : (Nat → Int32)) (t3_0 : (Nat → Int32)) (t4_0 : (Nat → Int32)) (t5_0 : (Nat → Int32)) (t6_0 : Int32) (t6_1 : Int32) (t6_2 : Int32) (t6_3 : Int64) (t6_4 : Int32) (t6_5 : Int32) (t6_6 : Int32) (t6_7 : Int32) (t6_8 : Int32) (t6_9 : Int32) (t6_10 : Int32) (t7_0 : (Nat → Int32)) (t8_0 : (Nat → Int32)) (t9_0 : (Nat → Int32)) (t10_0 : (Nat → Int32)) (t11_0 : (Nat → Int64)) (lx69 : Int32) (p291 : (Int32 × Int32 × Int32 × Int32 × Int32 × Int32 × Int32 × Int32 × (Nat → Int32) × (Nat → Int32))) : Prop := True
def S_NM_compare_J21 (x2 : Int32) (x3 : Int32) (x4 : Int32) (t0_0 : Int32) (t0_1 : Int32) (t0_2 : Int32) (t1_0 : Int32) (t1_1 : Int32) (t1_2 : Int32) (t1_3 : Int32) (t1_4 : Int32) (t1_5 : Int32) (t1_6 : Int32) (t2_0 : (Nat → Int32)) (t3_0 : (Nat → Int32)) (t4_0 : (Nat → Int32)) (t5_0 : (Nat → Int32)) (t6_0 : Int32) (t6_1 : Int32) (t6_2 : Int32) (t6_3 : Int64) (t6_4 : Int32) (t6_5 : Int32) (t6_6 : Int32) (t6_7 : Int32) (t6_8 : Int32) (t6_9 : Int32) (t6_10 : Int32) (t7_0 : (Nat → Int32)) (t8_0 : (Nat → Int32)) (t9_0 : (Nat → Int32)) (t10_0 : (Nat → Int32)) (t11_0 : (Nat → Int64)) (lx69 : Int32) : Prop := if lx69 ≤ (0 : Int32) then (if (2 : Int32) ≤ x2 then ((True ∧ S_NM_bitsOf x2 x3 lx69 t0_1 t0_2 t11_0) ∧ ((True ∧ S_NM_bitsOf x2 x4 lx69 t0_1 t0_2 t11_0) ∧ (if ((F_NM_isNumber x2 ((F_NM_bitsOf x2 x3 lx69 t0_1 t0_2 t11_0) : Int64)) : Int32) = (0 : Int32) then (S_NM_compare_J99 x2 x3 x4 t0_0 t0_1 t0_2 t1_0 t1_1 t1_2 t1_3 t1_4 t1_5 t1_6 t2_0 t3_0 t4_0 t5_0 t6_0 t6_1 t6_2 t6_3 t6_4 t6_5 t6_6 t6_7 t6_8 t6_9 t6_10 t7_0 t8_0 t9_0 t10_0 t11_0 lx69 ((F_NM_bitsOf x2 x4 lx69 t0_1 t0_2 t11_0) : Int64) ((F_NM_bitsOf x2 x3 lx69 t0_1 t0_2 t11_0) : Int64)) else (if ((F_NM_isNumber x2 ((F_NM_bitsOf x2 x4 lx69 t0_1 t0_2 t11_0) : Int64)) : Int32) = (0 : Int32) then (S_NM_compare_J99 x2 x3 x4 t0_0 t0_1 t0_2 t1_0 t1_1 t1_2 t1_3 t1_4 t1_5 t1_6 t2_0 t3_0 t4_0 t5_0 t6_0 t6_1 t6_2 t6_3 t6_4 t6_5 t6_6 t6_7 t6_8 t6_9 t6_10 t7_0 t8_0 t9_0 t10_0 t11_0 lx69 ((F_NM_bitsOf x2 x4 lx69 t0_1 t0_2 t11_0) : Int64) ((F_NM_bitsOf x2 x3 lx69 t0_1 t0_2 t11_0) : Int64)) else (S_NM_compare_J104 x2 x3 x4 t0_0 t0_1 t0_2 t1_0 t1_1 t1_2 t1_3 t1_4 t1_5 t1_6 t2_0 t3_0 t4_0 t5_0 t6_0 t6_1 t6_2 t6_3 t6_4 t6_5 t6_6 t6_7 t6_8 t6_9 t6_10 t7_0 t8_0 t9_0 t10_0 t11_0 lx69 ((F_NM_bitsOf x2 x4 lx69 t0_1 t0_2 t11_0) : Int64) ((F_NM_bitsOf x2 x3 lx69 t0_1 t0_2 t11_0) : Int64) 0))))) else (if x2 = (0 : Int32) then ((True ∧ S_WR_compare x3 x4 t1_0 t1_1 t1_2 t1_3 t1_4 t1_5 t1_6 t2_0 t3_0 t4_0 t5_0) ∧ (S_NM_compare_c48 x2 x3 x4 t0_0 t0_1 t0_2 t1_0 t1_1 t1_2 t1_3 t1_4 t1_5 t1_6 t2_0 t3_0 t4_0 t5_0 t6_0 t6_1 t6_2 t6_3 t6_4 t6_5 t6_6 t6_7 t6_8 t6_9 t6_10 t7_0 t8_0 t9_0 t10_0 t11_0 lx69 ((F_WR_compare x3 x4 t1_0 t1_1 t1_2 t1_3 t1_4 t1_5 t1_6 t2_0 t3_0 t4_0 t5_0) : (Int32 × Int32 × Int32 × Int32 × Int32 × Int32 × Int32 × Int32 × (Nat → Int32) × (Nat → Int32))))) else ((True ∧ S_DR_compare x3 x4 t6_0 t6_1 t6_2 t6_3 t6_4 t6_5 t6_6 t6_7 t6_8 t6_9 t6_10 t7_0 t8_0 t9_0 t10_0) ∧ (S_NM_compare_c60 x2 x3 x4 t0_0 t0_1 t0_2 t1_0 t1_1 t1_2 t1_3 t1_4 t1_5 t1_6 t2_0 t3_0 t4_0 t5_0 t6_0 t6_1 t6_2 t6_3 t6_4 t6_5 t6_6 t6_7 t6_8 t6_9 t6_10 t7_0 t8_0 t9_0 t10_0 t11_0 lx69 ((F_DR_compare x3 x4 t6_0 t6_1 t6_2 t6_3 t6_4 t6_5 t6_6 t6_7 t6_8 t6_9 t6_10 t7_0 t8_0 t9_0 t10_0) : (Int32 × Int32 × Int32 × Int32 × Int64 × Int32 × Int32 × Int32 × Int32 × Int32 × Int32 × Int32)))))) else (True)
def S_NM_compare_J16 (x2 : Int32) (x3 : Int32) (x4 : Int32) (t0_0 : Int32) (t0_1 : Int32) (t0_2 : Int32) (t1_0 : Int32) (t1_1 : Int32) (t1_2 : Int32) (t1_3 : Int32) (t1_4 : Int32) (t1_5 : Int32) (t1_6 : Int32) (t2_0 : (Nat → Int32)) (t3_0 : (Nat → Int32)) (t4_0 : (Nat → Int32)) (t5_0 : (Nat → Int32)) (t6_0 : Int32) (t6_1 : Int32) (t6_2 : Int32) (t6_3 : Int64) (t6_4 : Int32) (t6_5 : Int32) (t6_6 : Int32) (t6_7 : Int32) (t6_8 : Int32) (t6_9 : Int32) (t6_10 : Int32) (t7_0 : (Nat → Int32)) (t8_0 : (Nat → Int32)) (t9_0 : (Nat → Int32)) (t10_0 : (Nat → Int32)) (t11_0 : (Nat → Int64)) : Prop := S_NM_compare_J21 x2 x3 x4 t0_0 t0_1 t0_2 t1_0 t1_1 t1_2 t1_3 t1_4 t1_5 t1_6 t2_0 t3_0 t4_0 t5_0 t6_0 t6_1 t6_2 t6_3 t6_4 t6_5 t6_6 t6_7 t6_8 t6_9 t6_10 t7_0 t8_0 t9_0 t10_0 t11_0 1
def S_NM_compare (x2 : Int32) (x3 : Int32) (x4 : Int32) (t0_0 : Int32) (t0_1 : Int32) (t0_2 : Int32) (t1_0 : Int32) (t1_1 : Int32) (t1_2 : Int32) (t1_3 : Int32) (t1_4 : Int32) (t1_5 : Int32) (t1_6 : Int32) (t2_0 : (Nat → Int32)) (t3_0 : (Nat → Int32)) (t4_0 : (Nat → Int32)) (t5_0 : (Nat → Int32)) (t6_0 : Int32) (t6_1 : Int32) (t6_2 : Int32) (t6_3 : Int64) (t6_4 : Int32) (t6_5 : Int32) (t6_6 : Int32) (t6_7 : Int32) (t6_8 : Int32) (t6_9 : Int32) (t6_10 : Int32) (t7_0 : (Nat → Int32)) (t8_0 : (Nat → Int32)) (t9_0 : (Nat → Int32)) (t10_0 : (Nat → Int32)) (t11_0 : (Nat → Int64)) : Prop := if ((F_NM_no_IIZ x2 x3) : Int32) = (0 : Int32) then (if ((F_NM_no_IZ x4) : Int32) = (0 : Int32) then (S_NM_compare_J21 x2 x3 x4 t0_0 t0_1 t0_2 t1_0 t1_1 t1_2 t1_3 t1_4 t1_5 t1_6 t2_0 t3_0 t4_0 t5_0 t6_0 t6_1 t6_2 t6_3 t6_4 t6_5 t6_6 t6_7 t6_8 t6_9 t6_10 t7_0 t8_0 t9_0 t10_0 t11_0 0) else (S_NM_compare_J16 x2 x3 x4 t0_0 t0_1 t0_2 t1_0 t1_1 t1_2 t1_3 t1_4 t1_5 t1_6 t2_0 t3_0 t4_0 t5_0 t6_0 t6_1 t6_2 t6_3 t6_4 t6_5 t6_6 t6_7 t6_8 t6_9 t6_10 t7_0 t8_0 t9_0 t10_0 t11_0)) else (S_NM_compare_J16 x2 x3 x4 t0_0 t0_1 t0_2 t1_0 t1_1 t1_2 t1_3 t1_4 t1_5 t1_6 t2_0 t3_0 t4_0 t5_0 t6_0 t6_1 t6_2 t6_3 t6_4 t6_5 t6_6 t6_7 t6_8 t6_9 t6_10 t7_0 t8_0 t9_0 t10_0 t11_0)
set_option maxRecDepth 100000 in
set_option maxHeartbeats 4000000 in
theorem X_NM_compare (l : Launch) (D : va_G) (g : Nat → ClassId) (q : Nat → Nat) (ws : va_W) (x2 : Int32) (x3 : Int32) (x4 : Int32) (hI : q_I (msh g q) q ws) (t0_0 : Int32) (t0_1 : Int32) (t0_2 : Int32) (hT0 : ws[116]? = (some (q 116, .inr (12, [.int t0_0, .ref (q 117), .int t0_1, .ref (q 118), .int t0_2, .ref (q 119), .ref (q 134), .ref (q 145), .ref (q 153), .ref (q 157), .ref (q 167), .ref (q 168)])) : Option (Nat × va_E))) (t1_0 : Int32) (t1_1 : Int32) (t1_2 : Int32) (t1_3 : Int32) (t1_4 : Int32) (t1_5 : Int32) (t1_6 : Int32) (hT1 : ws[119]? = (some (q 119, .inr (13, [.int t1_0, .int t1_1, .ref (q 120), .int t1_2, .ref (q 121), .ref (q 122), .ref (q 123), .int t1_3, .ref (q 124), .ref (q 125), .ref (q 126), .ref (q 127), .ref (q 128), .ref (q 129), .ref (q 130), .ref (q 131), .int t1_4, .int t1_5, .ref (q 132), .ref (q 133), .int t1_6])) : Option (Nat × va_E))) (t2_0 : (Nat → Int32)) (hT2 : ws[121]? = (some (q 121, .inl (g 0, (1408 : Int32).toNatClampNeg, .inl t2_0)) : Option (Nat × va_E))) (t3_0 : (Nat → Int32)) (hT3 : ws[122]? = (some (q 122, .inl (g 3, 11, .inl t3_0)) : Option (Nat × va_E))) (t4_0 : (Nat → Int32)) (hT4 : ws[128]? = (some (q 128, .inl (g 0, (264 : Int32).toNatClampNeg, .inl t4_0)) : Option (Nat × va_E))) (t5_0 : (Nat → Int32)) (hT5 : ws[129]? = (some (q 129, .inl (g 0, (264 : Int32).toNatClampNeg, .inl t5_0)) : Option (Nat × va_E))) (t6_0 : Int32) (t6_1 : Int32) (t6_2 : Int32) (t6_3 : Int64) (t6_4 : Int32) (t6_5 : Int32) (t6_6 : Int32) (t6_7 : Int32) (t6_8 : Int32) (t6_9 : Int32) (t6_10 : Int32) (hT6 : ws[134]? = (some (q 134, .inr (14, [.int t6_0, .ref (q 135), .int t6_1, .ref (q 136), .ref (q 137), .ref (q 138), .ref (q 139), .ref (q 140), .int t6_2, .long t6_3, .int t6_4, .int t6_5, .ref (q 141), .int t6_6, .ref (q 142), .int t6_7, .ref (q 143), .int t6_8, .ref (q 144), .int t6_9, .int t6_10])) : Option (Nat × va_E))) (t7_0 : (Nat → Int32)) (hT7 : ws[136]? = (some (q 136, .inl (g 0, (10000 : Int32).toNatClampNeg, .inl t7_0)) : Option (Nat × va_E))) (t8_0 : (Nat → Int32)) (hT8 : ws[137]? = (some (q 137, .inl (g 0, (10 : Int32).toNatClampNeg, .inl t8_0)) : Option (Nat × va_E))) (t9_0 : (Nat → Int32)) (hT9 : ws[138]? = (some (q 138, .inl (g 3, 10, .inl t9_0)) : Option (Nat × va_E))) (t10_0 : (Nat → Int32)) (hT10 : ws[139]? = (some (q 139, .inl (g 0, (10 : Int32).toNatClampNeg, .inl t10_0)) : Option (Nat × va_E))) (t11_0 : (Nat → Int64)) (hT11 : ws[167]? = (some (q 167, .inl (g 1, 20, .inr (.inl t11_0))) : Option (Nat × va_E))) (hS : True ∧ S_NM_compare x2 x3 x4 t0_0 t0_1 t0_2 t1_0 t1_1 t1_2 t1_3 t1_4 t1_5 t1_6 t2_0 t3_0 t4_0 t5_0 t6_0 t6_1 t6_2 t6_3 t6_4 t6_5 t6_6 t6_7 t6_8 t6_9 t6_10 t7_0 t8_0 t9_0 t10_0 t11_0) : q_mI l y_NM_compare prog_14_method_19_code 12 (.int) 3 0 0 D g [.ref (q 116), .int x2, .int x3, .int x4] ws (fun r u => q_I (msh g q) q u ∧ q_un ws u [116, 119, 128, 129, 134] ∧ ∃ (u0_0 : Int32) (u1_0 : Int32) (u1_1 : Int32) (u1_2 : Int32) (u1_3 : Int32) (u1_4 : Int32) (u1_5 : Int32) (u1_6 : Int32) (u4_0 : (Nat → Int32)) (u5_0 : (Nat → Int32)) (u6_0 : Int32) (u6_1 : Int32) (u6_2 : Int32) (u6_3 : Int64) (u6_4 : Int32) (u6_5 : Int32) (u6_6 : Int32) (u6_7 : Int32) (u6_8 : Int32) (u6_9 : Int32) (u6_10 : Int32), u[116]? = (some (q 116, .inr (12, [.int u0_0, .ref (q 117), .int t0_1, .ref (q 118), .int t0_2, .ref (q 119), .ref (q 134), .ref (q 145), .ref (q 153), .ref (q 157), .ref (q 167), .ref (q 168)])) : Option (Nat × va_E)) ∧ u[119]? = (some (q 119, .inr (13, [.int u1_0, .int u1_1, .ref (q 120), .int u1_2, .ref (q 121), .ref (q 122), .ref (q 123), .int u1_3, .ref (q 124), .ref (q 125), .ref (q 126), .ref (q 127), .ref (q 128), .ref (q 129), .ref (q 130), .ref (q 131), .int u1_4, .int u1_5, .ref (q 132), .ref (q 133), .int u1_6])) : Option (Nat × va_E)) ∧ u[128]? = (some (q 128, .inl (g 0, (264 : Int32).toNatClampNeg, .inl u4_0)) : Option (Nat × va_E)) ∧ u[129]? = (some (q 129, .inl (g 0, (264 : Int32).toNatClampNeg, .inl u5_0)) : Option (Nat × va_E)) ∧ u[134]? = (some (q 134, .inr (14, [.int u6_0, .ref (q 135), .int u6_1, .ref (q 136), .ref (q 137), .ref (q 138), .ref (q 139), .ref (q 140), .int u6_2, .long u6_3, .int u6_4, .int u6_5, .ref (q 141), .int u6_6, .ref (q 142), .int u6_7, .ref (q 143), .int u6_8, .ref (q 144), .int u6_9, .int u6_10])) : Option (Nat × va_E)) ∧ (0 ≤ u0_0.toInt) ∧ (u0_0.toInt ≤ 2) ∧ (t1_1.toInt ≤ u1_1.toInt) ∧ (u1_1.toInt ≤ t1_1.toInt) ∧ (t1_2.toInt ≤ u1_2.toInt) ∧ (u1_2.toInt ≤ t1_2.toInt) ∧ (t1_3.toInt ≤ u1_3.toInt) ∧ (u1_3.toInt ≤ t1_3.toInt) ∧ (t1_4.toInt ≤ u1_4.toInt) ∧ (u1_4.toInt ≤ t1_4.toInt) ∧ (t1_5.toInt ≤ u1_5.toInt) ∧ (u1_5.toInt ≤ t1_5.toInt) ∧ (t1_6.toInt ≤ u1_6.toInt) ∧ (u1_6.toInt ≤ t1_6.toInt) ∧ (t6_1.toInt ≤ u6_1.toInt) ∧ (u6_1.toInt ≤ t6_1.toInt) ∧ (t6_2.toInt ≤ u6_2.toInt) ∧ (u6_2.toInt ≤ t6_2.toInt) ∧ (t6_3.toInt ≤ u6_3.toInt) ∧ (u6_3.toInt ≤ t6_3.toInt) ∧ (t6_4.toInt ≤ u6_4.toInt) ∧ (u6_4.toInt ≤ t6_4.toInt) ∧ (t6_5.toInt ≤ u6_5.toInt) ∧ (u6_5.toInt ≤ t6_5.toInt) ∧ (t6_6.toInt ≤ u6_6.toInt) ∧ (u6_6.toInt ≤ t6_6.toInt) ∧ (t6_7.toInt ≤ u6_7.toInt) ∧ (u6_7.toInt ≤ t6_7.toInt) ∧ (t6_8.toInt ≤ u6_8.toInt) ∧ (u6_8.toInt ≤ t6_8.toInt) ∧ (t6_9.toInt ≤ u6_9.toInt) ∧ (u6_9.toInt ≤ t6_9.toInt) ∧ (t6_10.toInt ≤ u6_10.toInt) ∧ (u6_10.toInt ≤ t6_10.toInt) ∧ (r, u0_0, u1_0, u1_1, u1_2, u1_3, u1_4, u1_5, u1_6, u4_0, u5_0, u6_0, u6_1, u6_2, u6_3, u6_4, u6_5, u6_6, u6_7, u6_8, u6_9, u6_10) = (F_NM_compare x2 x3 x4 t0_0 t0_1 t0_2 t1_0 t1_1 t1_2 t1_3 t1_4 t1_5 t1_6 t2_0 t3_0 t4_0 t5_0 t6_0 t6_1 t6_2 t6_3 t6_4 t6_5 t6_6 t6_7 t6_8 t6_9 t6_10 t7_0 t8_0 t9_0 t10_0 t11_0)) := by
  intro sz
  refine q_into (by decide) (Nat.le_of_ble_eq_true rfl) ?_
  intro p e s m below meth c ls hsz C0 V hl
  have hx := C0.1
  have hb := C0.2.1
  obtain ⟨btt0_1, btt0_2⟩ := n_w116 hI hT0
  replace btt0_1 : q_F (0 ≤ t0_1.toInt ∧ t0_1.toInt ≤ 4100) := btt0_1
  replace btt0_2 : q_F (0 ≤ t0_2.toInt ∧ t0_2.toInt ≤ 12200) := btt0_2
  have hZ9 := (n_w119 hI hT1).2.2.2
  obtain ⟨-, btt1_6⟩ := hZ9
  clear btt1_6
  have hZ9 := (n_w134 hI hT6).2.2
  obtain ⟨-, btt6_9⟩ := hZ9
  clear btt6_9
  have hF : q_un ws ws [116, 119, 128, 129, 134] := q_u0
  have hl : lv_has ls 12 [(0, .ref (q 116)), (1, .int x2), (2, .int x3), (3, .int x4)] := hl
  refine lv_aload_n hx hb d_14_19_0 rfl (lv_at hl 0 rfl) ?_
  refine lv_iload_n hx hb d_14_19_1 rfl (lv_at hl 1 rfl) ?_
  refine lv_iload_n hx hb d_14_19_2 rfl (lv_at hl 2 rfl) ?_
  refine q_goi V (q_runS (As := [.int x2, .int x3]) (rest := [.ref (q 116)]) (d := 2) (mc := 0) (ms := 0) C0 V rfl LS_NM_84 (X_NM_no_IIZ l D g q ws  x2 x3 hI   _) rfl hl.1 rfl (Nat.le_of_ble_eq_true rfl) ⟨by decide, by decide⟩ ⟨Nat.le_of_ble_eq_true rfl, Nat.le_of_ble_eq_true rfl⟩ d_14_19_3) (fun a64 u62 H locs hp63 V => ?_)
  obtain ⟨rfl, b65, b66, hE67⟩ := hp63
  have e68 : a64 = (F_NM_no_IIZ x2 x3) := hE67
  clear b65
  clear b66
  refine q_join (X := Int32) (fun z H locs ls _ => q_F (0 ≤ z.toInt) ∧ q_F (z.toInt ≤ 1) ∧ q_Wd D g (va_A ws sz) s ws H locs ∧ lv_has ls 12 [(0, .ref (q 116)), (1, .int x2), (2, .int x3), (3, .int x4)] ∧ F_NM_compare_J21 x2 x3 x4 t0_0 t0_1 t0_2 t1_0 t1_1 t1_2 t1_3 t1_4 t1_5 t1_6 t2_0 t3_0 t4_0 t5_0 t6_0 t6_1 t6_2 t6_3 t6_4 t6_5 t6_6 t6_7 t6_8 t6_9 t6_10 t7_0 t8_0 t9_0 t10_0 t11_0 z = (F_NM_compare x2 x3 x4 t0_0 t0_1 t0_2 t1_0 t1_1 t1_2 t1_3 t1_4 t1_5 t1_6 t2_0 t3_0 t4_0 t5_0 t6_0 t6_1 t6_2 t6_3 t6_4 t6_5 t6_6 t6_7 t6_8 t6_9 t6_10 t7_0 t8_0 t9_0 t10_0 t11_0) ∧ True ∧ S_NM_compare_J21 x2 x3 x4 t0_0 t0_1 t0_2 t1_0 t1_1 t1_2 t1_3 t1_4 t1_5 t1_6 t2_0 t3_0 t4_0 t5_0 t6_0 t6_1 t6_2 t6_3 t6_4 t6_5 t6_6 t6_7 t6_8 t6_9 t6_10 t7_0 t8_0 t9_0 t10_0 t11_0 z) (fun z => [.int z, .ref (q 116)]) 21 0 0 ?_ ?_
  ·
    rintro lx69 H locs ls _ hZ9
    obtain ⟨i83, hZ9⟩ := hZ9
    obtain ⟨i84, hZ9⟩ := hZ9
    obtain ⟨V, hZ9⟩ := hZ9
    obtain ⟨hl, hZ9⟩ := hZ9
    obtain ⟨hR85, hS86⟩ := hZ9
    replace i83 : q_F (0 ≤ lx69.toInt) := i83
    replace i84 : q_F (lx69.toInt ≤ 1) := i84
    replace hl : lv_has ls 12 [(0, .ref (q 116)), (1, .int x2), (2, .int x3), (3, .int x4)] := hl
    refine q_put (ci := 12) (j := 0) (v := .int lx69) (ty := .int) C0 V i_NM o_NM n_NM rfl rfl hT0 (by decide) w_2298 rfl rfl rfl rfl (Nat.le_of_ble_eq_true rfl) d_14_19_21 (fun H locs w90 hu91 hT0 V => ?_)
    replace hT0 : w90[116]? = (some (q 116, .inr (12, [.int lx69, .ref (q 117), .int t0_1, .ref (q 118), .int t0_2, .ref (q 119), .ref (q 134), .ref (q 145), .ref (q 153), .ref (q 157), .ref (q 167), .ref (q 168)])) : Option (Nat × va_E)) := hT0
    replace hI := n_p116 hI hu91 hT0 (by first | with_reducible exact q_fe btt0_1 | exact ⟨(by have t1 : 0 ≤ t0_1.toInt ∧ t0_1.toInt ≤ 4100 := btt0_1; omega), (by have t1 : 0 ≤ t0_1.toInt ∧ t0_1.toInt ≤ 4100 := btt0_1; omega)⟩) (by first | with_reducible exact q_fe btt0_2 | exact ⟨(by have t1 : 0 ≤ t0_2.toInt ∧ t0_2.toInt ≤ 12200 := btt0_2; omega), (by have t1 : 0 ≤ t0_2.toInt ∧ t0_2.toInt ≤ 12200 := btt0_2; omega)⟩)
    replace hT1 := (hu91 _ (by decide)).trans hT1
    replace hT2 := (hu91 _ (by decide)).trans hT2
    replace hT3 := (hu91 _ (by decide)).trans hT3
    replace hT4 := (hu91 _ (by decide)).trans hT4
    replace hT5 := (hu91 _ (by decide)).trans hT5
    replace hT6 := (hu91 _ (by decide)).trans hT6
    replace hT7 := (hu91 _ (by decide)).trans hT7
    replace hT8 := (hu91 _ (by decide)).trans hT8
    replace hT9 := (hu91 _ (by decide)).trans hT9
    replace hT10 := (hu91 _ (by decide)).trans hT10
    replace hT11 := (hu91 _ (by decide)).trans hT11
    replace hF := q_us hF hu91 (by simp)
    refine lv_aload_n hx hb d_14_19_24 rfl (lv_at hl 0 rfl) ?_
    refine q_get (ci := 12) (j := 0) (v := .int lx69) C0 V i_NM rfl rfl hT0 (by decide) w_2298 rfl d_14_19_25 ?_
    refine lv_if_le (tgt := 33) hx hb d_14_19_28 (by decide) (fun c92 => ?_) (fun c92 => ?_)
    ·
      have b93 : q_F (lx69.toInt ≤ 0) := (q_leI c92)
      refine lv_iload_n hx hb d_14_19_33 rfl (lv_at hl 1 rfl) ?_
      refine lv_iconst (v := 2) hx hb d_14_19_34 (by decide) ?_
      refine lv_icmp_ge (tgt := 64) hx hb d_14_19_35 (by decide) (fun c94 => ?_) (fun c94 => ?_)
      ·
        refine lv_aload_n hx hb d_14_19_64 rfl (lv_at hl 0 rfl) ?_
        refine lv_iload_n hx hb d_14_19_65 rfl (lv_at hl 1 rfl) ?_
        refine lv_iload_n hx hb d_14_19_66 rfl (lv_at hl 2 rfl) ?_
        have ob96 : True ∧ S_NM_bitsOf x2 x3 lx69 t0_1 t0_2 t11_0 := (by have h := hS86; rw [S_NM_compare_J21.eq_1] at h; rw [if_pos c92] at h; rw [if_pos c94] at h; with_reducible exact h.2.1)
        refine q_gol V (q_runV (As := [.int x2, .int x3]) (rest := []) (d := 1) (mc := 0) (ms := 0) (ci := 12) C0 V rfl LV_NM_138 (X_NM_bitsOf l D g q w90  x2 x3 hI lx69 t0_1 t0_2 hT0 t11_0 hT11 ob96 _) rfl rfl hT0 rfl hl.1 rfl (Nat.le_of_ble_eq_true rfl) ⟨by decide, by decide⟩ ⟨Nat.le_of_ble_eq_true rfl, Nat.le_of_ble_eq_true rfl⟩ d_14_19_67) (fun j99 u97 H locs hp98 V => ?_)
        obtain ⟨rfl, hE100⟩ := hp98
        have e101 : j99 = (F_NM_bitsOf x2 x3 lx69 t0_1 t0_2 t11_0) := hE100
        refine lv_lstore (lv' := [(4, .long j99), (0, .ref (q 116)), (1, .int x2), (2, .int x3), (3, .int x4)]) hx hb d_14_19_70 hl (by decide) rfl (fun ls hl => ?_)
        refine lv_aload_n hx hb d_14_19_72 rfl (lv_at hl 1 rfl) ?_
        refine lv_iload_n hx hb d_14_19_73 rfl (lv_at hl 2 rfl) ?_
        refine lv_iload_n hx hb d_14_19_74 rfl (lv_at hl 4 rfl) ?_
        have ob102 : True ∧ S_NM_bitsOf x2 x4 lx69 t0_1 t0_2 t11_0 := (by have h := hS86; rw [S_NM_compare_J21.eq_1] at h; rw [if_pos c92] at h; rw [if_pos c94] at h; replace h := q_s2 h; with_reducible exact h.2.1)
        refine q_gol V (q_runV (As := [.int x2, .int x4]) (rest := []) (d := 1) (mc := 0) (ms := 0) (ci := 12) C0 V rfl LV_NM_138 (X_NM_bitsOf l D g q w90  x2 x4 hI lx69 t0_1 t0_2 hT0 t11_0 hT11 ob102 _) rfl rfl hT0 rfl hl.1 rfl (Nat.le_of_ble_eq_true rfl) ⟨by decide, by decide⟩ ⟨Nat.le_of_ble_eq_true rfl, Nat.le_of_ble_eq_true rfl⟩ d_14_19_75) (fun j105 u103 H locs hp104 V => ?_)
        obtain ⟨rfl, hE106⟩ := hp104
        have e107 : j105 = (F_NM_bitsOf x2 x4 lx69 t0_1 t0_2 t11_0) := hE106
        refine lv_lstore (lv' := [(6, .long j105), (4, .long j99), (0, .ref (q 116)), (1, .int x2), (2, .int x3), (3, .int x4)]) hx hb d_14_19_78 hl (by decide) rfl (fun ls hl => ?_)
        refine lv_aload_n hx hb d_14_19_80 rfl (lv_at hl 2 rfl) ?_
        refine lv_iload_n hx hb d_14_19_81 rfl (lv_at hl 3 rfl) ?_
        refine lv_lload hx hb d_14_19_82 (lv_at hl 1 rfl) ?_
        refine q_goi V (q_runS (As := [.int x2, .long j99]) (rest := [.ref (q 116)]) (d := 2) (mc := 0) (ms := 0) C0 V rfl LS_NM_161 (X_NM_isNumber l D g q w90  x2 j99 hI   _) rfl hl.1 rfl (Nat.le_of_ble_eq_true rfl) ⟨by decide, by decide⟩ ⟨Nat.le_of_ble_eq_true rfl, Nat.le_of_ble_eq_true rfl⟩ d_14_19_84) (fun a110 u108 H locs hp109 V => ?_)
        obtain ⟨rfl, b111, b112, hE113⟩ := hp109
        have e114 : a110 = (F_NM_isNumber x2 j99) := hE113
        clear b111
        clear b112
        refine q_join (X := Int32) (fun z H locs ls _ => q_F (lx69.toInt ≤ z.toInt) ∧ q_F (z.toInt ≤ lx69.toInt + 2) ∧ q_Wd D g (va_A ws sz) s w90 H locs ∧ lv_has ls 12 [(6, .long j105), (4, .long j99), (0, .ref (q 116)), (1, .int x2)] ∧ F_NM_compare_J104 x2 x3 x4 t0_0 t0_1 t0_2 t1_0 t1_1 t1_2 t1_3 t1_4 t1_5 t1_6 t2_0 t3_0 t4_0 t5_0 t6_0 t6_1 t6_2 t6_3 t6_4 t6_5 t6_6 t6_7 t6_8 t6_9 t6_10 t7_0 t8_0 t9_0 t10_0 t11_0 lx69 j105 j99 z = (F_NM_compare x2 x3 x4 t0_0 t0_1 t0_2 t1_0 t1_1 t1_2 t1_3 t1_4 t1_5 t1_6 t2_0 t3_0 t4_0 t5_0 t6_0 t6_1 t6_2 t6_3 t6_4 t6_5 t6_6 t6_7 t6_8 t6_9 t6_10 t7_0 t8_0 t9_0 t10_0 t11_0) ∧ True ∧ S_NM_compare_J104 x2 x3 x4 t0_0 t0_1 t0_2 t1_0 t1_1 t1_2 t1_3 t1_4 t1_5 t1_6 t2_0 t3_0 t4_0 t5_0 t6_0 t6_1 t6_2 t6_3 t6_4 t6_5 t6_6 t6_7 t6_8 t6_9 t6_10 t7_0 t8_0 t9_0 t10_0 t11_0 lx69 j105 j99 z) (fun z => [.int z, .ref (q 116)]) 104 0 0 ?_ ?_
        ·
          rintro lx115 H locs ls _ hZ9
          obtain ⟨i129, hZ9⟩ := hZ9
          obtain ⟨i130, hZ9⟩ := hZ9
          obtain ⟨V, hZ9⟩ := hZ9
          obtain ⟨hl, hZ9⟩ := hZ9
          obtain ⟨hR131, hS132⟩ := hZ9
          replace i129 : q_F (lx69.toInt ≤ lx115.toInt) := i129
          replace i130 : q_F (lx115.toInt ≤ lx69.toInt + 2) := i130
          replace hl : lv_has ls 12 [(6, .long j105), (4, .long j99), (0, .ref (q 116)), (1, .int x2)] := hl
          refine q_put (ci := 12) (j := 0) (v := .int lx115) (ty := .int) C0 V i_NM o_NM n_NM rfl rfl hT0 (by decide) w_2298 rfl rfl rfl rfl (Nat.le_of_ble_eq_true rfl) d_14_19_104 (fun H locs w136 hu137 hT0 V => ?_)
          replace hT0 : w136[116]? = (some (q 116, .inr (12, [.int lx115, .ref (q 117), .int t0_1, .ref (q 118), .int t0_2, .ref (q 119), .ref (q 134), .ref (q 145), .ref (q 153), .ref (q 157), .ref (q 167), .ref (q 168)])) : Option (Nat × va_E)) := hT0
          replace hI := n_p116 hI hu137 hT0 (by first | with_reducible exact q_fe btt0_1 | exact ⟨(by have t1 : 0 ≤ t0_1.toInt ∧ t0_1.toInt ≤ 4100 := btt0_1; omega), (by have t1 : 0 ≤ t0_1.toInt ∧ t0_1.toInt ≤ 4100 := btt0_1; omega)⟩) (by first | with_reducible exact q_fe btt0_2 | exact ⟨(by have t1 : 0 ≤ t0_2.toInt ∧ t0_2.toInt ≤ 12200 := btt0_2; omega), (by have t1 : 0 ≤ t0_2.toInt ∧ t0_2.toInt ≤ 12200 := btt0_2; omega)⟩)
          replace hT1 := (hu137 _ (by decide)).trans hT1
          replace hT4 := (hu137 _ (by decide)).trans hT4
          replace hT5 := (hu137 _ (by decide)).trans hT5
          replace hT6 := (hu137 _ (by decide)).trans hT6
          replace hF := q_us hF hu137 (by simp)
          refine lv_iload_n hx hb d_14_19_107 rfl (lv_at hl 3 rfl) ?_
          refine lv_lload hx hb d_14_19_108 (lv_at hl 1 rfl) ?_
          refine q_gol V (q_runS (As := [.int x2, .long j99]) (rest := []) (d := 1) (mc := 0) (ms := 0) C0 V rfl LS_NM_164 (X_NM_placeOf l D g q w136  x2 j99 hI   _) rfl hl.1 rfl (Nat.le_of_ble_eq_true rfl) ⟨by decide, by decide⟩ ⟨Nat.le_of_ble_eq_true rfl, Nat.le_of_ble_eq_true rfl⟩ d_14_19_110) (fun j140 u138 H locs hp139 V => ?_)
          obtain ⟨rfl, hE141⟩ := hp139
          have e142 : j140 = (F_NM_placeOf x2 j99) := hE141
          refine lv_lstore (lv' := [(8, .long j140), (6, .long j105), (4, .long j99), (0, .ref (q 116)), (1, .int x2)]) hx hb d_14_19_113 hl (by decide) rfl (fun ls hl => ?_)
          refine lv_iload_n hx hb d_14_19_115 rfl (lv_at hl 4 rfl) ?_
          refine lv_lload hx hb d_14_19_116 (lv_at hl 1 rfl) ?_
          refine q_gol V (q_runS (As := [.int x2, .long j105]) (rest := []) (d := 1) (mc := 0) (ms := 0) C0 V rfl LS_NM_164 (X_NM_placeOf l D g q w136  x2 j105 hI   _) rfl hl.1 rfl (Nat.le_of_ble_eq_true rfl) ⟨by decide, by decide⟩ ⟨Nat.le_of_ble_eq_true rfl, Nat.le_of_ble_eq_true rfl⟩ d_14_19_118) (fun j145 u143 H locs hp144 V => ?_)
          obtain ⟨rfl, hE146⟩ := hp144
          have e147 : j145 = (F_NM_placeOf x2 j105) := hE146
          refine lv_lstore (lv' := [(10, .long j145), (8, .long j140), (6, .long j105), (4, .long j99), (0, .ref (q 116)), (1, .int x2)]) hx hb d_14_19_121 hl (by decide) rfl (fun ls hl => ?_)
          refine lv_aload_n hx hb d_14_19_123 rfl (lv_at hl 4 rfl) ?_
          refine q_get (ci := 12) (j := 0) (v := .int lx115) C0 V i_NM rfl rfl hT0 (by decide) w_2298 rfl d_14_19_124 ?_
          refine lv_if_le (tgt := 134) hx hb d_14_19_127 (by decide) (fun c148 => ?_) (fun c148 => ?_)
          ·
            have b149 : q_F (lx115.toInt ≤ 0) := (q_leI c148)
            refine lv_lload hx hb d_14_19_134 (lv_at hl 1 rfl) ?_
            refine lv_lload hx hb d_14_19_136 (lv_at hl 0 rfl) ?_
            refine W.lcmp hx hb d_14_19_138 ?_
            obtain ⟨a150, e151⟩ := q_nm (lg_cmp j140 j145 : Int32)
            refine q_ti (v := a150) e151 ?_
            refine lv_if_ge (tgt := 146) hx hb d_14_19_139 (by decide) (fun c153 => ?_) (fun c153 => ?_)
            ·
              refine lv_lload hx hb d_14_19_146 (lv_at hl 1 rfl) ?_
              refine lv_lload hx hb d_14_19_148 (lv_at hl 0 rfl) ?_
              refine W.lcmp hx hb d_14_19_150 ?_
              obtain ⟨a155, e156⟩ := q_nm (lg_cmp j140 j145 : Int32)
              refine q_ti (v := a155) e156 ?_
              refine lv_if_le (tgt := 158) hx hb d_14_19_151 (by decide) (fun c158 => ?_) (fun c158 => ?_)
              ·
                refine lv_iconst (v := 0) hx hb d_14_19_158 (by decide) ?_
                exact q_reti C0 V (⟨hI, hF, lx115, t1_0, t1_1, t1_2, t1_3, t1_4, t1_5, t1_6, t4_0, t5_0, t6_0, t6_1, t6_2, t6_3, t6_4, t6_5, t6_6, t6_7, t6_8, t6_9, t6_10, hT0, hT1, hT4, hT5, hT6, (show 0 ≤ lx115.toInt from (by have z33 : (0 : Int32).toInt = 0 := rfl; have t1 : 0 ≤ lx69.toInt := i83; have t2 : lx69.toInt ≤ lx115.toInt := i129; omega)), (show lx115.toInt ≤ 2 from (by have z33 : (0 : Int32).toInt = 0 := rfl; have t1 : lx115.toInt ≤ 0 := b149; omega)), (show t1_1.toInt ≤ t1_1.toInt from (by have z33 : (0 : Int32).toInt = 0 := rfl; omega)), (show t1_1.toInt ≤ t1_1.toInt from (by have z33 : (0 : Int32).toInt = 0 := rfl; omega)), (show t1_2.toInt ≤ t1_2.toInt from (by have z33 : (0 : Int32).toInt = 0 := rfl; omega)), (show t1_2.toInt ≤ t1_2.toInt from (by have z33 : (0 : Int32).toInt = 0 := rfl; omega)), (show t1_3.toInt ≤ t1_3.toInt from (by have z33 : (0 : Int32).toInt = 0 := rfl; omega)), (show t1_3.toInt ≤ t1_3.toInt from (by have z33 : (0 : Int32).toInt = 0 := rfl; omega)), (show t1_4.toInt ≤ t1_4.toInt from (by have z33 : (0 : Int32).toInt = 0 := rfl; omega)), (show t1_4.toInt ≤ t1_4.toInt from (by have z33 : (0 : Int32).toInt = 0 := rfl; omega)), (show t1_5.toInt ≤ t1_5.toInt from (by have z33 : (0 : Int32).toInt = 0 := rfl; omega)), (show t1_5.toInt ≤ t1_5.toInt from (by have z33 : (0 : Int32).toInt = 0 := rfl; omega)), (show t1_6.toInt ≤ t1_6.toInt from (by have z33 : (0 : Int32).toInt = 0 := rfl; omega)), (show t1_6.toInt ≤ t1_6.toInt from (by have z33 : (0 : Int32).toInt = 0 := rfl; omega)), (show t6_1.toInt ≤ t6_1.toInt from (by have z33 : (0 : Int32).toInt = 0 := rfl; omega)), (show t6_1.toInt ≤ t6_1.toInt from (by have z33 : (0 : Int32).toInt = 0 := rfl; omega)), (show t6_2.toInt ≤ t6_2.toInt from (by have z33 : (0 : Int32).toInt = 0 := rfl; omega)), (show t6_2.toInt ≤ t6_2.toInt from (by have z33 : (0 : Int32).toInt = 0 := rfl; omega)), (show t6_3.toInt ≤ t6_3.toInt from (by have z33 : (0 : Int32).toInt = 0 := rfl; omega)), (show t6_3.toInt ≤ t6_3.toInt from (by have z33 : (0 : Int32).toInt = 0 := rfl; omega)), (show t6_4.toInt ≤ t6_4.toInt from (by have z33 : (0 : Int32).toInt = 0 := rfl; omega)), (show t6_4.toInt ≤ t6_4.toInt from (by have z33 : (0 : Int32).toInt = 0 := rfl; omega)), (show t6_5.toInt ≤ t6_5.toInt from (by have z33 : (0 : Int32).toInt = 0 := rfl; omega)), (show t6_5.toInt ≤ t6_5.toInt from (by have z33 : (0 : Int32).toInt = 0 := rfl; omega)), (show t6_6.toInt ≤ t6_6.toInt from (by have z33 : (0 : Int32).toInt = 0 := rfl; omega)), (show t6_6.toInt ≤ t6_6.toInt from (by have z33 : (0 : Int32).toInt = 0 := rfl; omega)), (show t6_7.toInt ≤ t6_7.toInt from (by have z33 : (0 : Int32).toInt = 0 := rfl; omega)), (show t6_7.toInt ≤ t6_7.toInt from (by have z33 : (0 : Int32).toInt = 0 := rfl; omega)), (show t6_8.toInt ≤ t6_8.toInt from (by have z33 : (0 : Int32).toInt = 0 := rfl; omega)), (show t6_8.toInt ≤ t6_8.toInt from (by have z33 : (0 : Int32).toInt = 0 := rfl; omega)), (show t6_9.toInt ≤ t6_9.toInt from (by have z33 : (0 : Int32).toInt = 0 := rfl; omega)), (show t6_9.toInt ≤ t6_9.toInt from (by have z33 : (0 : Int32).toInt = 0 := rfl; omega)), (show t6_10.toInt ≤ t6_10.toInt from (by have z33 : (0 : Int32).toInt = 0 := rfl; omega)), (show t6_10.toInt ≤ t6_10.toInt from (by have z33 : (0 : Int32).toInt = 0 := rfl; omega)), (show ((0 : Int32), lx115, t1_0, t1_1, t1_2, t1_3, t1_4, t1_5, t1_6, t4_0, t5_0, t6_0, t6_1, t6_2, t6_3, t6_4, t6_5, t6_6, t6_7, t6_8, t6_9, t6_10) = (F_NM_compare x2 x3 x4 t0_0 t0_1 t0_2 t1_0 t1_1 t1_2 t1_3 t1_4 t1_5 t1_6 t2_0 t3_0 t4_0 t5_0 t6_0 t6_1 t6_2 t6_3 t6_4 t6_5 t6_6 t6_7 t6_8 t6_9 t6_10 t7_0 t8_0 t9_0 t10_0 t11_0) from Eq.trans (by have c153x := c153; rw [← e151, e147, e142] at c153x; have c158x := c158; rw [← e156, e147, e142] at c158x; rw [F_NM_compare_J104.eq_1, if_pos c148, if_pos c153x, if_pos c158x]) hR131)⟩) d_14_19_159
              ·
                refine lv_iconst (v := 1) hx hb d_14_19_154 (by decide) ?_
                refine lv_goto (tgt := 159) hx hb d_14_19_155 (by decide) ?_
                exact q_reti C0 V (⟨hI, hF, lx115, t1_0, t1_1, t1_2, t1_3, t1_4, t1_5, t1_6, t4_0, t5_0, t6_0, t6_1, t6_2, t6_3, t6_4, t6_5, t6_6, t6_7, t6_8, t6_9, t6_10, hT0, hT1, hT4, hT5, hT6, (show 0 ≤ lx115.toInt from (by have z33 : (1 : Int32).toInt = 1 := rfl; have t1 : 0 ≤ lx69.toInt := i83; have t2 : lx69.toInt ≤ lx115.toInt := i129; omega)), (show lx115.toInt ≤ 2 from (by have z33 : (1 : Int32).toInt = 1 := rfl; have t1 : lx115.toInt ≤ 0 := b149; omega)), (show t1_1.toInt ≤ t1_1.toInt from (by have z33 : (1 : Int32).toInt = 1 := rfl; omega)), (show t1_1.toInt ≤ t1_1.toInt from (by have z33 : (1 : Int32).toInt = 1 := rfl; omega)), (show t1_2.toInt ≤ t1_2.toInt from (by have z33 : (1 : Int32).toInt = 1 := rfl; omega)), (show t1_2.toInt ≤ t1_2.toInt from (by have z33 : (1 : Int32).toInt = 1 := rfl; omega)), (show t1_3.toInt ≤ t1_3.toInt from (by have z33 : (1 : Int32).toInt = 1 := rfl; omega)), (show t1_3.toInt ≤ t1_3.toInt from (by have z33 : (1 : Int32).toInt = 1 := rfl; omega)), (show t1_4.toInt ≤ t1_4.toInt from (by have z33 : (1 : Int32).toInt = 1 := rfl; omega)), (show t1_4.toInt ≤ t1_4.toInt from (by have z33 : (1 : Int32).toInt = 1 := rfl; omega)), (show t1_5.toInt ≤ t1_5.toInt from (by have z33 : (1 : Int32).toInt = 1 := rfl; omega)), (show t1_5.toInt ≤ t1_5.toInt from (by have z33 : (1 : Int32).toInt = 1 := rfl; omega)), (show t1_6.toInt ≤ t1_6.toInt from (by have z33 : (1 : Int32).toInt = 1 := rfl; omega)), (show t1_6.toInt ≤ t1_6.toInt from (by have z33 : (1 : Int32).toInt = 1 := rfl; omega)), (show t6_1.toInt ≤ t6_1.toInt from (by have z33 : (1 : Int32).toInt = 1 := rfl; omega)), (show t6_1.toInt ≤ t6_1.toInt from (by have z33 : (1 : Int32).toInt = 1 := rfl; omega)), (show t6_2.toInt ≤ t6_2.toInt from (by have z33 : (1 : Int32).toInt = 1 := rfl; omega)), (show t6_2.toInt ≤ t6_2.toInt from (by have z33 : (1 : Int32).toInt = 1 := rfl; omega)), (show t6_3.toInt ≤ t6_3.toInt from (by have z33 : (1 : Int32).toInt = 1 := rfl; omega)), (show t6_3.toInt ≤ t6_3.toInt from (by have z33 : (1 : Int32).toInt = 1 := rfl; omega)), (show t6_4.toInt ≤ t6_4.toInt from (by have z33 : (1 : Int32).toInt = 1 := rfl; omega)), (show t6_4.toInt ≤ t6_4.toInt from (by have z33 : (1 : Int32).toInt = 1 := rfl; omega)), (show t6_5.toInt ≤ t6_5.toInt from (by have z33 : (1 : Int32).toInt = 1 := rfl; omega)), (show t6_5.toInt ≤ t6_5.toInt from (by have z33 : (1 : Int32).toInt = 1 := rfl; omega)), (show t6_6.toInt ≤ t6_6.toInt from (by have z33 : (1 : Int32).toInt = 1 := rfl; omega)), (show t6_6.toInt ≤ t6_6.toInt from (by have z33 : (1 : Int32).toInt = 1 := rfl; omega)), (show t6_7.toInt ≤ t6_7.toInt from (by have z33 : (1 : Int32).toInt = 1 := rfl; omega)), (show t6_7.toInt ≤ t6_7.toInt from (by have z33 : (1 : Int32).toInt = 1 := rfl; omega)), (show t6_8.toInt ≤ t6_8.toInt from (by have z33 : (1 : Int32).toInt = 1 := rfl; omega)), (show t6_8.toInt ≤ t6_8.toInt from (by have z33 : (1 : Int32).toInt = 1 := rfl; omega)), (show t6_9.toInt ≤ t6_9.toInt from (by have z33 : (1 : Int32).toInt = 1 := rfl; omega)), (show t6_9.toInt ≤ t6_9.toInt from (by have z33 : (1 : Int32).toInt = 1 := rfl; omega)), (show t6_10.toInt ≤ t6_10.toInt from (by have z33 : (1 : Int32).toInt = 1 := rfl; omega)), (show t6_10.toInt ≤ t6_10.toInt from (by have z33 : (1 : Int32).toInt = 1 := rfl; omega)), (show ((1 : Int32), lx115, t1_0, t1_1, t1_2, t1_3, t1_4, t1_5, t1_6, t4_0, t5_0, t6_0, t6_1, t6_2, t6_3, t6_4, t6_5, t6_6, t6_7, t6_8, t6_9, t6_10) = (F_NM_compare x2 x3 x4 t0_0 t0_1 t0_2 t1_0 t1_1 t1_2 t1_3 t1_4 t1_5 t1_6 t2_0 t3_0 t4_0 t5_0 t6_0 t6_1 t6_2 t6_3 t6_4 t6_5 t6_6 t6_7 t6_8 t6_9 t6_10 t7_0 t8_0 t9_0 t10_0 t11_0) from Eq.trans (by have c153x := c153; rw [← e151, e147, e142] at c153x; have c158x := c158; rw [← e156, e147, e142] at c158x; rw [F_NM_compare_J104.eq_1, if_pos c148, if_pos c153x, if_neg c158x]) hR131)⟩) d_14_19_159
            ·
              refine lv_iconst (v := (-1)) hx hb d_14_19_142 (by decide) ?_
              refine lv_goto (tgt := 159) hx hb d_14_19_143 (by decide) ?_
              exact q_reti C0 V (⟨hI, hF, lx115, t1_0, t1_1, t1_2, t1_3, t1_4, t1_5, t1_6, t4_0, t5_0, t6_0, t6_1, t6_2, t6_3, t6_4, t6_5, t6_6, t6_7, t6_8, t6_9, t6_10, hT0, hT1, hT4, hT5, hT6, (show 0 ≤ lx115.toInt from (by have z33 : (-1 : Int32).toInt = -1 := rfl; have t1 : 0 ≤ lx69.toInt := i83; have t2 : lx69.toInt ≤ lx115.toInt := i129; omega)), (show lx115.toInt ≤ 2 from (by have z33 : (-1 : Int32).toInt = -1 := rfl; have t1 : lx115.toInt ≤ 0 := b149; omega)), (show t1_1.toInt ≤ t1_1.toInt from (by have z33 : (-1 : Int32).toInt = -1 := rfl; omega)), (show t1_1.toInt ≤ t1_1.toInt from (by have z33 : (-1 : Int32).toInt = -1 := rfl; omega)), (show t1_2.toInt ≤ t1_2.toInt from (by have z33 : (-1 : Int32).toInt = -1 := rfl; omega)), (show t1_2.toInt ≤ t1_2.toInt from (by have z33 : (-1 : Int32).toInt = -1 := rfl; omega)), (show t1_3.toInt ≤ t1_3.toInt from (by have z33 : (-1 : Int32).toInt = -1 := rfl; omega)), (show t1_3.toInt ≤ t1_3.toInt from (by have z33 : (-1 : Int32).toInt = -1 := rfl; omega)), (show t1_4.toInt ≤ t1_4.toInt from (by have z33 : (-1 : Int32).toInt = -1 := rfl; omega)), (show t1_4.toInt ≤ t1_4.toInt from (by have z33 : (-1 : Int32).toInt = -1 := rfl; omega)), (show t1_5.toInt ≤ t1_5.toInt from (by have z33 : (-1 : Int32).toInt = -1 := rfl; omega)), (show t1_5.toInt ≤ t1_5.toInt from (by have z33 : (-1 : Int32).toInt = -1 := rfl; omega)), (show t1_6.toInt ≤ t1_6.toInt from (by have z33 : (-1 : Int32).toInt = -1 := rfl; omega)), (show t1_6.toInt ≤ t1_6.toInt from (by have z33 : (-1 : Int32).toInt = -1 := rfl; omega)), (show t6_1.toInt ≤ t6_1.toInt from (by have z33 : (-1 : Int32).toInt = -1 := rfl; omega)), (show t6_1.toInt ≤ t6_1.toInt from (by have z33 : (-1 : Int32).toInt = -1 := rfl; omega)), (show t6_2.toInt ≤ t6_2.toInt from (by have z33 : (-1 : Int32).toInt = -1 := rfl; omega)), (show t6_2.toInt ≤ t6_2.toInt from (by have z33 : (-1 : Int32).toInt = -1 := rfl; omega)), (show t6_3.toInt ≤ t6_3.toInt from (by have z33 : (-1 : Int32).toInt = -1 := rfl; omega)), (show t6_3.toInt ≤ t6_3.toInt from (by have z33 : (-1 : Int32).toInt = -1 := rfl; omega)), (show t6_4.toInt ≤ t6_4.toInt from (by have z33 : (-1 : Int32).toInt = -1 := rfl; omega)), (show t6_4.toInt ≤ t6_4.toInt from (by have z33 : (-1 : Int32).toInt = -1 := rfl; omega)), (show t6_5.toInt ≤ t6_5.toInt from (by have z33 : (-1 : Int32).toInt = -1 := rfl; omega)), (show t6_5.toInt ≤ t6_5.toInt from (by have z33 : (-1 : Int32).toInt = -1 := rfl; omega)), (show t6_6.toInt ≤ t6_6.toInt from (by have z33 : (-1 : Int32).toInt = -1 := rfl; omega)), (show t6_6.toInt ≤ t6_6.toInt from (by have z33 : (-1 : Int32).toInt = -1 := rfl; omega)), (show t6_7.toInt ≤ t6_7.toInt from (by have z33 : (-1 : Int32).toInt = -1 := rfl; omega)), (show t6_7.toInt ≤ t6_7.toInt from (by have z33 : (-1 : Int32).toInt = -1 := rfl; omega)), (show t6_8.toInt ≤ t6_8.toInt from (by have z33 : (-1 : Int32).toInt = -1 := rfl; omega)), (show t6_8.toInt ≤ t6_8.toInt from (by have z33 : (-1 : Int32).toInt = -1 := rfl; omega)), (show t6_9.toInt ≤ t6_9.toInt from (by have z33 : (-1 : Int32).toInt = -1 := rfl; omega)), (show t6_9.toInt ≤ t6_9.toInt from (by have z33 : (-1 : Int32).toInt = -1 := rfl; omega)), (show t6_10.toInt ≤ t6_10.toInt from (by have z33 : (-1 : Int32).toInt = -1 := rfl; omega)), (show t6_10.toInt ≤ t6_10.toInt from (by have z33 : (-1 : Int32).toInt = -1 := rfl; omega)), (show ((-1 : Int32), lx115, t1_0, t1_1, t1_2, t1_3, t1_4, t1_5, t1_6, t4_0, t5_0, t6_0, t6_1, t6_2, t6_3, t6_4, t6_5, t6_6, t6_7, t6_8, t6_9, t6_10) = (F_NM_compare x2 x3 x4 t0_0 t0_1 t0_2 t1_0 t1_1 t1_2 t1_3 t1_4 t1_5 t1_6 t2_0 t3_0 t4_0 t5_0 t6_0 t6_1 t6_2 t6_3 t6_4 t6_5 t6_6 t6_7 t6_8 t6_9 t6_10 t7_0 t8_0 t9_0 t10_0 t11_0) from Eq.trans (by have c153x := c153; rw [← e151, e147, e142] at c153x; rw [F_NM_compare_J104.eq_1, if_pos c148, if_neg c153x]) hR131)⟩) d_14_19_159
          ·
            have b162 : q_F (0 < lx115.toInt) := (q_nleI c148)
            refine lv_iconst (v := 0) hx hb d_14_19_130 (by decide) ?_
            refine lv_goto (tgt := 159) hx hb d_14_19_131 (by decide) ?_
            exact q_reti C0 V (⟨hI, hF, lx115, t1_0, t1_1, t1_2, t1_3, t1_4, t1_5, t1_6, t4_0, t5_0, t6_0, t6_1, t6_2, t6_3, t6_4, t6_5, t6_6, t6_7, t6_8, t6_9, t6_10, hT0, hT1, hT4, hT5, hT6, (show 0 ≤ lx115.toInt from (by have z33 : (0 : Int32).toInt = 0 := rfl; have t1 : 0 < lx115.toInt := b162; omega)), (show lx115.toInt ≤ 2 from (by have z33 : (0 : Int32).toInt = 0 := rfl; have t1 : lx69.toInt ≤ 0 := b93; have t2 : lx115.toInt ≤ lx69.toInt + 2 := i130; omega)), (show t1_1.toInt ≤ t1_1.toInt from (by have z33 : (0 : Int32).toInt = 0 := rfl; omega)), (show t1_1.toInt ≤ t1_1.toInt from (by have z33 : (0 : Int32).toInt = 0 := rfl; omega)), (show t1_2.toInt ≤ t1_2.toInt from (by have z33 : (0 : Int32).toInt = 0 := rfl; omega)), (show t1_2.toInt ≤ t1_2.toInt from (by have z33 : (0 : Int32).toInt = 0 := rfl; omega)), (show t1_3.toInt ≤ t1_3.toInt from (by have z33 : (0 : Int32).toInt = 0 := rfl; omega)), (show t1_3.toInt ≤ t1_3.toInt from (by have z33 : (0 : Int32).toInt = 0 := rfl; omega)), (show t1_4.toInt ≤ t1_4.toInt from (by have z33 : (0 : Int32).toInt = 0 := rfl; omega)), (show t1_4.toInt ≤ t1_4.toInt from (by have z33 : (0 : Int32).toInt = 0 := rfl; omega)), (show t1_5.toInt ≤ t1_5.toInt from (by have z33 : (0 : Int32).toInt = 0 := rfl; omega)), (show t1_5.toInt ≤ t1_5.toInt from (by have z33 : (0 : Int32).toInt = 0 := rfl; omega)), (show t1_6.toInt ≤ t1_6.toInt from (by have z33 : (0 : Int32).toInt = 0 := rfl; omega)), (show t1_6.toInt ≤ t1_6.toInt from (by have z33 : (0 : Int32).toInt = 0 := rfl; omega)), (show t6_1.toInt ≤ t6_1.toInt from (by have z33 : (0 : Int32).toInt = 0 := rfl; omega)), (show t6_1.toInt ≤ t6_1.toInt from (by have z33 : (0 : Int32).toInt = 0 := rfl; omega)), (show t6_2.toInt ≤ t6_2.toInt from (by have z33 : (0 : Int32).toInt = 0 := rfl; omega)), (show t6_2.toInt ≤ t6_2.toInt from (by have z33 : (0 : Int32).toInt = 0 := rfl; omega)), (show t6_3.toInt ≤ t6_3.toInt from (by have z33 : (0 : Int32).toInt = 0 := rfl; omega)), (show t6_3.toInt ≤ t6_3.toInt from (by have z33 : (0 : Int32).toInt = 0 := rfl; omega)), (show t6_4.toInt ≤ t6_4.toInt from (by have z33 : (0 : Int32).toInt = 0 := rfl; omega)), (show t6_4.toInt ≤ t6_4.toInt from (by have z33 : (0 : Int32).toInt = 0 := rfl; omega)), (show t6_5.toInt ≤ t6_5.toInt from (by have z33 : (0 : Int32).toInt = 0 := rfl; omega)), (show t6_5.toInt ≤ t6_5.toInt from (by have z33 : (0 : Int32).toInt = 0 := rfl; omega)), (show t6_6.toInt ≤ t6_6.toInt from (by have z33 : (0 : Int32).toInt = 0 := rfl; omega)), (show t6_6.toInt ≤ t6_6.toInt from (by have z33 : (0 : Int32).toInt = 0 := rfl; omega)), (show t6_7.toInt ≤ t6_7.toInt from (by have z33 : (0 : Int32).toInt = 0 := rfl; omega)), (show t6_7.toInt ≤ t6_7.toInt from (by have z33 : (0 : Int32).toInt = 0 := rfl; omega)), (show t6_8.toInt ≤ t6_8.toInt from (by have z33 : (0 : Int32).toInt = 0 := rfl; omega)), (show t6_8.toInt ≤ t6_8.toInt from (by have z33 : (0 : Int32).toInt = 0 := rfl; omega)), (show t6_9.toInt ≤ t6_9.toInt from (by have z33 : (0 : Int32).toInt = 0 := rfl; omega)), (show t6_9.toInt ≤ t6_9.toInt from (by have z33 : (0 : Int32).toInt = 0 := rfl; omega)), (show t6_10.toInt ≤ t6_10.toInt from (by have z33 : (0 : Int32).toInt = 0 := rfl; omega)), (show t6_10.toInt ≤ t6_10.toInt from (by have z33 : (0 : Int32).toInt = 0 := rfl; omega)), (show ((0 : Int32), lx115, t1_0, t1_1, t1_2, t1_3, t1_4, t1_5, t1_6, t4_0, t5_0, t6_0, t6_1, t6_2, t6_3, t6_4, t6_5, t6_6, t6_7, t6_8, t6_9, t6_10) = (F_NM_compare x2 x3 x4 t0_0 t0_1 t0_2 t1_0 t1_1 t1_2 t1_3 t1_4 t1_5 t1_6 t2_0 t3_0 t4_0 t5_0 t6_0 t6_1 t6_2 t6_3 t6_4 t6_5 t6_6 t6_7 t6_8 t6_9 t6_10 t7_0 t8_0 t9_0 t10_0 t11_0) from Eq.trans (by rw [F_NM_compare_J104.eq_1, if_neg c148]) hR131)⟩) d_14_19_159
        ·
          intro J128
          refine q_join (X := Unit) (fun z H locs ls _ => q_Wd D g (va_A ws sz) s w90 H locs ∧ lv_has ls 12 [(6, .long j105), (4, .long j99), (0, .ref (q 116)), (1, .int x2)] ∧ F_NM_compare_J99 x2 x3 x4 t0_0 t0_1 t0_2 t1_0 t1_1 t1_2 t1_3 t1_4 t1_5 t1_6 t2_0 t3_0 t4_0 t5_0 t6_0 t6_1 t6_2 t6_3 t6_4 t6_5 t6_6 t6_7 t6_8 t6_9 t6_10 t7_0 t8_0 t9_0 t10_0 t11_0 lx69 j105 j99 = (F_NM_compare x2 x3 x4 t0_0 t0_1 t0_2 t1_0 t1_1 t1_2 t1_3 t1_4 t1_5 t1_6 t2_0 t3_0 t4_0 t5_0 t6_0 t6_1 t6_2 t6_3 t6_4 t6_5 t6_6 t6_7 t6_8 t6_9 t6_10 t7_0 t8_0 t9_0 t10_0 t11_0) ∧ True ∧ S_NM_compare_J99 x2 x3 x4 t0_0 t0_1 t0_2 t1_0 t1_1 t1_2 t1_3 t1_4 t1_5 t1_6 t2_0 t3_0 t4_0 t5_0 t6_0 t6_1 t6_2 t6_3 t6_4 t6_5 t6_6 t6_7 t6_8 t6_9 t6_10 t7_0 t8_0 t9_0 t10_0 t11_0 lx69 j105 j99) (fun z => [.ref (q 116)]) 99 0 0 ?_ ?_
          ·
            rintro _ H locs ls _ ⟨V, hl, hR176, hS177⟩
            replace hl : lv_has ls 12 [(6, .long j105), (4, .long j99), (0, .ref (q 116)), (1, .int x2)] := hl
            refine lv_iconst (v := 2) hx hb d_14_19_99 (by decide) ?_
            refine lv_goto (tgt := 104) hx hb d_14_19_100 (by decide) ?_
            exact J128 ((2 : Int32)) _ _ _ w90 ⟨(show q_F (lx69.toInt ≤ 2) from (show lx69.toInt ≤ 2 from by have t1 : lx69.toInt ≤ 1 := i84; omega)), (show q_F (2 ≤ lx69.toInt + 2) from (show 2 ≤ lx69.toInt + 2 from by have t1 : 0 ≤ lx69.toInt := i83; omega)), V, q_lw hl (q_lw1 0 rfl (q_lw1 1 rfl (q_lw1 2 rfl (q_lw1 3 rfl q_lw0)))), (show F_NM_compare_J104 x2 x3 x4 t0_0 t0_1 t0_2 t1_0 t1_1 t1_2 t1_3 t1_4 t1_5 t1_6 t2_0 t3_0 t4_0 t5_0 t6_0 t6_1 t6_2 t6_3 t6_4 t6_5 t6_6 t6_7 t6_8 t6_9 t6_10 t7_0 t8_0 t9_0 t10_0 t11_0 lx69 j105 j99 2 = (F_NM_compare x2 x3 x4 t0_0 t0_1 t0_2 t1_0 t1_1 t1_2 t1_3 t1_4 t1_5 t1_6 t2_0 t3_0 t4_0 t5_0 t6_0 t6_1 t6_2 t6_3 t6_4 t6_5 t6_6 t6_7 t6_8 t6_9 t6_10 t7_0 t8_0 t9_0 t10_0 t11_0) from Eq.trans (by rw [F_NM_compare_J99.eq_1]) hR176), (show True ∧ S_NM_compare_J104 x2 x3 x4 t0_0 t0_1 t0_2 t1_0 t1_1 t1_2 t1_3 t1_4 t1_5 t1_6 t2_0 t3_0 t4_0 t5_0 t6_0 t6_1 t6_2 t6_3 t6_4 t6_5 t6_6 t6_7 t6_8 t6_9 t6_10 t7_0 t8_0 t9_0 t10_0 t11_0 lx69 j105 j99 2 from (by have h := hS177; rw [S_NM_compare_J99.eq_1] at h; with_reducible exact h))⟩
          ·
            intro J175
            refine lv_if_eq (tgt := 99) hx hb d_14_19_87 (by decide) (fun c181 => ?_) (fun c181 => ?_)
            ·
              exact J175 (()) _ _ _ w90 ⟨V, q_lw hl (q_lw1 0 rfl (q_lw1 1 rfl (q_lw1 2 rfl (q_lw1 3 rfl q_lw0)))), (show F_NM_compare_J99 x2 x3 x4 t0_0 t0_1 t0_2 t1_0 t1_1 t1_2 t1_3 t1_4 t1_5 t1_6 t2_0 t3_0 t4_0 t5_0 t6_0 t6_1 t6_2 t6_3 t6_4 t6_5 t6_6 t6_7 t6_8 t6_9 t6_10 t7_0 t8_0 t9_0 t10_0 t11_0 lx69 j105 j99 = (F_NM_compare x2 x3 x4 t0_0 t0_1 t0_2 t1_0 t1_1 t1_2 t1_3 t1_4 t1_5 t1_6 t2_0 t3_0 t4_0 t5_0 t6_0 t6_1 t6_2 t6_3 t6_4 t6_5 t6_6 t6_7 t6_8 t6_9 t6_10 t7_0 t8_0 t9_0 t10_0 t11_0) from Eq.trans (by have c181x := c181; rw [e114, e101] at c181x; rw [e107, e101, F_NM_compare_J21.eq_1, if_pos c92, if_pos c94, if_pos c181x]) hR85), (show True ∧ S_NM_compare_J99 x2 x3 x4 t0_0 t0_1 t0_2 t1_0 t1_1 t1_2 t1_3 t1_4 t1_5 t1_6 t2_0 t3_0 t4_0 t5_0 t6_0 t6_1 t6_2 t6_3 t6_4 t6_5 t6_6 t6_7 t6_8 t6_9 t6_10 t7_0 t8_0 t9_0 t10_0 t11_0 lx69 j105 j99 from (by rw [e107, e101]; have h := hS86; rw [S_NM_compare_J21.eq_1] at h; rw [if_pos c92] at h; rw [if_pos c94] at h; replace h := q_s2 h; replace h := q_s2 h; have c181x := c181; rw [e114, e101] at c181x; rw [if_pos c181x] at h; with_reducible exact h))⟩
            ·
              refine lv_iload_n hx hb d_14_19_90 rfl (lv_at hl 3 rfl) ?_
              refine lv_lload hx hb d_14_19_91 (lv_at hl 0 rfl) ?_
              refine q_goi V (q_runS (As := [.int x2, .long j105]) (rest := [.ref (q 116)]) (d := 2) (mc := 0) (ms := 0) C0 V rfl LS_NM_161 (X_NM_isNumber l D g q w90  x2 j105 hI   _) rfl hl.1 rfl (Nat.le_of_ble_eq_true rfl) ⟨by decide, by decide⟩ ⟨Nat.le_of_ble_eq_true rfl, Nat.le_of_ble_eq_true rfl⟩ d_14_19_93) (fun a186 u184 H locs hp185 V => ?_)
              obtain ⟨rfl, b187, b188, hE189⟩ := hp185
              have e190 : a186 = (F_NM_isNumber x2 j105) := hE189
              clear b187
              clear b188
              refine lv_if_ne (tgt := 103) hx hb d_14_19_96 (by decide) (fun c191 => ?_) (fun c191 => ?_)
              ·
                refine lv_iconst (v := 0) hx hb d_14_19_103 (by decide) ?_
                exact J128 ((0 : Int32)) _ _ _ w90 ⟨(show q_F (lx69.toInt ≤ 0) from (show lx69.toInt ≤ 0 from by have t1 : lx69.toInt ≤ 0 := b93; omega)), (show q_F (0 ≤ lx69.toInt + 2) from (show 0 ≤ lx69.toInt + 2 from by have t1 : 0 ≤ lx69.toInt := i83; omega)), V, q_lw hl (q_lw1 0 rfl (q_lw1 1 rfl (q_lw1 2 rfl (q_lw1 3 rfl q_lw0)))), (show F_NM_compare_J104 x2 x3 x4 t0_0 t0_1 t0_2 t1_0 t1_1 t1_2 t1_3 t1_4 t1_5 t1_6 t2_0 t3_0 t4_0 t5_0 t6_0 t6_1 t6_2 t6_3 t6_4 t6_5 t6_6 t6_7 t6_8 t6_9 t6_10 t7_0 t8_0 t9_0 t10_0 t11_0 lx69 j105 j99 0 = (F_NM_compare x2 x3 x4 t0_0 t0_1 t0_2 t1_0 t1_1 t1_2 t1_3 t1_4 t1_5 t1_6 t2_0 t3_0 t4_0 t5_0 t6_0 t6_1 t6_2 t6_3 t6_4 t6_5 t6_6 t6_7 t6_8 t6_9 t6_10 t7_0 t8_0 t9_0 t10_0 t11_0) from Eq.trans (by have c181x := c181; rw [e114, e101] at c181x; have c191x := c191; rw [e190, e107] at c191x; rw [e107, e101, F_NM_compare_J21.eq_1, if_pos c92, if_pos c94, if_neg c181x, if_neg c191x]) hR85), (show True ∧ S_NM_compare_J104 x2 x3 x4 t0_0 t0_1 t0_2 t1_0 t1_1 t1_2 t1_3 t1_4 t1_5 t1_6 t2_0 t3_0 t4_0 t5_0 t6_0 t6_1 t6_2 t6_3 t6_4 t6_5 t6_6 t6_7 t6_8 t6_9 t6_10 t7_0 t8_0 t9_0 t10_0 t11_0 lx69 j105 j99 0 from (by rw [e107, e101]; have h := hS86; rw [S_NM_compare_J21.eq_1] at h; rw [if_pos c92] at h; rw [if_pos c94] at h; replace h := q_s2 h; replace h := q_s2 h; have c181x := c181; rw [e114, e101] at c181x; rw [if_neg c181x] at h; have c191x := c191; rw [e190, e107] at c191x; rw [if_neg c191x] at h; with_reducible exact h))⟩
              ·
                exact J175 (()) _ _ _ w90 ⟨V, q_lw hl (q_lw1 0 rfl (q_lw1 1 rfl (q_lw1 2 rfl (q_lw1 3 rfl q_lw0)))), (show F_NM_compare_J99 x2 x3 x4 t0_0 t0_1 t0_2 t1_0 t1_1 t1_2 t1_3 t1_4 t1_5 t1_6 t2_0 t3_0 t4_0 t5_0 t6_0 t6_1 t6_2 t6_3 t6_4 t6_5 t6_6 t6_7 t6_8 t6_9 t6_10 t7_0 t8_0 t9_0 t10_0 t11_0 lx69 j105 j99 = (F_NM_compare x2 x3 x4 t0_0 t0_1 t0_2 t1_0 t1_1 t1_2 t1_3 t1_4 t1_5 t1_6 t2_0 t3_0 t4_0 t5_0 t6_0 t6_1 t6_2 t6_3 t6_4 t6_5 t6_6 t6_7 t6_8 t6_9 t6_10 t7_0 t8_0 t9_0 t10_0 t11_0) from Eq.trans (by have c181x := c181; rw [e114, e101] at c181x; have c191x := c191; rw [e190, e107] at c191x; rw [e107, e101, F_NM_compare_J21.eq_1, if_pos c92, if_pos c94, if_neg c181x, if_pos c191x]) hR85), (show True ∧ S_NM_compare_J99 x2 x3 x4 t0_0 t0_1 t0_2 t1_0 t1_1 t1_2 t1_3 t1_4 t1_5 t1_6 t2_0 t3_0 t4_0 t5_0 t6_0 t6_1 t6_2 t6_3 t6_4 t6_5 t6_6 t6_7 t6_8 t6_9 t6_10 t7_0 t8_0 t9_0 t10_0 t11_0 lx69 j105 j99 from (by rw [e107, e101]; have h := hS86; rw [S_NM_compare_J21.eq_1] at h; rw [if_pos c92] at h; rw [if_pos c94] at h; replace h := q_s2 h; replace h := q_s2 h; have c181x := c181; rw [e114, e101] at c181x; rw [if_neg c181x] at h; have c191x := c191; rw [e190, e107] at c191x; rw [if_pos c191x] at h; with_reducible exact h))⟩
      ·
        refine lv_iload_n hx hb d_14_19_38 rfl (lv_at hl 1 rfl) ?_
        refine lv_if_ne (tgt := 54) hx hb d_14_19_39 (by decide) (fun c195 => ?_) (fun c195 => ?_)
        ·
          refine lv_aload_n hx hb d_14_19_54 rfl (lv_at hl 0 rfl) ?_
          refine q_get (ci := 12) (j := 6) (v := .ref (q 134)) C0 V i_NM rfl rfl hT0 (by decide) w_2304 rfl d_14_19_55 ?_
          refine lv_iload_n hx hb d_14_19_58 rfl (lv_at hl 2 rfl) ?_
          refine lv_iload_n hx hb d_14_19_59 rfl (lv_at hl 3 rfl) ?_
          have ob197 : True ∧ S_DR_compare x3 x4 t6_0 t6_1 t6_2 t6_3 t6_4 t6_5 t6_6 t6_7 t6_8 t6_9 t6_10 t7_0 t8_0 t9_0 t10_0 := (by have h := hS86; rw [S_NM_compare_J21.eq_1] at h; rw [if_pos c92] at h; rw [if_neg c94] at h; rw [if_neg c195] at h; with_reducible exact h.2.1)
          refine q_goi V (q_runV (As := [.int x3, .int x4]) (rest := []) (d := 2) (mc := 0) (ms := 0) (ci := 14) C0 V rfl LV_NM_160 (X_DR_compare l D g q w90  x3 x4 hI t6_0 t6_1 t6_2 t6_3 t6_4 t6_5 t6_6 t6_7 t6_8 t6_9 t6_10 hT6 t7_0 hT7 t8_0 hT8 t9_0 hT9 t10_0 hT10 ob197 _) rfl rfl hT6 rfl hl.1 rfl (Nat.le_of_ble_eq_true rfl) ⟨by decide, by decide⟩ ⟨Nat.le_of_ble_eq_true rfl, Nat.le_of_ble_eq_true rfl⟩ d_14_19_60) (fun a200 u198 H locs hp199 V => ?_)
          obtain ⟨hI, hZ9⟩ := hp199
          obtain ⟨hu236, hZ9⟩ := hZ9
          obtain ⟨y202, hZ9⟩ := hZ9
          obtain ⟨y203, hZ9⟩ := hZ9
          obtain ⟨y204, hZ9⟩ := hZ9
          obtain ⟨y205, hZ9⟩ := hZ9
          obtain ⟨y206, hZ9⟩ := hZ9
          obtain ⟨y207, hZ9⟩ := hZ9
          obtain ⟨y208, hZ9⟩ := hZ9
          obtain ⟨y209, hZ9⟩ := hZ9
          obtain ⟨y210, hZ9⟩ := hZ9
          obtain ⟨y211, hZ9⟩ := hZ9
          obtain ⟨y212, hZ9⟩ := hZ9
          obtain ⟨hO201, hZ9⟩ := hZ9
          replace hZ9 := hZ9.2.2
          obtain ⟨b215, hZ9⟩ := hZ9
          obtain ⟨b216, hZ9⟩ := hZ9
          obtain ⟨b217, hZ9⟩ := hZ9
          obtain ⟨b218, hZ9⟩ := hZ9
          obtain ⟨b219, hZ9⟩ := hZ9
          obtain ⟨b220, hZ9⟩ := hZ9
          obtain ⟨b221, hZ9⟩ := hZ9
          obtain ⟨b222, hZ9⟩ := hZ9
          obtain ⟨b223, hZ9⟩ := hZ9
          obtain ⟨b224, hZ9⟩ := hZ9
          obtain ⟨b225, hZ9⟩ := hZ9
          obtain ⟨b226, hZ9⟩ := hZ9
          obtain ⟨b227, hZ9⟩ := hZ9
          obtain ⟨b228, hZ9⟩ := hZ9
          obtain ⟨b229, hZ9⟩ := hZ9
          obtain ⟨b230, hZ9⟩ := hZ9
          obtain ⟨b231, hZ9⟩ := hZ9
          obtain ⟨b232, hZ9⟩ := hZ9
          obtain ⟨b233, hZ9⟩ := hZ9
          obtain ⟨b234, hE235⟩ := hZ9
          replace hO201 : u198[134]? = (some (q 134, .inr (14, [.int y202, .ref (q 135), .int y203, .ref (q 136), .ref (q 137), .ref (q 138), .ref (q 139), .ref (q 140), .int y204, .long y205, .int y206, .int y207, .ref (q 141), .int y208, .ref (q 142), .int y209, .ref (q 143), .int y210, .ref (q 144), .int y211, .int y212])) : Option (Nat × va_E)) := hO201
          obtain ⟨p237, e238⟩ : ∃ z, z = (F_DR_compare x3 x4 t6_0 t6_1 t6_2 t6_3 t6_4 t6_5 t6_6 t6_7 t6_8 t6_9 t6_10 t7_0 t8_0 t9_0 t10_0) := ⟨_, rfl⟩
          have e239 : a200 = p237.1 := congrArg (fun z => z.1) (hE235.trans e238.symm)
          have e240 : y202 = p237.2.1 := congrArg (fun z => z.2.1) (hE235.trans e238.symm)
          have e241 : y203 = p237.2.2.1 := congrArg (fun z => z.2.2.1) (hE235.trans e238.symm)
          have e242 : y204 = p237.2.2.2.1 := congrArg (fun z => z.2.2.2.1) (hE235.trans e238.symm)
          have e243 : y205 = p237.2.2.2.2.1 := congrArg (fun z => z.2.2.2.2.1) (hE235.trans e238.symm)
          have e244 : y206 = p237.2.2.2.2.2.1 := congrArg (fun z => z.2.2.2.2.2.1) (hE235.trans e238.symm)
          have e245 : y207 = p237.2.2.2.2.2.2.1 := congrArg (fun z => z.2.2.2.2.2.2.1) (hE235.trans e238.symm)
          have e246 : y208 = p237.2.2.2.2.2.2.2.1 := congrArg (fun z => z.2.2.2.2.2.2.2.1) (hE235.trans e238.symm)
          have e247 : y209 = p237.2.2.2.2.2.2.2.2.1 := congrArg (fun z => z.2.2.2.2.2.2.2.2.1) (hE235.trans e238.symm)
          have e248 : y210 = p237.2.2.2.2.2.2.2.2.2.1 := congrArg (fun z => z.2.2.2.2.2.2.2.2.2.1) (hE235.trans e238.symm)
          have e249 : y211 = p237.2.2.2.2.2.2.2.2.2.2.1 := congrArg (fun z => z.2.2.2.2.2.2.2.2.2.2.1) (hE235.trans e238.symm)
          have e250 : y212 = p237.2.2.2.2.2.2.2.2.2.2.2 := congrArg (fun z => z.2.2.2.2.2.2.2.2.2.2.2) (hE235.trans e238.symm)
          replace b215 : q_F (t6_1.toInt ≤ y203.toInt) := b215
          replace b216 : q_F (y203.toInt ≤ t6_1.toInt) := b216
          replace b217 : q_F (t6_2.toInt ≤ y204.toInt) := b217
          replace b218 : q_F (y204.toInt ≤ t6_2.toInt) := b218
          replace b219 : q_F (t6_3.toInt ≤ y205.toInt) := b219
          replace b220 : q_F (y205.toInt ≤ t6_3.toInt) := b220
          replace b221 : q_F (t6_4.toInt ≤ y206.toInt) := b221
          replace b222 : q_F (y206.toInt ≤ t6_4.toInt) := b222
          replace b223 : q_F (t6_5.toInt ≤ y207.toInt) := b223
          replace b224 : q_F (y207.toInt ≤ t6_5.toInt) := b224
          replace b225 : q_F (t6_6.toInt ≤ y208.toInt) := b225
          replace b226 : q_F (y208.toInt ≤ t6_6.toInt) := b226
          replace b227 : q_F (t6_7.toInt ≤ y209.toInt) := b227
          replace b228 : q_F (y209.toInt ≤ t6_7.toInt) := b228
          replace b229 : q_F (t6_8.toInt ≤ y210.toInt) := b229
          replace b230 : q_F (y210.toInt ≤ t6_8.toInt) := b230
          replace b231 : q_F (t6_9.toInt ≤ y211.toInt) := b231
          replace b232 : q_F (y211.toInt ≤ t6_9.toInt) := b232
          replace b233 : q_F (t6_10.toInt ≤ y212.toInt) := b233
          replace b234 : q_F (y212.toInt ≤ t6_10.toInt) := b234
          replace hT0 := (hu236 _ (by decide)).trans hT0
          replace hT1 := (hu236 _ (by decide)).trans hT1
          replace hT4 := (hu236 _ (by decide)).trans hT4
          replace hT5 := (hu236 _ (by decide)).trans hT5
          replace hF := q_uc hF hu236 (by simp)
          have hR251 := (show F_NM_compare_c60 x2 x3 x4 t0_0 t0_1 t0_2 t1_0 t1_1 t1_2 t1_3 t1_4 t1_5 t1_6 t2_0 t3_0 t4_0 t5_0 t6_0 t6_1 t6_2 t6_3 t6_4 t6_5 t6_6 t6_7 t6_8 t6_9 t6_10 t7_0 t8_0 t9_0 t10_0 t11_0 lx69 p237 = (F_NM_compare x2 x3 x4 t0_0 t0_1 t0_2 t1_0 t1_1 t1_2 t1_3 t1_4 t1_5 t1_6 t2_0 t3_0 t4_0 t5_0 t6_0 t6_1 t6_2 t6_3 t6_4 t6_5 t6_6 t6_7 t6_8 t6_9 t6_10 t7_0 t8_0 t9_0 t10_0 t11_0) from Eq.trans (by rw [e238, F_NM_compare_J21.eq_1, if_pos c92, if_neg c94, if_neg c195]) hR85)
          have hS252 := (show True ∧ S_NM_compare_c60 x2 x3 x4 t0_0 t0_1 t0_2 t1_0 t1_1 t1_2 t1_3 t1_4 t1_5 t1_6 t2_0 t3_0 t4_0 t5_0 t6_0 t6_1 t6_2 t6_3 t6_4 t6_5 t6_6 t6_7 t6_8 t6_9 t6_10 t7_0 t8_0 t9_0 t10_0 t11_0 lx69 p237 from (by rw [e238]; have h := hS86; rw [S_NM_compare_J21.eq_1] at h; rw [if_pos c92] at h; rw [if_neg c94] at h; rw [if_neg c195] at h; replace h := q_s2 h; with_reducible exact h))
          exact q_reti C0 V (⟨hI, hF, lx69, t1_0, t1_1, t1_2, t1_3, t1_4, t1_5, t1_6, t4_0, t5_0, y202, y203, y204, y205, y206, y207, y208, y209, y210, y211, y212, hT0, hT1, hT4, hT5, hO201, (show 0 ≤ lx69.toInt from (by first | with_reducible exact q_fe i83 | (have t1 : 0 ≤ lx69.toInt := i83; omega))), (show lx69.toInt ≤ 2 from (by first | with_reducible exact q_fe i84 | (have t1 : lx69.toInt ≤ 1 := i84; omega))), (show t1_1.toInt ≤ t1_1.toInt from (by omega)), (show t1_1.toInt ≤ t1_1.toInt from (by omega)), (show t1_2.toInt ≤ t1_2.toInt from (by omega)), (show t1_2.toInt ≤ t1_2.toInt from (by omega)), (show t1_3.toInt ≤ t1_3.toInt from (by omega)), (show t1_3.toInt ≤ t1_3.toInt from (by omega)), (show t1_4.toInt ≤ t1_4.toInt from (by omega)), (show t1_4.toInt ≤ t1_4.toInt from (by omega)), (show t1_5.toInt ≤ t1_5.toInt from (by omega)), (show t1_5.toInt ≤ t1_5.toInt from (by omega)), (show t1_6.toInt ≤ t1_6.toInt from (by omega)), (show t1_6.toInt ≤ t1_6.toInt from (by omega)), (show t6_1.toInt ≤ y203.toInt from (by first | with_reducible exact q_fe b215 | (have t1 : t6_1.toInt ≤ y203.toInt := b215; omega))), (show y203.toInt ≤ t6_1.toInt from (by first | with_reducible exact q_fe b216 | (have t1 : y203.toInt ≤ t6_1.toInt := b216; omega))), (show t6_2.toInt ≤ y204.toInt from (by first | with_reducible exact q_fe b217 | (have t1 : t6_2.toInt ≤ y204.toInt := b217; omega))), (show y204.toInt ≤ t6_2.toInt from (by first | with_reducible exact q_fe b218 | (have t1 : y204.toInt ≤ t6_2.toInt := b218; omega))), (show t6_3.toInt ≤ y205.toInt from (by first | with_reducible exact q_fe b219 | (have t1 : t6_3.toInt ≤ y205.toInt := b219; omega))), (show y205.toInt ≤ t6_3.toInt from (by first | with_reducible exact q_fe b220 | (have t1 : y205.toInt ≤ t6_3.toInt := b220; omega))), (show t6_4.toInt ≤ y206.toInt from (by first | with_reducible exact q_fe b221 | (have t1 : t6_4.toInt ≤ y206.toInt := b221; omega))), (show y206.toInt ≤ t6_4.toInt from (by first | with_reducible exact q_fe b222 | (have t1 : y206.toInt ≤ t6_4.toInt := b222; omega))), (show t6_5.toInt ≤ y207.toInt from (by first | with_reducible exact q_fe b223 | (have t1 : t6_5.toInt ≤ y207.toInt := b223; omega))), (show y207.toInt ≤ t6_5.toInt from (by first | with_reducible exact q_fe b224 | (have t1 : y207.toInt ≤ t6_5.toInt := b224; omega))), (show t6_6.toInt ≤ y208.toInt from (by first | with_reducible exact q_fe b225 | (have t1 : t6_6.toInt ≤ y208.toInt := b225; omega))), (show y208.toInt ≤ t6_6.toInt from (by first | with_reducible exact q_fe b226 | (have t1 : y208.toInt ≤ t6_6.toInt := b226; omega))), (show t6_7.toInt ≤ y209.toInt from (by first | with_reducible exact q_fe b227 | (have t1 : t6_7.toInt ≤ y209.toInt := b227; omega))), (show y209.toInt ≤ t6_7.toInt from (by first | with_reducible exact q_fe b228 | (have t1 : y209.toInt ≤ t6_7.toInt := b228; omega))), (show t6_8.toInt ≤ y210.toInt from (by first | with_reducible exact q_fe b229 | (have t1 : t6_8.toInt ≤ y210.toInt := b229; omega))), (show y210.toInt ≤ t6_8.toInt from (by first | with_reducible exact q_fe b230 | (have t1 : y210.toInt ≤ t6_8.toInt := b230; omega))), (show t6_9.toInt ≤ y211.toInt from (by first | with_reducible exact q_fe b231 | (have t1 : t6_9.toInt ≤ y211.toInt := b231; omega))), (show y211.toInt ≤ t6_9.toInt from (by first | with_reducible exact q_fe b232 | (have t1 : y211.toInt ≤ t6_9.toInt := b232; omega))), (show t6_10.toInt ≤ y212.toInt from (by first | with_reducible exact q_fe b233 | (have t1 : t6_10.toInt ≤ y212.toInt := b233; omega))), (show y212.toInt ≤ t6_10.toInt from (by first | with_reducible exact q_fe b234 | (have t1 : y212.toInt ≤ t6_10.toInt := b234; omega))), (show (a200, lx69, t1_0, t1_1, t1_2, t1_3, t1_4, t1_5, t1_6, t4_0, t5_0, y202, y203, y204, y205, y206, y207, y208, y209, y210, y211, y212) = (F_NM_compare x2 x3 x4 t0_0 t0_1 t0_2 t1_0 t1_1 t1_2 t1_3 t1_4 t1_5 t1_6 t2_0 t3_0 t4_0 t5_0 t6_0 t6_1 t6_2 t6_3 t6_4 t6_5 t6_6 t6_7 t6_8 t6_9 t6_10 t7_0 t8_0 t9_0 t10_0 t11_0) from Eq.trans (by rw [e250, e249, e248, e247, e246, e245, e244, e243, e242, e241, e240, e239, F_NM_compare_c60.eq_1]) hR251)⟩) d_14_19_63
        ·
          refine lv_aload_n hx hb d_14_19_42 rfl (lv_at hl 0 rfl) ?_
          refine q_get (ci := 12) (j := 5) (v := .ref (q 119)) C0 V i_NM rfl rfl hT0 (by decide) w_2303 rfl d_14_19_43 ?_
          refine lv_iload_n hx hb d_14_19_46 rfl (lv_at hl 2 rfl) ?_
          refine lv_iload_n hx hb d_14_19_47 rfl (lv_at hl 3 rfl) ?_
          have ob257 : True ∧ S_WR_compare x3 x4 t1_0 t1_1 t1_2 t1_3 t1_4 t1_5 t1_6 t2_0 t3_0 t4_0 t5_0 := (by have h := hS86; rw [S_NM_compare_J21.eq_1] at h; rw [if_pos c92] at h; rw [if_neg c94] at h; rw [if_pos c195] at h; with_reducible exact h.2.1)
          refine q_goi V (q_runV (As := [.int x3, .int x4]) (rest := []) (d := 2) (mc := 0) (ms := 0) (ci := 13) C0 V rfl LV_NM_157 (X_WR_compare l D g q w90  x3 x4 hI t1_0 t1_1 t1_2 t1_3 t1_4 t1_5 t1_6 hT1 t2_0 hT2 t3_0 hT3 t4_0 hT4 t5_0 hT5 ob257 _) rfl rfl hT1 rfl hl.1 rfl (Nat.le_of_ble_eq_true rfl) ⟨by decide, by decide⟩ ⟨Nat.le_of_ble_eq_true rfl, Nat.le_of_ble_eq_true rfl⟩ d_14_19_48) (fun a260 u258 H locs hp259 V => ?_)
          obtain ⟨hI, hZ9⟩ := hp259
          obtain ⟨hu290, hZ9⟩ := hZ9
          obtain ⟨y262, hZ9⟩ := hZ9
          obtain ⟨y263, hZ9⟩ := hZ9
          obtain ⟨y264, hZ9⟩ := hZ9
          obtain ⟨y265, hZ9⟩ := hZ9
          obtain ⟨y266, hZ9⟩ := hZ9
          obtain ⟨y267, hZ9⟩ := hZ9
          obtain ⟨y268, hZ9⟩ := hZ9
          obtain ⟨f269, hZ9⟩ := hZ9
          obtain ⟨f271, hZ9⟩ := hZ9
          obtain ⟨hO261, hZ9⟩ := hZ9
          obtain ⟨hA270, hZ9⟩ := hZ9
          obtain ⟨hA272, hZ9⟩ := hZ9
          replace hZ9 := hZ9.2.2.2
          obtain ⟨b276, hZ9⟩ := hZ9
          obtain ⟨b277, hZ9⟩ := hZ9
          obtain ⟨b278, hZ9⟩ := hZ9
          obtain ⟨b279, hZ9⟩ := hZ9
          obtain ⟨b280, hZ9⟩ := hZ9
          obtain ⟨b281, hZ9⟩ := hZ9
          obtain ⟨b282, hZ9⟩ := hZ9
          obtain ⟨b283, hZ9⟩ := hZ9
          obtain ⟨b284, hZ9⟩ := hZ9
          obtain ⟨b285, hZ9⟩ := hZ9
          obtain ⟨b286, hZ9⟩ := hZ9
          obtain ⟨b287, hZ9⟩ := hZ9
          obtain ⟨-, hE289⟩ := hZ9
          replace hO261 : u258[119]? = (some (q 119, .inr (13, [.int y262, .int y263, .ref (q 120), .int y264, .ref (q 121), .ref (q 122), .ref (q 123), .int y265, .ref (q 124), .ref (q 125), .ref (q 126), .ref (q 127), .ref (q 128), .ref (q 129), .ref (q 130), .ref (q 131), .int y266, .int y267, .ref (q 132), .ref (q 133), .int y268])) : Option (Nat × va_E)) := hO261
          replace hA270 : u258[128]? = (some (q 128, .inl (g 0, (264 : Int32).toNatClampNeg, .inl f269)) : Option (Nat × va_E)) := hA270
          replace hA272 : u258[129]? = (some (q 129, .inl (g 0, (264 : Int32).toNatClampNeg, .inl f271)) : Option (Nat × va_E)) := hA272
          obtain ⟨p291, e292⟩ : ∃ z, z = (F_WR_compare x3 x4 t1_0 t1_1 t1_2 t1_3 t1_4 t1_5 t1_6 t2_0 t3_0 t4_0 t5_0) := ⟨_, rfl⟩
          have e293 : a260 = p291.1 := congrArg (fun z => z.1) (hE289.trans e292.symm)
          have e294 : y262 = p291.2.1 := congrArg (fun z => z.2.1) (hE289.trans e292.symm)
          have e295 : y263 = p291.2.2.1 := congrArg (fun z => z.2.2.1) (hE289.trans e292.symm)
          have e296 : y264 = p291.2.2.2.1 := congrArg (fun z => z.2.2.2.1) (hE289.trans e292.symm)
          have e297 : y265 = p291.2.2.2.2.1 := congrArg (fun z => z.2.2.2.2.1) (hE289.trans e292.symm)
          have e298 : y266 = p291.2.2.2.2.2.1 := congrArg (fun z => z.2.2.2.2.2.1) (hE289.trans e292.symm)
          have e299 : y267 = p291.2.2.2.2.2.2.1 := congrArg (fun z => z.2.2.2.2.2.2.1) (hE289.trans e292.symm)
          have e300 : y268 = p291.2.2.2.2.2.2.2.1 := congrArg (fun z => z.2.2.2.2.2.2.2.1) (hE289.trans e292.symm)
          have e301 : f269 = p291.2.2.2.2.2.2.2.2.1 := congrArg (fun z => z.2.2.2.2.2.2.2.2.1) (hE289.trans e292.symm)
          have e302 : f271 = p291.2.2.2.2.2.2.2.2.2 := congrArg (fun z => z.2.2.2.2.2.2.2.2.2) (hE289.trans e292.symm)
          replace b276 : q_F (t1_1.toInt ≤ y263.toInt) := b276
          replace b277 : q_F (y263.toInt ≤ t1_1.toInt) := b277
          replace b278 : q_F (t1_2.toInt ≤ y264.toInt) := b278
          replace b279 : q_F (y264.toInt ≤ t1_2.toInt) := b279
          replace b280 : q_F (t1_3.toInt ≤ y265.toInt) := b280
          replace b281 : q_F (y265.toInt ≤ t1_3.toInt) := b281
          replace b282 : q_F (t1_4.toInt ≤ y266.toInt) := b282
          replace b283 : q_F (y266.toInt ≤ t1_4.toInt) := b283
          replace b284 : q_F (t1_5.toInt ≤ y267.toInt) := b284
          replace b285 : q_F (y267.toInt ≤ t1_5.toInt) := b285
          replace b286 : q_F (t1_6.toInt ≤ y268.toInt) := b286
          replace b287 : q_F (y268.toInt ≤ t1_6.toInt) := b287
          replace hT0 := (hu290 _ (by decide)).trans hT0
          replace hT6 := (hu290 _ (by decide)).trans hT6
          replace hF := q_uc hF hu290 (by simp)
          have hR303 := (show F_NM_compare_c48 x2 x3 x4 t0_0 t0_1 t0_2 t1_0 t1_1 t1_2 t1_3 t1_4 t1_5 t1_6 t2_0 t3_0 t4_0 t5_0 t6_0 t6_1 t6_2 t6_3 t6_4 t6_5 t6_6 t6_7 t6_8 t6_9 t6_10 t7_0 t8_0 t9_0 t10_0 t11_0 lx69 p291 = (F_NM_compare x2 x3 x4 t0_0 t0_1 t0_2 t1_0 t1_1 t1_2 t1_3 t1_4 t1_5 t1_6 t2_0 t3_0 t4_0 t5_0 t6_0 t6_1 t6_2 t6_3 t6_4 t6_5 t6_6 t6_7 t6_8 t6_9 t6_10 t7_0 t8_0 t9_0 t10_0 t11_0) from Eq.trans (by rw [e292, F_NM_compare_J21.eq_1, if_pos c92, if_neg c94, if_pos c195]) hR85)
          have hS304 := (show True ∧ S_NM_compare_c48 x2 x3 x4 t0_0 t0_1 t0_2 t1_0 t1_1 t1_2 t1_3 t1_4 t1_5 t1_6 t2_0 t3_0 t4_0 t5_0 t6_0 t6_1 t6_2 t6_3 t6_4 t6_5 t6_6 t6_7 t6_8 t6_9 t6_10 t7_0 t8_0 t9_0 t10_0 t11_0 lx69 p291 from (by rw [e292]; have h := hS86; rw [S_NM_compare_J21.eq_1] at h; rw [if_pos c92] at h; rw [if_neg c94] at h; rw [if_pos c195] at h; replace h := q_s2 h; with_reducible exact h))
          refine lv_goto (tgt := 63) hx hb d_14_19_51 (by decide) ?_
          exact q_reti C0 V (⟨hI, hF, lx69, y262, y263, y264, y265, y266, y267, y268, f269, f271, t6_0, t6_1, t6_2, t6_3, t6_4, t6_5, t6_6, t6_7, t6_8, t6_9, t6_10, hT0, hO261, hA270, hA272, hT6, (show 0 ≤ lx69.toInt from (by first | with_reducible exact q_fe i83 | (have t1 : 0 ≤ lx69.toInt := i83; omega))), (show lx69.toInt ≤ 2 from (by first | with_reducible exact q_fe i84 | (have t1 : lx69.toInt ≤ 1 := i84; omega))), (show t1_1.toInt ≤ y263.toInt from (by first | with_reducible exact q_fe b276 | (have t1 : t1_1.toInt ≤ y263.toInt := b276; omega))), (show y263.toInt ≤ t1_1.toInt from (by first | with_reducible exact q_fe b277 | (have t1 : y263.toInt ≤ t1_1.toInt := b277; omega))), (show t1_2.toInt ≤ y264.toInt from (by first | with_reducible exact q_fe b278 | (have t1 : t1_2.toInt ≤ y264.toInt := b278; omega))), (show y264.toInt ≤ t1_2.toInt from (by first | with_reducible exact q_fe b279 | (have t1 : y264.toInt ≤ t1_2.toInt := b279; omega))), (show t1_3.toInt ≤ y265.toInt from (by first | with_reducible exact q_fe b280 | (have t1 : t1_3.toInt ≤ y265.toInt := b280; omega))), (show y265.toInt ≤ t1_3.toInt from (by first | with_reducible exact q_fe b281 | (have t1 : y265.toInt ≤ t1_3.toInt := b281; omega))), (show t1_4.toInt ≤ y266.toInt from (by first | with_reducible exact q_fe b282 | (have t1 : t1_4.toInt ≤ y266.toInt := b282; omega))), (show y266.toInt ≤ t1_4.toInt from (by first | with_reducible exact q_fe b283 | (have t1 : y266.toInt ≤ t1_4.toInt := b283; omega))), (show t1_5.toInt ≤ y267.toInt from (by first | with_reducible exact q_fe b284 | (have t1 : t1_5.toInt ≤ y267.toInt := b284; omega))), (show y267.toInt ≤ t1_5.toInt from (by first | with_reducible exact q_fe b285 | (have t1 : y267.toInt ≤ t1_5.toInt := b285; omega))), (show t1_6.toInt ≤ y268.toInt from (by first | with_reducible exact q_fe b286 | (have t1 : t1_6.toInt ≤ y268.toInt := b286; omega))), (show y268.toInt ≤ t1_6.toInt from (by first | with_reducible exact q_fe b287 | (have t1 : y268.toInt ≤ t1_6.toInt := b287; omega))), (show t6_1.toInt ≤ t6_1.toInt from (by omega)), (show t6_1.toInt ≤ t6_1.toInt from (by omega)), (show t6_2.toInt ≤ t6_2.toInt from (by omega)), (show t6_2.toInt ≤ t6_2.toInt from (by omega)), (show t6_3.toInt ≤ t6_3.toInt from (by omega)), (show t6_3.toInt ≤ t6_3.toInt from (by omega)), (show t6_4.toInt ≤ t6_4.toInt from (by omega)), (show t6_4.toInt ≤ t6_4.toInt from (by omega)), (show t6_5.toInt ≤ t6_5.toInt from (by omega)), (show t6_5.toInt ≤ t6_5.toInt from (by omega)), (show t6_6.toInt ≤ t6_6.toInt from (by omega)), (show t6_6.toInt ≤ t6_6.toInt from (by omega)), (show t6_7.toInt ≤ t6_7.toInt from (by omega)), (show t6_7.toInt ≤ t6_7.toInt from (by omega)), (show t6_8.toInt ≤ t6_8.toInt from (by omega)), (show t6_8.toInt ≤ t6_8.toInt from (by omega)), (show t6_9.toInt ≤ t6_9.toInt from (by omega)), (show t6_9.toInt ≤ t6_9.toInt from (by omega)), (show t6_10.toInt ≤ t6_10.toInt from (by omega)), (show t6_10.toInt ≤ t6_10.toInt from (by omega)), (show (a260, lx69, y262, y263, y264, y265, y266, y267, y268, f269, f271, t6_0, t6_1, t6_2, t6_3, t6_4, t6_5, t6_6, t6_7, t6_8, t6_9, t6_10) = (F_NM_compare x2 x3 x4 t0_0 t0_1 t0_2 t1_0 t1_1 t1_2 t1_3 t1_4 t1_5 t1_6 t2_0 t3_0 t4_0 t5_0 t6_0 t6_1 t6_2 t6_3 t6_4 t6_5 t6_6 t6_7 t6_8 t6_9 t6_10 t7_0 t8_0 t9_0 t10_0 t11_0) from Eq.trans (by rw [e302, e301, e300, e299, e298, e297, e296, e295, e294, e293, F_NM_compare_c48.eq_1]) hR303)⟩) d_14_19_63
    ·
      refine lv_iconst (v := 0) hx hb d_14_19_31 (by decide) ?_
      exact q_reti C0 V (⟨hI, hF, lx69, t1_0, t1_1, t1_2, t1_3, t1_4, t1_5, t1_6, t4_0, t5_0, t6_0, t6_1, t6_2, t6_3, t6_4, t6_5, t6_6, t6_7, t6_8, t6_9, t6_10, hT0, hT1, hT4, hT5, hT6, (show 0 ≤ lx69.toInt from (by have z33 : (0 : Int32).toInt = 0 := rfl; have t1 : 0 ≤ lx69.toInt := i83; omega)), (show lx69.toInt ≤ 2 from (by have z33 : (0 : Int32).toInt = 0 := rfl; have t1 : lx69.toInt ≤ 1 := i84; omega)), (show t1_1.toInt ≤ t1_1.toInt from (by have z33 : (0 : Int32).toInt = 0 := rfl; omega)), (show t1_1.toInt ≤ t1_1.toInt from (by have z33 : (0 : Int32).toInt = 0 := rfl; omega)), (show t1_2.toInt ≤ t1_2.toInt from (by have z33 : (0 : Int32).toInt = 0 := rfl; omega)), (show t1_2.toInt ≤ t1_2.toInt from (by have z33 : (0 : Int32).toInt = 0 := rfl; omega)), (show t1_3.toInt ≤ t1_3.toInt from (by have z33 : (0 : Int32).toInt = 0 := rfl; omega)), (show t1_3.toInt ≤ t1_3.toInt from (by have z33 : (0 : Int32).toInt = 0 := rfl; omega)), (show t1_4.toInt ≤ t1_4.toInt from (by have z33 : (0 : Int32).toInt = 0 := rfl; omega)), (show t1_4.toInt ≤ t1_4.toInt from (by have z33 : (0 : Int32).toInt = 0 := rfl; omega)), (show t1_5.toInt ≤ t1_5.toInt from (by have z33 : (0 : Int32).toInt = 0 := rfl; omega)), (show t1_5.toInt ≤ t1_5.toInt from (by have z33 : (0 : Int32).toInt = 0 := rfl; omega)), (show t1_6.toInt ≤ t1_6.toInt from (by have z33 : (0 : Int32).toInt = 0 := rfl; omega)), (show t1_6.toInt ≤ t1_6.toInt from (by have z33 : (0 : Int32).toInt = 0 := rfl; omega)), (show t6_1.toInt ≤ t6_1.toInt from (by have z33 : (0 : Int32).toInt = 0 := rfl; omega)), (show t6_1.toInt ≤ t6_1.toInt from (by have z33 : (0 : Int32).toInt = 0 := rfl; omega)), (show t6_2.toInt ≤ t6_2.toInt from (by have z33 : (0 : Int32).toInt = 0 := rfl; omega)), (show t6_2.toInt ≤ t6_2.toInt from (by have z33 : (0 : Int32).toInt = 0 := rfl; omega)), (show t6_3.toInt ≤ t6_3.toInt from (by have z33 : (0 : Int32).toInt = 0 := rfl; omega)), (show t6_3.toInt ≤ t6_3.toInt from (by have z33 : (0 : Int32).toInt = 0 := rfl; omega)), (show t6_4.toInt ≤ t6_4.toInt from (by have z33 : (0 : Int32).toInt = 0 := rfl; omega)), (show t6_4.toInt ≤ t6_4.toInt from (by have z33 : (0 : Int32).toInt = 0 := rfl; omega)), (show t6_5.toInt ≤ t6_5.toInt from (by have z33 : (0 : Int32).toInt = 0 := rfl; omega)), (show t6_5.toInt ≤ t6_5.toInt from (by have z33 : (0 : Int32).toInt = 0 := rfl; omega)), (show t6_6.toInt ≤ t6_6.toInt from (by have z33 : (0 : Int32).toInt = 0 := rfl; omega)), (show t6_6.toInt ≤ t6_6.toInt from (by have z33 : (0 : Int32).toInt = 0 := rfl; omega)), (show t6_7.toInt ≤ t6_7.toInt from (by have z33 : (0 : Int32).toInt = 0 := rfl; omega)), (show t6_7.toInt ≤ t6_7.toInt from (by have z33 : (0 : Int32).toInt = 0 := rfl; omega)), (show t6_8.toInt ≤ t6_8.toInt from (by have z33 : (0 : Int32).toInt = 0 := rfl; omega)), (show t6_8.toInt ≤ t6_8.toInt from (by have z33 : (0 : Int32).toInt = 0 := rfl; omega)), (show t6_9.toInt ≤ t6_9.toInt from (by have z33 : (0 : Int32).toInt = 0 := rfl; omega)), (show t6_9.toInt ≤ t6_9.toInt from (by have z33 : (0 : Int32).toInt = 0 := rfl; omega)), (show t6_10.toInt ≤ t6_10.toInt from (by have z33 : (0 : Int32).toInt = 0 := rfl; omega)), (show t6_10.toInt ≤ t6_10.toInt from (by have z33 : (0 : Int32).toInt = 0 := rfl; omega)), (show ((0 : Int32), lx69, t1_0, t1_1, t1_2, t1_3, t1_4, t1_5, t1_6, t4_0, t5_0, t6_0, t6_1, t6_2, t6_3, t6_4, t6_5, t6_6, t6_7, t6_8, t6_9, t6_10) = (F_NM_compare x2 x3 x4 t0_0 t0_1 t0_2 t1_0 t1_1 t1_2 t1_3 t1_4 t1_5 t1_6 t2_0 t3_0 t4_0 t5_0 t6_0 t6_1 t6_2 t6_3 t6_4 t6_5 t6_6 t6_7 t6_8 t6_9 t6_10 t7_0 t8_0 t9_0 t10_0 t11_0) from Eq.trans (by rw [F_NM_compare_J21.eq_1, if_neg c92]) hR85)⟩) d_14_19_32
  ·
    intro J82
    refine q_join (X := Unit) (fun z H locs ls _ => q_Wd D g (va_A ws sz) s ws H locs ∧ lv_has ls 12 [(0, .ref (q 116)), (1, .int x2), (2, .int x3), (3, .int x4)] ∧ F_NM_compare_J16 x2 x3 x4 t0_0 t0_1 t0_2 t1_0 t1_1 t1_2 t1_3 t1_4 t1_5 t1_6 t2_0 t3_0 t4_0 t5_0 t6_0 t6_1 t6_2 t6_3 t6_4 t6_5 t6_6 t6_7 t6_8 t6_9 t6_10 t7_0 t8_0 t9_0 t10_0 t11_0 = (F_NM_compare x2 x3 x4 t0_0 t0_1 t0_2 t1_0 t1_1 t1_2 t1_3 t1_4 t1_5 t1_6 t2_0 t3_0 t4_0 t5_0 t6_0 t6_1 t6_2 t6_3 t6_4 t6_5 t6_6 t6_7 t6_8 t6_9 t6_10 t7_0 t8_0 t9_0 t10_0 t11_0) ∧ True ∧ S_NM_compare_J16 x2 x3 x4 t0_0 t0_1 t0_2 t1_0 t1_1 t1_2 t1_3 t1_4 t1_5 t1_6 t2_0 t3_0 t4_0 t5_0 t6_0 t6_1 t6_2 t6_3 t6_4 t6_5 t6_6 t6_7 t6_8 t6_9 t6_10 t7_0 t8_0 t9_0 t10_0 t11_0) (fun z => [.ref (q 116)]) 16 0 0 ?_ ?_
    ·
      rintro _ H locs ls _ ⟨V, hl, hR322, hS323⟩
      replace hl : lv_has ls 12 [(0, .ref (q 116)), (1, .int x2), (2, .int x3), (3, .int x4)] := hl
      refine lv_iconst (v := 1) hx hb d_14_19_16 (by decide) ?_
      refine lv_goto (tgt := 21) hx hb d_14_19_17 (by decide) ?_
      exact J82 ((1 : Int32)) _ _ _ ws ⟨(show q_F (0 ≤ 1) from (show 0 ≤ 1 from by omega)), (show q_F (1 ≤ 1) from (show 1 ≤ 1 from by omega)), V, q_lw hl (q_lw1 0 rfl (q_lw1 1 rfl (q_lw1 2 rfl (q_lw1 3 rfl q_lw0)))), (show F_NM_compare_J21 x2 x3 x4 t0_0 t0_1 t0_2 t1_0 t1_1 t1_2 t1_3 t1_4 t1_5 t1_6 t2_0 t3_0 t4_0 t5_0 t6_0 t6_1 t6_2 t6_3 t6_4 t6_5 t6_6 t6_7 t6_8 t6_9 t6_10 t7_0 t8_0 t9_0 t10_0 t11_0 1 = (F_NM_compare x2 x3 x4 t0_0 t0_1 t0_2 t1_0 t1_1 t1_2 t1_3 t1_4 t1_5 t1_6 t2_0 t3_0 t4_0 t5_0 t6_0 t6_1 t6_2 t6_3 t6_4 t6_5 t6_6 t6_7 t6_8 t6_9 t6_10 t7_0 t8_0 t9_0 t10_0 t11_0) from Eq.trans (by rw [F_NM_compare_J16.eq_1]) hR322), (show True ∧ S_NM_compare_J21 x2 x3 x4 t0_0 t0_1 t0_2 t1_0 t1_1 t1_2 t1_3 t1_4 t1_5 t1_6 t2_0 t3_0 t4_0 t5_0 t6_0 t6_1 t6_2 t6_3 t6_4 t6_5 t6_6 t6_7 t6_8 t6_9 t6_10 t7_0 t8_0 t9_0 t10_0 t11_0 1 from (by have h := hS323; rw [S_NM_compare_J16.eq_1] at h; with_reducible exact h))⟩
    ·
      intro J321
      refine lv_if_ne (tgt := 16) hx hb d_14_19_6 (by decide) (fun c327 => ?_) (fun c327 => ?_)
      ·
        exact J321 (()) _ _ _ ws ⟨V, q_lw hl (q_lw1 0 rfl (q_lw1 1 rfl (q_lw1 2 rfl (q_lw1 3 rfl q_lw0)))), (show F_NM_compare_J16 x2 x3 x4 t0_0 t0_1 t0_2 t1_0 t1_1 t1_2 t1_3 t1_4 t1_5 t1_6 t2_0 t3_0 t4_0 t5_0 t6_0 t6_1 t6_2 t6_3 t6_4 t6_5 t6_6 t6_7 t6_8 t6_9 t6_10 t7_0 t8_0 t9_0 t10_0 t11_0 = (F_NM_compare x2 x3 x4 t0_0 t0_1 t0_2 t1_0 t1_1 t1_2 t1_3 t1_4 t1_5 t1_6 t2_0 t3_0 t4_0 t5_0 t6_0 t6_1 t6_2 t6_3 t6_4 t6_5 t6_6 t6_7 t6_8 t6_9 t6_10 t7_0 t8_0 t9_0 t10_0 t11_0) from (by have c327x := c327; rw [e68] at c327x; rw [F_NM_compare.eq_1, if_neg c327x])), (show True ∧ S_NM_compare_J16 x2 x3 x4 t0_0 t0_1 t0_2 t1_0 t1_1 t1_2 t1_3 t1_4 t1_5 t1_6 t2_0 t3_0 t4_0 t5_0 t6_0 t6_1 t6_2 t6_3 t6_4 t6_5 t6_6 t6_7 t6_8 t6_9 t6_10 t7_0 t8_0 t9_0 t10_0 t11_0 from (by have h := hS; rw [S_NM_compare.eq_1] at h; have c327x := c327; rw [e68] at c327x; rw [if_neg c327x] at h; with_reducible exact h))⟩
      ·
        refine lv_iload_n hx hb d_14_19_9 rfl (lv_at hl 3 rfl) ?_
        refine q_goi V (q_runS (As := [.int x4]) (rest := [.ref (q 116)]) (d := 1) (mc := 0) (ms := 0) C0 V rfl LS_NM_70 (X_NM_no_IZ l D g q ws  x4 hI   _) rfl hl.1 rfl (Nat.le_of_ble_eq_true rfl) ⟨by decide, by decide⟩ ⟨Nat.le_of_ble_eq_true rfl, Nat.le_of_ble_eq_true rfl⟩ d_14_19_10) (fun a332 u330 H locs hp331 V => ?_)
        obtain ⟨rfl, b333, b334, hE335⟩ := hp331
        have e336 : a332 = (F_NM_no_IZ x4) := hE335
        clear b333
        clear b334
        refine lv_if_eq (tgt := 20) hx hb d_14_19_13 (by decide) (fun c337 => ?_) (fun c337 => ?_)
        ·
          refine lv_iconst (v := 0) hx hb d_14_19_20 (by decide) ?_
          exact J82 ((0 : Int32)) _ _ _ ws ⟨(show q_F (0 ≤ 0) from (show 0 ≤ 0 from by omega)), (show q_F (0 ≤ 1) from (show 0 ≤ 1 from by omega)), V, q_lw hl (q_lw1 0 rfl (q_lw1 1 rfl (q_lw1 2 rfl (q_lw1 3 rfl q_lw0)))), (show F_NM_compare_J21 x2 x3 x4 t0_0 t0_1 t0_2 t1_0 t1_1 t1_2 t1_3 t1_4 t1_5 t1_6 t2_0 t3_0 t4_0 t5_0 t6_0 t6_1 t6_2 t6_3 t6_4 t6_5 t6_6 t6_7 t6_8 t6_9 t6_10 t7_0 t8_0 t9_0 t10_0 t11_0 0 = (F_NM_compare x2 x3 x4 t0_0 t0_1 t0_2 t1_0 t1_1 t1_2 t1_3 t1_4 t1_5 t1_6 t2_0 t3_0 t4_0 t5_0 t6_0 t6_1 t6_2 t6_3 t6_4 t6_5 t6_6 t6_7 t6_8 t6_9 t6_10 t7_0 t8_0 t9_0 t10_0 t11_0) from (by have c327x := c327; rw [e68] at c327x; have c337x := c337; rw [e336] at c337x; rw [F_NM_compare.eq_1, if_pos c327x, if_pos c337x])), (show True ∧ S_NM_compare_J21 x2 x3 x4 t0_0 t0_1 t0_2 t1_0 t1_1 t1_2 t1_3 t1_4 t1_5 t1_6 t2_0 t3_0 t4_0 t5_0 t6_0 t6_1 t6_2 t6_3 t6_4 t6_5 t6_6 t6_7 t6_8 t6_9 t6_10 t7_0 t8_0 t9_0 t10_0 t11_0 0 from (by have h := hS; rw [S_NM_compare.eq_1] at h; have c327x := c327; rw [e68] at c327x; rw [if_pos c327x] at h; have c337x := c337; rw [e336] at c337x; rw [if_pos c337x] at h; with_reducible exact h))⟩
        ·
          exact J321 (()) _ _ _ ws ⟨V, q_lw hl (q_lw1 0 rfl (q_lw1 1 rfl (q_lw1 2 rfl (q_lw1 3 rfl q_lw0)))), (show F_NM_compare_J16 x2 x3 x4 t0_0 t0_1 t0_2 t1_0 t1_1 t1_2 t1_3 t1_4 t1_5 t1_6 t2_0 t3_0 t4_0 t5_0 t6_0 t6_1 t6_2 t6_3 t6_4 t6_5 t6_6 t6_7 t6_8 t6_9 t6_10 t7_0 t8_0 t9_0 t10_0 t11_0 = (F_NM_compare x2 x3 x4 t0_0 t0_1 t0_2 t1_0 t1_1 t1_2 t1_3 t1_4 t1_5 t1_6 t2_0 t3_0 t4_0 t5_0 t6_0 t6_1 t6_2 t6_3 t6_4 t6_5 t6_6 t6_7 t6_8 t6_9 t6_10 t7_0 t8_0 t9_0 t10_0 t11_0) from (by have c327x := c327; rw [e68] at c327x; have c337x := c337; rw [e336] at c337x; rw [F_NM_compare.eq_1, if_pos c327x, if_neg c337x])), (show True ∧ S_NM_compare_J16 x2 x3 x4 t0_0 t0_1 t0_2 t1_0 t1_1 t1_2 t1_3 t1_4 t1_5 t1_6 t2_0 t3_0 t4_0 t5_0 t6_0 t6_1 t6_2 t6_3 t6_4 t6_5 t6_6 t6_7 t6_8 t6_9 t6_10 t7_0 t8_0 t9_0 t10_0 t11_0 from (by have h := hS; rw [S_NM_compare.eq_1] at h; have c327x := c327; rw [e68] at c327x; rw [if_pos c327x] at h; have c337x := c337; rw [e336] at c337x; rw [if_neg c337x] at h; with_reducible exact h))⟩

