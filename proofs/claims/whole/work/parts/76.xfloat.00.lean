/-! Floats and Reader, exactly -/
def F_jMath_floorDiv_JJJ (x1 : Int64) (x2 : Int64) : Int64 := if (0 : Int32) ≤ (lg_cmp (x1 ^^^ x2 : Int64) 0 : Int32) then ((x1 / x2 : Int64)) else (if (lg_cmp ((x1 / x2 : Int64) * x2 : Int64) x1 : Int32) = (0 : Int32) then ((x1 / x2 : Int64)) else (((x1 / x2 : Int64) - 1 : Int64)))
set_option maxRecDepth 100000 in
set_option maxHeartbeats 4000000 in
theorem X_jMath_floorDiv_JJJ (l : Launch) (D : va_G) (g : Nat → ClassId) (q : Nat → Nat) (ws : va_W) (x1 : Int64) (x2 : Int64) (hI : q_I (nsh g q) q ws) (pre0 : 1 ≤ x2.toInt) : q_mL l y_jMath_floorDiv_JJJ prog_29_method_49_code 6 1 0 0 D g [.long x1, .long x2] ws (fun r u => ws = u ∧ r = (F_jMath_floorDiv_JJJ x1 x2)) := by
  intro sz
  refine q_intoF (by decide +kernel) (Nat.le_of_ble_eq_true rfl) ?_
  intro p e s m below meth c ls hsz C0 V hl
  have hx := C0.1
  have hb := C0.2.1
  replace pre0 : q_F (1 ≤ x2.toInt) := pre0
  have hl : lv_has ls 6 [(0, .long x1), (2, .long x2)] := hl
  refine lv_lload_n hx hb d_29_49_0 rfl (lv_at hl 0 rfl) ?_
  refine lv_lload_n hx hb d_29_49_1 rfl (lv_at hl 1 rfl) ?_
  refine lv_ldiv hx hb d_29_49_2 (s_nzL (by have t1 : 1 ≤ x2.toInt := pre0; omega)) ?_
  obtain ⟨j1, e2⟩ := q_nm (x1 / x2 : Int64)
  refine q_tl (v := j1) e2 ?_
  refine lv_lstore (lv' := [(4, .long j1), (0, .long x1), (2, .long x2)]) hx hb d_29_49_3 hl (by decide) rfl (fun ls hl => ?_)
  refine lv_lload_n hx hb d_29_49_5 rfl (lv_at hl 1 rfl) ?_
  refine lv_lload_n hx hb d_29_49_6 rfl (lv_at hl 2 rfl) ?_
  refine lv_lxor hx hb d_29_49_7 ?_
  obtain ⟨j3, e4⟩ := q_nm (x1 ^^^ x2 : Int64)
  refine q_tl (v := j3) e4 ?_
  refine lv_lconst (v := 0) hx hb d_29_49_8 (by decide) ?_
  refine W.lcmp hx hb d_29_49_9 ?_
  obtain ⟨a5, e6⟩ := q_nm (lg_cmp j3 0 : Int32)
  refine q_ti (v := a5) e6 ?_
  have b7 : q_F (-1 ≤ a5.toInt ∧ a5.toInt ≤ 1 ∧ ((a5.toInt = -1 ∧ j3.toInt < 0) ∨ (a5.toInt = 0 ∧ j3.toInt = 0) ∨ (a5.toInt = 1 ∧ 0 < j3.toInt))) := (by rw [← e6]; show -1 ≤ (lg_cmp j3 0 : Int32).toInt ∧ (lg_cmp j3 0 : Int32).toInt ≤ 1 ∧ (((lg_cmp j3 0 : Int32).toInt = -1 ∧ j3.toInt < 0) ∨ ((lg_cmp j3 0 : Int32).toInt = 0 ∧ j3.toInt = 0) ∨ ((lg_cmp j3 0 : Int32).toInt = 1 ∧ 0 < j3.toInt)); exact (by have y1 : (0 : Int64).toInt = 0 := rfl; have z := s_lcmp (a := j3) (b := 0); omega))
  refine lv_if_ge (tgt := 27) hx hb d_29_49_10 (by decide) (fun c8 => ?_) (fun c8 => ?_)
  ·
    have b9 : q_F (0 ≤ a5.toInt) := (q_leI c8)
    refine lv_lload hx hb d_29_49_27 (lv_at hl 0 rfl) ?_
    exact q_retl C0 V (⟨rfl, (show j1 = (F_jMath_floorDiv_JJJ x1 x2) from (by have c8x := c8; rw [← e6, ← e4] at c8x; rw [← e2, F_jMath_floorDiv_JJJ.eq_1, if_pos c8x]))⟩) d_29_49_29
  ·
    have b10 : q_F (a5.toInt < 0) := (q_nleI c8)
    refine lv_lload hx hb d_29_49_13 (lv_at hl 0 rfl) ?_
    refine lv_lload_n hx hb d_29_49_15 rfl (lv_at hl 2 rfl) ?_
    refine lv_lmul hx hb d_29_49_16 ?_
    obtain ⟨j11, e12⟩ := q_nm (j1 * x2 : Int64)
    refine q_tl (v := j11) e12 ?_
    refine lv_lload_n hx hb d_29_49_17 rfl (lv_at hl 1 rfl) ?_
    refine W.lcmp hx hb d_29_49_18 ?_
    obtain ⟨a13, e14⟩ := q_nm (lg_cmp j11 x1 : Int32)
    refine q_ti (v := a13) e14 ?_
    have b15 : q_F (-1 ≤ a13.toInt ∧ a13.toInt ≤ 1 ∧ ((a13.toInt = -1 ∧ j11.toInt < x1.toInt) ∨ (a13.toInt = 0 ∧ j11.toInt = x1.toInt) ∨ (a13.toInt = 1 ∧ x1.toInt < j11.toInt))) := (by rw [← e14]; show -1 ≤ (lg_cmp j11 x1 : Int32).toInt ∧ (lg_cmp j11 x1 : Int32).toInt ≤ 1 ∧ (((lg_cmp j11 x1 : Int32).toInt = -1 ∧ j11.toInt < x1.toInt) ∨ ((lg_cmp j11 x1 : Int32).toInt = 0 ∧ j11.toInt = x1.toInt) ∨ ((lg_cmp j11 x1 : Int32).toInt = 1 ∧ x1.toInt < j11.toInt)); exact s_lcmp)
    refine lv_if_eq (tgt := 27) hx hb d_29_49_19 (by decide) (fun c16 => ?_) (fun c16 => ?_)
    ·
      have b17 : q_F (a13.toInt = 0) := (q_eqI c16)
      refine lv_lload hx hb d_29_49_27 (lv_at hl 0 rfl) ?_
      exact q_retl C0 V (⟨rfl, (show j1 = (F_jMath_floorDiv_JJJ x1 x2) from (by have c8x := c8; rw [← e6, ← e4] at c8x; have c16x := c16; rw [← e14, ← e12, ← e2] at c16x; rw [← e2, F_jMath_floorDiv_JJJ.eq_1, if_neg c8x, if_pos c16x]))⟩) d_29_49_29
    ·
      have b18 : q_F (a13.toInt ≠ 0) := (q_neI c16)
      refine lv_lload hx hb d_29_49_22 (lv_at hl 0 rfl) ?_
      refine lv_lconst (v := 1) hx hb d_29_49_24 (by decide) ?_
      refine lv_lsub hx hb d_29_49_25 ?_
      obtain ⟨j19, e20⟩ := q_nm (j1 - 1 : Int64)
      refine q_tl (v := j19) e20 ?_
      exact q_retl C0 V (⟨rfl, (show j19 = (F_jMath_floorDiv_JJJ x1 x2) from (by have c8x := c8; rw [← e6, ← e4] at c8x; have c16x := c16; rw [← e14, ← e12, ← e2] at c16x; rw [← e20, ← e2, F_jMath_floorDiv_JJJ.eq_1, if_neg c8x, if_neg c16x]))⟩) d_29_49_26
def F_Flo_exponent (A : Int32) (B : Int32) (C : Int32) (x2 : Int64) : Int32 := ((((x2.toUInt64 >>> (A.toInt64.toUInt64 &&& Int64.toUInt64 63)).toInt64 : Int64).toInt32 : Int32) &&& C : Int32)
set_option maxRecDepth 100000 in
set_option maxHeartbeats 4000000 in
theorem X_Flo_exponent (l : Launch) (D : va_G) (g : Nat → ClassId) (q : Nat → Nat) (ws : va_W) (k1 : Nat) (A B C : Int32) (hB1 : q_isFlo (nsh g q) q k1 A B C) (x2 : Int64) (hI : q_I (nsh g q) q ws) : q_mI l y_Flo_exponent prog_7_method_2_code 3 (.int) 1 0 0 D g [.ref (q k1), .long x2] ws (fun r u => ws = u ∧ (0 ≤ r.toInt) ∧ (r.toInt ≤ C.toInt) ∧ r = (F_Flo_exponent A B C x2)) := by
  intro sz
  refine q_into (by decide) (Nat.le_of_ble_eq_true rfl) ?_
  intro p e s m below meth c ls hsz C0 V hl
  have hx := C0.1
  have hb := C0.2.1
  have hfk10 : q_F (23 ≤ A.toInt ∧ A.toInt ≤ 52) := hB1.2.1
  have hfk11 : q_F (150 ≤ B.toInt ∧ B.toInt ≤ 1075) := hB1.2.2.1
  have hfk12 : q_F (255 ≤ C.toInt ∧ C.toInt ≤ 2047) := hB1.2.2.2.1
  have hl : lv_has ls 3 [(0, .ref (q k1)), (1, .long x2)] := hl
  refine lv_lload_n hx hb d_7_2_0 rfl (lv_at hl 1 rfl) ?_
  refine lv_aload_n hx hb d_7_2_1 rfl (lv_at hl 0 rfl) ?_
  obtain ⟨y2, y3, y4, hO1⟩ := n_flO hI hB1
  refine q_get (ci := 6) (j := 0) (v := .int A) C0 V i_Flo rfl rfl hO1 (by decide) w_231 rfl d_7_2_2 ?_
  refine lv_lushr hx hb d_7_2_5 rfl ?_
  obtain ⟨j5, e6⟩ := q_nm ((x2.toUInt64 >>> (A.toInt64.toUInt64 &&& Int64.toUInt64 63)).toInt64 : Int64)
  refine q_tl (v := j5) e6 ?_
  refine lv_l2i hx hb d_7_2_6 rfl ?_
  obtain ⟨a7, e8⟩ := q_nm (j5.toInt32 : Int32)
  refine q_ti (v := a7) e8 ?_
  refine lv_aload_n hx hb d_7_2_7 rfl (lv_at hl 0 rfl) ?_
  refine q_get (ci := 6) (j := 2) (v := .int C) C0 V i_Flo rfl rfl hO1 (by decide) w_234 rfl d_7_2_8 ?_
  refine lv_iand hx hb d_7_2_11 ?_
  obtain ⟨a9, e10⟩ := q_nm (a7 &&& C : Int32)
  refine q_ti (v := a9) e10 ?_
  have b11 : q_F (0 ≤ a9.toInt ∧ a9.toInt ≤ C.toInt) := (by rw [← e10]; show 0 ≤ (a7 &&& C : Int32).toInt ∧ (a7 &&& C : Int32).toInt ≤ C.toInt; exact s_and (m := C) (by have t1 : 255 ≤ C.toInt ∧ C.toInt ≤ 2047 := hfk12; omega))
  exact q_reti C0 V (⟨rfl, (show 0 ≤ a9.toInt from (by have t1 : 0 ≤ a9.toInt ∧ a9.toInt ≤ C.toInt := b11; omega)), (show a9.toInt ≤ C.toInt from (by have t1 : 0 ≤ a9.toInt ∧ a9.toInt ≤ C.toInt := b11; omega)), (show a9 = (F_Flo_exponent A B C x2) from (by rw [← e10, ← e8, ← e6, F_Flo_exponent.eq_1]))⟩) d_7_2_12
def F_Flo_fraction (A : Int32) (B : Int32) (C : Int32) (x2 : Int64) : Int64 := (x2 &&& (((1 : Int64) <<< (A.toInt64 &&& 63) : Int64) - 1 : Int64) : Int64)
set_option maxRecDepth 100000 in
set_option maxHeartbeats 4000000 in
theorem X_Flo_fraction (l : Launch) (D : va_G) (g : Nat → ClassId) (q : Nat → Nat) (ws : va_W) (k1 : Nat) (A B C : Int32) (hB1 : q_isFlo (nsh g q) q k1 A B C) (x2 : Int64) (hI : q_I (nsh g q) q ws) : q_mL l y_Flo_fraction prog_7_method_3_code 3 1 0 0 D g [.ref (q k1), .long x2] ws (fun r u => ws = u ∧ r = (F_Flo_fraction A B C x2)) := by
  intro sz
  refine q_into (by decide) (Nat.le_of_ble_eq_true rfl) ?_
  intro p e s m below meth c ls hsz C0 V hl
  have hx := C0.1
  have hb := C0.2.1
  have hfk10 : q_F (23 ≤ A.toInt ∧ A.toInt ≤ 52) := hB1.2.1
  have hfk11 : q_F (150 ≤ B.toInt ∧ B.toInt ≤ 1075) := hB1.2.2.1
  have hfk12 : q_F (255 ≤ C.toInt ∧ C.toInt ≤ 2047) := hB1.2.2.2.1
  have hl : lv_has ls 3 [(0, .ref (q k1)), (1, .long x2)] := hl
  refine lv_lload_n hx hb d_7_3_0 rfl (lv_at hl 1 rfl) ?_
  refine lv_lconst (v := 1) hx hb d_7_3_1 (by decide) ?_
  refine lv_aload_n hx hb d_7_3_2 rfl (lv_at hl 0 rfl) ?_
  obtain ⟨y2, y3, y4, hO1⟩ := n_flO hI hB1
  refine q_get (ci := 6) (j := 0) (v := .int A) C0 V i_Flo rfl rfl hO1 (by decide) w_231 rfl d_7_3_3 ?_
  refine lv_lshl hx hb d_7_3_6 rfl ?_
  obtain ⟨j5, e6⟩ := q_nm ((1 : Int64) <<< (A.toInt64 &&& 63) : Int64)
  refine q_tl (v := j5) e6 ?_
  refine lv_lconst (v := 1) hx hb d_7_3_7 (by decide) ?_
  refine lv_lsub hx hb d_7_3_8 ?_
  obtain ⟨j7, e8⟩ := q_nm (j5 - 1 : Int64)
  refine q_tl (v := j7) e8 ?_
  refine lv_land hx hb d_7_3_9 ?_
  obtain ⟨j9, e10⟩ := q_nm (x2 &&& j7 : Int64)
  refine q_tl (v := j9) e10 ?_
  exact q_retl C0 V (⟨rfl, (show j9 = (F_Flo_fraction A B C x2) from (by rw [← e10, ← e8, ← e6, F_Flo_fraction.eq_1]))⟩) d_7_3_10
def F_Flo_signBit (A : Int32) (B : Int32) (C : Int32) (x2 : Int32) : Int64 := if x2 = (0 : Int32) then ((0 : Int64)) else ((((C.toInt64 : Int64) + 1 : Int64) <<< (A.toInt64 &&& 63) : Int64))
set_option maxRecDepth 100000 in
set_option maxHeartbeats 4000000 in
theorem X_Flo_signBit (l : Launch) (D : va_G) (g : Nat → ClassId) (q : Nat → Nat) (ws : va_W) (k1 : Nat) (A B C : Int32) (hB1 : q_isFlo (nsh g q) q k1 A B C) (x2 : Int32) (hI : q_I (nsh g q) q ws) (hzx2 : 0 ≤ x2.toInt ∧ x2.toInt ≤ 1) : q_mL l y_Flo_signBit prog_7_method_8_code 2 1 0 0 D g [.ref (q k1), .int x2] ws (fun r u => ws = u ∧ r = (F_Flo_signBit A B C x2)) := by
  intro sz
  refine q_into (by decide) (Nat.le_of_ble_eq_true rfl) ?_
  intro p e s m below meth c ls hsz C0 V hl
  have hx := C0.1
  have hb := C0.2.1
  have hfk10 : q_F (23 ≤ A.toInt ∧ A.toInt ≤ 52) := hB1.2.1
  have hfk11 : q_F (150 ≤ B.toInt ∧ B.toInt ≤ 1075) := hB1.2.2.1
  have hfk12 : q_F (255 ≤ C.toInt ∧ C.toInt ≤ 2047) := hB1.2.2.2.1
  replace hzx2 : q_F (0 ≤ x2.toInt ∧ x2.toInt ≤ 1) := hzx2
  have hl : lv_has ls 2 [(0, .ref (q k1)), (1, .int x2)] := hl
  refine lv_iload_n hx hb d_7_8_0 rfl (lv_at hl 1 rfl) ?_
  refine lv_if_eq (tgt := 19) hx hb d_7_8_1 (by decide) (fun c1 => ?_) (fun c1 => ?_)
  ·
    have b2 : q_F (x2.toInt = 0) := (q_eqI c1)
    refine lv_lconst (v := 0) hx hb d_7_8_19 (by decide) ?_
    exact q_retl C0 V (⟨rfl, (show (0 : Int64) = (F_Flo_signBit A B C x2) from (by rw [F_Flo_signBit.eq_1, if_pos c1]))⟩) d_7_8_20
  ·
    have b3 : q_F (x2.toInt ≠ 0) := (q_neI c1)
    refine lv_aload_n hx hb d_7_8_4 rfl (lv_at hl 0 rfl) ?_
    obtain ⟨y5, y6, y7, hO4⟩ := n_flO hI hB1
    refine q_get (ci := 6) (j := 2) (v := .int C) C0 V i_Flo rfl rfl hO4 (by decide) w_234 rfl d_7_8_5 ?_
    refine lv_i2l hx hb d_7_8_8 rfl ?_
    obtain ⟨j8, e9⟩ := q_nm (C.toInt64 : Int64)
    refine q_tl (v := j8) e9 ?_
    have b10 : q_F (j8.toInt = C.toInt) := (by rw [← e9]; show (C.toInt64 : Int64).toInt = C.toInt; exact q_i2l rfl)
    refine lv_lconst (v := 1) hx hb d_7_8_9 (by decide) ?_
    refine lv_ladd hx hb d_7_8_10 ?_
    obtain ⟨j11, e12⟩ := q_nm (j8 + 1 : Int64)
    refine q_tl (v := j11) e12 ?_
    have b13 : q_F (j11.toInt = j8.toInt + 1) := (by rw [← e12]; show (j8 + 1 : Int64).toInt = j8.toInt + 1; exact q_addL (x := j8.toInt) (y := 1) rfl (by decide) (by have t1 : j8.toInt = C.toInt := b10; have _ := q_lo32 (x := C); have _ := q_hi32 (x := C); omega) (by have t1 : j8.toInt = C.toInt := b10; have _ := q_lo32 (x := C); have _ := q_hi32 (x := C); omega))
    refine lv_aload_n hx hb d_7_8_11 rfl (lv_at hl 0 rfl) ?_
    refine q_get (ci := 6) (j := 0) (v := .int A) C0 V i_Flo rfl rfl hO4 (by decide) w_231 rfl d_7_8_12 ?_
    refine lv_lshl hx hb d_7_8_15 rfl ?_
    obtain ⟨j14, e15⟩ := q_nm (j11 <<< (A.toInt64 &&& 63) : Int64)
    refine q_tl (v := j14) e15 ?_
    refine lv_goto (tgt := 20) hx hb d_7_8_16 (by decide) ?_
    exact q_retl C0 V (⟨rfl, (show j14 = (F_Flo_signBit A B C x2) from (by rw [← e15, ← e12, ← e9, F_Flo_signBit.eq_1, if_neg c1]))⟩) d_7_8_20
def F_Flo_isNegative (A : Int32) (B : Int32) (C : Int32) (x2 : Int64) : Int32 := if (lg_cmp (x2 &&& ((F_Flo_signBit A B C (1 : Int32)) : Int64) : Int64) 0 : Int32) = (0 : Int32) then ((0 : Int32)) else ((1 : Int32))
set_option maxRecDepth 100000 in
set_option maxHeartbeats 4000000 in
theorem X_Flo_isNegative (l : Launch) (D : va_G) (g : Nat → ClassId) (q : Nat → Nat) (ws : va_W) (k1 : Nat) (A B C : Int32) (hB1 : q_isFlo (nsh g q) q k1 A B C) (x2 : Int64) (hI : q_I (nsh g q) q ws) : q_mI l y_Flo_isNegative prog_7_method_4_code 3 (.boolean) 2 0 0 D g [.ref (q k1), .long x2] ws (fun r u => ws = u ∧ (0 ≤ r.toInt) ∧ (r.toInt ≤ 1) ∧ r = (F_Flo_isNegative A B C x2)) := by
  intro sz
  refine q_into (by decide) (Nat.le_of_ble_eq_true rfl) ?_
  intro p e s m below meth c ls hsz C0 V hl
  have hx := C0.1
  have hb := C0.2.1
  have hfk10 : q_F (23 ≤ A.toInt ∧ A.toInt ≤ 52) := hB1.2.1
  have hfk11 : q_F (150 ≤ B.toInt ∧ B.toInt ≤ 1075) := hB1.2.2.1
  have hfk12 : q_F (255 ≤ C.toInt ∧ C.toInt ≤ 2047) := hB1.2.2.2.1
  have hl : lv_has ls 3 [(0, .ref (q k1)), (1, .long x2)] := hl
  refine lv_lload_n hx hb d_7_4_0 rfl (lv_at hl 1 rfl) ?_
  refine lv_aload_n hx hb d_7_4_1 rfl (lv_at hl 0 rfl) ?_
  refine lv_iconst (v := 1) hx hb d_7_4_2 (by decide) ?_
  obtain ⟨y2, y3, y4, hO1⟩ := n_flO hI hB1
  refine q_gol V (q_runV (As := [.int 1]) (rest := [.long x2]) (d := 1) (mc := 0) (ms := 0) (ci := 6) C0 V rfl LV_Flo_23 (X_Flo_signBit l D g q ws k1 A B C hB1 1 hI  ⟨(by have y0 : (1 : Int32).toInt = 1 := rfl; omega), (by have y0 : (1 : Int32).toInt = 1 := rfl; omega)⟩ _) rfl rfl hO1 rfl hl.1 rfl (Nat.le_of_ble_eq_true rfl) ⟨by decide, by decide⟩ ⟨Nat.le_of_ble_eq_true rfl, Nat.le_of_ble_eq_true rfl⟩ d_7_4_3) (fun j7 u5 H locs hp6 V => ?_)
  obtain ⟨rfl, hE8⟩ := hp6
  have e9 : j7 = (F_Flo_signBit A B C (1 : Int32)) := hE8
  refine lv_land hx hb d_7_4_6 ?_
  obtain ⟨j10, e11⟩ := q_nm (x2 &&& j7 : Int64)
  refine q_tl (v := j10) e11 ?_
  refine lv_lconst (v := 0) hx hb d_7_4_7 (by decide) ?_
  refine W.lcmp hx hb d_7_4_8 ?_
  obtain ⟨a12, e13⟩ := q_nm (lg_cmp j10 0 : Int32)
  refine q_ti (v := a12) e13 ?_
  have b14 : q_F (-1 ≤ a12.toInt ∧ a12.toInt ≤ 1 ∧ ((a12.toInt = -1 ∧ j10.toInt < 0) ∨ (a12.toInt = 0 ∧ j10.toInt = 0) ∨ (a12.toInt = 1 ∧ 0 < j10.toInt))) := (by rw [← e13]; show -1 ≤ (lg_cmp j10 0 : Int32).toInt ∧ (lg_cmp j10 0 : Int32).toInt ≤ 1 ∧ (((lg_cmp j10 0 : Int32).toInt = -1 ∧ j10.toInt < 0) ∨ ((lg_cmp j10 0 : Int32).toInt = 0 ∧ j10.toInt = 0) ∨ ((lg_cmp j10 0 : Int32).toInt = 1 ∧ 0 < j10.toInt)); exact (by have y1 : (0 : Int64).toInt = 0 := rfl; have z := s_lcmp (a := j10) (b := 0); omega))
  refine lv_if_eq (tgt := 16) hx hb d_7_4_9 (by decide) (fun c15 => ?_) (fun c15 => ?_)
  ·
    have b16 : q_F (a12.toInt = 0) := (q_eqI c15)
    refine lv_iconst (v := 0) hx hb d_7_4_16 (by decide) ?_
    exact q_retz C0 V (by decide) (⟨rfl, (show 0 ≤ (0 : Int32).toInt from (by have z4 : (0 : Int32).toInt = 0 := rfl; omega)), (show (0 : Int32).toInt ≤ 1 from (by have z4 : (0 : Int32).toInt = 0 := rfl; omega)), (show (0 : Int32) = (F_Flo_isNegative A B C x2) from (by have c15x := c15; rw [← e13, ← e11, e9] at c15x; rw [F_Flo_isNegative.eq_1, if_pos c15x]))⟩) d_7_4_17
  ·
    have b17 : q_F (a12.toInt ≠ 0) := (q_neI c15)
    refine lv_iconst (v := 1) hx hb d_7_4_12 (by decide) ?_
    refine lv_goto (tgt := 17) hx hb d_7_4_13 (by decide) ?_
    exact q_retz C0 V (by decide) (⟨rfl, (show 0 ≤ (1 : Int32).toInt from (by have z4 : (1 : Int32).toInt = 1 := rfl; omega)), (show (1 : Int32).toInt ≤ 1 from (by have z4 : (1 : Int32).toInt = 1 := rfl; omega)), (show (1 : Int32) = (F_Flo_isNegative A B C x2) from (by have c15x := c15; rw [← e13, ← e11, e9] at c15x; rw [F_Flo_isNegative.eq_1, if_neg c15x]))⟩) d_7_4_17
def F_Flo_isFinite (A : Int32) (B : Int32) (C : Int32) (x2 : Int64) : Int32 := if ((F_Flo_exponent A B C x2) : Int32) = C then ((0 : Int32)) else ((1 : Int32))
set_option maxRecDepth 100000 in
set_option maxHeartbeats 4000000 in
theorem X_Flo_isFinite (l : Launch) (D : va_G) (g : Nat → ClassId) (q : Nat → Nat) (ws : va_W) (k1 : Nat) (A B C : Int32) (hB1 : q_isFlo (nsh g q) q k1 A B C) (x2 : Int64) (hI : q_I (nsh g q) q ws) : q_mI l y_Flo_isFinite prog_7_method_5_code 3 (.boolean) 2 0 0 D g [.ref (q k1), .long x2] ws (fun r u => ws = u ∧ (0 ≤ r.toInt) ∧ (r.toInt ≤ 1) ∧ r = (F_Flo_isFinite A B C x2)) := by
  intro sz
  refine q_into (by decide) (Nat.le_of_ble_eq_true rfl) ?_
  intro p e s m below meth c ls hsz C0 V hl
  have hx := C0.1
  have hb := C0.2.1
  have hfk10 : q_F (23 ≤ A.toInt ∧ A.toInt ≤ 52) := hB1.2.1
  have hfk11 : q_F (150 ≤ B.toInt ∧ B.toInt ≤ 1075) := hB1.2.2.1
  have hfk12 : q_F (255 ≤ C.toInt ∧ C.toInt ≤ 2047) := hB1.2.2.2.1
  have hl : lv_has ls 3 [(0, .ref (q k1)), (1, .long x2)] := hl
  refine lv_aload_n hx hb d_7_5_0 rfl (lv_at hl 0 rfl) ?_
  refine lv_lload_n hx hb d_7_5_1 rfl (lv_at hl 1 rfl) ?_
  obtain ⟨y2, y3, y4, hO1⟩ := n_flO hI hB1
  refine q_goi V (q_runV (As := [.long x2]) (rest := []) (d := 1) (mc := 0) (ms := 0) (ci := 6) C0 V rfl LV_Flo_27 (X_Flo_exponent l D g q ws k1 A B C hB1 x2 hI   _) rfl rfl hO1 rfl hl.1 rfl (Nat.le_of_ble_eq_true rfl) ⟨by decide, by decide⟩ ⟨Nat.le_of_ble_eq_true rfl, Nat.le_of_ble_eq_true rfl⟩ d_7_5_2) (fun a7 u5 H locs hp6 V => ?_)
  obtain ⟨rfl, b8, b9, hE10⟩ := hp6
  have e11 : a7 = (F_Flo_exponent A B C x2) := hE10
  replace b8 : q_F (0 ≤ a7.toInt) := b8
  replace b9 : q_F (a7.toInt ≤ C.toInt) := b9
  refine lv_aload_n hx hb d_7_5_5 rfl (lv_at hl 0 rfl) ?_
  refine q_get (ci := 6) (j := 2) (v := .int C) C0 V i_Flo rfl rfl hO1 (by decide) w_234 rfl d_7_5_6 ?_
  refine lv_icmp_eq (tgt := 16) hx hb d_7_5_9 (by decide) (fun c12 => ?_) (fun c12 => ?_)
  ·
    have b13 : q_F (a7.toInt = C.toInt) := (q_eqI c12)
    refine lv_iconst (v := 0) hx hb d_7_5_16 (by decide) ?_
    exact q_retz C0 V (by decide) (⟨rfl, (show 0 ≤ (0 : Int32).toInt from (by have z4 : (0 : Int32).toInt = 0 := rfl; omega)), (show (0 : Int32).toInt ≤ 1 from (by have z4 : (0 : Int32).toInt = 0 := rfl; omega)), (show (0 : Int32) = (F_Flo_isFinite A B C x2) from (by have c12x := c12; rw [e11] at c12x; rw [F_Flo_isFinite.eq_1, if_pos c12x]))⟩) d_7_5_17
  ·
    have b14 : q_F (a7.toInt ≠ C.toInt) := (q_neI c12)
    refine lv_iconst (v := 1) hx hb d_7_5_12 (by decide) ?_
    refine lv_goto (tgt := 17) hx hb d_7_5_13 (by decide) ?_
    exact q_retz C0 V (by decide) (⟨rfl, (show 0 ≤ (1 : Int32).toInt from (by have z4 : (1 : Int32).toInt = 1 := rfl; omega)), (show (1 : Int32).toInt ≤ 1 from (by have z4 : (1 : Int32).toInt = 1 := rfl; omega)), (show (1 : Int32) = (F_Flo_isFinite A B C x2) from (by have c12x := c12; rw [e11] at c12x; rw [F_Flo_isFinite.eq_1, if_neg c12x]))⟩) d_7_5_17
def F_Flo_isNoNumber (A : Int32) (B : Int32) (C : Int32) (x2 : Int64) : Int32 := if ((F_Flo_isFinite A B C x2) : Int32) = (0 : Int32) then (if (lg_cmp ((F_Flo_fraction A B C x2) : Int64) 0 : Int32) = (0 : Int32) then ((0 : Int32)) else ((1 : Int32))) else ((0 : Int32))
set_option maxRecDepth 100000 in
set_option maxHeartbeats 4000000 in
theorem X_Flo_isNoNumber (l : Launch) (D : va_G) (g : Nat → ClassId) (q : Nat → Nat) (ws : va_W) (k1 : Nat) (A B C : Int32) (hB1 : q_isFlo (nsh g q) q k1 A B C) (x2 : Int64) (hI : q_I (nsh g q) q ws) : q_mI l y_Flo_isNoNumber prog_7_method_6_code 3 (.boolean) 3 0 0 D g [.ref (q k1), .long x2] ws (fun r u => ws = u ∧ (0 ≤ r.toInt) ∧ (r.toInt ≤ 1) ∧ r = (F_Flo_isNoNumber A B C x2)) := by
  intro sz
  refine q_into (by decide) (Nat.le_of_ble_eq_true rfl) ?_
  intro p e s m below meth c ls hsz C0 V hl
  have hx := C0.1
  have hb := C0.2.1
  have hfk10 : q_F (23 ≤ A.toInt ∧ A.toInt ≤ 52) := hB1.2.1
  have hfk11 : q_F (150 ≤ B.toInt ∧ B.toInt ≤ 1075) := hB1.2.2.1
  have hfk12 : q_F (255 ≤ C.toInt ∧ C.toInt ≤ 2047) := hB1.2.2.2.1
  have hl : lv_has ls 3 [(0, .ref (q k1)), (1, .long x2)] := hl
  refine lv_aload_n hx hb d_7_6_0 rfl (lv_at hl 0 rfl) ?_
  refine lv_lload_n hx hb d_7_6_1 rfl (lv_at hl 1 rfl) ?_
  obtain ⟨y2, y3, y4, hO1⟩ := n_flO hI hB1
  refine q_goi V (q_runV (As := [.long x2]) (rest := []) (d := 2) (mc := 0) (ms := 0) (ci := 6) C0 V rfl LV_Flo_31 (X_Flo_isFinite l D g q ws k1 A B C hB1 x2 hI   _) rfl rfl hO1 rfl hl.1 rfl (Nat.le_of_ble_eq_true rfl) ⟨by decide, by decide⟩ ⟨Nat.le_of_ble_eq_true rfl, Nat.le_of_ble_eq_true rfl⟩ d_7_6_2) (fun a7 u5 H locs hp6 V => ?_)
  obtain ⟨rfl, b8, b9, hE10⟩ := hp6
  have e11 : a7 = (F_Flo_isFinite A B C x2) := hE10
  replace b8 : q_F (0 ≤ a7.toInt) := b8
  replace b9 : q_F (a7.toInt ≤ 1) := b9
  refine lv_if_ne (tgt := 22) hx hb d_7_6_5 (by decide) (fun c12 => ?_) (fun c12 => ?_)
  ·
    have b13 : q_F (a7.toInt ≠ 0) := (q_neI c12)
    refine lv_iconst (v := 0) hx hb d_7_6_22 (by decide) ?_
    exact q_retz C0 V (by decide) (⟨rfl, (show 0 ≤ (0 : Int32).toInt from (by have z4 : (0 : Int32).toInt = 0 := rfl; omega)), (show (0 : Int32).toInt ≤ 1 from (by have z4 : (0 : Int32).toInt = 0 := rfl; omega)), (show (0 : Int32) = (F_Flo_isNoNumber A B C x2) from (by have c12x := c12; rw [e11] at c12x; rw [F_Flo_isNoNumber.eq_1, if_neg c12x]))⟩) d_7_6_23
  ·
    have b14 : q_F (a7.toInt = 0) := (q_eqI c12)
    refine lv_aload_n hx hb d_7_6_8 rfl (lv_at hl 0 rfl) ?_
    refine lv_lload_n hx hb d_7_6_9 rfl (lv_at hl 1 rfl) ?_
    refine q_gol V (q_runV (As := [.long x2]) (rest := []) (d := 1) (mc := 0) (ms := 0) (ci := 6) C0 V rfl LV_Flo_35 (X_Flo_fraction l D g q ws k1 A B C hB1 x2 hI   _) rfl rfl hO1 rfl hl.1 rfl (Nat.le_of_ble_eq_true rfl) ⟨by decide, by decide⟩ ⟨Nat.le_of_ble_eq_true rfl, Nat.le_of_ble_eq_true rfl⟩ d_7_6_10) (fun j17 u15 H locs hp16 V => ?_)
    obtain ⟨rfl, hE18⟩ := hp16
    have e19 : j17 = (F_Flo_fraction A B C x2) := hE18
    refine lv_lconst (v := 0) hx hb d_7_6_13 (by decide) ?_
    refine W.lcmp hx hb d_7_6_14 ?_
    obtain ⟨a20, e21⟩ := q_nm (lg_cmp j17 0 : Int32)
    refine q_ti (v := a20) e21 ?_
    have b22 : q_F (-1 ≤ a20.toInt ∧ a20.toInt ≤ 1 ∧ ((a20.toInt = -1 ∧ j17.toInt < 0) ∨ (a20.toInt = 0 ∧ j17.toInt = 0) ∨ (a20.toInt = 1 ∧ 0 < j17.toInt))) := (by rw [← e21]; show -1 ≤ (lg_cmp j17 0 : Int32).toInt ∧ (lg_cmp j17 0 : Int32).toInt ≤ 1 ∧ (((lg_cmp j17 0 : Int32).toInt = -1 ∧ j17.toInt < 0) ∨ ((lg_cmp j17 0 : Int32).toInt = 0 ∧ j17.toInt = 0) ∨ ((lg_cmp j17 0 : Int32).toInt = 1 ∧ 0 < j17.toInt)); exact (by have y1 : (0 : Int64).toInt = 0 := rfl; have z := s_lcmp (a := j17) (b := 0); omega))
    refine lv_if_eq (tgt := 22) hx hb d_7_6_15 (by decide) (fun c23 => ?_) (fun c23 => ?_)
    ·
      have b24 : q_F (a20.toInt = 0) := (q_eqI c23)
      refine lv_iconst (v := 0) hx hb d_7_6_22 (by decide) ?_
      exact q_retz C0 V (by decide) (⟨rfl, (show 0 ≤ (0 : Int32).toInt from (by have z4 : (0 : Int32).toInt = 0 := rfl; omega)), (show (0 : Int32).toInt ≤ 1 from (by have z4 : (0 : Int32).toInt = 0 := rfl; omega)), (show (0 : Int32) = (F_Flo_isNoNumber A B C x2) from (by have c12x := c12; rw [e11] at c12x; have c23x := c23; rw [← e21, e19] at c23x; rw [F_Flo_isNoNumber.eq_1, if_pos c12x, if_pos c23x]))⟩) d_7_6_23
    ·
      have b25 : q_F (a20.toInt ≠ 0) := (q_neI c23)
      refine lv_iconst (v := 1) hx hb d_7_6_18 (by decide) ?_
      refine lv_goto (tgt := 23) hx hb d_7_6_19 (by decide) ?_
      exact q_retz C0 V (by decide) (⟨rfl, (show 0 ≤ (1 : Int32).toInt from (by have z4 : (1 : Int32).toInt = 1 := rfl; omega)), (show (1 : Int32).toInt ≤ 1 from (by have z4 : (1 : Int32).toInt = 1 := rfl; omega)), (show (1 : Int32) = (F_Flo_isNoNumber A B C x2) from (by have c12x := c12; rw [e11] at c12x; have c23x := c23; rw [← e21, e19] at c23x; rw [F_Flo_isNoNumber.eq_1, if_pos c12x, if_neg c23x]))⟩) d_7_6_23
def F_Flo_isZero (A : Int32) (B : Int32) (C : Int32) (x2 : Int64) : Int32 := if ((F_Flo_exponent A B C x2) : Int32) = (0 : Int32) then (if (lg_cmp ((F_Flo_fraction A B C x2) : Int64) 0 : Int32) = (0 : Int32) then ((1 : Int32)) else ((0 : Int32))) else ((0 : Int32))
set_option maxRecDepth 100000 in
set_option maxHeartbeats 4000000 in
theorem X_Flo_isZero (l : Launch) (D : va_G) (g : Nat → ClassId) (q : Nat → Nat) (ws : va_W) (k1 : Nat) (A B C : Int32) (hB1 : q_isFlo (nsh g q) q k1 A B C) (x2 : Int64) (hI : q_I (nsh g q) q ws) : q_mI l y_Flo_isZero prog_7_method_7_code 3 (.boolean) 2 0 0 D g [.ref (q k1), .long x2] ws (fun r u => ws = u ∧ (0 ≤ r.toInt) ∧ (r.toInt ≤ 1) ∧ r = (F_Flo_isZero A B C x2)) := by
  intro sz
  refine q_into (by decide) (Nat.le_of_ble_eq_true rfl) ?_
  intro p e s m below meth c ls hsz C0 V hl
  have hx := C0.1
  have hb := C0.2.1
  have hfk10 : q_F (23 ≤ A.toInt ∧ A.toInt ≤ 52) := hB1.2.1
  have hfk11 : q_F (150 ≤ B.toInt ∧ B.toInt ≤ 1075) := hB1.2.2.1
  have hfk12 : q_F (255 ≤ C.toInt ∧ C.toInt ≤ 2047) := hB1.2.2.2.1
  have hl : lv_has ls 3 [(0, .ref (q k1)), (1, .long x2)] := hl
  refine lv_aload_n hx hb d_7_7_0 rfl (lv_at hl 0 rfl) ?_
  refine lv_lload_n hx hb d_7_7_1 rfl (lv_at hl 1 rfl) ?_
  obtain ⟨y2, y3, y4, hO1⟩ := n_flO hI hB1
  refine q_goi V (q_runV (As := [.long x2]) (rest := []) (d := 1) (mc := 0) (ms := 0) (ci := 6) C0 V rfl LV_Flo_27 (X_Flo_exponent l D g q ws k1 A B C hB1 x2 hI   _) rfl rfl hO1 rfl hl.1 rfl (Nat.le_of_ble_eq_true rfl) ⟨by decide, by decide⟩ ⟨Nat.le_of_ble_eq_true rfl, Nat.le_of_ble_eq_true rfl⟩ d_7_7_2) (fun a7 u5 H locs hp6 V => ?_)
  obtain ⟨rfl, b8, b9, hE10⟩ := hp6
  have e11 : a7 = (F_Flo_exponent A B C x2) := hE10
  replace b8 : q_F (0 ≤ a7.toInt) := b8
  replace b9 : q_F (a7.toInt ≤ C.toInt) := b9
  refine lv_if_ne (tgt := 22) hx hb d_7_7_5 (by decide) (fun c12 => ?_) (fun c12 => ?_)
  ·
    have b13 : q_F (a7.toInt ≠ 0) := (q_neI c12)
    refine lv_iconst (v := 0) hx hb d_7_7_22 (by decide) ?_
    exact q_retz C0 V (by decide) (⟨rfl, (show 0 ≤ (0 : Int32).toInt from (by have z4 : (0 : Int32).toInt = 0 := rfl; omega)), (show (0 : Int32).toInt ≤ 1 from (by have z4 : (0 : Int32).toInt = 0 := rfl; omega)), (show (0 : Int32) = (F_Flo_isZero A B C x2) from (by have c12x := c12; rw [e11] at c12x; rw [F_Flo_isZero.eq_1, if_neg c12x]))⟩) d_7_7_23
  ·
    have b14 : q_F (a7.toInt = 0) := (q_eqI c12)
    refine lv_aload_n hx hb d_7_7_8 rfl (lv_at hl 0 rfl) ?_
    refine lv_lload_n hx hb d_7_7_9 rfl (lv_at hl 1 rfl) ?_
    refine q_gol V (q_runV (As := [.long x2]) (rest := []) (d := 1) (mc := 0) (ms := 0) (ci := 6) C0 V rfl LV_Flo_35 (X_Flo_fraction l D g q ws k1 A B C hB1 x2 hI   _) rfl rfl hO1 rfl hl.1 rfl (Nat.le_of_ble_eq_true rfl) ⟨by decide, by decide⟩ ⟨Nat.le_of_ble_eq_true rfl, Nat.le_of_ble_eq_true rfl⟩ d_7_7_10) (fun j17 u15 H locs hp16 V => ?_)
    obtain ⟨rfl, hE18⟩ := hp16
    have e19 : j17 = (F_Flo_fraction A B C x2) := hE18
    refine lv_lconst (v := 0) hx hb d_7_7_13 (by decide) ?_
    refine W.lcmp hx hb d_7_7_14 ?_
    obtain ⟨a20, e21⟩ := q_nm (lg_cmp j17 0 : Int32)
    refine q_ti (v := a20) e21 ?_
    have b22 : q_F (-1 ≤ a20.toInt ∧ a20.toInt ≤ 1 ∧ ((a20.toInt = -1 ∧ j17.toInt < 0) ∨ (a20.toInt = 0 ∧ j17.toInt = 0) ∨ (a20.toInt = 1 ∧ 0 < j17.toInt))) := (by rw [← e21]; show -1 ≤ (lg_cmp j17 0 : Int32).toInt ∧ (lg_cmp j17 0 : Int32).toInt ≤ 1 ∧ (((lg_cmp j17 0 : Int32).toInt = -1 ∧ j17.toInt < 0) ∨ ((lg_cmp j17 0 : Int32).toInt = 0 ∧ j17.toInt = 0) ∨ ((lg_cmp j17 0 : Int32).toInt = 1 ∧ 0 < j17.toInt)); exact (by have y1 : (0 : Int64).toInt = 0 := rfl; have z := s_lcmp (a := j17) (b := 0); omega))
    refine lv_if_ne (tgt := 22) hx hb d_7_7_15 (by decide) (fun c23 => ?_) (fun c23 => ?_)
    ·
      have b24 : q_F (a20.toInt ≠ 0) := (q_neI c23)
      refine lv_iconst (v := 0) hx hb d_7_7_22 (by decide) ?_
      exact q_retz C0 V (by decide) (⟨rfl, (show 0 ≤ (0 : Int32).toInt from (by have z4 : (0 : Int32).toInt = 0 := rfl; omega)), (show (0 : Int32).toInt ≤ 1 from (by have z4 : (0 : Int32).toInt = 0 := rfl; omega)), (show (0 : Int32) = (F_Flo_isZero A B C x2) from (by have c12x := c12; rw [e11] at c12x; have c23x := c23; rw [← e21, e19] at c23x; rw [F_Flo_isZero.eq_1, if_pos c12x, if_neg c23x]))⟩) d_7_7_23
    ·
      have b25 : q_F (a20.toInt = 0) := (q_eqI c23)
      refine lv_iconst (v := 1) hx hb d_7_7_18 (by decide) ?_
      refine lv_goto (tgt := 23) hx hb d_7_7_19 (by decide) ?_
      exact q_retz C0 V (by decide) (⟨rfl, (show 0 ≤ (1 : Int32).toInt from (by have z4 : (1 : Int32).toInt = 1 := rfl; omega)), (show (1 : Int32).toInt ≤ 1 from (by have z4 : (1 : Int32).toInt = 1 := rfl; omega)), (show (1 : Int32) = (F_Flo_isZero A B C x2) from (by have c12x := c12; rw [e11] at c12x; have c23x := c23; rw [← e21, e19] at c23x; rw [F_Flo_isZero.eq_1, if_pos c12x, if_pos c23x]))⟩) d_7_7_23
def F_Flo_infinity (A : Int32) (B : Int32) (C : Int32) : Int64 := ((C.toInt64 : Int64) <<< (A.toInt64 &&& 63) : Int64)
set_option maxRecDepth 100000 in
set_option maxHeartbeats 4000000 in
theorem X_Flo_infinity (l : Launch) (D : va_G) (g : Nat → ClassId) (q : Nat → Nat) (ws : va_W) (k1 : Nat) (A B C : Int32) (hB1 : q_isFlo (nsh g q) q k1 A B C) (hI : q_I (nsh g q) q ws) : q_mL l y_Flo_infinity prog_7_method_9_code 1 1 0 0 D g [.ref (q k1)] ws (fun r u => ws = u ∧ r = (F_Flo_infinity A B C)) := by
  intro sz
  refine q_into (by decide) (Nat.le_of_ble_eq_true rfl) ?_
  intro p e s m below meth c ls hsz C0 V hl
  have hx := C0.1
  have hb := C0.2.1
  have hfk10 : q_F (23 ≤ A.toInt ∧ A.toInt ≤ 52) := hB1.2.1
  have hfk11 : q_F (150 ≤ B.toInt ∧ B.toInt ≤ 1075) := hB1.2.2.1
  have hfk12 : q_F (255 ≤ C.toInt ∧ C.toInt ≤ 2047) := hB1.2.2.2.1
  have hl : lv_has ls 1 [(0, .ref (q k1))] := hl
  refine lv_aload_n hx hb d_7_9_0 rfl (lv_at hl 0 rfl) ?_
  obtain ⟨y2, y3, y4, hO1⟩ := n_flO hI hB1
  refine q_get (ci := 6) (j := 2) (v := .int C) C0 V i_Flo rfl rfl hO1 (by decide) w_234 rfl d_7_9_1 ?_
  refine lv_i2l hx hb d_7_9_4 rfl ?_
  obtain ⟨j5, e6⟩ := q_nm (C.toInt64 : Int64)
  refine q_tl (v := j5) e6 ?_
  have b7 : q_F (j5.toInt = C.toInt) := (by rw [← e6]; show (C.toInt64 : Int64).toInt = C.toInt; exact q_i2l rfl)
  refine lv_aload_n hx hb d_7_9_5 rfl (lv_at hl 0 rfl) ?_
  refine q_get (ci := 6) (j := 0) (v := .int A) C0 V i_Flo rfl rfl hO1 (by decide) w_231 rfl d_7_9_6 ?_
  refine lv_lshl hx hb d_7_9_9 rfl ?_
  obtain ⟨j8, e9⟩ := q_nm (j5 <<< (A.toInt64 &&& 63) : Int64)
  refine q_tl (v := j8) e9 ?_
  exact q_retl C0 V (⟨rfl, (show j8 = (F_Flo_infinity A B C) from (by rw [← e9, ← e6, F_Flo_infinity.eq_1]))⟩) d_7_9_10
def F_Flo_noNumber (A : Int32) (B : Int32) (C : Int32) : Int64 := (((F_Flo_infinity A B C) : Int64) ||| ((1 : Int64) <<< ((A - 1 : Int32).toInt64 &&& 63) : Int64) : Int64)
set_option maxRecDepth 100000 in
set_option maxHeartbeats 4000000 in
theorem X_Flo_noNumber (l : Launch) (D : va_G) (g : Nat → ClassId) (q : Nat → Nat) (ws : va_W) (k1 : Nat) (A B C : Int32) (hB1 : q_isFlo (nsh g q) q k1 A B C) (hI : q_I (nsh g q) q ws) : q_mL l y_Flo_noNumber prog_7_method_10_code 1 2 0 0 D g [.ref (q k1)] ws (fun r u => ws = u ∧ r = (F_Flo_noNumber A B C)) := by
  intro sz
  refine q_into (by decide) (Nat.le_of_ble_eq_true rfl) ?_
  intro p e s m below meth c ls hsz C0 V hl
  have hx := C0.1
  have hb := C0.2.1
  have hfk10 : q_F (23 ≤ A.toInt ∧ A.toInt ≤ 52) := hB1.2.1
  have hfk11 : q_F (150 ≤ B.toInt ∧ B.toInt ≤ 1075) := hB1.2.2.1
  have hfk12 : q_F (255 ≤ C.toInt ∧ C.toInt ≤ 2047) := hB1.2.2.2.1
  have hl : lv_has ls 1 [(0, .ref (q k1))] := hl
  refine lv_aload_n hx hb d_7_10_0 rfl (lv_at hl 0 rfl) ?_
  obtain ⟨y2, y3, y4, hO1⟩ := n_flO hI hB1
  refine q_gol V (q_runV (As := []) (rest := []) (d := 1) (mc := 0) (ms := 0) (ci := 6) C0 V rfl LV_Flo_39 (X_Flo_infinity l D g q ws k1 A B C hB1  hI   _) rfl rfl hO1 rfl hl.1 rfl (Nat.le_of_ble_eq_true rfl) ⟨by decide, by decide⟩ ⟨Nat.le_of_ble_eq_true rfl, Nat.le_of_ble_eq_true rfl⟩ d_7_10_1) (fun j7 u5 H locs hp6 V => ?_)
  obtain ⟨rfl, hE8⟩ := hp6
  have e9 : j7 = (F_Flo_infinity A B C) := hE8
  refine lv_lconst (v := 1) hx hb d_7_10_4 (by decide) ?_
  refine lv_aload_n hx hb d_7_10_5 rfl (lv_at hl 0 rfl) ?_
  refine q_get (ci := 6) (j := 0) (v := .int A) C0 V i_Flo rfl rfl hO1 (by decide) w_231 rfl d_7_10_6 ?_
  refine lv_iconst (v := 1) hx hb d_7_10_9 (by decide) ?_
  refine lv_isub hx hb d_7_10_10 ?_
  obtain ⟨a10, e11⟩ := q_nm (A - 1 : Int32)
  refine q_ti (v := a10) e11 ?_
  have b12 : q_F (a10.toInt = A.toInt - 1) := (by rw [← e11]; show (A - 1 : Int32).toInt = A.toInt - 1; exact q_subI (x := A.toInt) (y := 1) rfl (by decide) (by have t1 : 23 ≤ A.toInt ∧ A.toInt ≤ 52 := hfk10; omega) (by have t1 : 23 ≤ A.toInt ∧ A.toInt ≤ 52 := hfk10; omega))
  refine lv_lshl hx hb d_7_10_11 rfl ?_
  obtain ⟨j13, e14⟩ := q_nm ((1 : Int64) <<< (a10.toInt64 &&& 63) : Int64)
  refine q_tl (v := j13) e14 ?_
  refine lv_lor hx hb d_7_10_12 ?_
  obtain ⟨j15, e16⟩ := q_nm (j7 ||| j13 : Int64)
  refine q_tl (v := j15) e16 ?_
  exact q_retl C0 V (⟨rfl, (show j15 = (F_Flo_noNumber A B C) from (by rw [← e16, ← e14, ← e11, e9, F_Flo_noNumber.eq_1]))⟩) d_7_10_13
def F_Flo_place (A : Int32) (B : Int32) (C : Int32) (x2 : Int64) : Int64 := if ((F_Flo_isNegative A B C x2) : Int32) = (0 : Int32) then ((x2 &&& (((F_Flo_signBit A B C (1 : Int32)) : Int64) - 1 : Int64) : Int64)) else ((-(x2 &&& (((F_Flo_signBit A B C (1 : Int32)) : Int64) - 1 : Int64) : Int64) : Int64))
set_option maxRecDepth 100000 in
set_option maxHeartbeats 4000000 in
theorem X_Flo_place (l : Launch) (D : va_G) (g : Nat → ClassId) (q : Nat → Nat) (ws : va_W) (k1 : Nat) (A B C : Int32) (hB1 : q_isFlo (nsh g q) q k1 A B C) (x2 : Int64) (hI : q_I (nsh g q) q ws) : q_mL l y_Flo_place prog_7_method_11_code 5 3 0 0 D g [.ref (q k1), .long x2] ws (fun r u => ws = u ∧ r = (F_Flo_place A B C x2)) := by
  intro sz
  refine q_into (by decide) (Nat.le_of_ble_eq_true rfl) ?_
  intro p e s m below meth c ls hsz C0 V hl
  have hx := C0.1
  have hb := C0.2.1
  have hfk10 : q_F (23 ≤ A.toInt ∧ A.toInt ≤ 52) := hB1.2.1
  have hfk11 : q_F (150 ≤ B.toInt ∧ B.toInt ≤ 1075) := hB1.2.2.1
  have hfk12 : q_F (255 ≤ C.toInt ∧ C.toInt ≤ 2047) := hB1.2.2.2.1
  have hl : lv_has ls 5 [(0, .ref (q k1)), (1, .long x2)] := hl
  refine lv_lload_n hx hb d_7_11_0 rfl (lv_at hl 1 rfl) ?_
  refine lv_aload_n hx hb d_7_11_1 rfl (lv_at hl 0 rfl) ?_
  refine lv_iconst (v := 1) hx hb d_7_11_2 (by decide) ?_
  obtain ⟨y2, y3, y4, hO1⟩ := n_flO hI hB1
  refine q_gol V (q_runV (As := [.int 1]) (rest := [.long x2]) (d := 1) (mc := 0) (ms := 0) (ci := 6) C0 V rfl LV_Flo_23 (X_Flo_signBit l D g q ws k1 A B C hB1 1 hI  ⟨(by have y0 : (1 : Int32).toInt = 1 := rfl; omega), (by have y0 : (1 : Int32).toInt = 1 := rfl; omega)⟩ _) rfl rfl hO1 rfl hl.1 rfl (Nat.le_of_ble_eq_true rfl) ⟨by decide, by decide⟩ ⟨Nat.le_of_ble_eq_true rfl, Nat.le_of_ble_eq_true rfl⟩ d_7_11_3) (fun j7 u5 H locs hp6 V => ?_)
  obtain ⟨rfl, hE8⟩ := hp6
  have e9 : j7 = (F_Flo_signBit A B C (1 : Int32)) := hE8
  refine lv_lconst (v := 1) hx hb d_7_11_6 (by decide) ?_
  refine lv_lsub hx hb d_7_11_7 ?_
  obtain ⟨j10, e11⟩ := q_nm (j7 - 1 : Int64)
  refine q_tl (v := j10) e11 ?_
  refine lv_land hx hb d_7_11_8 ?_
  obtain ⟨j12, e13⟩ := q_nm (x2 &&& j10 : Int64)
  refine q_tl (v := j12) e13 ?_
  refine lv_lstore_n (lv' := [(3, .long j12), (0, .ref (q k1)), (1, .long x2)]) hx hb d_7_11_9 rfl hl (by decide) rfl (fun ls hl => ?_)
  refine lv_aload_n hx hb d_7_11_10 rfl (lv_at hl 1 rfl) ?_
  refine lv_lload_n hx hb d_7_11_11 rfl (lv_at hl 2 rfl) ?_
  refine q_goi V (q_runV (As := [.long x2]) (rest := []) (d := 2) (mc := 0) (ms := 0) (ci := 6) C0 V rfl LV_Flo_43 (X_Flo_isNegative l D g q ws k1 A B C hB1 x2 hI   _) rfl rfl hO1 rfl hl.1 rfl (Nat.le_of_ble_eq_true rfl) ⟨by decide, by decide⟩ ⟨Nat.le_of_ble_eq_true rfl, Nat.le_of_ble_eq_true rfl⟩ d_7_11_12) (fun a16 u14 H locs hp15 V => ?_)
  obtain ⟨rfl, b17, b18, hE19⟩ := hp15
  have e20 : a16 = (F_Flo_isNegative A B C x2) := hE19
  replace b17 : q_F (0 ≤ a16.toInt) := b17
  replace b18 : q_F (a16.toInt ≤ 1) := b18
  refine lv_if_eq (tgt := 23) hx hb d_7_11_15 (by decide) (fun c21 => ?_) (fun c21 => ?_)
  ·
    have b22 : q_F (a16.toInt = 0) := (q_eqI c21)
    refine lv_lload_n hx hb d_7_11_23 rfl (lv_at hl 0 rfl) ?_
    exact q_retl C0 V (⟨rfl, (show j12 = (F_Flo_place A B C x2) from (by have c21x := c21; rw [e20] at c21x; rw [← e13, ← e11, e9, F_Flo_place.eq_1, if_pos c21x]))⟩) d_7_11_24
  ·
    have b23 : q_F (a16.toInt ≠ 0) := (q_neI c21)
    refine lv_lload_n hx hb d_7_11_18 rfl (lv_at hl 0 rfl) ?_
    refine lv_lneg hx hb d_7_11_19 ?_
    obtain ⟨j24, e25⟩ := q_nm (-j12 : Int64)
    refine q_tl (v := j24) e25 ?_
    refine lv_goto (tgt := 24) hx hb d_7_11_20 (by decide) ?_
    exact q_retl C0 V (⟨rfl, (show j24 = (F_Flo_place A B C x2) from (by have c21x := c21; rw [e20] at c21x; rw [← e25, ← e13, ← e11, e9, F_Flo_place.eq_1, if_neg c21x]))⟩) d_7_11_24
def F_Flo_number (A : Int32) (B : Int32) (C : Int32) (x2 : Int64) : Int64 := if ((F_Flo_exponent A B C x2) : Int32) = (0 : Int32) then (((F_Flo_fraction A B C x2) : Int64)) else ((((F_Flo_fraction A B C x2) : Int64) ||| ((1 : Int64) <<< (A.toInt64 &&& 63) : Int64) : Int64))
set_option maxRecDepth 100000 in
set_option maxHeartbeats 4000000 in
theorem X_Flo_number (l : Launch) (D : va_G) (g : Nat → ClassId) (q : Nat → Nat) (ws : va_W) (k1 : Nat) (A B C : Int32) (hB1 : q_isFlo (nsh g q) q k1 A B C) (x2 : Int64) (hI : q_I (nsh g q) q ws) : q_mL l y_Flo_number prog_7_method_12_code 3 2 0 0 D g [.ref (q k1), .long x2] ws (fun r u => ws = u ∧ r = (F_Flo_number A B C x2)) := by
  intro sz
  refine q_into (by decide) (Nat.le_of_ble_eq_true rfl) ?_
  intro p e s m below meth c ls hsz C0 V hl
  have hx := C0.1
  have hb := C0.2.1
  have hfk10 : q_F (23 ≤ A.toInt ∧ A.toInt ≤ 52) := hB1.2.1
  have hfk11 : q_F (150 ≤ B.toInt ∧ B.toInt ≤ 1075) := hB1.2.2.1
  have hfk12 : q_F (255 ≤ C.toInt ∧ C.toInt ≤ 2047) := hB1.2.2.2.1
  have hl : lv_has ls 3 [(0, .ref (q k1)), (1, .long x2)] := hl
  refine lv_aload_n hx hb d_7_12_0 rfl (lv_at hl 0 rfl) ?_
  refine lv_lload_n hx hb d_7_12_1 rfl (lv_at hl 1 rfl) ?_
  obtain ⟨y2, y3, y4, hO1⟩ := n_flO hI hB1
  refine q_goi V (q_runV (As := [.long x2]) (rest := []) (d := 1) (mc := 0) (ms := 0) (ci := 6) C0 V rfl LV_Flo_27 (X_Flo_exponent l D g q ws k1 A B C hB1 x2 hI   _) rfl rfl hO1 rfl hl.1 rfl (Nat.le_of_ble_eq_true rfl) ⟨by decide, by decide⟩ ⟨Nat.le_of_ble_eq_true rfl, Nat.le_of_ble_eq_true rfl⟩ d_7_12_2) (fun a7 u5 H locs hp6 V => ?_)
  obtain ⟨rfl, b8, b9, hE10⟩ := hp6
  have e11 : a7 = (F_Flo_exponent A B C x2) := hE10
  replace b8 : q_F (0 ≤ a7.toInt) := b8
  replace b9 : q_F (a7.toInt ≤ C.toInt) := b9
  refine lv_if_ne (tgt := 16) hx hb d_7_12_5 (by decide) (fun c12 => ?_) (fun c12 => ?_)
  ·
    have b13 : q_F (a7.toInt ≠ 0) := (q_neI c12)
    refine lv_aload_n hx hb d_7_12_16 rfl (lv_at hl 0 rfl) ?_
    refine lv_lload_n hx hb d_7_12_17 rfl (lv_at hl 1 rfl) ?_
    refine q_gol V (q_runV (As := [.long x2]) (rest := []) (d := 1) (mc := 0) (ms := 0) (ci := 6) C0 V rfl LV_Flo_35 (X_Flo_fraction l D g q ws k1 A B C hB1 x2 hI   _) rfl rfl hO1 rfl hl.1 rfl (Nat.le_of_ble_eq_true rfl) ⟨by decide, by decide⟩ ⟨Nat.le_of_ble_eq_true rfl, Nat.le_of_ble_eq_true rfl⟩ d_7_12_18) (fun j16 u14 H locs hp15 V => ?_)
    obtain ⟨rfl, hE17⟩ := hp15
    have e18 : j16 = (F_Flo_fraction A B C x2) := hE17
    refine lv_lconst (v := 1) hx hb d_7_12_21 (by decide) ?_
    refine lv_aload_n hx hb d_7_12_22 rfl (lv_at hl 0 rfl) ?_
    refine q_get (ci := 6) (j := 0) (v := .int A) C0 V i_Flo rfl rfl hO1 (by decide) w_231 rfl d_7_12_23 ?_
    refine lv_lshl hx hb d_7_12_26 rfl ?_
    obtain ⟨j19, e20⟩ := q_nm ((1 : Int64) <<< (A.toInt64 &&& 63) : Int64)
    refine q_tl (v := j19) e20 ?_
    refine lv_lor hx hb d_7_12_27 ?_
    obtain ⟨j21, e22⟩ := q_nm (j16 ||| j19 : Int64)
    refine q_tl (v := j21) e22 ?_
    exact q_retl C0 V (⟨rfl, (show j21 = (F_Flo_number A B C x2) from (by have c12x := c12; rw [e11] at c12x; rw [← e22, ← e20, e18, F_Flo_number.eq_1, if_neg c12x]))⟩) d_7_12_28
  ·
    have b23 : q_F (a7.toInt = 0) := (q_eqI c12)
    refine lv_aload_n hx hb d_7_12_8 rfl (lv_at hl 0 rfl) ?_
    refine lv_lload_n hx hb d_7_12_9 rfl (lv_at hl 1 rfl) ?_
    refine q_gol V (q_runV (As := [.long x2]) (rest := []) (d := 1) (mc := 0) (ms := 0) (ci := 6) C0 V rfl LV_Flo_35 (X_Flo_fraction l D g q ws k1 A B C hB1 x2 hI   _) rfl rfl hO1 rfl hl.1 rfl (Nat.le_of_ble_eq_true rfl) ⟨by decide, by decide⟩ ⟨Nat.le_of_ble_eq_true rfl, Nat.le_of_ble_eq_true rfl⟩ d_7_12_10) (fun j26 u24 H locs hp25 V => ?_)
    obtain ⟨rfl, hE27⟩ := hp25
    have e28 : j26 = (F_Flo_fraction A B C x2) := hE27
    refine lv_goto (tgt := 28) hx hb d_7_12_13 (by decide) ?_
    exact q_retl C0 V (⟨rfl, (show j26 = (F_Flo_number A B C x2) from (by have c12x := c12; rw [e11] at c12x; rw [e28, F_Flo_number.eq_1, if_pos c12x]))⟩) d_7_12_28
def F_Flo_power (A : Int32) (B : Int32) (C : Int32) (x2 : Int64) : Int32 := ((if ((F_Flo_exponent A B C x2) : Int32) < 1 then 1 else ((F_Flo_exponent A B C x2) : Int32) : Int32) - B : Int32)
set_option maxRecDepth 100000 in
set_option maxHeartbeats 4000000 in
theorem X_Flo_power (l : Launch) (D : va_G) (g : Nat → ClassId) (q : Nat → Nat) (ws : va_W) (k1 : Nat) (A B C : Int32) (hB1 : q_isFlo (nsh g q) q k1 A B C) (x2 : Int64) (hI : q_I (nsh g q) q ws) : q_mI l y_Flo_power prog_7_method_13_code 3 (.int) 2 0 0 D g [.ref (q k1), .long x2] ws (fun r u => ws = u ∧ (0 ≤ r.toInt + 1074) ∧ (r.toInt + 150 ≤ C.toInt) ∧ r = (F_Flo_power A B C x2)) := by
  intro sz
  refine q_into (by decide) (Nat.le_of_ble_eq_true rfl) ?_
  intro p e s m below meth c ls hsz C0 V hl
  have hx := C0.1
  have hb := C0.2.1
  have hfk10 : q_F (23 ≤ A.toInt ∧ A.toInt ≤ 52) := hB1.2.1
  have hfk11 : q_F (150 ≤ B.toInt ∧ B.toInt ≤ 1075) := hB1.2.2.1
  have hfk12 : q_F (255 ≤ C.toInt ∧ C.toInt ≤ 2047) := hB1.2.2.2.1
  have hl : lv_has ls 3 [(0, .ref (q k1)), (1, .long x2)] := hl
  refine lv_aload_n hx hb d_7_13_0 rfl (lv_at hl 0 rfl) ?_
  refine lv_lload_n hx hb d_7_13_1 rfl (lv_at hl 1 rfl) ?_
  obtain ⟨y2, y3, y4, hO1⟩ := n_flO hI hB1
  refine q_goi V (q_runV (As := [.long x2]) (rest := []) (d := 1) (mc := 0) (ms := 0) (ci := 6) C0 V rfl LV_Flo_27 (X_Flo_exponent l D g q ws k1 A B C hB1 x2 hI   _) rfl rfl hO1 rfl hl.1 rfl (Nat.le_of_ble_eq_true rfl) ⟨by decide, by decide⟩ ⟨Nat.le_of_ble_eq_true rfl, Nat.le_of_ble_eq_true rfl⟩ d_7_13_2) (fun a7 u5 H locs hp6 V => ?_)
  obtain ⟨rfl, b8, b9, hE10⟩ := hp6
  have e11 : a7 = (F_Flo_exponent A B C x2) := hE10
  replace b8 : q_F (0 ≤ a7.toInt) := b8
  replace b9 : q_F (a7.toInt ≤ C.toInt) := b9
  refine lv_iconst (v := 1) hx hb d_7_13_5 (by decide) ?_
  refine q_max C0 hl.1 rfl w_802 w_803 w_7 w_804 ⟨Nat.le_of_ble_eq_true rfl, Nat.le_of_ble_eq_true rfl⟩ ⟨Nat.le_of_ble_eq_true rfl, Nat.le_of_ble_eq_true rfl⟩ d_7_13_6 ?_
  obtain ⟨a12, e13⟩ := q_nm (if a7 < 1 then 1 else a7 : Int32)
  refine q_ti (v := a12) e13 ?_
  have b14 : q_F (a7.toInt ≤ a12.toInt ∧ 1 ≤ a12.toInt ∧ (a12.toInt = a7.toInt ∨ a12.toInt = 1)) := (by rw [← e13]; show a7.toInt ≤ (if a7 < 1 then 1 else a7 : Int32).toInt ∧ 1 ≤ (if a7 < 1 then 1 else a7 : Int32).toInt ∧ ((if a7 < 1 then 1 else a7 : Int32).toInt = a7.toInt ∨ (if a7 < 1 then 1 else a7 : Int32).toInt = 1); exact (by have y1 : (1 : Int32).toInt = 1 := rfl; have z := s_max (a := a7) (b := 1); omega))
  refine lv_aload_n hx hb d_7_13_9 rfl (lv_at hl 0 rfl) ?_
  refine q_get (ci := 6) (j := 1) (v := .int B) C0 V i_Flo rfl rfl hO1 (by decide) w_233 rfl d_7_13_10 ?_
  refine lv_isub hx hb d_7_13_13 ?_
  obtain ⟨a15, e16⟩ := q_nm (a12 - B : Int32)
  refine q_ti (v := a15) e16 ?_
  have b17 : q_F (a15.toInt = a12.toInt - B.toInt) := (by rw [← e16]; show (a12 - B : Int32).toInt = a12.toInt - B.toInt; exact q_subI (x := a12.toInt) (y := B.toInt) rfl rfl (by have t1 : 150 ≤ B.toInt ∧ B.toInt ≤ 1075 := hfk11; have t2 : a7.toInt ≤ a12.toInt ∧ 1 ≤ a12.toInt ∧ (a12.toInt = a7.toInt ∨ a12.toInt = 1) := b14; have _ := q_lo32 (x := a12); have _ := q_hi32 (x := a12); omega) (by have t1 : 150 ≤ B.toInt ∧ B.toInt ≤ 1075 := hfk11; have t2 : a7.toInt ≤ a12.toInt ∧ 1 ≤ a12.toInt ∧ (a12.toInt = a7.toInt ∨ a12.toInt = 1) := b14; have _ := q_lo32 (x := a12); have _ := q_hi32 (x := a12); omega))
  exact q_reti C0 V (⟨rfl, (show 0 ≤ a15.toInt + 1074 from (by have t1 : 150 ≤ B.toInt ∧ B.toInt ≤ 1075 := hfk11; have t2 : a7.toInt ≤ a12.toInt ∧ 1 ≤ a12.toInt ∧ (a12.toInt = a7.toInt ∨ a12.toInt = 1) := b14; have t3 : a15.toInt = a12.toInt - B.toInt := b17; omega)), (show a15.toInt + 150 ≤ C.toInt from (by have t1 : 150 ≤ B.toInt ∧ B.toInt ≤ 1075 := hfk11; have t2 : 255 ≤ C.toInt ∧ C.toInt ≤ 2047 := hfk12; have t3 : a7.toInt ≤ C.toInt := b9; have t4 : a7.toInt ≤ a12.toInt ∧ 1 ≤ a12.toInt ∧ (a12.toInt = a7.toInt ∨ a12.toInt = 1) := b14; have t5 : a15.toInt = a12.toInt - B.toInt := b17; omega)), (show a15 = (F_Flo_power A B C x2) from (by rw [← e16, ← e13, e11, F_Flo_power.eq_1]))⟩) d_7_13_14
def F_Flo_towardsZero_c41 (A : Int32) (B : Int32) (C : Int32) (x2 : Int64) (t0_0 : Int32) (t0_1 : Int32) (t1_0 : (Nat → Int32)) (a15 : Int32) (p40 : (Int32 × Int32 × (Nat → Int32))) (p64 : (Int32 × Int32 × (Nat → Int32))) (p94 : (Int32 × Int32 × Int32 × (Nat → Int32))) : Int32 × Int32 × (Nat → Int32) := if (p94.2.1 : Int32) ≤ (0 : Int32) then (((p94.2.1 : Int32), (0 : Int32), (p94.2.2.2 : (Nat → Int32)))) else (if ((F_Flo_isNegative A B C x2) : Int32) = (0 : Int32) then (((p94.2.1 : Int32), (0 : Int32), (p94.2.2.2 : (Nat → Int32)))) else (((p94.2.1 : Int32), (1 : Int32), (p94.2.2.2 : (Nat → Int32)))))
def F_Flo_towardsZero_c29 (A : Int32) (B : Int32) (C : Int32) (x2 : Int64) (t0_0 : Int32) (t0_1 : Int32) (t1_0 : (Nat → Int32)) (a15 : Int32) (p40 : (Int32 × Int32 × (Nat → Int32))) (p64 : (Int32 × Int32 × (Nat → Int32))) : Int32 × Int32 × (Nat → Int32) := F_Flo_towardsZero_c41 A B C x2 t0_0 t0_1 t1_0 a15 p40 p64 ((F_Big_shiftRight (220 : Int32) (-a15 : Int32) (p64.1 : Int32) (p64.2.1 : Int32) (p64.2.2 : (Nat → Int32))) : (Int32 × Int32 × Int32 × (Nat → Int32)))
def F_Flo_towardsZero_c18 (A : Int32) (B : Int32) (C : Int32) (x2 : Int64) (t0_0 : Int32) (t0_1 : Int32) (t1_0 : (Nat → Int32)) (a15 : Int32) (p40 : (Int32 × Int32 × (Nat → Int32))) : Int32 × Int32 × (Nat → Int32) := F_Flo_towardsZero_c29 A B C x2 t0_0 t0_1 t1_0 a15 p40 ((F_Big_shiftLeft (220 : Int32) a15 (p40.1 : Int32) (p40.2.1 : Int32) (p40.2.2 : (Nat → Int32))) : (Int32 × Int32 × (Nat → Int32)))
def F_Flo_towardsZero (A : Int32) (B : Int32) (C : Int32) (x2 : Int64) (t0_0 : Int32) (t0_1 : Int32) (t1_0 : (Nat → Int32)) : Int32 × Int32 × (Nat → Int32) := F_Flo_towardsZero_c18 A B C x2 t0_0 t0_1 t1_0 ((F_Flo_power A B C x2) : Int32) ((F_Big_setLong (220 : Int32) ((F_Flo_number A B C x2) : Int64) t0_0 t0_1 t1_0) : (Int32 × Int32 × (Nat → Int32)))
set_option maxRecDepth 100000 in
set_option maxHeartbeats 4000000 in
theorem X_Flo_towardsZero (l : Launch) (D : va_G) (g : Nat → ClassId) (q : Nat → Nat) (ws : va_W) (k1 : Nat) (A B C : Int32) (hB1 : q_isFlo (nsh g q) q k1 A B C) (x2 : Int64) (hI : q_I (nsh g q) q ws) (t0_0 : Int32) (t0_1 : Int32) (hT0 : ws[10]? = (some (q 10, .inr (2, [.ref (q 11), .int t0_0, .int t0_1])) : Option (Nat × va_E))) (t1_0 : (Nat → Int32)) (hT1 : ws[11]? = (some (q 11, .inl (g 0, (220 : Int32).toNatClampNeg, .inl t1_0)) : Option (Nat × va_E))) : q_mV l y_Flo_towardsZero prog_7_method_14_code 4 4 0 0 D g [.ref (q k1), .long x2] ws (fun u => q_I (nsh g q) q u ∧ q_un ws u [10, 11] ∧ ∃ (u0_0 : Int32) (u0_1 : Int32) (u1_0 : (Nat → Int32)), u[10]? = (some (q 10, .inr (2, [.ref (q 11), .int u0_0, .int u0_1])) : Option (Nat × va_E)) ∧ u[11]? = (some (q 11, .inl (g 0, (220 : Int32).toNatClampNeg, .inl u1_0)) : Option (Nat × va_E)) ∧ (u0_0.toInt ≤ 220) ∧ (0 ≤ u0_1.toInt) ∧ (u0_1.toInt ≤ 1) ∧ (u0_1.toInt ≤ u0_0.toInt) ∧ (u0_0, u0_1, u1_0) = (F_Flo_towardsZero A B C x2 t0_0 t0_1 t1_0)) := by
  intro sz
  refine q_into (by decide) (Nat.le_of_ble_eq_true rfl) ?_
  intro p e s m below meth c ls hsz C0 V hl
  have hx := C0.1
  have hb := C0.2.1
  have hfk10 : q_F (23 ≤ A.toInt ∧ A.toInt ≤ 52) := hB1.2.1
  have hfk11 : q_F (150 ≤ B.toInt ∧ B.toInt ≤ 1075) := hB1.2.2.1
  have hfk12 : q_F (255 ≤ C.toInt ∧ C.toInt ≤ 2047) := hB1.2.2.2.1
  obtain ⟨yy0_0, yy0_1, hh0, btt0_0, btt0_1⟩ := q_bigO hI (n_b10 g q)
  obtain ⟨rfl, rfl⟩ : t0_0 = yy0_0 ∧ t0_1 = yy0_1 := by have z := Option.some.inj (hT0.symm.trans hh0); simpa using z
  replace btt0_0 : q_F (0 ≤ t0_0.toInt ∧ t0_0.toInt ≤ 220) := btt0_0
  replace btt0_1 : q_F (0 ≤ t0_1.toInt ∧ t0_1.toInt ≤ 1) := btt0_1
  have hF : q_un ws ws [10, 11] := q_u0
  have hl : lv_has ls 4 [(0, .ref (q k1)), (1, .long x2)] := hl
  refine lv_aload_n hx hb d_7_14_0 rfl (lv_at hl 0 rfl) ?_
  refine lv_lload_n hx hb d_7_14_1 rfl (lv_at hl 1 rfl) ?_
  obtain ⟨y10, y11, y12, hO9⟩ := n_flO hI hB1
  refine q_goi V (q_runV (As := [.long x2]) (rest := []) (d := 2) (mc := 0) (ms := 0) (ci := 6) C0 V rfl LV_Flo_52 (X_Flo_power l D g q ws k1 A B C hB1 x2 hI   _) rfl rfl hO9 rfl hl.1 rfl (Nat.le_of_ble_eq_true rfl) ⟨by decide, by decide⟩ ⟨Nat.le_of_ble_eq_true rfl, Nat.le_of_ble_eq_true rfl⟩ d_7_14_2) (fun a15 u13 H locs hp14 V => ?_)
  obtain ⟨rfl, b16, b17, hE18⟩ := hp14
  have e19 : a15 = (F_Flo_power A B C x2) := hE18
  replace b16 : q_F (0 ≤ a15.toInt + 1074) := b16
  replace b17 : q_F (a15.toInt + 150 ≤ C.toInt) := b17
  refine lv_istore_n (lv' := [(3, .int a15), (0, .ref (q k1)), (1, .long x2)]) hx hb d_7_14_5 rfl hl (by decide) rfl (fun ls hl => ?_)
  refine lv_aload_n hx hb d_7_14_6 rfl (lv_at hl 1 rfl) ?_
  refine q_get (ci := 6) (j := 5) (v := .ref (q 9)) C0 V i_Flo rfl rfl hO9 (by decide) w_241 rfl d_7_14_7 ?_
  have hO20 := n_o9 hI
  refine q_get (ci := 4) (j := 0) (v := .ref (q 10)) C0 V i_Mil rfl rfl hO20 (by decide) w_113 rfl d_7_14_10 ?_
  refine lv_aload_n hx hb d_7_14_13 rfl (lv_at hl 1 rfl) ?_
  refine lv_lload_n hx hb d_7_14_14 rfl (lv_at hl 2 rfl) ?_
  refine q_gol V (q_runV (As := [.long x2]) (rest := [.ref (q 10)]) (d := 2) (mc := 0) (ms := 0) (ci := 6) C0 V rfl LV_Flo_61 (X_Flo_number l D g q ws k1 A B C hB1 x2 hI   _) rfl rfl hO9 rfl hl.1 rfl (Nat.le_of_ble_eq_true rfl) ⟨by decide, by decide⟩ ⟨Nat.le_of_ble_eq_true rfl, Nat.le_of_ble_eq_true rfl⟩ d_7_14_15) (fun j23 u21 H locs hp22 V => ?_)
  obtain ⟨rfl, hE24⟩ := hp22
  have e25 : j23 = (F_Flo_number A B C x2) := hE24
  refine q_gov V (q_runV (As := [.long j23]) (rest := []) (d := 2) (mc := 0) (ms := 0) (ci := 2) C0 V rfl LV_Flo_63 (X_Big_setLong l D g q ws 10 220 (n_b10 g q) (by decide) j23 hI t0_0 t0_1 hT0 t1_0 hT1  _) rfl rfl hT0 rfl hl.1 rfl (Nat.le_of_ble_eq_true rfl) ⟨by decide, by decide⟩ ⟨Nat.le_of_ble_eq_true rfl, Nat.le_of_ble_eq_true rfl⟩ d_7_14_18) (fun u26 H locs hp27 V => ?_)
  obtain ⟨hI, hu39, y29, y30, f31, hO28, hA32, b33, b34, b35, b36, b37, hE38⟩ := hp27
  replace hO28 : u26[10]? = (some (q 10, .inr (2, [.ref (q 11), .int y29, .int y30])) : Option (Nat × va_E)) := hO28
  replace hA32 : u26[11]? = (some (q 11, .inl (g 0, (220 : Int32).toNatClampNeg, .inl f31)) : Option (Nat × va_E)) := hA32
  obtain ⟨p40, e41⟩ : ∃ z, z = (F_Big_setLong (220 : Int32) j23 t0_0 t0_1 t1_0) := ⟨_, rfl⟩
  have e42 : y29 = p40.1 := congrArg (fun z => z.1) (hE38.trans e41.symm)
  have e43 : y30 = p40.2.1 := congrArg (fun z => z.2.1) (hE38.trans e41.symm)
  have e44 : f31 = p40.2.2 := congrArg (fun z => z.2.2) (hE38.trans e41.symm)
  replace b33 : q_F (0 ≤ y29.toInt) := b33
  replace b34 : q_F (y29.toInt ≤ 3) := b34
  replace b35 : q_F (0 ≤ y30.toInt) := b35
  replace b36 : q_F (y30.toInt ≤ 1) := b36
  replace b37 : q_F (y29.toInt ≤ 220) := b37
  replace hO9 := (hu39 _ (by have z0 := hB1.2.2.2.2; simp only [List.mem_cons, List.not_mem_nil, or_false, not_or]; omega)).trans hO9
  replace hO20 := (hu39 _ (by decide)).trans hO20
  replace hF := q_uc hF hu39 (by simp)
  have hR45 := (show F_Flo_towardsZero_c18 A B C x2 t0_0 t0_1 t1_0 a15 p40 = (F_Flo_towardsZero A B C x2 t0_0 t0_1 t1_0) from (by rw [e41, e25, e19, F_Flo_towardsZero.eq_1]))
  refine lv_aload_n hx hb d_7_14_21 rfl (lv_at hl 1 rfl) ?_
  refine q_get (ci := 6) (j := 5) (v := .ref (q 9)) C0 V i_Flo rfl rfl hO9 (by decide) w_241 rfl d_7_14_22 ?_
  refine q_get (ci := 4) (j := 0) (v := .ref (q 10)) C0 V i_Mil rfl rfl hO20 (by decide) w_113 rfl d_7_14_25 ?_
  refine lv_iload_n hx hb d_7_14_28 rfl (lv_at hl 0 rfl) ?_
  refine q_gov V (q_runV (As := [.int a15]) (rest := []) (d := 3) (mc := 0) (ms := 0) (ci := 2) C0 V rfl LV_Flo_69 (X_Big_shiftLeft l D g q u26 10 220 (n_b10 g q) (by decide) a15 hI y29 y30 hO28 f31 hA32  _) rfl rfl hO28 rfl hl.1 rfl (Nat.le_of_ble_eq_true rfl) ⟨by decide, by decide⟩ ⟨Nat.le_of_ble_eq_true rfl, Nat.le_of_ble_eq_true rfl⟩ d_7_14_29) (fun u50 H locs hp51 V => ?_)
  obtain ⟨hI, hu63, y53, y54, f55, hO52, hA56, b57, b58, b59, b60, b61, hE62⟩ := hp51
  replace hO52 : u50[10]? = (some (q 10, .inr (2, [.ref (q 11), .int y53, .int y54])) : Option (Nat × va_E)) := hO52
  replace hA56 : u50[11]? = (some (q 11, .inl (g 0, (220 : Int32).toNatClampNeg, .inl f55)) : Option (Nat × va_E)) := hA56
  obtain ⟨p64, e65⟩ : ∃ z, z = (F_Big_shiftLeft (220 : Int32) a15 y29 y30 f31) := ⟨_, rfl⟩
  have e66 : y53 = p64.1 := congrArg (fun z => z.1) (hE62.trans e65.symm)
  have e67 : y54 = p64.2.1 := congrArg (fun z => z.2.1) (hE62.trans e65.symm)
  have e68 : f55 = p64.2.2 := congrArg (fun z => z.2.2) (hE62.trans e65.symm)
  replace b57 : q_F (0 ≤ y53.toInt) := b57
  replace b58 : q_F (0 ≤ y54.toInt) := b58
  replace b59 : q_F (y53.toInt ≤ y29.toInt + 219) := b59
  replace b60 : q_F (y53.toInt ≤ 220) := b60
  replace b61 : q_F (y54.toInt ≤ y30.toInt) := b61
  replace hO9 := (hu63 _ (by have z0 := hB1.2.2.2.2; simp only [List.mem_cons, List.not_mem_nil, or_false, not_or]; omega)).trans hO9
  replace hO20 := (hu63 _ (by decide)).trans hO20
  replace hF := q_uc hF hu63 (by simp)
  have hR69 := (show F_Flo_towardsZero_c29 A B C x2 t0_0 t0_1 t1_0 a15 p40 p64 = (F_Flo_towardsZero A B C x2 t0_0 t0_1 t1_0) from Eq.trans (by rw [e65, e44, e43, e42, F_Flo_towardsZero_c18.eq_1]) hR45)
  refine lv_aload_n hx hb d_7_14_32 rfl (lv_at hl 1 rfl) ?_
  refine q_get (ci := 6) (j := 5) (v := .ref (q 9)) C0 V i_Flo rfl rfl hO9 (by decide) w_241 rfl d_7_14_33 ?_
  refine q_get (ci := 4) (j := 0) (v := .ref (q 10)) C0 V i_Mil rfl rfl hO20 (by decide) w_113 rfl d_7_14_36 ?_
  refine lv_iload_n hx hb d_7_14_39 rfl (lv_at hl 0 rfl) ?_
  refine lv_ineg hx hb d_7_14_40 ?_
  obtain ⟨a74, e75⟩ := q_nm (-a15 : Int32)
  refine q_ti (v := a74) e75 ?_
  have b76 : q_F (a74.toInt = -a15.toInt) := (by rw [← e75]; show (-a15 : Int32).toInt = -a15.toInt; exact q_negI rfl (by have t1 : 0 ≤ a15.toInt + 1074 := b16; omega))
  refine q_goi V (q_runV (As := [.int a74]) (rest := []) (d := 3) (mc := 0) (ms := 0) (ci := 2) C0 V rfl LV_Flo_73 (X_Big_shiftRight l D g q u50 10 220 (n_b10 g q) (by decide) a74 hI y53 y54 hO52 f55 hA56  _) rfl rfl hO52 rfl hl.1 rfl (Nat.le_of_ble_eq_true rfl) ⟨by decide, by decide⟩ ⟨Nat.le_of_ble_eq_true rfl, Nat.le_of_ble_eq_true rfl⟩ d_7_14_41) (fun a79 u77 H locs hp78 V => ?_)
  obtain ⟨hI, hu93, y81, y82, f83, hO80, hA84, b85, b86, b87, b88, b89, b90, b91, hE92⟩ := hp78
  replace hO80 : u77[10]? = (some (q 10, .inr (2, [.ref (q 11), .int y81, .int y82])) : Option (Nat × va_E)) := hO80
  replace hA84 : u77[11]? = (some (q 11, .inl (g 0, (220 : Int32).toNatClampNeg, .inl f83)) : Option (Nat × va_E)) := hA84
  obtain ⟨p94, e95⟩ : ∃ z, z = (F_Big_shiftRight (220 : Int32) a74 y53 y54 f55) := ⟨_, rfl⟩
  have e96 : a79 = p94.1 := congrArg (fun z => z.1) (hE92.trans e95.symm)
  have e97 : y81 = p94.2.1 := congrArg (fun z => z.2.1) (hE92.trans e95.symm)
  have e98 : y82 = p94.2.2.1 := congrArg (fun z => z.2.2.1) (hE92.trans e95.symm)
  have e99 : f83 = p94.2.2.2 := congrArg (fun z => z.2.2.2) (hE92.trans e95.symm)
  replace b85 : q_F (0 ≤ a79.toInt) := b85
  replace b86 : q_F (a79.toInt ≤ 1) := b86
  replace b87 : q_F (0 ≤ y81.toInt) := b87
  replace b88 : q_F (0 ≤ y82.toInt) := b88
  replace b89 : q_F (a79.toInt ≤ y53.toInt) := b89
  replace b90 : q_F (y81.toInt ≤ y53.toInt) := b90
  replace b91 : q_F (y82.toInt ≤ y54.toInt) := b91
  replace hO9 := (hu93 _ (by have z0 := hB1.2.2.2.2; simp only [List.mem_cons, List.not_mem_nil, or_false, not_or]; omega)).trans hO9
  replace hO20 := (hu93 _ (by decide)).trans hO20
  replace hF := q_uc hF hu93 (by simp)
  have hR100 := (show F_Flo_towardsZero_c41 A B C x2 t0_0 t0_1 t1_0 a15 p40 p64 p94 = (F_Flo_towardsZero A B C x2 t0_0 t0_1 t1_0) from Eq.trans (by rw [e95, ← e75, e68, e67, e66, F_Flo_towardsZero_c29.eq_1]) hR69)
  refine lv_pop hx hb d_7_14_44 rfl ?_
  refine lv_aload_n hx hb d_7_14_45 rfl (lv_at hl 1 rfl) ?_
  refine q_get (ci := 6) (j := 5) (v := .ref (q 9)) C0 V i_Flo rfl rfl hO9 (by decide) w_241 rfl d_7_14_46 ?_
  refine q_get (ci := 4) (j := 0) (v := .ref (q 10)) C0 V i_Mil rfl rfl hO20 (by decide) w_113 rfl d_7_14_49 ?_
  refine lv_aload_n hx hb d_7_14_52 rfl (lv_at hl 1 rfl) ?_
  refine q_get (ci := 6) (j := 5) (v := .ref (q 9)) C0 V i_Flo rfl rfl hO9 (by decide) w_241 rfl d_7_14_53 ?_
  refine q_get (ci := 4) (j := 0) (v := .ref (q 10)) C0 V i_Mil rfl rfl hO20 (by decide) w_113 rfl d_7_14_56 ?_
  refine q_get (ci := 2) (j := 1) (v := .int y81) C0 V i_Big rfl rfl hO80 (by decide) w_92 rfl d_7_14_59 ?_
  refine lv_if_le (tgt := 77) hx hb d_7_14_62 (by decide) (fun c105 => ?_) (fun c105 => ?_)
  ·
    have b106 : q_F (y81.toInt ≤ 0) := (q_leI c105)
    refine lv_iconst (v := 0) hx hb d_7_14_77 (by decide) ?_
    refine q_put (ci := 2) (j := 2) (v := .int 0) (ty := .boolean) C0 V i_Big o_Big n_Big rfl rfl hO80 (by decide) w_99 rfl rfl rfl rfl (Nat.le_of_ble_eq_true rfl) d_7_14_78 (fun H locs w107 hu108 hO80 V => ?_)
    replace hO80 : w107[10]? = (some (q 10, .inr (2, [.ref (q 11), .int y81, .int 0])) : Option (Nat × va_E)) := hO80
    replace hI := q_bigO' hI (n_b10 g q) hu108 hO80 ⟨(by have zR : (220 : Int32).toInt = 220 := rfl; have t1 : 0 ≤ y81.toInt := b87; omega), (by have zR : (220 : Int32).toInt = 220 := rfl; have t1 : y81.toInt ≤ 0 := b106; omega)⟩ ⟨(by have z9 : (0 : Int32).toInt = 0 := rfl; omega), (by have z9 : (0 : Int32).toInt = 0 := rfl; omega)⟩
    replace hA84 := (hu108 _ (by decide)).trans hA84
    replace hO9 := (hu108 _ (by have z0 := hB1.2.2.2.2; omega)).trans hO9
    replace hO20 := (hu108 _ (by decide)).trans hO20
    replace hF := q_us hF hu108 (by simp)
    exact q_retv C0 V (⟨hI, hF, y81, 0, f83, hO80, hA84, (show y81.toInt ≤ 220 from (by have z8 : (0 : Int32).toInt = 0 := rfl; have t1 : y81.toInt ≤ 0 := b106; omega)), (show 0 ≤ (0 : Int32).toInt from (by have z8 : (0 : Int32).toInt = 0 := rfl; omega)), (show (0 : Int32).toInt ≤ 1 from (by have z8 : (0 : Int32).toInt = 0 := rfl; omega)), (show (0 : Int32).toInt ≤ y81.toInt from (by have z8 : (0 : Int32).toInt = 0 := rfl; have t1 : 0 ≤ y81.toInt := b87; omega)), (show (y81, (0 : Int32), f83) = (F_Flo_towardsZero A B C x2 t0_0 t0_1 t1_0) from Eq.trans (by have c105x := c105; rw [e97] at c105x; rw [e99, e97, F_Flo_towardsZero_c41.eq_1, if_pos c105x]) hR100)⟩) d_7_14_81
  ·
    have b109 : q_F (0 < y81.toInt) := (q_nleI c105)
    refine lv_aload_n hx hb d_7_14_65 rfl (lv_at hl 1 rfl) ?_
    refine lv_lload_n hx hb d_7_14_66 rfl (lv_at hl 2 rfl) ?_
    refine q_goi V (q_runV (As := [.long x2]) (rest := [.ref (q 10)]) (d := 2) (mc := 0) (ms := 0) (ci := 6) C0 V rfl LV_Flo_43 (X_Flo_isNegative l D g q u77 k1 A B C hB1 x2 hI   _) rfl rfl hO9 rfl hl.1 rfl (Nat.le_of_ble_eq_true rfl) ⟨by decide, by decide⟩ ⟨Nat.le_of_ble_eq_true rfl, Nat.le_of_ble_eq_true rfl⟩ d_7_14_67) (fun a112 u110 H locs hp111 V => ?_)
    obtain ⟨rfl, b113, b114, hE115⟩ := hp111
    have e116 : a112 = (F_Flo_isNegative A B C x2) := hE115
    replace b113 : q_F (0 ≤ a112.toInt) := b113
    replace b114 : q_F (a112.toInt ≤ 1) := b114
    refine lv_if_eq (tgt := 77) hx hb d_7_14_70 (by decide) (fun c117 => ?_) (fun c117 => ?_)
    ·
      have b118 : q_F (a112.toInt = 0) := (q_eqI c117)
      refine lv_iconst (v := 0) hx hb d_7_14_77 (by decide) ?_
      refine q_put (ci := 2) (j := 2) (v := .int 0) (ty := .boolean) C0 V i_Big o_Big n_Big rfl rfl hO80 (by decide) w_99 rfl rfl rfl rfl (Nat.le_of_ble_eq_true rfl) d_7_14_78 (fun H locs w119 hu120 hO80 V => ?_)
      replace hO80 : w119[10]? = (some (q 10, .inr (2, [.ref (q 11), .int y81, .int 0])) : Option (Nat × va_E)) := hO80
      replace hI := q_bigO' hI (n_b10 g q) hu120 hO80 ⟨(by have zR : (220 : Int32).toInt = 220 := rfl; have t1 : 0 ≤ y81.toInt := b87; omega), (by have zR : (220 : Int32).toInt = 220 := rfl; have t1 : y53.toInt ≤ 220 := b60; have t2 : y81.toInt ≤ y53.toInt := b90; omega)⟩ ⟨(by have z9 : (0 : Int32).toInt = 0 := rfl; omega), (by have z9 : (0 : Int32).toInt = 0 := rfl; omega)⟩
      replace hA84 := (hu120 _ (by decide)).trans hA84
      replace hO9 := (hu120 _ (by have z0 := hB1.2.2.2.2; omega)).trans hO9
      replace hO20 := (hu120 _ (by decide)).trans hO20
      replace hF := q_us hF hu120 (by simp)
      exact q_retv C0 V (⟨hI, hF, y81, 0, f83, hO80, hA84, (show y81.toInt ≤ 220 from (by have z8 : (0 : Int32).toInt = 0 := rfl; have t1 : y53.toInt ≤ 220 := b60; have t2 : y81.toInt ≤ y53.toInt := b90; omega)), (show 0 ≤ (0 : Int32).toInt from (by have z8 : (0 : Int32).toInt = 0 := rfl; omega)), (show (0 : Int32).toInt ≤ 1 from (by have z8 : (0 : Int32).toInt = 0 := rfl; omega)), (show (0 : Int32).toInt ≤ y81.toInt from (by have z8 : (0 : Int32).toInt = 0 := rfl; have t1 : 0 ≤ y81.toInt := b87; omega)), (show (y81, (0 : Int32), f83) = (F_Flo_towardsZero A B C x2 t0_0 t0_1 t1_0) from Eq.trans (by have c105x := c105; rw [e97] at c105x; have c117x := c117; rw [e116] at c117x; rw [e99, e97, F_Flo_towardsZero_c41.eq_1, if_neg c105x, if_pos c117x]) hR100)⟩) d_7_14_81
    ·
      have b121 : q_F (a112.toInt ≠ 0) := (q_neI c117)
      refine lv_iconst (v := 1) hx hb d_7_14_73 (by decide) ?_
      refine lv_goto (tgt := 78) hx hb d_7_14_74 (by decide) ?_
      refine q_put (ci := 2) (j := 2) (v := .int 1) (ty := .boolean) C0 V i_Big o_Big n_Big rfl rfl hO80 (by decide) w_99 rfl rfl rfl rfl (Nat.le_of_ble_eq_true rfl) d_7_14_78 (fun H locs w122 hu123 hO80 V => ?_)
      replace hO80 : w122[10]? = (some (q 10, .inr (2, [.ref (q 11), .int y81, .int 1])) : Option (Nat × va_E)) := hO80
      replace hI := q_bigO' hI (n_b10 g q) hu123 hO80 ⟨(by have zR : (220 : Int32).toInt = 220 := rfl; have t1 : 0 ≤ y81.toInt := b87; omega), (by have zR : (220 : Int32).toInt = 220 := rfl; have t1 : y53.toInt ≤ 220 := b60; have t2 : y81.toInt ≤ y53.toInt := b90; omega)⟩ ⟨(by have z9 : (1 : Int32).toInt = 1 := rfl; omega), (by have z9 : (1 : Int32).toInt = 1 := rfl; omega)⟩
      replace hA84 := (hu123 _ (by decide)).trans hA84
      replace hO9 := (hu123 _ (by have z0 := hB1.2.2.2.2; omega)).trans hO9
      replace hO20 := (hu123 _ (by decide)).trans hO20
      replace hF := q_us hF hu123 (by simp)
      exact q_retv C0 V (⟨hI, hF, y81, 1, f83, hO80, hA84, (show y81.toInt ≤ 220 from (by have z8 : (1 : Int32).toInt = 1 := rfl; have t1 : y53.toInt ≤ 220 := b60; have t2 : y81.toInt ≤ y53.toInt := b90; omega)), (show 0 ≤ (1 : Int32).toInt from (by have z8 : (1 : Int32).toInt = 1 := rfl; omega)), (show (1 : Int32).toInt ≤ 1 from (by have z8 : (1 : Int32).toInt = 1 := rfl; omega)), (show (1 : Int32).toInt ≤ y81.toInt from (by have z8 : (1 : Int32).toInt = 1 := rfl; have t1 : 0 < y81.toInt := b109; omega)), (show (y81, (1 : Int32), f83) = (F_Flo_towardsZero A B C x2 t0_0 t0_1 t1_0) from Eq.trans (by have c105x := c105; rw [e97] at c105x; have c117x := c117; rw [e116] at c117x; rw [e99, e97, F_Flo_towardsZero_c41.eq_1, if_neg c105x, if_neg c117x]) hR100)⟩) d_7_14_81
def F_Flo_exactly_c80 (A : Int32) (B : Int32) (C : Int32) (x2 : Int64) (t0_0 : Int32) (t0_1 : Int32) (t1_0 : (Nat → Int32)) (a15 : Int32) (p40 : (Int32 × Int32 × (Nat → Int32))) (a65 : Int32) (p85 : (Int32 × Int32 × Int32 × (Nat → Int32))) (p110 : (Int32 × Int32 × (Nat → Int32))) (a126 : Int32) (p142 : (Int32 × Int32 × (Nat → Int32))) : Int32 × Int32 × Int32 × (Nat → Int32) := (a126, (p142.1 : Int32), ((F_Flo_isNegative A B C x2) : Int32), (p142.2.2 : (Nat → Int32)))
def F_Flo_exactly_c62 (A : Int32) (B : Int32) (C : Int32) (x2 : Int64) (t0_0 : Int32) (t0_1 : Int32) (t1_0 : (Nat → Int32)) (a15 : Int32) (p40 : (Int32 × Int32 × (Nat → Int32))) (a65 : Int32) (p85 : (Int32 × Int32 × Int32 × (Nat → Int32))) (p110 : (Int32 × Int32 × (Nat → Int32))) : Int32 × Int32 × Int32 × (Nat → Int32) := F_Flo_exactly_c80 A B C x2 t0_0 t0_1 t1_0 a15 p40 a65 p85 p110 (if 0 < ((-a15 : Int32) - a65 : Int32) then ((-a15 : Int32) - a65 : Int32) else 0 : Int32) ((F_Big_timesFive (220 : Int32) (if 0 < ((-a15 : Int32) - a65 : Int32) then ((-a15 : Int32) - a65 : Int32) else 0 : Int32) (p110.1 : Int32) (p110.2.1 : Int32) (p110.2.2 : (Nat → Int32))) : (Int32 × Int32 × (Nat → Int32)))
def F_Flo_exactly_c55 (A : Int32) (B : Int32) (C : Int32) (x2 : Int64) (t0_0 : Int32) (t0_1 : Int32) (t1_0 : (Nat → Int32)) (a15 : Int32) (p40 : (Int32 × Int32 × (Nat → Int32))) (a65 : Int32) (p85 : (Int32 × Int32 × Int32 × (Nat → Int32))) : Int32 × Int32 × Int32 × (Nat → Int32) := F_Flo_exactly_c62 A B C x2 t0_0 t0_1 t1_0 a15 p40 a65 p85 ((F_Big_shiftLeft (220 : Int32) a15 (p85.2.1 : Int32) (p85.2.2.1 : Int32) (p85.2.2.2 : (Nat → Int32))) : (Int32 × Int32 × (Nat → Int32)))
def F_Flo_exactly_c22 (A : Int32) (B : Int32) (C : Int32) (x2 : Int64) (t0_0 : Int32) (t0_1 : Int32) (t1_0 : (Nat → Int32)) (a15 : Int32) (p40 : (Int32 × Int32 × (Nat → Int32))) : Int32 × Int32 × Int32 × (Nat → Int32) := if (p40.1 : Int32) = (0 : Int32) then (((0 : Int32), (p40.1 : Int32), (p40.2.1 : Int32), (p40.2.2 : (Nat → Int32)))) else (F_Flo_exactly_c55 A B C x2 t0_0 t0_1 t1_0 a15 p40 (if (if 0 < (-a15 : Int32) then (-a15 : Int32) else 0 : Int32) < ((F_Big_lowestOne (220 : Int32) (p40.1 : Int32) (p40.2.1 : Int32) (p40.2.2 : (Nat → Int32))) : Int32) then (if 0 < (-a15 : Int32) then (-a15 : Int32) else 0 : Int32) else ((F_Big_lowestOne (220 : Int32) (p40.1 : Int32) (p40.2.1 : Int32) (p40.2.2 : (Nat → Int32))) : Int32) : Int32) ((F_Big_shiftRight (220 : Int32) (if (if 0 < (-a15 : Int32) then (-a15 : Int32) else 0 : Int32) < ((F_Big_lowestOne (220 : Int32) (p40.1 : Int32) (p40.2.1 : Int32) (p40.2.2 : (Nat → Int32))) : Int32) then (if 0 < (-a15 : Int32) then (-a15 : Int32) else 0 : Int32) else ((F_Big_lowestOne (220 : Int32) (p40.1 : Int32) (p40.2.1 : Int32) (p40.2.2 : (Nat → Int32))) : Int32) : Int32) (p40.1 : Int32) (p40.2.1 : Int32) (p40.2.2 : (Nat → Int32))) : (Int32 × Int32 × Int32 × (Nat → Int32))))
def F_Flo_exactly (A : Int32) (B : Int32) (C : Int32) (x2 : Int64) (t0_0 : Int32) (t0_1 : Int32) (t1_0 : (Nat → Int32)) : Int32 × Int32 × Int32 × (Nat → Int32) := F_Flo_exactly_c22 A B C x2 t0_0 t0_1 t1_0 ((F_Flo_power A B C x2) : Int32) ((F_Big_setLong (220 : Int32) ((F_Flo_number A B C x2) : Int64) t0_0 t0_1 t1_0) : (Int32 × Int32 × (Nat → Int32)))
set_option maxRecDepth 100000 in
set_option maxHeartbeats 4000000 in
theorem X_Flo_exactly (l : Launch) (D : va_G) (g : Nat → ClassId) (q : Nat → Nat) (ws : va_W) (k1 : Nat) (A B C : Int32) (hB1 : q_isFlo (nsh g q) q k1 A B C) (x2 : Int64) (hI : q_I (nsh g q) q ws) (t0_0 : Int32) (t0_1 : Int32) (hT0 : ws[10]? = (some (q 10, .inr (2, [.ref (q 11), .int t0_0, .int t0_1])) : Option (Nat × va_E))) (t1_0 : (Nat → Int32)) (hT1 : ws[11]? = (some (q 11, .inl (g 0, (220 : Int32).toNatClampNeg, .inl t1_0)) : Option (Nat × va_E))) : q_mI l y_Flo_exactly prog_7_method_15_code 7 (.int) 4 0 0 D g [.ref (q k1), .long x2] ws (fun r u => q_I (nsh g q) q u ∧ q_un ws u [10, 11] ∧ ∃ (u0_0 : Int32) (u0_1 : Int32) (u1_0 : (Nat → Int32)), u[10]? = (some (q 10, .inr (2, [.ref (q 11), .int u0_0, .int u0_1])) : Option (Nat × va_E)) ∧ u[11]? = (some (q 11, .inl (g 0, (220 : Int32).toNatClampNeg, .inl u1_0)) : Option (Nat × va_E)) ∧ (0 ≤ r.toInt) ∧ (0 ≤ u0_0.toInt) ∧ (u0_0.toInt ≤ 220) ∧ (0 ≤ u0_1.toInt) ∧ (u0_1.toInt ≤ 1) ∧ (r, u0_0, u0_1, u1_0) = (F_Flo_exactly A B C x2 t0_0 t0_1 t1_0)) := by
  intro sz
  refine q_into (by decide) (Nat.le_of_ble_eq_true rfl) ?_
  intro p e s m below meth c ls hsz C0 V hl
  have hx := C0.1
  have hb := C0.2.1
  have hfk10 : q_F (23 ≤ A.toInt ∧ A.toInt ≤ 52) := hB1.2.1
  have hfk11 : q_F (150 ≤ B.toInt ∧ B.toInt ≤ 1075) := hB1.2.2.1
  have hfk12 : q_F (255 ≤ C.toInt ∧ C.toInt ≤ 2047) := hB1.2.2.2.1
  obtain ⟨yy0_0, yy0_1, hh0, btt0_0, btt0_1⟩ := q_bigO hI (n_b10 g q)
  obtain ⟨rfl, rfl⟩ : t0_0 = yy0_0 ∧ t0_1 = yy0_1 := by have z := Option.some.inj (hT0.symm.trans hh0); simpa using z
  replace btt0_0 : q_F (0 ≤ t0_0.toInt ∧ t0_0.toInt ≤ 220) := btt0_0
  replace btt0_1 : q_F (0 ≤ t0_1.toInt ∧ t0_1.toInt ≤ 1) := btt0_1
  have hF : q_un ws ws [10, 11] := q_u0
  have hl : lv_has ls 7 [(0, .ref (q k1)), (1, .long x2)] := hl
  refine lv_aload_n hx hb d_7_15_0 rfl (lv_at hl 0 rfl) ?_
  refine lv_lload_n hx hb d_7_15_1 rfl (lv_at hl 1 rfl) ?_
  obtain ⟨y10, y11, y12, hO9⟩ := n_flO hI hB1
  refine q_goi V (q_runV (As := [.long x2]) (rest := []) (d := 2) (mc := 0) (ms := 0) (ci := 6) C0 V rfl LV_Flo_52 (X_Flo_power l D g q ws k1 A B C hB1 x2 hI   _) rfl rfl hO9 rfl hl.1 rfl (Nat.le_of_ble_eq_true rfl) ⟨by decide, by decide⟩ ⟨Nat.le_of_ble_eq_true rfl, Nat.le_of_ble_eq_true rfl⟩ d_7_15_2) (fun a15 u13 H locs hp14 V => ?_)
  obtain ⟨rfl, b16, b17, hE18⟩ := hp14
  have e19 : a15 = (F_Flo_power A B C x2) := hE18
  replace b16 : q_F (0 ≤ a15.toInt + 1074) := b16
  replace b17 : q_F (a15.toInt + 150 ≤ C.toInt) := b17
  refine lv_istore_n (lv' := [(3, .int a15), (0, .ref (q k1)), (1, .long x2)]) hx hb d_7_15_5 rfl hl (by decide) rfl (fun ls hl => ?_)
  refine lv_aload_n hx hb d_7_15_6 rfl (lv_at hl 1 rfl) ?_
  refine q_get (ci := 6) (j := 5) (v := .ref (q 9)) C0 V i_Flo rfl rfl hO9 (by decide) w_241 rfl d_7_15_7 ?_
  have hO20 := n_o9 hI
  refine q_get (ci := 4) (j := 0) (v := .ref (q 10)) C0 V i_Mil rfl rfl hO20 (by decide) w_113 rfl d_7_15_10 ?_
  refine lv_astore (lv' := [(4, .ref (q 10)), (3, .int a15), (0, .ref (q k1)), (1, .long x2)]) hx hb d_7_15_13 hl (by decide) rfl (fun ls hl => ?_)
  refine lv_aload hx hb d_7_15_15 (lv_at hl 0 rfl) ?_
  refine lv_aload_n hx hb d_7_15_17 rfl (lv_at hl 2 rfl) ?_
  refine lv_lload_n hx hb d_7_15_18 rfl (lv_at hl 3 rfl) ?_
  refine q_gol V (q_runV (As := [.long x2]) (rest := [.ref (q 10)]) (d := 2) (mc := 0) (ms := 0) (ci := 6) C0 V rfl LV_Flo_61 (X_Flo_number l D g q ws k1 A B C hB1 x2 hI   _) rfl rfl hO9 rfl hl.1 rfl (Nat.le_of_ble_eq_true rfl) ⟨by decide, by decide⟩ ⟨Nat.le_of_ble_eq_true rfl, Nat.le_of_ble_eq_true rfl⟩ d_7_15_19) (fun j23 u21 H locs hp22 V => ?_)
  obtain ⟨rfl, hE24⟩ := hp22
  have e25 : j23 = (F_Flo_number A B C x2) := hE24
  refine q_gov V (q_runV (As := [.long j23]) (rest := []) (d := 2) (mc := 0) (ms := 0) (ci := 2) C0 V rfl LV_Flo_63 (X_Big_setLong l D g q ws 10 220 (n_b10 g q) (by decide) j23 hI t0_0 t0_1 hT0 t1_0 hT1  _) rfl rfl hT0 rfl hl.1 rfl (Nat.le_of_ble_eq_true rfl) ⟨by decide, by decide⟩ ⟨Nat.le_of_ble_eq_true rfl, Nat.le_of_ble_eq_true rfl⟩ d_7_15_22) (fun u26 H locs hp27 V => ?_)
  obtain ⟨hI, hu39, y29, y30, f31, hO28, hA32, b33, b34, b35, b36, b37, hE38⟩ := hp27
  replace hO28 : u26[10]? = (some (q 10, .inr (2, [.ref (q 11), .int y29, .int y30])) : Option (Nat × va_E)) := hO28
  replace hA32 : u26[11]? = (some (q 11, .inl (g 0, (220 : Int32).toNatClampNeg, .inl f31)) : Option (Nat × va_E)) := hA32
  obtain ⟨p40, e41⟩ : ∃ z, z = (F_Big_setLong (220 : Int32) j23 t0_0 t0_1 t1_0) := ⟨_, rfl⟩
  have e42 : y29 = p40.1 := congrArg (fun z => z.1) (hE38.trans e41.symm)
  have e43 : y30 = p40.2.1 := congrArg (fun z => z.2.1) (hE38.trans e41.symm)
  have e44 : f31 = p40.2.2 := congrArg (fun z => z.2.2) (hE38.trans e41.symm)
  replace b33 : q_F (0 ≤ y29.toInt) := b33
  replace b34 : q_F (y29.toInt ≤ 3) := b34
  replace b35 : q_F (0 ≤ y30.toInt) := b35
  replace b36 : q_F (y30.toInt ≤ 1) := b36
  replace b37 : q_F (y29.toInt ≤ 220) := b37
  replace hO9 := (hu39 _ (by have z0 := hB1.2.2.2.2; simp only [List.mem_cons, List.not_mem_nil, or_false, not_or]; omega)).trans hO9
  replace hO20 := (hu39 _ (by decide)).trans hO20
  replace hF := q_uc hF hu39 (by simp)
  have hR45 := (show F_Flo_exactly_c22 A B C x2 t0_0 t0_1 t1_0 a15 p40 = (F_Flo_exactly A B C x2 t0_0 t0_1 t1_0) from (by rw [e41, e25, e19, F_Flo_exactly.eq_1]))
  refine lv_aload hx hb d_7_15_25 (lv_at hl 0 rfl) ?_
  refine q_get (ci := 2) (j := 1) (v := .int y29) C0 V i_Big rfl rfl hO28 (by decide) w_92 rfl d_7_15_27 ?_
  refine lv_if_ne (tgt := 35) hx hb d_7_15_30 (by decide) (fun c50 => ?_) (fun c50 => ?_)
  ·
    have b51 : q_F (y29.toInt ≠ 0) := (q_neI c50)
    refine lv_aload hx hb d_7_15_35 (lv_at hl 0 rfl) ?_
    refine q_goi V (q_runV (As := []) (rest := []) (d := 2) (mc := 0) (ms := 0) (ci := 2) C0 V rfl LV_Flo_84 (X_Big_lowestOne l D g q u26 10 220 (n_b10 g q) (by decide)  hI y29 y30 hO28 f31 hA32  _) rfl rfl hO28 rfl hl.1 rfl (Nat.le_of_ble_eq_true rfl) ⟨by decide, by decide⟩ ⟨Nat.le_of_ble_eq_true rfl, Nat.le_of_ble_eq_true rfl⟩ d_7_15_37) (fun a54 u52 H locs hp53 V => ?_)
    obtain ⟨rfl, b55, b56, hE57⟩ := hp53
    have e58 : a54 = (F_Big_lowestOne (220 : Int32) y29 y30 f31) := hE57
    replace b55 : q_F (0 ≤ a54.toInt) := b55
    replace b56 : q_F (a54.toInt ≤ y29.toInt + 6632) := b56
    refine lv_iconst (v := 0) hx hb d_7_15_40 (by decide) ?_
    refine lv_iload_n hx hb d_7_15_41 rfl (lv_at hl 1 rfl) ?_
    refine lv_ineg hx hb d_7_15_42 ?_
    obtain ⟨a59, e60⟩ := q_nm (-a15 : Int32)
    refine q_ti (v := a59) e60 ?_
    have b61 : q_F (a59.toInt = -a15.toInt) := (by rw [← e60]; show (-a15 : Int32).toInt = -a15.toInt; exact q_negI rfl (by have t1 : 0 ≤ a15.toInt + 1074 := b16; omega))
    refine q_max C0 hl.1 rfl w_802 w_803 w_7 w_804 ⟨Nat.le_of_ble_eq_true rfl, Nat.le_of_ble_eq_true rfl⟩ ⟨Nat.le_of_ble_eq_true rfl, Nat.le_of_ble_eq_true rfl⟩ d_7_15_43 ?_
    obtain ⟨a62, e63⟩ := q_nm (if 0 < a59 then a59 else 0 : Int32)
    refine q_ti (v := a62) e63 ?_
    have b64 : q_F (0 ≤ a62.toInt ∧ a59.toInt ≤ a62.toInt ∧ (a62.toInt = 0 ∨ a62.toInt = a59.toInt)) := (by rw [← e63]; show 0 ≤ (if 0 < a59 then a59 else 0 : Int32).toInt ∧ a59.toInt ≤ (if 0 < a59 then a59 else 0 : Int32).toInt ∧ ((if 0 < a59 then a59 else 0 : Int32).toInt = 0 ∨ (if 0 < a59 then a59 else 0 : Int32).toInt = a59.toInt); exact (by have y0 : (0 : Int32).toInt = 0 := rfl; have z := s_max (a := 0) (b := a59); omega))
    refine q_min C0 hl.1 rfl w_1516 w_774 w_7 w_775 ⟨Nat.le_of_ble_eq_true rfl, Nat.le_of_ble_eq_true rfl⟩ ⟨Nat.le_of_ble_eq_true rfl, Nat.le_of_ble_eq_true rfl⟩ d_7_15_46 ?_
    obtain ⟨a65, e66⟩ := q_nm (if a62 < a54 then a62 else a54 : Int32)
    refine q_ti (v := a65) e66 ?_
    have b67 : q_F (a65.toInt ≤ a54.toInt ∧ a65.toInt ≤ a62.toInt ∧ (a65.toInt = a54.toInt ∨ a65.toInt = a62.toInt)) := (by rw [← e66]; show (if a62 < a54 then a62 else a54 : Int32).toInt ≤ a54.toInt ∧ (if a62 < a54 then a62 else a54 : Int32).toInt ≤ a62.toInt ∧ ((if a62 < a54 then a62 else a54 : Int32).toInt = a54.toInt ∨ (if a62 < a54 then a62 else a54 : Int32).toInt = a62.toInt); exact s_min (a := a54) (b := a62))
    refine lv_istore (lv' := [(5, .int a65), (4, .ref (q 10)), (3, .int a15), (0, .ref (q k1)), (1, .long x2)]) hx hb d_7_15_49 hl (by decide) rfl (fun ls hl => ?_)
    refine lv_aload hx hb d_7_15_51 (lv_at hl 1 rfl) ?_
    refine lv_iload hx hb d_7_15_53 (lv_at hl 0 rfl) ?_
    refine q_goi V (q_runV (As := [.int a65]) (rest := []) (d := 3) (mc := 0) (ms := 0) (ci := 2) C0 V rfl LV_Flo_73 (X_Big_shiftRight l D g q u26 10 220 (n_b10 g q) (by decide) a65 hI y29 y30 hO28 f31 hA32  _) rfl rfl hO28 rfl hl.1 rfl (Nat.le_of_ble_eq_true rfl) ⟨by decide, by decide⟩ ⟨Nat.le_of_ble_eq_true rfl, Nat.le_of_ble_eq_true rfl⟩ d_7_15_55) (fun a70 u68 H locs hp69 V => ?_)
    obtain ⟨hI, hu84, y72, y73, f74, hO71, hA75, b76, b77, b78, b79, b80, b81, b82, hE83⟩ := hp69
    replace hO71 : u68[10]? = (some (q 10, .inr (2, [.ref (q 11), .int y72, .int y73])) : Option (Nat × va_E)) := hO71
    replace hA75 : u68[11]? = (some (q 11, .inl (g 0, (220 : Int32).toNatClampNeg, .inl f74)) : Option (Nat × va_E)) := hA75
    obtain ⟨p85, e86⟩ : ∃ z, z = (F_Big_shiftRight (220 : Int32) a65 y29 y30 f31) := ⟨_, rfl⟩
    have e87 : a70 = p85.1 := congrArg (fun z => z.1) (hE83.trans e86.symm)
    have e88 : y72 = p85.2.1 := congrArg (fun z => z.2.1) (hE83.trans e86.symm)
    have e89 : y73 = p85.2.2.1 := congrArg (fun z => z.2.2.1) (hE83.trans e86.symm)
    have e90 : f74 = p85.2.2.2 := congrArg (fun z => z.2.2.2) (hE83.trans e86.symm)
    replace b76 : q_F (0 ≤ a70.toInt) := b76
    replace b77 : q_F (a70.toInt ≤ 1) := b77
    replace b78 : q_F (0 ≤ y72.toInt) := b78
    replace b79 : q_F (0 ≤ y73.toInt) := b79
    replace b80 : q_F (a70.toInt ≤ y29.toInt) := b80
    replace b81 : q_F (y72.toInt ≤ y29.toInt) := b81
    replace b82 : q_F (y73.toInt ≤ y30.toInt) := b82
    replace hO9 := (hu84 _ (by have z0 := hB1.2.2.2.2; simp only [List.mem_cons, List.not_mem_nil, or_false, not_or]; omega)).trans hO9
    replace hO20 := (hu84 _ (by decide)).trans hO20
    replace hF := q_uc hF hu84 (by simp)
    have hR91 := (show F_Flo_exactly_c55 A B C x2 t0_0 t0_1 t1_0 a15 p40 a65 p85 = (F_Flo_exactly A B C x2 t0_0 t0_1 t1_0) from Eq.trans (by have c50x := c50; rw [e42] at c50x; rw [e86, ← e66, ← e63, ← e60, e58, e44, e43, e42, F_Flo_exactly_c22.eq_1, if_neg c50x]) hR45)
    refine lv_pop hx hb d_7_15_58 rfl ?_
    refine lv_aload hx hb d_7_15_59 (lv_at hl 1 rfl) ?_
    refine lv_iload_n hx hb d_7_15_61 rfl (lv_at hl 2 rfl) ?_
    refine q_gov V (q_runV (As := [.int a15]) (rest := []) (d := 3) (mc := 0) (ms := 0) (ci := 2) C0 V rfl LV_Flo_69 (X_Big_shiftLeft l D g q u68 10 220 (n_b10 g q) (by decide) a15 hI y72 y73 hO71 f74 hA75  _) rfl rfl hO71 rfl hl.1 rfl (Nat.le_of_ble_eq_true rfl) ⟨by decide, by decide⟩ ⟨Nat.le_of_ble_eq_true rfl, Nat.le_of_ble_eq_true rfl⟩ d_7_15_62) (fun u96 H locs hp97 V => ?_)
    obtain ⟨hI, hu109, y99, y100, f101, hO98, hA102, b103, b104, b105, b106, b107, hE108⟩ := hp97
    replace hO98 : u96[10]? = (some (q 10, .inr (2, [.ref (q 11), .int y99, .int y100])) : Option (Nat × va_E)) := hO98
    replace hA102 : u96[11]? = (some (q 11, .inl (g 0, (220 : Int32).toNatClampNeg, .inl f101)) : Option (Nat × va_E)) := hA102
    obtain ⟨p110, e111⟩ : ∃ z, z = (F_Big_shiftLeft (220 : Int32) a15 y72 y73 f74) := ⟨_, rfl⟩
    have e112 : y99 = p110.1 := congrArg (fun z => z.1) (hE108.trans e111.symm)
    have e113 : y100 = p110.2.1 := congrArg (fun z => z.2.1) (hE108.trans e111.symm)
    have e114 : f101 = p110.2.2 := congrArg (fun z => z.2.2) (hE108.trans e111.symm)
    replace b103 : q_F (0 ≤ y99.toInt) := b103
    replace b104 : q_F (0 ≤ y100.toInt) := b104
    replace b105 : q_F (y99.toInt ≤ y72.toInt + 219) := b105
    replace b106 : q_F (y99.toInt ≤ 220) := b106
    replace b107 : q_F (y100.toInt ≤ y73.toInt) := b107
    replace hO9 := (hu109 _ (by have z0 := hB1.2.2.2.2; simp only [List.mem_cons, List.not_mem_nil, or_false, not_or]; omega)).trans hO9
    replace hO20 := (hu109 _ (by decide)).trans hO20
    replace hF := q_uc hF hu109 (by simp)
    have hR115 := (show F_Flo_exactly_c62 A B C x2 t0_0 t0_1 t1_0 a15 p40 a65 p85 p110 = (F_Flo_exactly A B C x2 t0_0 t0_1 t1_0) from Eq.trans (by rw [e111, e90, e89, e88, F_Flo_exactly_c55.eq_1]) hR91)
    refine lv_iconst (v := 0) hx hb d_7_15_65 (by decide) ?_
    refine lv_iload_n hx hb d_7_15_66 rfl (lv_at hl 2 rfl) ?_
    refine lv_ineg hx hb d_7_15_67 ?_
    obtain ⟨a120, e121⟩ := q_nm (-a15 : Int32)
    refine q_ti (v := a120) e121 ?_
    have b122 : q_F (a120.toInt = -a15.toInt) := (by rw [← e121]; show (-a15 : Int32).toInt = -a15.toInt; exact q_negI rfl (by have t1 : 0 ≤ a15.toInt + 1074 := b16; omega))
    refine lv_iload hx hb d_7_15_68 (lv_at hl 0 rfl) ?_
    refine lv_isub hx hb d_7_15_70 ?_
    obtain ⟨a123, e124⟩ := q_nm (a120 - a65 : Int32)
    refine q_ti (v := a123) e124 ?_
    have b125 : q_F (a123.toInt = a120.toInt - a65.toInt) := (by rw [← e124]; show (a120 - a65 : Int32).toInt = a120.toInt - a65.toInt; exact q_subI (x := a120.toInt) (y := a65.toInt) rfl rfl (by have t1 : a15.toInt + 150 ≤ C.toInt := b17; have t2 : a59.toInt = -a15.toInt := b61; have t3 : 0 ≤ a62.toInt ∧ a59.toInt ≤ a62.toInt ∧ (a62.toInt = 0 ∨ a62.toInt = a59.toInt) := b64; have t4 : a65.toInt ≤ a54.toInt ∧ a65.toInt ≤ a62.toInt ∧ (a65.toInt = a54.toInt ∨ a65.toInt = a62.toInt) := b67; have t5 : a120.toInt = -a15.toInt := b122; have _ := q_lo32 (x := C); have _ := q_hi32 (x := C); have t6 : 0 ≤ a15.toInt + 1074 := b16; have t7 : 0 ≤ a54.toInt := b55; omega) (by have t1 : a15.toInt + 150 ≤ C.toInt := b17; have t2 : a59.toInt = -a15.toInt := b61; have t3 : 0 ≤ a62.toInt ∧ a59.toInt ≤ a62.toInt ∧ (a62.toInt = 0 ∨ a62.toInt = a59.toInt) := b64; have t4 : a65.toInt ≤ a54.toInt ∧ a65.toInt ≤ a62.toInt ∧ (a65.toInt = a54.toInt ∨ a65.toInt = a62.toInt) := b67; have t5 : a120.toInt = -a15.toInt := b122; have _ := q_lo32 (x := C); have _ := q_hi32 (x := C); have t6 : 0 ≤ a15.toInt + 1074 := b16; have t7 : 0 ≤ a54.toInt := b55; omega))
    refine q_max C0 hl.1 rfl w_802 w_803 w_7 w_804 ⟨Nat.le_of_ble_eq_true rfl, Nat.le_of_ble_eq_true rfl⟩ ⟨Nat.le_of_ble_eq_true rfl, Nat.le_of_ble_eq_true rfl⟩ d_7_15_71 ?_
    obtain ⟨a126, e127⟩ := q_nm (if 0 < a123 then a123 else 0 : Int32)
    refine q_ti (v := a126) e127 ?_
    have b128 : q_F (0 ≤ a126.toInt ∧ a123.toInt ≤ a126.toInt ∧ (a126.toInt = 0 ∨ a126.toInt = a123.toInt)) := (by rw [← e127]; show 0 ≤ (if 0 < a123 then a123 else 0 : Int32).toInt ∧ a123.toInt ≤ (if 0 < a123 then a123 else 0 : Int32).toInt ∧ ((if 0 < a123 then a123 else 0 : Int32).toInt = 0 ∨ (if 0 < a123 then a123 else 0 : Int32).toInt = a123.toInt); exact (by have y0 : (0 : Int32).toInt = 0 := rfl; have z := s_max (a := 0) (b := a123); omega))
    refine lv_istore (lv' := [(6, .int a126), (5, .int a65), (4, .ref (q 10)), (3, .int a15), (0, .ref (q k1)), (1, .long x2)]) hx hb d_7_15_74 hl (by decide) rfl (fun ls hl => ?_)
    refine lv_aload hx hb d_7_15_76 (lv_at hl 2 rfl) ?_
    refine lv_iload hx hb d_7_15_78 (lv_at hl 0 rfl) ?_
    refine q_gov V (q_runV (As := [.int a126]) (rest := []) (d := 2) (mc := 0) (ms := 0) (ci := 2) C0 V rfl LV_Flo_91 (X_Big_timesFive l D g q u96 10 220 (n_b10 g q) (by decide) a126 hI y99 y100 hO98 f101 hA102  _) rfl rfl hO98 rfl hl.1 rfl (Nat.le_of_ble_eq_true rfl) ⟨by decide, by decide⟩ ⟨Nat.le_of_ble_eq_true rfl, Nat.le_of_ble_eq_true rfl⟩ d_7_15_80) (fun u129 H locs hp130 V => ?_)
    obtain ⟨hI, hu141, y132, y133, f134, hO131, hA135, b136, b137, b138, b139, hE140⟩ := hp130
    replace hO131 : u129[10]? = (some (q 10, .inr (2, [.ref (q 11), .int y132, .int y133])) : Option (Nat × va_E)) := hO131
    replace hA135 : u129[11]? = (some (q 11, .inl (g 0, (220 : Int32).toNatClampNeg, .inl f134)) : Option (Nat × va_E)) := hA135
    obtain ⟨p142, e143⟩ : ∃ z, z = (F_Big_timesFive (220 : Int32) a126 y99 y100 f101) := ⟨_, rfl⟩
    have e144 : y132 = p142.1 := congrArg (fun z => z.1) (hE140.trans e143.symm)
    have e145 : y133 = p142.2.1 := congrArg (fun z => z.2.1) (hE140.trans e143.symm)
    have e146 : f134 = p142.2.2 := congrArg (fun z => z.2.2) (hE140.trans e143.symm)
    replace b136 : q_F (y99.toInt ≤ y132.toInt) := b136
    replace b137 : q_F (y132.toInt ≤ 220) := b137
    replace b138 : q_F (y100.toInt ≤ y133.toInt) := b138
    replace b139 : q_F (y133.toInt ≤ y100.toInt) := b139
    replace hO9 := (hu141 _ (by have z0 := hB1.2.2.2.2; simp only [List.mem_cons, List.not_mem_nil, or_false, not_or]; omega)).trans hO9
    replace hO20 := (hu141 _ (by decide)).trans hO20
    replace hF := q_uc hF hu141 (by simp)
    have hR147 := (show F_Flo_exactly_c80 A B C x2 t0_0 t0_1 t1_0 a15 p40 a65 p85 p110 a126 p142 = (F_Flo_exactly A B C x2 t0_0 t0_1 t1_0) from Eq.trans (by rw [e143, ← e127, ← e124, ← e121, e114, e113, e112, F_Flo_exactly_c62.eq_1]) hR115)
    refine lv_aload hx hb d_7_15_83 (lv_at hl 2 rfl) ?_
    refine lv_aload_n hx hb d_7_15_85 rfl (lv_at hl 4 rfl) ?_
    refine lv_lload_n hx hb d_7_15_86 rfl (lv_at hl 5 rfl) ?_
    refine q_goi V (q_runV (As := [.long x2]) (rest := [.ref (q 10)]) (d := 2) (mc := 0) (ms := 0) (ci := 6) C0 V rfl LV_Flo_43 (X_Flo_isNegative l D g q u129 k1 A B C hB1 x2 hI   _) rfl rfl hO9 rfl hl.1 rfl (Nat.le_of_ble_eq_true rfl) ⟨by decide, by decide⟩ ⟨Nat.le_of_ble_eq_true rfl, Nat.le_of_ble_eq_true rfl⟩ d_7_15_87) (fun a154 u152 H locs hp153 V => ?_)
    obtain ⟨rfl, b155, b156, hE157⟩ := hp153
    have e158 : a154 = (F_Flo_isNegative A B C x2) := hE157
    replace b155 : q_F (0 ≤ a154.toInt) := b155
    replace b156 : q_F (a154.toInt ≤ 1) := b156
    refine q_put (ci := 2) (j := 2) (v := .int a154) (ty := .boolean) C0 V i_Big o_Big n_Big rfl rfl hO131 (by decide) w_99 rfl rfl (q_nz01 (q_Ile (x := 0) (y := a154.toInt) (by decide) rfl (by have t1 : 0 ≤ a154.toInt := b155; omega)) (q_Ile (x := a154.toInt) (y := 1) rfl (by decide) (by have t1 : a154.toInt ≤ 1 := b156; omega))) (q_fz01 (q_Ile (x := 0) (y := a154.toInt) (by decide) rfl (by have t1 : 0 ≤ a154.toInt := b155; omega)) (q_Ile (x := a154.toInt) (y := 1) rfl (by decide) (by have t1 : a154.toInt ≤ 1 := b156; omega))) (Nat.le_of_ble_eq_true rfl) d_7_15_90 (fun H locs w159 hu160 hO131 V => ?_)
    replace hO131 : w159[10]? = (some (q 10, .inr (2, [.ref (q 11), .int y132, .int a154])) : Option (Nat × va_E)) := hO131
    replace hI := q_bigO' hI (n_b10 g q) hu160 hO131 ⟨(by have zR : (220 : Int32).toInt = 220 := rfl; have t1 : 0 ≤ y99.toInt := b103; have t2 : y99.toInt ≤ y132.toInt := b136; omega), (by have zR : (220 : Int32).toInt = 220 := rfl; have t1 : y132.toInt ≤ 220 := b137; omega)⟩ ⟨(by have t1 : 0 ≤ a154.toInt := b155; omega), (by have t1 : a154.toInt ≤ 1 := b156; omega)⟩
    replace hA135 := (hu160 _ (by decide)).trans hA135
    replace hO9 := (hu160 _ (by have z0 := hB1.2.2.2.2; omega)).trans hO9
    replace hO20 := (hu160 _ (by decide)).trans hO20
    replace hF := q_us hF hu160 (by simp)
    refine lv_iload hx hb d_7_15_93 (lv_at hl 0 rfl) ?_
    exact q_reti C0 V (⟨hI, hF, y132, a154, f134, hO131, hA135, (show 0 ≤ a126.toInt from (by have t1 : 0 ≤ a126.toInt ∧ a123.toInt ≤ a126.toInt ∧ (a126.toInt = 0 ∨ a126.toInt = a123.toInt) := b128; omega)), (show 0 ≤ y132.toInt from (by have t1 : 0 ≤ y99.toInt := b103; have t2 : y99.toInt ≤ y132.toInt := b136; omega)), (show y132.toInt ≤ 220 from (by have t1 : y132.toInt ≤ 220 := b137; omega)), (show 0 ≤ a154.toInt from (by have t1 : 0 ≤ a154.toInt := b155; omega)), (show a154.toInt ≤ 1 from (by have t1 : a154.toInt ≤ 1 := b156; omega)), (show (a126, y132, a154, f134) = (F_Flo_exactly A B C x2 t0_0 t0_1 t1_0) from Eq.trans (by rw [e158, e146, e144, F_Flo_exactly_c80.eq_1]) hR147)⟩) d_7_15_95
  ·
    have b161 : q_F (y29.toInt = 0) := (q_eqI c50)
    refine lv_iconst (v := 0) hx hb d_7_15_33 (by decide) ?_
    exact q_reti C0 V (⟨hI, hF, y29, y30, f31, hO28, hA32, (show 0 ≤ (0 : Int32).toInt from (by have z7 : (0 : Int32).toInt = 0 := rfl; omega)), (show 0 ≤ y29.toInt from (by have z7 : (0 : Int32).toInt = 0 := rfl; have t1 : 0 ≤ y29.toInt := b33; omega)), (show y29.toInt ≤ 220 from (by have z7 : (0 : Int32).toInt = 0 := rfl; have t1 : y29.toInt ≤ 3 := b34; omega)), (show 0 ≤ y30.toInt from (by have z7 : (0 : Int32).toInt = 0 := rfl; have t1 : 0 ≤ y30.toInt := b35; omega)), (show y30.toInt ≤ 1 from (by have z7 : (0 : Int32).toInt = 0 := rfl; have t1 : y30.toInt ≤ 1 := b36; omega)), (show ((0 : Int32), y29, y30, f31) = (F_Flo_exactly A B C x2 t0_0 t0_1 t1_0) from Eq.trans (by have c50x := c50; rw [e42] at c50x; rw [e44, e43, e42, F_Flo_exactly_c22.eq_1, if_pos c50x]) hR45)⟩) d_7_15_34
def F_Flo_nearest_J208 (K_F_Flo_nearest_L102 : Int32 → Int64 → Int64) (A : Int32) (B : Int32) (C : Int32) (R2 : Int32) (x3 : Int64) (x4 : Int32) (t0_0 : Int32) (t0_1 : Int32) (t1_0 : (Nat → Int32)) (a89 : Int32) (a82 : Int32) (lx96 : Int32) (lx97 : Int64) (lx108 : Int32) (lx119 : Int32) : Int64 := (((((a82 + B : Int32) - 1 : Int32).toInt64 : Int64) <<< (A.toInt64 &&& 63) : Int64) + (lx97 + 1 : Int64) : Int64)
def F_Flo_nearest_J187 (K_F_Flo_nearest_L102 : Int32 → Int64 → Int64) (A : Int32) (B : Int32) (C : Int32) (R2 : Int32) (x3 : Int64) (x4 : Int32) (t0_0 : Int32) (t0_1 : Int32) (t1_0 : (Nat → Int32)) (a89 : Int32) (a82 : Int32) (lx96 : Int32) (lx97 : Int64) (lx108 : Int32) (lx119 : Int32) : Int64 := if lx108 = (0 : Int32) then ((((((a82 + B : Int32) - 1 : Int32).toInt64 : Int64) <<< (A.toInt64 &&& 63) : Int64) + lx97 : Int64)) else (if lx119 = (0 : Int32) then (if (lg_cmp (lx97 &&& 1 : Int64) 1 : Int32) = (0 : Int32) then (F_Flo_nearest_J208 K_F_Flo_nearest_L102 A B C R2 x3 x4 t0_0 t0_1 t1_0 a89 a82 lx96 lx97 lx108 lx119) else ((((((a82 + B : Int32) - 1 : Int32).toInt64 : Int64) <<< (A.toInt64 &&& 63) : Int64) + lx97 : Int64))) else (F_Flo_nearest_J208 K_F_Flo_nearest_L102 A B C R2 x3 x4 t0_0 t0_1 t1_0 a89 a82 lx96 lx97 lx108 lx119))
def F_Flo_nearest_J182 (K_F_Flo_nearest_L102 : Int32 → Int64 → Int64) (A : Int32) (B : Int32) (C : Int32) (R2 : Int32) (x3 : Int64) (x4 : Int32) (t0_0 : Int32) (t0_1 : Int32) (t1_0 : (Nat → Int32)) (a89 : Int32) (a82 : Int32) (lx96 : Int32) (lx97 : Int64) (lx108 : Int32) : Int64 := F_Flo_nearest_J187 K_F_Flo_nearest_L102 A B C R2 x3 x4 t0_0 t0_1 t1_0 a89 a82 lx96 lx97 lx108 1
def F_Flo_nearest_J164 (K_F_Flo_nearest_L102 : Int32 → Int64 → Int64) (A : Int32) (B : Int32) (C : Int32) (R2 : Int32) (x3 : Int64) (x4 : Int32) (t0_0 : Int32) (t0_1 : Int32) (t1_0 : (Nat → Int32)) (a89 : Int32) (a82 : Int32) (lx96 : Int32) (lx97 : Int64) (lx108 : Int32) : Int64 := if x4 = (0 : Int32) then (if (a89 - 1 : Int32) ≤ ((F_Big_lowestOne R2 t0_0 t0_1 t1_0) : Int32) then (F_Flo_nearest_J187 K_F_Flo_nearest_L102 A B C R2 x3 x4 t0_0 t0_1 t1_0 a89 a82 lx96 lx97 lx108 0) else (F_Flo_nearest_J182 K_F_Flo_nearest_L102 A B C R2 x3 x4 t0_0 t0_1 t1_0 a89 a82 lx96 lx97 lx108)) else (F_Flo_nearest_J182 K_F_Flo_nearest_L102 A B C R2 x3 x4 t0_0 t0_1 t1_0 a89 a82 lx96 lx97 lx108)
def F_Flo_nearest_J163 (K_F_Flo_nearest_L102 : Int32 → Int64 → Int64) (A : Int32) (B : Int32) (C : Int32) (R2 : Int32) (x3 : Int64) (x4 : Int32) (t0_0 : Int32) (t0_1 : Int32) (t1_0 : (Nat → Int32)) (a89 : Int32) (a82 : Int32) (lx96 : Int32) (lx97 : Int64) : Int64 := F_Flo_nearest_J164 K_F_Flo_nearest_L102 A B C R2 x3 x4 t0_0 t0_1 t1_0 a89 a82 lx96 lx97 0
def F_Flo_nearest_L102 (A : Int32) (B : Int32) (C : Int32) (R2 : Int32) (x3 : Int64) (x4 : Int32) (t0_0 : Int32) (t0_1 : Int32) (t1_0 : (Nat → Int32)) (a89 : Int32) (a82 : Int32) : Nat → Int32 → Int64 → Int64
  | 0, _, _ => default
  | fm + 1, lx96, lx97 => if lx96 < (0 : Int32) then (if a89 ≤ (0 : Int32) then (F_Flo_nearest_J163 (F_Flo_nearest_L102 A B C R2 x3 x4 t0_0 t0_1 t1_0 a89 a82 fm) A B C R2 x3 x4 t0_0 t0_1 t1_0 a89 a82 lx96 lx97) else (if ((F_Big_bit R2 (a89 - 1 : Int32) t0_0 t0_1 t1_0) : Int32) = (1 : Int32) then (F_Flo_nearest_J164 (F_Flo_nearest_L102 A B C R2 x3 x4 t0_0 t0_1 t1_0 a89 a82 fm) A B C R2 x3 x4 t0_0 t0_1 t1_0 a89 a82 lx96 lx97 1) else (F_Flo_nearest_J163 (F_Flo_nearest_L102 A B C R2 x3 x4 t0_0 t0_1 t1_0 a89 a82 fm) A B C R2 x3 x4 t0_0 t0_1 t1_0 a89 a82 lx96 lx97))) else (if (a89 + lx96 : Int32) < (0 : Int32) then (F_Flo_nearest_L102 A B C R2 x3 x4 t0_0 t0_1 t1_0 a89 a82 fm (lx96 + (-1) : Int32) ((lx97 <<< ((1 : Int32).toInt64 &&& 63) : Int64) ||| 0 : Int64)) else (F_Flo_nearest_L102 A B C R2 x3 x4 t0_0 t0_1 t1_0 a89 a82 fm (lx96 + (-1) : Int32) ((lx97 <<< ((1 : Int32).toInt64 &&& 63) : Int64) ||| (((F_Big_bit R2 (a89 + lx96 : Int32) t0_0 t0_1 t1_0) : Int32).toInt64 : Int64) : Int64)))
def F_Flo_nearest (A : Int32) (B : Int32) (C : Int32) (R2 : Int32) (x3 : Int64) (x4 : Int32) (t0_0 : Int32) (t0_1 : Int32) (t1_0 : (Nat → Int32)) : Int64 := if ((F_Big_bitLength R2 t0_0 t0_1 t1_0) : Int32) = (0 : Int32) then ((0 : Int64)) else (if (0 : Int32) ≤ (lg_cmp ((((F_Big_bitLength R2 t0_0 t0_1 t1_0) : Int32).toInt64 : Int64) + x3 : Int64) (-3000) : Int32) then (if (lg_cmp ((((((F_Big_bitLength R2 t0_0 t0_1 t1_0) : Int32).toInt64 : Int64) + x3 : Int64) - (A.toInt64 : Int64) : Int64) - 1 : Int64) ((C - B : Int32).toInt64 : Int64) : Int32) < (0 : Int32) then (F_Flo_nearest_L102 A B C R2 x3 x4 t0_0 t0_1 t1_0 ((((((F_jMath_max_JJJ ((((((F_Big_bitLength R2 t0_0 t0_1 t1_0) : Int32).toInt64 : Int64) + x3 : Int64) - (A.toInt64 : Int64) : Int64) - 1 : Int64) ((1 - B : Int32).toInt64 : Int64)) : Int64).toInt32 : Int32).toInt64 : Int64) - x3 : Int64).toInt32 : Int32) (((F_jMath_max_JJJ ((((((F_Big_bitLength R2 t0_0 t0_1 t1_0) : Int32).toInt64 : Int64) + x3 : Int64) - (A.toInt64 : Int64) : Int64) - 1 : Int64) ((1 - B : Int32).toInt64 : Int64)) : Int64).toInt32 : Int32) (((A + 1 : Int32).toInt - ((-1))).toNat + 1) (A + 1 : Int32) 0) else (((F_Flo_infinity A B C) : Int64))) else ((0 : Int64)))
set_option maxRecDepth 100000 in
set_option maxHeartbeats 4000000 in
theorem X_Flo_nearest (l : Launch) (D : va_G) (g : Nat → ClassId) (q : Nat → Nat) (ws : va_W) (k1 : Nat) (A B C : Int32) (hB1 : q_isFlo (nsh g q) q k1 A B C) (k2 : Nat) (R2 : Int32) (hB2 : q_isBig (nsh g q) g q k2 R2) (zk2 : (10 ≤ k2 ∧ k2 ≤ 32) ∨ 66 ≤ k2) (x3 : Int64) (x4 : Int32) (hI : q_I (nsh g q) q ws) (t0_0 : Int32) (t0_1 : Int32) (hT0 : ws[k2]? = (some (q k2, .inr (2, [.ref (q (k2 + 1)), .int t0_0, .int t0_1])) : Option (Nat × va_E))) (t1_0 : (Nat → Int32)) (hT1 : ws[k2 + 1]? = (some (q (k2 + 1), .inl (g 0, R2.toNatClampNeg, .inl t1_0)) : Option (Nat × va_E))) (hzx4 : 0 ≤ x4.toInt ∧ x4.toInt ≤ 1) : q_mL l y_Flo_nearest prog_7_method_17_code 12 4 0 0 D g [.ref (q k1), .ref (q k2), .long x3, .int x4] ws (fun r u => ws = u ∧ r = (F_Flo_nearest A B C R2 x3 x4 t0_0 t0_1 t1_0)) := by
  intro sz
  refine q_into (by decide) (Nat.le_of_ble_eq_true rfl) ?_
  intro p e s m below meth c ls hsz C0 V hl
  have hx := C0.1
  have hb := C0.2.1
  have hfk10 : q_F (23 ≤ A.toInt ∧ A.toInt ≤ 52) := hB1.2.1
  have hfk11 : q_F (150 ≤ B.toInt ∧ B.toInt ≤ 1075) := hB1.2.2.1
  have hfk12 : q_F (255 ≤ C.toInt ∧ C.toInt ≤ 2047) := hB1.2.2.2.1
  have hfk20 : q_F (0 ≤ R2.toInt ∧ R2.toInt ≤ 220) := hB2.2.2
  replace hzx4 : q_F (0 ≤ x4.toInt ∧ x4.toInt ≤ 1) := hzx4
  obtain ⟨yy0_0, yy0_1, hh0, btt0_0, btt0_1⟩ := q_bigO hI hB2
  obtain ⟨rfl, rfl⟩ : t0_0 = yy0_0 ∧ t0_1 = yy0_1 := by have z := Option.some.inj (hT0.symm.trans hh0); simpa using z
  replace btt0_0 : q_F (0 ≤ t0_0.toInt ∧ t0_0.toInt ≤ R2.toInt) := btt0_0
  replace btt0_1 : q_F (0 ≤ t0_1.toInt ∧ t0_1.toInt ≤ 1) := btt0_1
  have hl : lv_has ls 12 [(0, .ref (q k1)), (1, .ref (q k2)), (2, .long x3), (4, .int x4)] := hl
  refine lv_aload_n hx hb d_7_17_0 rfl (lv_at hl 1 rfl) ?_
  refine q_goi V (q_runV (As := []) (rest := []) (d := 3) (mc := 0) (ms := 0) (ci := 2) C0 V rfl LV_Flo_104 (X_Big_bitLength l D g q ws k2 R2 hB2 zk2  hI t0_0 t0_1 hT0 t1_0 hT1  _) rfl rfl hT0 rfl hl.1 rfl (Nat.le_of_ble_eq_true rfl) ⟨by decide, by decide⟩ ⟨Nat.le_of_ble_eq_true rfl, Nat.le_of_ble_eq_true rfl⟩ d_7_17_1) (fun a11 u9 H locs hp10 V => ?_)
  obtain ⟨rfl, b12, b13, b14, hE15⟩ := hp10
  have e16 : a11 = (F_Big_bitLength R2 t0_0 t0_1 t1_0) := hE15
  replace b12 : q_F (0 ≤ a11.toInt) := b12
  replace b13 : q_F (t0_0.toInt ≤ a11.toInt + 1) := b13
  replace b14 : q_F (a11.toInt ≤ t0_0.toInt + 6632) := b14
  refine lv_istore (lv' := [(5, .int a11), (0, .ref (q k1)), (1, .ref (q k2)), (2, .long x3), (4, .int x4)]) hx hb d_7_17_4 hl (by decide) rfl (fun ls hl => ?_)
  refine lv_iload hx hb d_7_17_6 (lv_at hl 0 rfl) ?_
  refine lv_if_eq (tgt := 23) hx hb d_7_17_8 (by decide) (fun c17 => ?_) (fun c17 => ?_)
  ·
    have b18 : q_F (a11.toInt = 0) := (q_eqI c17)
    refine lv_lconst (v := 0) hx hb d_7_17_23 (by decide) ?_
    exact q_retl C0 V (⟨rfl, (show (0 : Int64) = (F_Flo_nearest A B C R2 x3 x4 t0_0 t0_1 t1_0) from (by have c17x := c17; rw [e16] at c17x; rw [F_Flo_nearest.eq_1, if_pos c17x]))⟩) d_7_17_24
  ·
    have b19 : q_F (a11.toInt ≠ 0) := (q_neI c17)
    refine lv_iload hx hb d_7_17_11 (lv_at hl 0 rfl) ?_
    refine lv_i2l hx hb d_7_17_13 rfl ?_
    obtain ⟨j20, e21⟩ := q_nm (a11.toInt64 : Int64)
    refine q_tl (v := j20) e21 ?_
    have b22 : q_F (j20.toInt = a11.toInt) := (by rw [← e21]; show (a11.toInt64 : Int64).toInt = a11.toInt; exact q_i2l rfl)
    refine lv_lload_n hx hb d_7_17_14 rfl (lv_at hl 3 rfl) ?_
    refine lv_ladd hx hb d_7_17_15 ?_
    obtain ⟨j23, e24⟩ := q_nm (j20 + x3 : Int64)
    refine q_tl (v := j23) e24 ?_
    refine q_ldc2 C0 rfl w_739 d_7_17_16 ?_
    refine W.lcmp hx hb d_7_17_19 ?_
    obtain ⟨a25, e26⟩ := q_nm (lg_cmp j23 (-3000) : Int32)
    refine q_ti (v := a25) e26 ?_
    have b27 : q_F (-1 ≤ a25.toInt ∧ a25.toInt ≤ 1 ∧ ((a25.toInt = -1 ∧ j23.toInt < (-3000)) ∨ (a25.toInt = 0 ∧ j23.toInt = (-3000)) ∨ (a25.toInt = 1 ∧ (-3000) < j23.toInt))) := (by rw [← e26]; show -1 ≤ (lg_cmp j23 (-3000) : Int32).toInt ∧ (lg_cmp j23 (-3000) : Int32).toInt ≤ 1 ∧ (((lg_cmp j23 (-3000) : Int32).toInt = -1 ∧ j23.toInt < (-3000)) ∨ ((lg_cmp j23 (-3000) : Int32).toInt = 0 ∧ j23.toInt = (-3000)) ∨ ((lg_cmp j23 (-3000) : Int32).toInt = 1 ∧ (-3000) < j23.toInt)); exact (by have y1 : (-3000 : Int64).toInt = -3000 := rfl; have z := s_lcmp (a := j23) (b := (-3000)); omega))
    refine lv_if_ge (tgt := 25) hx hb d_7_17_20 (by decide) (fun c28 => ?_) (fun c28 => ?_)
    ·
      have b29 : q_F (0 ≤ a25.toInt) := (q_leI c28)
      refine lv_iload hx hb d_7_17_25 (lv_at hl 0 rfl) ?_
      refine lv_i2l hx hb d_7_17_27 rfl ?_
      obtain ⟨j30, e31⟩ := q_nm (a11.toInt64 : Int64)
      refine q_tl (v := j30) e31 ?_
      have b32 : q_F (j30.toInt = a11.toInt) := (by rw [← e31]; show (a11.toInt64 : Int64).toInt = a11.toInt; exact q_i2l rfl)
      refine lv_lload_n hx hb d_7_17_28 rfl (lv_at hl 3 rfl) ?_
      refine lv_ladd hx hb d_7_17_29 ?_
      obtain ⟨j33, e34⟩ := q_nm (j30 + x3 : Int64)
      refine q_tl (v := j33) e34 ?_
      refine lv_aload_n hx hb d_7_17_30 rfl (lv_at hl 1 rfl) ?_
      obtain ⟨y36, y37, y38, hO35⟩ := n_flO hI hB1
      refine q_get (ci := 6) (j := 0) (v := .int A) C0 V i_Flo rfl rfl hO35 (by decide) w_231 rfl d_7_17_31 ?_
      refine lv_i2l hx hb d_7_17_34 rfl ?_
      obtain ⟨j39, e40⟩ := q_nm (A.toInt64 : Int64)
      refine q_tl (v := j39) e40 ?_
      have b41 : q_F (j39.toInt = A.toInt) := (by rw [← e40]; show (A.toInt64 : Int64).toInt = A.toInt; exact q_i2l rfl)
      refine lv_lsub hx hb d_7_17_35 ?_
      obtain ⟨j42, e43⟩ := q_nm (j33 - j39 : Int64)
      refine q_tl (v := j42) e43 ?_
      refine lv_lconst (v := 1) hx hb d_7_17_36 (by decide) ?_
      refine lv_lsub hx hb d_7_17_37 ?_
      obtain ⟨j44, e45⟩ := q_nm (j42 - 1 : Int64)
      refine q_tl (v := j44) e45 ?_
      refine lv_aload_n hx hb d_7_17_38 rfl (lv_at hl 1 rfl) ?_
      refine q_get (ci := 6) (j := 2) (v := .int C) C0 V i_Flo rfl rfl hO35 (by decide) w_234 rfl d_7_17_39 ?_
      refine lv_aload_n hx hb d_7_17_42 rfl (lv_at hl 1 rfl) ?_
      refine q_get (ci := 6) (j := 1) (v := .int B) C0 V i_Flo rfl rfl hO35 (by decide) w_233 rfl d_7_17_43 ?_
      refine lv_isub hx hb d_7_17_46 ?_
      obtain ⟨a46, e47⟩ := q_nm (C - B : Int32)
      refine q_ti (v := a46) e47 ?_
      have b48 : q_F (a46.toInt = C.toInt - B.toInt) := (by rw [← e47]; show (C - B : Int32).toInt = C.toInt - B.toInt; exact q_subI (x := C.toInt) (y := B.toInt) rfl rfl (by have t1 : 150 ≤ B.toInt ∧ B.toInt ≤ 1075 := hfk11; have t2 : 255 ≤ C.toInt ∧ C.toInt ≤ 2047 := hfk12; omega) (by have t1 : 150 ≤ B.toInt ∧ B.toInt ≤ 1075 := hfk11; have t2 : 255 ≤ C.toInt ∧ C.toInt ≤ 2047 := hfk12; omega))
      refine lv_i2l hx hb d_7_17_47 rfl ?_
      obtain ⟨j49, e50⟩ := q_nm (a46.toInt64 : Int64)
      refine q_tl (v := j49) e50 ?_
      have b51 : q_F (j49.toInt = a46.toInt) := (by rw [← e50]; show (a46.toInt64 : Int64).toInt = a46.toInt; exact q_i2l rfl)
      refine W.lcmp hx hb d_7_17_48 ?_
      obtain ⟨a52, e53⟩ := q_nm (lg_cmp j44 j49 : Int32)
      refine q_ti (v := a52) e53 ?_
      have b54 : q_F (-1 ≤ a52.toInt ∧ a52.toInt ≤ 1 ∧ ((a52.toInt = -1 ∧ j44.toInt < j49.toInt) ∨ (a52.toInt = 0 ∧ j44.toInt = j49.toInt) ∨ (a52.toInt = 1 ∧ j49.toInt < j44.toInt))) := (by rw [← e53]; show -1 ≤ (lg_cmp j44 j49 : Int32).toInt ∧ (lg_cmp j44 j49 : Int32).toInt ≤ 1 ∧ (((lg_cmp j44 j49 : Int32).toInt = -1 ∧ j44.toInt < j49.toInt) ∨ ((lg_cmp j44 j49 : Int32).toInt = 0 ∧ j44.toInt = j49.toInt) ∨ ((lg_cmp j44 j49 : Int32).toInt = 1 ∧ j49.toInt < j44.toInt)); exact s_lcmp)
      refine lv_if_lt (tgt := 57) hx hb d_7_17_49 (by decide) (fun c55 => ?_) (fun c55 => ?_)
      ·
        have b56 : q_F (a52.toInt < 0) := (q_ltI c55)
        refine lv_iload hx hb d_7_17_57 (lv_at hl 0 rfl) ?_
        refine lv_i2l hx hb d_7_17_59 rfl ?_
        obtain ⟨j57, e58⟩ := q_nm (a11.toInt64 : Int64)
        refine q_tl (v := j57) e58 ?_
        have b59 : q_F (j57.toInt = a11.toInt) := (by rw [← e58]; show (a11.toInt64 : Int64).toInt = a11.toInt; exact q_i2l rfl)
        refine lv_lload_n hx hb d_7_17_60 rfl (lv_at hl 3 rfl) ?_
        refine lv_ladd hx hb d_7_17_61 ?_
        obtain ⟨j60, e61⟩ := q_nm (j57 + x3 : Int64)
        refine q_tl (v := j60) e61 ?_
        refine lv_aload_n hx hb d_7_17_62 rfl (lv_at hl 1 rfl) ?_
        refine q_get (ci := 6) (j := 0) (v := .int A) C0 V i_Flo rfl rfl hO35 (by decide) w_231 rfl d_7_17_63 ?_
        refine lv_i2l hx hb d_7_17_66 rfl ?_
        obtain ⟨j62, e63⟩ := q_nm (A.toInt64 : Int64)
        refine q_tl (v := j62) e63 ?_
        have b64 : q_F (j62.toInt = A.toInt) := (by rw [← e63]; show (A.toInt64 : Int64).toInt = A.toInt; exact q_i2l rfl)
        refine lv_lsub hx hb d_7_17_67 ?_
        obtain ⟨j65, e66⟩ := q_nm (j60 - j62 : Int64)
        refine q_tl (v := j65) e66 ?_
        refine lv_lconst (v := 1) hx hb d_7_17_68 (by decide) ?_
        refine lv_lsub hx hb d_7_17_69 ?_
        obtain ⟨j67, e68⟩ := q_nm (j65 - 1 : Int64)
        refine q_tl (v := j67) e68 ?_
        refine lv_iconst (v := 1) hx hb d_7_17_70 (by decide) ?_
        refine lv_aload_n hx hb d_7_17_71 rfl (lv_at hl 1 rfl) ?_
        refine q_get (ci := 6) (j := 1) (v := .int B) C0 V i_Flo rfl rfl hO35 (by decide) w_233 rfl d_7_17_72 ?_
        refine lv_isub hx hb d_7_17_75 ?_
        obtain ⟨a69, e70⟩ := q_nm (1 - B : Int32)
        refine q_ti (v := a69) e70 ?_
        have b71 : q_F (a69.toInt = 1 - B.toInt) := (by rw [← e70]; show (1 - B : Int32).toInt = 1 - B.toInt; exact q_subI (x := 1) (y := B.toInt) (by decide) rfl (by have t1 : 150 ≤ B.toInt ∧ B.toInt ≤ 1075 := hfk11; omega) (by have t1 : 150 ≤ B.toInt ∧ B.toInt ≤ 1075 := hfk11; omega))
        refine lv_i2l hx hb d_7_17_76 rfl ?_
        obtain ⟨j72, e73⟩ := q_nm (a69.toInt64 : Int64)
        refine q_tl (v := j72) e73 ?_
        have b74 : q_F (j72.toInt = a69.toInt) := (by rw [← e73]; show (a69.toInt64 : Int64).toInt = a69.toInt; exact q_i2l rfl)
        refine q_gol V (q_runS (As := [.long j67, .long j72]) (rest := []) (d := 1) (mc := 0) (ms := 0) C0 V rfl LS_Flo_109 (X_jMath_max_JJJ l D g q ws  j67 j72 hI   _) rfl hl.1 rfl (Nat.le_of_ble_eq_true rfl) ⟨by decide, by decide⟩ ⟨Nat.le_of_ble_eq_true rfl, Nat.le_of_ble_eq_true rfl⟩ d_7_17_77) (fun j77 u75 H locs hp76 V => ?_)
        obtain ⟨rfl, b78, b79, hE80⟩ := hp76
        have e81 : j77 = (F_jMath_max_JJJ j67 j72) := hE80
        replace b78 : q_F (j67.toInt ≤ j77.toInt) := b78
        replace b79 : q_F (j72.toInt ≤ j77.toInt) := b79
        refine lv_l2i hx hb d_7_17_80 rfl ?_
        obtain ⟨a82, e83⟩ := q_nm (j77.toInt32 : Int32)
        refine q_ti (v := a82) e83 ?_
        refine lv_istore (lv' := [(6, .int a82), (5, .int a11), (0, .ref (q k1)), (1, .ref (q k2)), (2, .long x3), (4, .int x4)]) hx hb d_7_17_81 hl (by decide) rfl (fun ls hl => ?_)
        refine lv_iload hx hb d_7_17_83 (lv_at hl 0 rfl) ?_
        refine lv_i2l hx hb d_7_17_85 rfl ?_
        obtain ⟨j84, e85⟩ := q_nm (a82.toInt64 : Int64)
        refine q_tl (v := j84) e85 ?_
        have b86 : q_F (j84.toInt = a82.toInt) := (by rw [← e85]; show (a82.toInt64 : Int64).toInt = a82.toInt; exact q_i2l rfl)
        refine lv_lload_n hx hb d_7_17_86 rfl (lv_at hl 4 rfl) ?_
        refine lv_lsub hx hb d_7_17_87 ?_
        obtain ⟨j87, e88⟩ := q_nm (j84 - x3 : Int64)
        refine q_tl (v := j87) e88 ?_
        refine lv_l2i hx hb d_7_17_88 rfl ?_
        obtain ⟨a89, e90⟩ := q_nm (j87.toInt32 : Int32)
        refine q_ti (v := a89) e90 ?_
        refine lv_istore (lv' := [(7, .int a89), (6, .int a82), (5, .int a11), (0, .ref (q k1)), (1, .ref (q k2)), (2, .long x3), (4, .int x4)]) hx hb d_7_17_89 hl (by decide) rfl (fun ls hl => ?_)
        refine lv_lconst (v := 0) hx hb d_7_17_91 (by decide) ?_
        refine lv_lstore (lv' := [(8, .long 0), (7, .int a89), (6, .int a82), (5, .int a11), (0, .ref (q k1)), (1, .ref (q k2)), (2, .long x3), (4, .int x4)]) hx hb d_7_17_92 hl (by decide) rfl (fun ls hl => ?_)
        refine lv_aload_n hx hb d_7_17_94 rfl (lv_at hl 4 rfl) ?_
        refine q_get (ci := 6) (j := 0) (v := .int A) C0 V i_Flo rfl rfl hO35 (by decide) w_231 rfl d_7_17_95 ?_
        refine lv_iconst (v := 1) hx hb d_7_17_98 (by decide) ?_
        refine lv_iadd hx hb d_7_17_99 ?_
        obtain ⟨a91, e92⟩ := q_nm (A + 1 : Int32)
        refine q_ti (v := a91) e92 ?_
        have b93 : q_F (a91.toInt = A.toInt + 1) := (by rw [← e92]; show (A + 1 : Int32).toInt = A.toInt + 1; exact q_addI (x := A.toInt) (y := 1) rfl (by decide) (by have t1 : 23 ≤ A.toInt ∧ A.toInt ≤ 52 := hfk10; omega) (by have t1 : 23 ≤ A.toInt ∧ A.toInt ≤ 52 := hfk10; omega))
        refine lv_istore (lv' := [(10, .int a91), (8, .long 0), (7, .int a89), (6, .int a82), (5, .int a11), (0, .ref (q k1)), (1, .ref (q k2)), (2, .long x3), (4, .int x4)]) hx hb d_7_17_100 hl (by decide) rfl (fun ls hl => ?_)
        refine q_loop (X := Int32 × Int64) (fun z H locs ls _ => q_F (0 ≤ z.1.toInt + 1) ∧ q_F (z.1.toInt ≤ A.toInt + 1) ∧ q_Wd D g (va_A ws sz) s ws H locs ∧ lv_has ls 12 [(10, .int z.1), (8, .long z.2), (7, .int a89), (6, .int a82), (0, .ref (q k1)), (1, .ref (q k2)), (4, .int x4)] ∧ (∃ n, (z.1.toInt - ((-1))).toNat < n ∧ F_Flo_nearest_L102 A B C R2 x3 x4 t0_0 t0_1 t1_0 a89 a82 n z.1 z.2 = (F_Flo_nearest A B C R2 x3 x4 t0_0 t0_1 t1_0))) (fun z => (z.1.toInt - ((-1))).toNat) ?_ ((a91 : Int32), (0 : Int64)) _ _ _ ws ⟨(show q_F (0 ≤ a91.toInt + 1) from (show 0 ≤ a91.toInt + 1 from by have t1 : 23 ≤ A.toInt ∧ A.toInt ≤ 52 := hfk10; have t2 : a91.toInt = A.toInt + 1 := b93; omega)), (show q_F (a91.toInt ≤ A.toInt + 1) from (show a91.toInt ≤ A.toInt + 1 from by have t1 : a91.toInt = A.toInt + 1 := b93; omega)), V, q_lw hl (q_lw1 0 rfl (q_lw1 1 rfl (q_lw1 2 rfl (q_lw1 3 rfl (q_lw1 5 rfl (q_lw1 6 rfl (q_lw1 8 rfl q_lw0))))))), ⟨((a91.toInt - ((-1))).toNat + 1), Nat.lt_succ_self _, (show F_Flo_nearest_L102 A B C R2 x3 x4 t0_0 t0_1 t1_0 a89 a82 ((a91.toInt - ((-1))).toNat + 1) a91 0 = (F_Flo_nearest A B C R2 x3 x4 t0_0 t0_1 t1_0) from (by have c17x := c17; rw [e16] at c17x; have c28x := c28; rw [← e26, ← e24, ← e21, e16] at c28x; have c55x := c55; rw [← e53, ← e50, ← e47, ← e45, ← e43, ← e40, ← e34, ← e31, e16] at c55x; rw [← e92, ← e90, ← e88, ← e85, ← e83, e81, ← e73, ← e70, ← e68, ← e66, ← e63, ← e61, ← e58, e16, F_Flo_nearest.eq_1, if_neg c17x, if_pos c28x, if_pos c55x]))⟩⟩
        rintro ⟨lx96, lx97⟩ H locs ls _ ⟨i98, i99, V, hl, ⟨fu103, hf104, hR101⟩⟩ ih100
        obtain ⟨fm105, rfl⟩ : ∃ m, fu103 = m + 1 := ⟨fu103 - 1, by omega⟩
        replace i98 : q_F (0 ≤ lx96.toInt + 1) := i98
        replace i99 : q_F (lx96.toInt ≤ A.toInt + 1) := i99
        replace hl : lv_has ls 12 [(10, .int lx96), (8, .long lx97), (7, .int a89), (6, .int a82), (0, .ref (q k1)), (1, .ref (q k2)), (4, .int x4)] := hl
        refine lv_iload hx hb d_7_17_102 (lv_at hl 0 rfl) ?_
        refine lv_if_lt (tgt := 142) hx hb d_7_17_104 (by decide) (fun c106 => ?_) (fun c106 => ?_)
        ·
          have b107 : q_F (lx96.toInt < 0) := (q_ltI c106)
          refine lv_iload hx hb d_7_17_142 (lv_at hl 2 rfl) ?_
          refine q_join (X := Int32) (fun z H locs ls _ => q_F (lx96.toInt + 1 ≤ z.toInt) ∧ q_F (z.toInt ≤ lx96.toInt + 2) ∧ q_Wd D g (va_A ws sz) s ws H locs ∧ lv_has ls 12 [(8, .long lx97), (7, .int a89), (6, .int a82), (0, .ref (q k1)), (1, .ref (q k2)), (4, .int x4)] ∧ F_Flo_nearest_J164 (F_Flo_nearest_L102 A B C R2 x3 x4 t0_0 t0_1 t1_0 a89 a82 fm105) A B C R2 x3 x4 t0_0 t0_1 t1_0 a89 a82 lx96 lx97 z = (F_Flo_nearest A B C R2 x3 x4 t0_0 t0_1 t1_0)) (fun z => [.int z]) 164 0 0 ?_ ?_
          ·
            rintro lx108 H locs ls _ ⟨i112, i113, V, hl, hR114⟩
            replace i112 : q_F (lx96.toInt + 1 ≤ lx108.toInt) := i112
            replace i113 : q_F (lx108.toInt ≤ lx96.toInt + 2) := i113
            replace hl : lv_has ls 12 [(8, .long lx97), (7, .int a89), (6, .int a82), (0, .ref (q k1)), (1, .ref (q k2)), (4, .int x4)] := hl
            refine lv_istore (lv' := [(10, .int lx108), (8, .long lx97), (7, .int a89), (6, .int a82), (0, .ref (q k1)), (1, .ref (q k2)), (4, .int x4)]) hx hb d_7_17_164 hl (by decide) rfl (fun ls hl => ?_)
            refine lv_iload hx hb d_7_17_166 (lv_at hl 6 rfl) ?_
            refine q_join (X := Int32) (fun z H locs ls _ => q_F (z.toInt ≤ 1) ∧ q_F (x4.toInt ≤ z.toInt) ∧ q_Wd D g (va_A ws sz) s ws H locs ∧ lv_has ls 12 [(10, .int lx108), (8, .long lx97), (6, .int a82), (0, .ref (q k1))] ∧ F_Flo_nearest_J187 (F_Flo_nearest_L102 A B C R2 x3 x4 t0_0 t0_1 t1_0 a89 a82 fm105) A B C R2 x3 x4 t0_0 t0_1 t1_0 a89 a82 lx96 lx97 lx108 z = (F_Flo_nearest A B C R2 x3 x4 t0_0 t0_1 t1_0)) (fun z => [.int z]) 187 0 0 ?_ ?_
            ·
              rintro lx119 H locs ls _ ⟨i123, i124, V, hl, hR125⟩
              replace i123 : q_F (lx119.toInt ≤ 1) := i123
              replace i124 : q_F (x4.toInt ≤ lx119.toInt) := i124
              replace hl : lv_has ls 12 [(10, .int lx108), (8, .long lx97), (6, .int a82), (0, .ref (q k1))] := hl
              refine lv_istore (lv' := [(11, .int lx119), (10, .int lx108), (8, .long lx97), (6, .int a82), (0, .ref (q k1))]) hx hb d_7_17_187 hl (by decide) rfl (fun ls hl => ?_)
              refine lv_iload hx hb d_7_17_189 (lv_at hl 1 rfl) ?_
              refine lv_if_eq (tgt := 214) hx hb d_7_17_191 (by decide) (fun c130 => ?_) (fun c130 => ?_)
              ·
                have b131 : q_F (lx108.toInt = 0) := (q_eqI c130)
                refine lv_iload hx hb d_7_17_214 (lv_at hl 3 rfl) ?_
                refine lv_aload_n hx hb d_7_17_216 rfl (lv_at hl 4 rfl) ?_
                refine q_get (ci := 6) (j := 1) (v := .int B) C0 V i_Flo rfl rfl hO35 (by decide) w_233 rfl d_7_17_217 ?_
                refine lv_iadd hx hb d_7_17_220 ?_
                obtain ⟨a132, e133⟩ := q_nm (a82 + B : Int32)
                refine q_ti (v := a132) e133 ?_
                refine lv_iconst (v := 1) hx hb d_7_17_221 (by decide) ?_
                refine lv_isub hx hb d_7_17_222 ?_
                obtain ⟨a134, e135⟩ := q_nm (a132 - 1 : Int32)
                refine q_ti (v := a134) e135 ?_
                refine lv_i2l hx hb d_7_17_223 rfl ?_
                obtain ⟨j136, e137⟩ := q_nm (a134.toInt64 : Int64)
                refine q_tl (v := j136) e137 ?_
                have b138 : q_F (j136.toInt = a134.toInt) := (by rw [← e137]; show (a134.toInt64 : Int64).toInt = a134.toInt; exact q_i2l rfl)
                refine lv_aload_n hx hb d_7_17_224 rfl (lv_at hl 4 rfl) ?_
                refine q_get (ci := 6) (j := 0) (v := .int A) C0 V i_Flo rfl rfl hO35 (by decide) w_231 rfl d_7_17_225 ?_
                refine lv_lshl hx hb d_7_17_228 rfl ?_
                obtain ⟨j139, e140⟩ := q_nm (j136 <<< (A.toInt64 &&& 63) : Int64)
                refine q_tl (v := j139) e140 ?_
                refine lv_lload hx hb d_7_17_229 (lv_at hl 2 rfl) ?_
                refine lv_ladd hx hb d_7_17_231 ?_
                obtain ⟨j141, e142⟩ := q_nm (j139 + lx97 : Int64)
                refine q_tl (v := j141) e142 ?_
                exact q_retl C0 V (⟨rfl, (show j141 = (F_Flo_nearest A B C R2 x3 x4 t0_0 t0_1 t1_0) from Eq.trans (by rw [← e142, ← e140, ← e137, ← e135, ← e133, F_Flo_nearest_J187.eq_1, if_pos c130]) hR125)⟩) d_7_17_232
              ·
                have b143 : q_F (lx108.toInt ≠ 0) := (q_neI c130)
                refine lv_iload hx hb d_7_17_194 (lv_at hl 0 rfl) ?_
                refine q_join (X := Unit) (fun z H locs ls _ => q_Wd D g (va_A ws sz) s ws H locs ∧ lv_has ls 12 [(8, .long lx97), (6, .int a82), (0, .ref (q k1))] ∧ F_Flo_nearest_J208 (F_Flo_nearest_L102 A B C R2 x3 x4 t0_0 t0_1 t1_0 a89 a82 fm105) A B C R2 x3 x4 t0_0 t0_1 t1_0 a89 a82 lx96 lx97 lx108 lx119 = (F_Flo_nearest A B C R2 x3 x4 t0_0 t0_1 t1_0)) (fun z => []) 208 0 0 ?_ ?_
                ·
                  rintro _ H locs ls _ ⟨V, hl, hR147⟩
                  replace hl : lv_has ls 12 [(8, .long lx97), (6, .int a82), (0, .ref (q k1))] := hl
                  refine lv_lload hx hb d_7_17_208 (lv_at hl 0 rfl) ?_
                  refine lv_lconst (v := 1) hx hb d_7_17_210 (by decide) ?_
                  refine lv_ladd hx hb d_7_17_211 ?_
                  obtain ⟨j152, e153⟩ := q_nm (lx97 + 1 : Int64)
                  refine q_tl (v := j152) e153 ?_
                  refine lv_lstore (lv' := [(8, .long j152), (6, .int a82), (0, .ref (q k1))]) hx hb d_7_17_212 hl (by decide) rfl (fun ls hl => ?_)
                  refine lv_iload hx hb d_7_17_214 (lv_at hl 1 rfl) ?_
                  refine lv_aload_n hx hb d_7_17_216 rfl (lv_at hl 2 rfl) ?_
                  refine q_get (ci := 6) (j := 1) (v := .int B) C0 V i_Flo rfl rfl hO35 (by decide) w_233 rfl d_7_17_217 ?_
                  refine lv_iadd hx hb d_7_17_220 ?_
                  obtain ⟨a154, e155⟩ := q_nm (a82 + B : Int32)
                  refine q_ti (v := a154) e155 ?_
                  refine lv_iconst (v := 1) hx hb d_7_17_221 (by decide) ?_
                  refine lv_isub hx hb d_7_17_222 ?_
                  obtain ⟨a156, e157⟩ := q_nm (a154 - 1 : Int32)
                  refine q_ti (v := a156) e157 ?_
                  refine lv_i2l hx hb d_7_17_223 rfl ?_
                  obtain ⟨j158, e159⟩ := q_nm (a156.toInt64 : Int64)
                  refine q_tl (v := j158) e159 ?_
                  have b160 : q_F (j158.toInt = a156.toInt) := (by rw [← e159]; show (a156.toInt64 : Int64).toInt = a156.toInt; exact q_i2l rfl)
                  refine lv_aload_n hx hb d_7_17_224 rfl (lv_at hl 2 rfl) ?_
                  refine q_get (ci := 6) (j := 0) (v := .int A) C0 V i_Flo rfl rfl hO35 (by decide) w_231 rfl d_7_17_225 ?_
                  refine lv_lshl hx hb d_7_17_228 rfl ?_
                  obtain ⟨j161, e162⟩ := q_nm (j158 <<< (A.toInt64 &&& 63) : Int64)
                  refine q_tl (v := j161) e162 ?_
                  refine lv_lload hx hb d_7_17_229 (lv_at hl 0 rfl) ?_
                  refine lv_ladd hx hb d_7_17_231 ?_
                  obtain ⟨j163, e164⟩ := q_nm (j161 + j152 : Int64)
                  refine q_tl (v := j163) e164 ?_
                  exact q_retl C0 V (⟨rfl, (show j163 = (F_Flo_nearest A B C R2 x3 x4 t0_0 t0_1 t1_0) from Eq.trans (by rw [← e164, ← e162, ← e159, ← e157, ← e155, ← e153, F_Flo_nearest_J208.eq_1]) hR147)⟩) d_7_17_232
                ·
                  intro J146
                  refine lv_if_ne (tgt := 208) hx hb d_7_17_196 (by decide) (fun c165 => ?_) (fun c165 => ?_)
                  ·
                    have b166 : q_F (lx119.toInt ≠ 0) := (q_neI c165)
                    exact J146 (()) _ _ _ ws ⟨V, q_lw hl (q_lw1 2 rfl (q_lw1 3 rfl (q_lw1 4 rfl q_lw0))), (show F_Flo_nearest_J208 (F_Flo_nearest_L102 A B C R2 x3 x4 t0_0 t0_1 t1_0 a89 a82 fm105) A B C R2 x3 x4 t0_0 t0_1 t1_0 a89 a82 lx96 lx97 lx108 lx119 = (F_Flo_nearest A B C R2 x3 x4 t0_0 t0_1 t1_0) from Eq.trans (by rw [F_Flo_nearest_J187.eq_1, if_neg c130, if_neg c165]) hR125)⟩
                  ·
                    have b167 : q_F (lx119.toInt = 0) := (q_eqI c165)
                    refine lv_lload hx hb d_7_17_199 (lv_at hl 2 rfl) ?_
                    refine lv_lconst (v := 1) hx hb d_7_17_201 (by decide) ?_
                    refine lv_land hx hb d_7_17_202 ?_
                    obtain ⟨j168, e169⟩ := q_nm (lx97 &&& 1 : Int64)
                    refine q_tl (v := j168) e169 ?_
                    have b170 : q_F (0 ≤ j168.toInt ∧ j168.toInt ≤ 1) := (by rw [← e169]; show 0 ≤ (lx97 &&& 1 : Int64).toInt ∧ (lx97 &&& 1 : Int64).toInt ≤ 1; exact s_andJ (by decide))
                    refine lv_lconst (v := 1) hx hb d_7_17_203 (by decide) ?_
                    refine W.lcmp hx hb d_7_17_204 ?_
                    obtain ⟨a171, e172⟩ := q_nm (lg_cmp j168 1 : Int32)
                    refine q_ti (v := a171) e172 ?_
                    have b173 : q_F (-1 ≤ a171.toInt ∧ a171.toInt ≤ 1 ∧ ((a171.toInt = -1 ∧ j168.toInt < 1) ∨ (a171.toInt = 0 ∧ j168.toInt = 1) ∨ (a171.toInt = 1 ∧ 1 < j168.toInt))) := (by rw [← e172]; show -1 ≤ (lg_cmp j168 1 : Int32).toInt ∧ (lg_cmp j168 1 : Int32).toInt ≤ 1 ∧ (((lg_cmp j168 1 : Int32).toInt = -1 ∧ j168.toInt < 1) ∨ ((lg_cmp j168 1 : Int32).toInt = 0 ∧ j168.toInt = 1) ∨ ((lg_cmp j168 1 : Int32).toInt = 1 ∧ 1 < j168.toInt)); exact (by have y1 : (1 : Int64).toInt = 1 := rfl; have z := s_lcmp (a := j168) (b := 1); omega))
                    refine lv_if_ne (tgt := 214) hx hb d_7_17_205 (by decide) (fun c174 => ?_) (fun c174 => ?_)
                    ·
                      have b175 : q_F (a171.toInt ≠ 0) := (q_neI c174)
                      refine lv_iload hx hb d_7_17_214 (lv_at hl 3 rfl) ?_
                      refine lv_aload_n hx hb d_7_17_216 rfl (lv_at hl 4 rfl) ?_
                      refine q_get (ci := 6) (j := 1) (v := .int B) C0 V i_Flo rfl rfl hO35 (by decide) w_233 rfl d_7_17_217 ?_
                      refine lv_iadd hx hb d_7_17_220 ?_
                      obtain ⟨a176, e177⟩ := q_nm (a82 + B : Int32)
                      refine q_ti (v := a176) e177 ?_
                      refine lv_iconst (v := 1) hx hb d_7_17_221 (by decide) ?_
                      refine lv_isub hx hb d_7_17_222 ?_
                      obtain ⟨a178, e179⟩ := q_nm (a176 - 1 : Int32)
                      refine q_ti (v := a178) e179 ?_
                      refine lv_i2l hx hb d_7_17_223 rfl ?_
                      obtain ⟨j180, e181⟩ := q_nm (a178.toInt64 : Int64)
                      refine q_tl (v := j180) e181 ?_
                      have b182 : q_F (j180.toInt = a178.toInt) := (by rw [← e181]; show (a178.toInt64 : Int64).toInt = a178.toInt; exact q_i2l rfl)
                      refine lv_aload_n hx hb d_7_17_224 rfl (lv_at hl 4 rfl) ?_
                      refine q_get (ci := 6) (j := 0) (v := .int A) C0 V i_Flo rfl rfl hO35 (by decide) w_231 rfl d_7_17_225 ?_
                      refine lv_lshl hx hb d_7_17_228 rfl ?_
                      obtain ⟨j183, e184⟩ := q_nm (j180 <<< (A.toInt64 &&& 63) : Int64)
                      refine q_tl (v := j183) e184 ?_
                      refine lv_lload hx hb d_7_17_229 (lv_at hl 2 rfl) ?_
                      refine lv_ladd hx hb d_7_17_231 ?_
                      obtain ⟨j185, e186⟩ := q_nm (j183 + lx97 : Int64)
                      refine q_tl (v := j185) e186 ?_
                      exact q_retl C0 V (⟨rfl, (show j185 = (F_Flo_nearest A B C R2 x3 x4 t0_0 t0_1 t1_0) from Eq.trans (by have c174x := c174; rw [← e172, ← e169] at c174x; rw [← e186, ← e184, ← e181, ← e179, ← e177, F_Flo_nearest_J187.eq_1, if_neg c130, if_pos c165, if_neg c174x]) hR125)⟩) d_7_17_232
                    ·
                      have b187 : q_F (a171.toInt = 0) := (q_eqI c174)
                      exact J146 (()) _ _ _ ws ⟨V, q_lw hl (q_lw1 2 rfl (q_lw1 3 rfl (q_lw1 4 rfl q_lw0))), (show F_Flo_nearest_J208 (F_Flo_nearest_L102 A B C R2 x3 x4 t0_0 t0_1 t1_0 a89 a82 fm105) A B C R2 x3 x4 t0_0 t0_1 t1_0 a89 a82 lx96 lx97 lx108 lx119 = (F_Flo_nearest A B C R2 x3 x4 t0_0 t0_1 t1_0) from Eq.trans (by have c174x := c174; rw [← e172, ← e169] at c174x; rw [F_Flo_nearest_J187.eq_1, if_neg c130, if_pos c165, if_pos c174x]) hR125)⟩
            ·
              intro J122
              refine q_join (X := Unit) (fun z H locs ls _ => q_Wd D g (va_A ws sz) s ws H locs ∧ lv_has ls 12 [(10, .int lx108), (8, .long lx97), (6, .int a82), (0, .ref (q k1))] ∧ F_Flo_nearest_J182 (F_Flo_nearest_L102 A B C R2 x3 x4 t0_0 t0_1 t1_0 a89 a82 fm105) A B C R2 x3 x4 t0_0 t0_1 t1_0 a89 a82 lx96 lx97 lx108 = (F_Flo_nearest A B C R2 x3 x4 t0_0 t0_1 t1_0)) (fun z => []) 182 0 0 ?_ ?_
              ·
                rintro _ H locs ls _ ⟨V, hl, hR191⟩
                replace hl : lv_has ls 12 [(10, .int lx108), (8, .long lx97), (6, .int a82), (0, .ref (q k1))] := hl
                refine lv_iconst (v := 1) hx hb d_7_17_182 (by decide) ?_
                refine lv_goto (tgt := 187) hx hb d_7_17_183 (by decide) ?_
                exact J122 ((1 : Int32)) _ _ _ ws ⟨(show q_F (1 ≤ 1) from (show 1 ≤ 1 from by omega)), (show q_F (x4.toInt ≤ 1) from (show x4.toInt ≤ 1 from by have t1 : 0 ≤ x4.toInt ∧ x4.toInt ≤ 1 := hzx4; omega)), V, q_lw hl (q_lw1 0 rfl (q_lw1 1 rfl (q_lw1 2 rfl (q_lw1 3 rfl q_lw0)))), (show F_Flo_nearest_J187 (F_Flo_nearest_L102 A B C R2 x3 x4 t0_0 t0_1 t1_0 a89 a82 fm105) A B C R2 x3 x4 t0_0 t0_1 t1_0 a89 a82 lx96 lx97 lx108 1 = (F_Flo_nearest A B C R2 x3 x4 t0_0 t0_1 t1_0) from Eq.trans (by rw [F_Flo_nearest_J182.eq_1]) hR191)⟩
              ·
                intro J190
                refine lv_if_ne (tgt := 182) hx hb d_7_17_168 (by decide) (fun c196 => ?_) (fun c196 => ?_)
                ·
                  have b197 : q_F (x4.toInt ≠ 0) := (q_neI c196)
                  exact J190 (()) _ _ _ ws ⟨V, q_lw hl (q_lw1 0 rfl (q_lw1 1 rfl (q_lw1 3 rfl (q_lw1 4 rfl q_lw0)))), (show F_Flo_nearest_J182 (F_Flo_nearest_L102 A B C R2 x3 x4 t0_0 t0_1 t1_0 a89 a82 fm105) A B C R2 x3 x4 t0_0 t0_1 t1_0 a89 a82 lx96 lx97 lx108 = (F_Flo_nearest A B C R2 x3 x4 t0_0 t0_1 t1_0) from Eq.trans (by rw [F_Flo_nearest_J164.eq_1, if_neg c196]) hR114)⟩
                ·
                  have b198 : q_F (x4.toInt = 0) := (q_eqI c196)
                  refine lv_aload_n hx hb d_7_17_171 rfl (lv_at hl 5 rfl) ?_
                  refine q_goi V (q_runV (As := []) (rest := []) (d := 2) (mc := 0) (ms := 0) (ci := 2) C0 V rfl LV_Flo_84 (X_Big_lowestOne l D g q ws k2 R2 hB2 zk2  hI t0_0 t0_1 hT0 t1_0 hT1  _) rfl rfl hT0 rfl hl.1 rfl (Nat.le_of_ble_eq_true rfl) ⟨by decide, by decide⟩ ⟨Nat.le_of_ble_eq_true rfl, Nat.le_of_ble_eq_true rfl⟩ d_7_17_172) (fun a201 u199 H locs hp200 V => ?_)
                  obtain ⟨rfl, b202, b203, hE204⟩ := hp200
                  have e205 : a201 = (F_Big_lowestOne R2 t0_0 t0_1 t1_0) := hE204
                  replace b202 : q_F (0 ≤ a201.toInt) := b202
                  replace b203 : q_F (a201.toInt ≤ t0_0.toInt + 6632) := b203
                  refine lv_iload hx hb d_7_17_175 (lv_at hl 2 rfl) ?_
                  refine lv_iconst (v := 1) hx hb d_7_17_177 (by decide) ?_
                  refine lv_isub hx hb d_7_17_178 ?_
                  obtain ⟨a206, e207⟩ := q_nm (a89 - 1 : Int32)
                  refine q_ti (v := a206) e207 ?_
                  refine lv_icmp_ge (tgt := 186) hx hb d_7_17_179 (by decide) (fun c208 => ?_) (fun c208 => ?_)
                  ·
                    have b209 : q_F (a206.toInt ≤ a201.toInt) := (q_leI c208)
                    refine lv_iconst (v := 0) hx hb d_7_17_186 (by decide) ?_
                    exact J122 ((0 : Int32)) _ _ _ ws ⟨(show q_F (0 ≤ 1) from (show 0 ≤ 1 from by omega)), (show q_F (x4.toInt ≤ 0) from (show x4.toInt ≤ 0 from by have t1 : x4.toInt = 0 := b198; omega)), V, q_lw hl (q_lw1 0 rfl (q_lw1 1 rfl (q_lw1 3 rfl (q_lw1 4 rfl q_lw0)))), (show F_Flo_nearest_J187 (F_Flo_nearest_L102 A B C R2 x3 x4 t0_0 t0_1 t1_0 a89 a82 fm105) A B C R2 x3 x4 t0_0 t0_1 t1_0 a89 a82 lx96 lx97 lx108 0 = (F_Flo_nearest A B C R2 x3 x4 t0_0 t0_1 t1_0) from Eq.trans (by have c208x := c208; rw [← e207, e205] at c208x; rw [F_Flo_nearest_J164.eq_1, if_pos c196, if_pos c208x]) hR114)⟩
                  ·
                    have b210 : q_F (a201.toInt < a206.toInt) := (q_nleI c208)
                    exact J190 (()) _ _ _ ws ⟨V, q_lw hl (q_lw1 0 rfl (q_lw1 1 rfl (q_lw1 3 rfl (q_lw1 4 rfl q_lw0)))), (show F_Flo_nearest_J182 (F_Flo_nearest_L102 A B C R2 x3 x4 t0_0 t0_1 t1_0 a89 a82 fm105) A B C R2 x3 x4 t0_0 t0_1 t1_0 a89 a82 lx96 lx97 lx108 = (F_Flo_nearest A B C R2 x3 x4 t0_0 t0_1 t1_0) from Eq.trans (by have c208x := c208; rw [← e207, e205] at c208x; rw [F_Flo_nearest_J164.eq_1, if_pos c196, if_neg c208x]) hR114)⟩
          ·
            intro J111
            refine q_join (X := Unit) (fun z H locs ls _ => q_Wd D g (va_A ws sz) s ws H locs ∧ lv_has ls 12 [(8, .long lx97), (7, .int a89), (6, .int a82), (0, .ref (q k1)), (1, .ref (q k2)), (4, .int x4)] ∧ F_Flo_nearest_J163 (F_Flo_nearest_L102 A B C R2 x3 x4 t0_0 t0_1 t1_0 a89 a82 fm105) A B C R2 x3 x4 t0_0 t0_1 t1_0 a89 a82 lx96 lx97 = (F_Flo_nearest A B C R2 x3 x4 t0_0 t0_1 t1_0)) (fun z => []) 163 0 0 ?_ ?_
            ·
              rintro _ H locs ls _ ⟨V, hl, hR214⟩
              replace hl : lv_has ls 12 [(8, .long lx97), (7, .int a89), (6, .int a82), (0, .ref (q k1)), (1, .ref (q k2)), (4, .int x4)] := hl
              refine lv_iconst (v := 0) hx hb d_7_17_163 (by decide) ?_
              exact J111 ((0 : Int32)) _ _ _ ws ⟨(show q_F (lx96.toInt + 1 ≤ 0) from (show lx96.toInt + 1 ≤ 0 from by have t1 : lx96.toInt < 0 := b107; omega)), (show q_F (0 ≤ lx96.toInt + 2) from (show 0 ≤ lx96.toInt + 2 from by have t1 : 0 ≤ lx96.toInt + 1 := i98; omega)), V, q_lw hl (q_lw1 0 rfl (q_lw1 1 rfl (q_lw1 2 rfl (q_lw1 3 rfl (q_lw1 4 rfl (q_lw1 5 rfl q_lw0)))))), (show F_Flo_nearest_J164 (F_Flo_nearest_L102 A B C R2 x3 x4 t0_0 t0_1 t1_0 a89 a82 fm105) A B C R2 x3 x4 t0_0 t0_1 t1_0 a89 a82 lx96 lx97 0 = (F_Flo_nearest A B C R2 x3 x4 t0_0 t0_1 t1_0) from Eq.trans (by rw [F_Flo_nearest_J163.eq_1]) hR214)⟩
            ·
              intro J213
              refine lv_if_le (tgt := 163) hx hb d_7_17_144 (by decide) (fun c219 => ?_) (fun c219 => ?_)
              ·
                have b220 : q_F (a89.toInt ≤ 0) := (q_leI c219)
                exact J213 (()) _ _ _ ws ⟨V, q_lw hl (q_lw1 1 rfl (q_lw1 2 rfl (q_lw1 3 rfl (q_lw1 4 rfl (q_lw1 5 rfl (q_lw1 6 rfl q_lw0)))))), (show F_Flo_nearest_J163 (F_Flo_nearest_L102 A B C R2 x3 x4 t0_0 t0_1 t1_0 a89 a82 fm105) A B C R2 x3 x4 t0_0 t0_1 t1_0 a89 a82 lx96 lx97 = (F_Flo_nearest A B C R2 x3 x4 t0_0 t0_1 t1_0) from Eq.trans (by rw [F_Flo_nearest_L102.eq_2, if_pos c106, if_pos c219]) hR101)⟩
              ·
                have b221 : q_F (0 < a89.toInt) := (q_nleI c219)
                refine lv_aload_n hx hb d_7_17_147 rfl (lv_at hl 5 rfl) ?_
                refine lv_iload hx hb d_7_17_148 (lv_at hl 2 rfl) ?_
                refine lv_iconst (v := 1) hx hb d_7_17_150 (by decide) ?_
                refine lv_isub hx hb d_7_17_151 ?_
                obtain ⟨a222, e223⟩ := q_nm (a89 - 1 : Int32)
                refine q_ti (v := a222) e223 ?_
                have b224 : q_F (a222.toInt = a89.toInt - 1) := (by rw [← e223]; show (a89 - 1 : Int32).toInt = a89.toInt - 1; exact q_subI (x := a89.toInt) (y := 1) rfl (by decide) (by have t1 : 0 < a89.toInt := b221; have _ := q_lo32 (x := a89); have _ := q_hi32 (x := a89); omega) (by have t1 : 0 < a89.toInt := b221; have _ := q_lo32 (x := a89); have _ := q_hi32 (x := a89); omega))
                refine q_goi V (q_runV (As := [.int a222]) (rest := []) (d := 2) (mc := 0) (ms := 0) (ci := 2) C0 V rfl LV_Flo_112 (X_Big_bit l D g q ws k2 R2 hB2 zk2 a222 hI t0_0 t0_1 hT0 t1_0 hT1  _) rfl rfl hT0 rfl hl.1 rfl (Nat.le_of_ble_eq_true rfl) ⟨by decide, by decide⟩ ⟨Nat.le_of_ble_eq_true rfl, Nat.le_of_ble_eq_true rfl⟩ d_7_17_152) (fun a227 u225 H locs hp226 V => ?_)
                obtain ⟨rfl, b228, b229, hE230⟩ := hp226
                have e231 : a227 = (F_Big_bit R2 a222 t0_0 t0_1 t1_0) := hE230
                replace b228 : q_F (0 ≤ a227.toInt) := b228
                replace b229 : q_F (a227.toInt ≤ 1) := b229
                refine lv_iconst (v := 1) hx hb d_7_17_155 (by decide) ?_
                refine lv_icmp_ne (tgt := 163) hx hb d_7_17_156 (by decide) (fun c232 => ?_) (fun c232 => ?_)
                ·
                  have b233 : q_F (a227.toInt ≠ 1) := (q_neI c232)
                  exact J213 (()) _ _ _ ws ⟨V, q_lw hl (q_lw1 1 rfl (q_lw1 2 rfl (q_lw1 3 rfl (q_lw1 4 rfl (q_lw1 5 rfl (q_lw1 6 rfl q_lw0)))))), (show F_Flo_nearest_J163 (F_Flo_nearest_L102 A B C R2 x3 x4 t0_0 t0_1 t1_0 a89 a82 fm105) A B C R2 x3 x4 t0_0 t0_1 t1_0 a89 a82 lx96 lx97 = (F_Flo_nearest A B C R2 x3 x4 t0_0 t0_1 t1_0) from Eq.trans (by have c232x := c232; rw [e231, ← e223] at c232x; rw [F_Flo_nearest_L102.eq_2, if_pos c106, if_neg c219, if_neg c232x]) hR101)⟩
                ·
                  have b234 : q_F (a227.toInt = 1) := (q_eqI c232)
                  refine lv_iconst (v := 1) hx hb d_7_17_159 (by decide) ?_
                  refine lv_goto (tgt := 164) hx hb d_7_17_160 (by decide) ?_
                  exact J111 ((1 : Int32)) _ _ _ ws ⟨(show q_F (lx96.toInt + 1 ≤ 1) from (show lx96.toInt + 1 ≤ 1 from by have t1 : lx96.toInt < 0 := b107; omega)), (show q_F (1 ≤ lx96.toInt + 2) from (show 1 ≤ lx96.toInt + 2 from by have t1 : 0 ≤ lx96.toInt + 1 := i98; omega)), V, q_lw hl (q_lw1 1 rfl (q_lw1 2 rfl (q_lw1 3 rfl (q_lw1 4 rfl (q_lw1 5 rfl (q_lw1 6 rfl q_lw0)))))), (show F_Flo_nearest_J164 (F_Flo_nearest_L102 A B C R2 x3 x4 t0_0 t0_1 t1_0 a89 a82 fm105) A B C R2 x3 x4 t0_0 t0_1 t1_0 a89 a82 lx96 lx97 1 = (F_Flo_nearest A B C R2 x3 x4 t0_0 t0_1 t1_0) from Eq.trans (by have c232x := c232; rw [e231, ← e223] at c232x; rw [F_Flo_nearest_L102.eq_2, if_pos c106, if_neg c219, if_pos c232x]) hR101)⟩
        ·
          have b235 : q_F (0 ≤ lx96.toInt) := (q_nltI c106)
          refine lv_lload hx hb d_7_17_107 (lv_at hl 1 rfl) ?_
          refine lv_iconst (v := 1) hx hb d_7_17_109 (by decide) ?_
          refine lv_lshl hx hb d_7_17_110 rfl ?_
          obtain ⟨j236, e237⟩ := q_nm (lx97 <<< ((1 : Int32).toInt64 &&& 63) : Int64)
          refine q_tl (v := j236) e237 ?_
          refine lv_iload hx hb d_7_17_111 (lv_at hl 2 rfl) ?_
          refine lv_iload hx hb d_7_17_113 (lv_at hl 0 rfl) ?_
          refine lv_iadd hx hb d_7_17_115 ?_
          obtain ⟨a238, e239⟩ := q_nm (a89 + lx96 : Int32)
          refine q_ti (v := a238) e239 ?_
          refine lv_if_lt (tgt := 131) hx hb d_7_17_116 (by decide) (fun c240 => ?_) (fun c240 => ?_)
          ·
            have b241 : q_F (a238.toInt < 0) := (q_ltI c240)
            refine lv_iconst (v := 0) hx hb d_7_17_131 (by decide) ?_
            refine lv_i2l hx hb d_7_17_132 rfl ?_
            refine q_tl (v := 0) (by decide) ?_
            refine lv_lor hx hb d_7_17_133 ?_
            obtain ⟨j242, e243⟩ := q_nm (j236 ||| 0 : Int64)
            refine q_tl (v := j242) e243 ?_
            refine lv_lstore (lv' := [(8, .long j242), (10, .int lx96), (7, .int a89), (6, .int a82), (0, .ref (q k1)), (1, .ref (q k2)), (4, .int x4)]) hx hb d_7_17_134 hl (by decide) rfl (fun ls hl => ?_)
            obtain ⟨a244, e245⟩ := q_nm (lx96 + (-1) : Int32)
            have b246 : q_F (a244.toInt = lx96.toInt + (-1)) := (by rw [← e245]; exact q_addI (y := (-1)) rfl (by decide) (by have t1 : 0 ≤ lx96.toInt + 1 := i98; have t2 : lx96.toInt ≤ A.toInt + 1 := i99; have _ := q_lo32 (x := A); have _ := q_hi32 (x := A); omega) (by have t1 : 0 ≤ lx96.toInt + 1 := i98; have t2 : lx96.toInt ≤ A.toInt + 1 := i99; have _ := q_lo32 (x := A); have _ := q_hi32 (x := A); omega))
            refine lv_iinc (v := a244) (lv' := [(10, .int a244), (8, .long j242), (7, .int a89), (6, .int a82), (0, .ref (q k1)), (1, .ref (q k2)), (4, .int x4)]) hx hb d_7_17_136 hl (k := 1) rfl (e245) (by decide) rfl (fun ls hl => ?_)
            refine lv_goto (tgt := 102) hx hb d_7_17_139 (by decide) ?_
            exact ih100 ((a244 : Int32), (j242 : Int64)) _ _ _ ws (show (a244.toInt - ((-1))).toNat < (lx96.toInt - ((-1))).toNat from by have t1 : a244.toInt = lx96.toInt + (-1) := b246; have t2 : 0 ≤ lx96.toInt + 1 := i98; have t3 : 0 ≤ lx96.toInt := b235; omega) ⟨(show q_F (0 ≤ a244.toInt + 1) from (show 0 ≤ a244.toInt + 1 from by have t1 : 0 ≤ lx96.toInt := b235; have t2 : a244.toInt = lx96.toInt + (-1) := b246; omega)), (show q_F (a244.toInt ≤ A.toInt + 1) from (show a244.toInt ≤ A.toInt + 1 from by have t1 : lx96.toInt ≤ A.toInt + 1 := i99; have t2 : a244.toInt = lx96.toInt + (-1) := b246; omega)), V, q_lw hl (q_lw1 0 rfl (q_lw1 1 rfl (q_lw1 2 rfl (q_lw1 3 rfl (q_lw1 4 rfl (q_lw1 5 rfl (q_lw1 6 rfl q_lw0))))))), ⟨fm105, Nat.lt_of_lt_of_le (show (a244.toInt - ((-1))).toNat < (lx96.toInt - ((-1))).toNat from by have t1 : a244.toInt = lx96.toInt + (-1) := b246; have t2 : 0 ≤ lx96.toInt + 1 := i98; have t3 : 0 ≤ lx96.toInt := b235; omega) (Nat.le_of_lt_succ hf104), (show F_Flo_nearest_L102 A B C R2 x3 x4 t0_0 t0_1 t1_0 a89 a82 fm105 a244 j242 = (F_Flo_nearest A B C R2 x3 x4 t0_0 t0_1 t1_0) from Eq.trans (by have c240x := c240; rw [← e239] at c240x; rw [← e245, ← e243, ← e237, F_Flo_nearest_L102.eq_2, if_neg c106, if_pos c240x]) hR101)⟩⟩
          ·
            have b247 : q_F (0 ≤ a238.toInt) := (q_nltI c240)
            refine lv_aload_n hx hb d_7_17_119 rfl (lv_at hl 5 rfl) ?_
            refine lv_iload hx hb d_7_17_120 (lv_at hl 2 rfl) ?_
            refine lv_iload hx hb d_7_17_122 (lv_at hl 0 rfl) ?_
            refine lv_iadd hx hb d_7_17_124 ?_
            obtain ⟨a248, e249⟩ := q_nm (a89 + lx96 : Int32)
            refine q_ti (v := a248) e249 ?_
            refine q_goi V (q_runV (As := [.int a248]) (rest := [.long j236]) (d := 2) (mc := 0) (ms := 0) (ci := 2) C0 V rfl LV_Flo_112 (X_Big_bit l D g q ws k2 R2 hB2 zk2 a248 hI t0_0 t0_1 hT0 t1_0 hT1  _) rfl rfl hT0 rfl hl.1 rfl (Nat.le_of_ble_eq_true rfl) ⟨by decide, by decide⟩ ⟨Nat.le_of_ble_eq_true rfl, Nat.le_of_ble_eq_true rfl⟩ d_7_17_125) (fun a252 u250 H locs hp251 V => ?_)
            obtain ⟨rfl, b253, b254, hE255⟩ := hp251
            have e256 : a252 = (F_Big_bit R2 a248 t0_0 t0_1 t1_0) := hE255
            replace b253 : q_F (0 ≤ a252.toInt) := b253
            replace b254 : q_F (a252.toInt ≤ 1) := b254
            refine lv_goto (tgt := 132) hx hb d_7_17_128 (by decide) ?_
            refine lv_i2l hx hb d_7_17_132 rfl ?_
            obtain ⟨j257, e258⟩ := q_nm (a252.toInt64 : Int64)
            refine q_tl (v := j257) e258 ?_
            have b259 : q_F (j257.toInt = a252.toInt) := (by rw [← e258]; show (a252.toInt64 : Int64).toInt = a252.toInt; exact q_i2l rfl)
            refine lv_lor hx hb d_7_17_133 ?_
            obtain ⟨j260, e261⟩ := q_nm (j236 ||| j257 : Int64)
            refine q_tl (v := j260) e261 ?_
            refine lv_lstore (lv' := [(8, .long j260), (10, .int lx96), (7, .int a89), (6, .int a82), (0, .ref (q k1)), (1, .ref (q k2)), (4, .int x4)]) hx hb d_7_17_134 hl (by decide) rfl (fun ls hl => ?_)
            obtain ⟨a262, e263⟩ := q_nm (lx96 + (-1) : Int32)
            have b264 : q_F (a262.toInt = lx96.toInt + (-1)) := (by rw [← e263]; exact q_addI (y := (-1)) rfl (by decide) (by have t1 : 0 ≤ lx96.toInt + 1 := i98; have t2 : lx96.toInt ≤ A.toInt + 1 := i99; have _ := q_lo32 (x := A); have _ := q_hi32 (x := A); omega) (by have t1 : 0 ≤ lx96.toInt + 1 := i98; have t2 : lx96.toInt ≤ A.toInt + 1 := i99; have _ := q_lo32 (x := A); have _ := q_hi32 (x := A); omega))
            refine lv_iinc (v := a262) (lv' := [(10, .int a262), (8, .long j260), (7, .int a89), (6, .int a82), (0, .ref (q k1)), (1, .ref (q k2)), (4, .int x4)]) hx hb d_7_17_136 hl (k := 1) rfl (e263) (by decide) rfl (fun ls hl => ?_)
            refine lv_goto (tgt := 102) hx hb d_7_17_139 (by decide) ?_
            exact ih100 ((a262 : Int32), (j260 : Int64)) _ _ _ ws (show (a262.toInt - ((-1))).toNat < (lx96.toInt - ((-1))).toNat from by have t1 : a262.toInt = lx96.toInt + (-1) := b264; have t2 : 0 ≤ lx96.toInt + 1 := i98; have t3 : 0 ≤ lx96.toInt := b235; omega) ⟨(show q_F (0 ≤ a262.toInt + 1) from (show 0 ≤ a262.toInt + 1 from by have t1 : 0 ≤ lx96.toInt := b235; have t2 : a262.toInt = lx96.toInt + (-1) := b264; omega)), (show q_F (a262.toInt ≤ A.toInt + 1) from (show a262.toInt ≤ A.toInt + 1 from by have t1 : lx96.toInt ≤ A.toInt + 1 := i99; have t2 : a262.toInt = lx96.toInt + (-1) := b264; omega)), V, q_lw hl (q_lw1 0 rfl (q_lw1 1 rfl (q_lw1 2 rfl (q_lw1 3 rfl (q_lw1 4 rfl (q_lw1 5 rfl (q_lw1 6 rfl q_lw0))))))), ⟨fm105, Nat.lt_of_lt_of_le (show (a262.toInt - ((-1))).toNat < (lx96.toInt - ((-1))).toNat from by have t1 : a262.toInt = lx96.toInt + (-1) := b264; have t2 : 0 ≤ lx96.toInt + 1 := i98; have t3 : 0 ≤ lx96.toInt := b235; omega) (Nat.le_of_lt_succ hf104), (show F_Flo_nearest_L102 A B C R2 x3 x4 t0_0 t0_1 t1_0 a89 a82 fm105 a262 j260 = (F_Flo_nearest A B C R2 x3 x4 t0_0 t0_1 t1_0) from Eq.trans (by have c240x := c240; rw [← e239] at c240x; rw [← e263, ← e261, ← e258, e256, ← e249, ← e237, F_Flo_nearest_L102.eq_2, if_neg c106, if_neg c240x]) hR101)⟩⟩
      ·
        have b265 : q_F (0 ≤ a52.toInt) := (q_nltI c55)
        refine lv_aload_n hx hb d_7_17_52 rfl (lv_at hl 1 rfl) ?_
        refine q_gol V (q_runV (As := []) (rest := []) (d := 1) (mc := 0) (ms := 0) (ci := 6) C0 V rfl LV_Flo_39 (X_Flo_infinity l D g q ws k1 A B C hB1  hI   _) rfl rfl hO35 rfl hl.1 rfl (Nat.le_of_ble_eq_true rfl) ⟨by decide, by decide⟩ ⟨Nat.le_of_ble_eq_true rfl, Nat.le_of_ble_eq_true rfl⟩ d_7_17_53) (fun j268 u266 H locs hp267 V => ?_)
        obtain ⟨rfl, hE269⟩ := hp267
        have e270 : j268 = (F_Flo_infinity A B C) := hE269
        exact q_retl C0 V (⟨rfl, (show j268 = (F_Flo_nearest A B C R2 x3 x4 t0_0 t0_1 t1_0) from (by have c17x := c17; rw [e16] at c17x; have c28x := c28; rw [← e26, ← e24, ← e21, e16] at c28x; have c55x := c55; rw [← e53, ← e50, ← e47, ← e45, ← e43, ← e40, ← e34, ← e31, e16] at c55x; rw [e270, F_Flo_nearest.eq_1, if_neg c17x, if_pos c28x, if_neg c55x]))⟩) d_7_17_56
    ·
      have b271 : q_F (a25.toInt < 0) := (q_nleI c28)
      refine lv_lconst (v := 0) hx hb d_7_17_23 (by decide) ?_
      exact q_retl C0 V (⟨rfl, (show (0 : Int64) = (F_Flo_nearest A B C R2 x3 x4 t0_0 t0_1 t1_0) from (by have c17x := c17; rw [e16] at c17x; have c28x := c28; rw [← e26, ← e24, ← e21, e16] at c28x; rw [F_Flo_nearest.eq_1, if_neg c17x, if_neg c28x]))⟩) d_7_17_24
