/-! Big, any state -/
set_option maxRecDepth 100000 in
set_option maxHeartbeats 4000000 in
theorem S_Big_clear (l : Launch) (D : va_G) (g : Nat → ClassId) (sh : List q_Ok) (q : Nat → Nat) (ws : va_W) (k : Nat) (R : Int32) (hB : q_isBig sh g q k R) (hI : q_I sh q ws) : q_mV l y_Big_clear prog_2_method_2_code 1 1 0 0 D g [.ref (q k)] ws (fun u => (True) ∧ q_I sh q u ∧ q_un ws u [k, k + 1]) := by
  intro sz
  refine q_into (by decide) (Nat.le_of_ble_eq_true rfl) ?_
  intro p e s m below meth c ls hsz C0 V hl
  have hx := C0.1
  have hb := C0.2.1
  have hR : q_F (0 ≤ R.toInt ∧ R.toInt ≤ 220) := hB.2.2
  have hF : q_un ws ws [k, k + 1] := q_u0
  have hl : lv_has ls 1 [(0, .ref (q k))] := hl
  refine lv_aload_n hx hb d_2_2_0 rfl (lv_at hl 0 rfl) ?_
  refine lv_iconst (v := 0) hx hb d_2_2_1 (by decide) ?_
  obtain ⟨y1, y2, hO3, b4, b5⟩ := q_bigO hI hB
  replace b4 : q_F (0 ≤ y1.toInt ∧ y1.toInt ≤ R.toInt) := b4
  replace b5 : q_F (0 ≤ y2.toInt ∧ y2.toInt ≤ 1) := b5
  refine q_put (ci := 2) (j := 1) (v := .int 0) (ty := .int) C0 V i_Big o_Big n_Big rfl rfl hO3 (by decide) w_85 rfl rfl rfl rfl (Nat.le_of_ble_eq_true rfl) d_2_2_2 (fun H locs w6 hu7 hO3 V => ?_)
  replace hO3 : w6[k]? = (some (q k, .inr (2, [.ref (q (k + 1)), .int 0, .int y2])) : Option (Nat × va_E)) := hO3
  replace hI := q_bigO' hI hB hu7 hO3 ⟨(by have z9 : (0 : Int32).toInt = 0 := rfl; omega), (by have z9 : (0 : Int32).toInt = 0 := rfl; have t1 : 0 ≤ R.toInt ∧ R.toInt ≤ 220 := hR; omega)⟩ ⟨(by have t1 : 0 ≤ y2.toInt ∧ y2.toInt ≤ 1 := b5; omega), (by have t1 : 0 ≤ y2.toInt ∧ y2.toInt ≤ 1 := b5; omega)⟩
  replace hF := q_us hF hu7 (by simp)
  refine lv_aload_n hx hb d_2_2_5 rfl (lv_at hl 0 rfl) ?_
  refine lv_iconst (v := 0) hx hb d_2_2_6 (by decide) ?_
  refine q_put (ci := 2) (j := 2) (v := .int 0) (ty := .boolean) C0 V i_Big o_Big n_Big rfl rfl hO3 (by decide) w_94 rfl rfl rfl rfl (Nat.le_of_ble_eq_true rfl) d_2_2_7 (fun H locs w8 hu9 hO3 V => ?_)
  replace hO3 : w8[k]? = (some (q k, .inr (2, [.ref (q (k + 1)), .int 0, .int 0])) : Option (Nat × va_E)) := hO3
  replace hI := q_bigO' hI hB hu9 hO3 ⟨(by have z9 : (0 : Int32).toInt = 0 := rfl; omega), (by have z9 : (0 : Int32).toInt = 0 := rfl; have t1 : 0 ≤ R.toInt ∧ R.toInt ≤ 220 := hR; omega)⟩ ⟨(by have z9 : (0 : Int32).toInt = 0 := rfl; omega), (by have z9 : (0 : Int32).toInt = 0 := rfl; omega)⟩
  replace hF := q_us hF hu9 (by simp)
  exact q_retv C0 V (⟨trivial, hI, hF⟩) d_2_2_10
theorem d_2_5_12 : decode prog_2_method_5_code 12 = .ok (.aload_n 0, 1) := by decide +kernel
theorem d_2_5_13 : decode prog_2_method_5_code 13 = .ok (.getfield 7, 3) := by decide +kernel
theorem d_2_5_16 : decode prog_2_method_5_code 16 = .ok (.iload_n 1, 1) := by decide +kernel
theorem d_2_5_17 : decode prog_2_method_5_code 17 = .ok (.iaload, 1) := by decide +kernel
theorem d_2_5_18 : decode prog_2_method_5_code 18 = .ok (.goto 4, 3) := by decide +kernel
set_option maxRecDepth 100000 in
set_option maxHeartbeats 4000000 in
theorem S_Big_limb (l : Launch) (D : va_G) (g : Nat → ClassId) (sh : List q_Ok) (q : Nat → Nat) (ws : va_W) (k : Nat) (R : Int32) (hB : q_isBig sh g q k R) (x1 : Int32) (hI : q_I sh q ws) : q_mI l y_Big_limb prog_2_method_5_code 2 (.int) 1 0 0 D g [.ref (q k), .int x1] ws (fun r u => (0 ≤ r.toInt ∧ r.toInt ≤ 2147483647) ∧ ws = u) := by
  intro sz
  refine q_into (by decide) (Nat.le_of_ble_eq_true rfl) ?_
  intro p e s m below meth c ls hsz C0 V hl
  have hx := C0.1
  have hb := C0.2.1
  have hR : q_F (0 ≤ R.toInt ∧ R.toInt ≤ 220) := hB.2.2
  have hl : lv_has ls 2 [(0, .ref (q k)), (1, .int x1)] := hl
  refine lv_iload_n hx hb d_2_5_0 rfl (lv_at hl 1 rfl) ?_
  refine lv_if_lt (tgt := 21) hx hb d_2_5_1 (by decide) (fun c1 => ?_) (fun c1 => ?_)
  ·
    have b2 : q_F (x1.toInt < 0) := (q_ltI c1)
    refine lv_iconst (v := 0) hx hb d_2_5_21 (by decide) ?_
    exact q_reti C0 V (⟨show 0 ≤ (0 : Int32).toInt ∧ (0 : Int32).toInt ≤ 2147483647 from (by have z9 : (0 : Int32).toInt = 0 := rfl; omega), rfl⟩) d_2_5_22
  ·
    have b3 : q_F (0 ≤ x1.toInt) := (q_nltI c1)
    refine lv_iload_n hx hb d_2_5_4 rfl (lv_at hl 1 rfl) ?_
    refine lv_aload_n hx hb d_2_5_5 rfl (lv_at hl 0 rfl) ?_
    obtain ⟨y4, y5, hO6, b7, b8⟩ := q_bigO hI hB
    replace b7 : q_F (0 ≤ y4.toInt ∧ y4.toInt ≤ R.toInt) := b7
    replace b8 : q_F (0 ≤ y5.toInt ∧ y5.toInt ≤ 1) := b8
    refine q_get (ci := 2) (j := 1) (v := .int y4) C0 V i_Big rfl rfl hO6 (by decide) w_85 rfl d_2_5_6 ?_
    refine lv_icmp_ge (tgt := 21) hx hb d_2_5_9 (by decide) (fun c9 => ?_) (fun c9 => ?_)
    ·
      have b10 : q_F (y4.toInt ≤ x1.toInt) := (q_leI c9)
      refine lv_iconst (v := 0) hx hb d_2_5_21 (by decide) ?_
      exact q_reti C0 V (⟨show 0 ≤ (0 : Int32).toInt ∧ (0 : Int32).toInt ≤ 2147483647 from (by have z9 : (0 : Int32).toInt = 0 := rfl; omega), rfl⟩) d_2_5_22
    ·
      have b11 : q_F (x1.toInt < y4.toInt) := (q_nleI c9)
      refine lv_aload_n hx hb d_2_5_12 rfl (lv_at hl 0 rfl) ?_
      refine q_get (ci := 2) (j := 0) (v := .ref (q (k + 1))) C0 V i_Big rfl rfl hO6 (by decide) w_84 rfl d_2_5_13 ?_
      refine lv_iload_n hx hb d_2_5_16 rfl (lv_at hl 1 rfl) ?_
      obtain ⟨f12, hA13, bf14⟩ := q_bigA hI hB
      refine q_iald C0 V hA13 (q_ix (x := x1.toInt) rfl (by have t1 : 0 ≤ x1.toInt := b3; omega) (by have t1 : 0 ≤ x1.toInt := b3; have t2 : 0 ≤ y4.toInt ∧ y4.toInt ≤ R.toInt := b7; have t3 : x1.toInt < y4.toInt := b11; have e9 := q_clI (i := R) rfl (by have t1 : 0 ≤ R.toInt ∧ R.toInt ≤ 220 := hR; omega); omega)) d_2_5_17 ?_
      obtain ⟨a15, e16⟩ := q_nm (f12 x1.toNatClampNeg : Int32)
      refine q_ti (v := a15) e16 ?_
      have b17 : q_F (0 ≤ a15.toInt ∧ a15.toInt ≤ 2147483647) := (by rw [← e16]; show 0 ≤ (f12 x1.toNatClampNeg : Int32).toInt ∧ (f12 x1.toNatClampNeg : Int32).toInt ≤ 2147483647; exact bf14 _)
      refine lv_goto (tgt := 22) hx hb d_2_5_18 (by decide) ?_
      exact q_reti C0 V (⟨show 0 ≤ a15.toInt ∧ a15.toInt ≤ 2147483647 from (by have t1 : 0 ≤ a15.toInt ∧ a15.toInt ≤ 2147483647 := b17; omega), rfl⟩) d_2_5_22
set_option maxRecDepth 100000 in
set_option maxHeartbeats 4000000 in
theorem S_Big_push (l : Launch) (D : va_G) (g : Nat → ClassId) (sh : List q_Ok) (q : Nat → Nat) (ws : va_W) (k : Nat) (R : Int32) (hB : q_isBig sh g q k R) (x1 : Int32) (hI : q_I sh q ws) (pre0 : 0 ≤ x1.toInt) : q_mV l y_Big_push prog_2_method_6_code 2 1 0 0 D g [.ref (q k), .int x1] ws (fun u => (True) ∧ q_I sh q u ∧ q_un ws u [k, k + 1]) := by
  intro sz
  refine q_into (by decide) (Nat.le_of_ble_eq_true rfl) ?_
  intro p e s m below meth c ls hsz C0 V hl
  have hx := C0.1
  have hb := C0.2.1
  have hR : q_F (0 ≤ R.toInt ∧ R.toInt ≤ 220) := hB.2.2
  replace pre0 : q_F (0 ≤ x1.toInt) := pre0
  have hF : q_un ws ws [k, k + 1] := q_u0
  have hl : lv_has ls 2 [(0, .ref (q k)), (1, .int x1)] := hl
  refine lv_aload_n hx hb d_2_6_0 rfl (lv_at hl 0 rfl) ?_
  obtain ⟨y1, y2, hO3, b4, b5⟩ := q_bigO hI hB
  replace b4 : q_F (0 ≤ y1.toInt ∧ y1.toInt ≤ R.toInt) := b4
  replace b5 : q_F (0 ≤ y2.toInt ∧ y2.toInt ≤ 1) := b5
  refine q_get (ci := 2) (j := 1) (v := .int y1) C0 V i_Big rfl rfl hO3 (by decide) w_85 rfl d_2_6_1 ?_
  refine lv_aload_n hx hb d_2_6_4 rfl (lv_at hl 0 rfl) ?_
  refine q_get (ci := 2) (j := 0) (v := .ref (q (k + 1))) C0 V i_Big rfl rfl hO3 (by decide) w_84 rfl d_2_6_5 ?_
  obtain ⟨f6, hA7, bf8⟩ := q_bigA hI hB
  refine q_alen (t := 0) (v := R) C0 V hA7 rfl (s_len (by have t1 : 0 ≤ R.toInt ∧ R.toInt ≤ 220 := hR; omega)) d_2_6_8 ?_
  refine lv_icmp_ge (tgt := 32) hx hb d_2_6_9 (by decide) (fun c9 => ?_) (fun c9 => ?_)
  ·
    have b10 : q_F (R.toInt ≤ y1.toInt) := (q_leI c9)
    exact q_retv C0 V (⟨trivial, hI, hF⟩) d_2_6_32
  ·
    have b11 : q_F (y1.toInt < R.toInt) := (q_nleI c9)
    refine lv_aload_n hx hb d_2_6_12 rfl (lv_at hl 0 rfl) ?_
    refine q_get (ci := 2) (j := 0) (v := .ref (q (k + 1))) C0 V i_Big rfl rfl hO3 (by decide) w_84 rfl d_2_6_13 ?_
    refine lv_aload_n hx hb d_2_6_16 rfl (lv_at hl 0 rfl) ?_
    refine q_get (ci := 2) (j := 1) (v := .int y1) C0 V i_Big rfl rfl hO3 (by decide) w_85 rfl d_2_6_17 ?_
    refine lv_iload_n hx hb d_2_6_20 rfl (lv_at hl 1 rfl) ?_
    refine q_iast C0 V hA7 (q_ix (x := y1.toInt) rfl (by have t1 : 0 ≤ y1.toInt ∧ y1.toInt ≤ R.toInt := b4; omega) (by have t1 : 0 ≤ y1.toInt ∧ y1.toInt ≤ R.toInt := b4; have t2 : y1.toInt < R.toInt := b11; have e9 := q_clI (i := R) rfl (by have t1 : 0 ≤ R.toInt ∧ R.toInt ≤ 220 := hR; omega); omega)) d_2_6_21 (fun H locs w12 hu13 hA7 V => ?_)
    replace hI := q_bigA' hI hB hu13 hA7 (q_updB bf8 ⟨(by have t1 : 0 ≤ x1.toInt := pre0; omega), (by have _ := q_lo32 (x := x1); have _ := q_hi32 (x := x1); omega)⟩)
    replace hO3 := (hu13 _ (by omega)).trans hO3
    replace hF := q_us hF hu13 (by simp)
    refine lv_aload_n hx hb d_2_6_22 rfl (lv_at hl 0 rfl) ?_
    refine lv_dup hx hb d_2_6_23 rfl ?_
    refine q_get (ci := 2) (j := 1) (v := .int y1) C0 V i_Big rfl rfl hO3 (by decide) w_85 rfl d_2_6_24 ?_
    refine lv_iconst (v := 1) hx hb d_2_6_27 (by decide) ?_
    refine lv_iadd hx hb d_2_6_28 ?_
    obtain ⟨a14, e15⟩ := q_nm (y1 + 1 : Int32)
    refine q_ti (v := a14) e15 ?_
    have b16 : q_F (a14.toInt = y1.toInt + 1) := (by rw [← e15]; show (y1 + 1 : Int32).toInt = y1.toInt + 1; exact q_addI (x := y1.toInt) (y := 1) rfl (by decide) (by have t1 : 0 ≤ R.toInt ∧ R.toInt ≤ 220 := hR; have t2 : 0 ≤ y1.toInt ∧ y1.toInt ≤ R.toInt := b4; omega) (by have t1 : 0 ≤ R.toInt ∧ R.toInt ≤ 220 := hR; have t2 : 0 ≤ y1.toInt ∧ y1.toInt ≤ R.toInt := b4; omega))
    refine q_put (ci := 2) (j := 1) (v := .int a14) (ty := .int) C0 V i_Big o_Big n_Big rfl rfl hO3 (by decide) w_85 rfl rfl rfl rfl (Nat.le_of_ble_eq_true rfl) d_2_6_29 (fun H locs w17 hu18 hO3 V => ?_)
    replace hO3 : w17[k]? = (some (q k, .inr (2, [.ref (q (k + 1)), .int a14, .int y2])) : Option (Nat × va_E)) := hO3
    replace hI := q_bigO' hI hB hu18 hO3 ⟨(by have t1 : 0 ≤ y1.toInt ∧ y1.toInt ≤ R.toInt := b4; have t2 : a14.toInt = y1.toInt + 1 := b16; omega), (by have t1 : y1.toInt < R.toInt := b11; have t2 : a14.toInt = y1.toInt + 1 := b16; omega)⟩ ⟨(by have t1 : 0 ≤ y2.toInt ∧ y2.toInt ≤ 1 := b5; omega), (by have t1 : 0 ≤ y2.toInt ∧ y2.toInt ≤ 1 := b5; omega)⟩
    replace hF := q_us hF hu18 (by simp)
    exact q_retv C0 V (⟨trivial, hI, hF⟩) d_2_6_32
set_option maxRecDepth 100000 in
set_option maxHeartbeats 4000000 in
theorem S_Big_sign (l : Launch) (D : va_G) (g : Nat → ClassId) (sh : List q_Ok) (q : Nat → Nat) (ws : va_W) (k : Nat) (R : Int32) (hB : q_isBig sh g q k R) (hI : q_I sh q ws) : q_mI l y_Big_sign prog_2_method_8_code 1 (.int) 1 0 0 D g [.ref (q k)] ws (fun r u => (-1 ≤ r.toInt ∧ r.toInt ≤ 1) ∧ ws = u) := by
  intro sz
  refine q_into (by decide) (Nat.le_of_ble_eq_true rfl) ?_
  intro p e s m below meth c ls hsz C0 V hl
  have hx := C0.1
  have hb := C0.2.1
  have hR : q_F (0 ≤ R.toInt ∧ R.toInt ≤ 220) := hB.2.2
  have hl : lv_has ls 1 [(0, .ref (q k))] := hl
  refine lv_aload_n hx hb d_2_8_0 rfl (lv_at hl 0 rfl) ?_
  obtain ⟨y1, y2, hO3, b4, b5⟩ := q_bigO hI hB
  replace b4 : q_F (0 ≤ y1.toInt ∧ y1.toInt ≤ R.toInt) := b4
  replace b5 : q_F (0 ≤ y2.toInt ∧ y2.toInt ≤ 1) := b5
  refine q_get (ci := 2) (j := 1) (v := .int y1) C0 V i_Big rfl rfl hO3 (by decide) w_85 rfl d_2_8_1 ?_
  refine lv_if_ne (tgt := 11) hx hb d_2_8_4 (by decide) (fun c6 => ?_) (fun c6 => ?_)
  ·
    have b7 : q_F (y1.toInt ≠ 0) := (q_neI c6)
    refine lv_aload_n hx hb d_2_8_11 rfl (lv_at hl 0 rfl) ?_
    refine q_get (ci := 2) (j := 2) (v := .int y2) C0 V i_Big rfl rfl hO3 (by decide) w_94 rfl d_2_8_12 ?_
    refine lv_if_eq (tgt := 22) hx hb d_2_8_15 (by decide) (fun c8 => ?_) (fun c8 => ?_)
    ·
      have b9 : q_F (y2.toInt = 0) := (q_eqI c8)
      refine lv_iconst (v := 1) hx hb d_2_8_22 (by decide) ?_
      exact q_reti C0 V (⟨show -1 ≤ (1 : Int32).toInt ∧ (1 : Int32).toInt ≤ 1 from (by have z9 : (1 : Int32).toInt = 1 := rfl; omega), rfl⟩) d_2_8_23
    ·
      have b10 : q_F (y2.toInt ≠ 0) := (q_neI c8)
      refine lv_iconst (v := (-1)) hx hb d_2_8_18 (by decide) ?_
      refine lv_goto (tgt := 23) hx hb d_2_8_19 (by decide) ?_
      exact q_reti C0 V (⟨show -1 ≤ (-1 : Int32).toInt ∧ (-1 : Int32).toInt ≤ 1 from (by have z9 : (-1 : Int32).toInt = -1 := rfl; omega), rfl⟩) d_2_8_23
  ·
    have b11 : q_F (y1.toInt = 0) := (q_eqI c6)
    refine lv_iconst (v := 0) hx hb d_2_8_7 (by decide) ?_
    refine lv_goto (tgt := 23) hx hb d_2_8_8 (by decide) ?_
    exact q_reti C0 V (⟨show -1 ≤ (0 : Int32).toInt ∧ (0 : Int32).toInt ≤ 1 from (by have z9 : (0 : Int32).toInt = 0 := rfl; omega), rfl⟩) d_2_8_23
theorem d_2_9_8 : decode prog_2_method_9_code 8 = .ok (.aload_n 0, 1) := by decide +kernel
theorem d_2_9_9 : decode prog_2_method_9_code 9 = .ok (.getfield 7, 3) := by decide +kernel
theorem d_2_9_12 : decode prog_2_method_9_code 12 = .ok (.iconst 0, 1) := by decide +kernel
theorem d_2_9_13 : decode prog_2_method_9_code 13 = .ok (.iaload, 1) := by decide +kernel
theorem d_2_9_14 : decode prog_2_method_9_code 14 = .ok (.iconst 1, 1) := by decide +kernel
theorem d_2_9_15 : decode prog_2_method_9_code 15 = .ok (.if_icmp .ne 14, 3) := by decide +kernel
theorem d_2_9_18 : decode prog_2_method_9_code 18 = .ok (.aload_n 0, 1) := by decide +kernel
theorem d_2_9_19 : decode prog_2_method_9_code 19 = .ok (.getfield 17, 3) := by decide +kernel
theorem d_2_9_22 : decode prog_2_method_9_code 22 = .ok (.ifCond .ne 7, 3) := by decide +kernel
theorem d_2_9_25 : decode prog_2_method_9_code 25 = .ok (.iconst 1, 1) := by decide +kernel
theorem d_2_9_26 : decode prog_2_method_9_code 26 = .ok (.goto 4, 3) := by decide +kernel
set_option maxRecDepth 100000 in
set_option maxHeartbeats 4000000 in
theorem S_Big_isOne (l : Launch) (D : va_G) (g : Nat → ClassId) (sh : List q_Ok) (q : Nat → Nat) (ws : va_W) (k : Nat) (R : Int32) (hB : q_isBig sh g q k R) (hI : q_I sh q ws) : q_mI l y_Big_isOne prog_2_method_9_code 1 (.boolean) 1 0 0 D g [.ref (q k)] ws (fun r u => (0 ≤ r.toInt ∧ r.toInt ≤ 1) ∧ ws = u) := by
  intro sz
  refine q_into (by decide) (Nat.le_of_ble_eq_true rfl) ?_
  intro p e s m below meth c ls hsz C0 V hl
  have hx := C0.1
  have hb := C0.2.1
  have hR : q_F (0 ≤ R.toInt ∧ R.toInt ≤ 220) := hB.2.2
  have hl : lv_has ls 1 [(0, .ref (q k))] := hl
  refine lv_aload_n hx hb d_2_9_0 rfl (lv_at hl 0 rfl) ?_
  obtain ⟨y1, y2, hO3, b4, b5⟩ := q_bigO hI hB
  replace b4 : q_F (0 ≤ y1.toInt ∧ y1.toInt ≤ R.toInt) := b4
  replace b5 : q_F (0 ≤ y2.toInt ∧ y2.toInt ≤ 1) := b5
  refine q_get (ci := 2) (j := 1) (v := .int y1) C0 V i_Big rfl rfl hO3 (by decide) w_85 rfl d_2_9_1 ?_
  refine lv_iconst (v := 1) hx hb d_2_9_4 (by decide) ?_
  refine lv_icmp_ne (tgt := 29) hx hb d_2_9_5 (by decide) (fun c6 => ?_) (fun c6 => ?_)
  ·
    have b7 : q_F (y1.toInt ≠ 1) := (q_neI c6)
    refine lv_iconst (v := 0) hx hb d_2_9_29 (by decide) ?_
    exact q_retz C0 V (by decide) (⟨show 0 ≤ (0 : Int32).toInt ∧ (0 : Int32).toInt ≤ 1 from (by have z9 : (0 : Int32).toInt = 0 := rfl; omega), rfl⟩) d_2_9_30
  ·
    have b8 : q_F (y1.toInt = 1) := (q_eqI c6)
    refine lv_aload_n hx hb d_2_9_8 rfl (lv_at hl 0 rfl) ?_
    refine q_get (ci := 2) (j := 0) (v := .ref (q (k + 1))) C0 V i_Big rfl rfl hO3 (by decide) w_84 rfl d_2_9_9 ?_
    refine lv_iconst (v := 0) hx hb d_2_9_12 (by decide) ?_
    obtain ⟨f9, hA10, bf11⟩ := q_bigA hI hB
    refine q_iald C0 V hA10 (q_ix (x := 0) (by decide) (by omega) (by have t1 : 0 ≤ y1.toInt ∧ y1.toInt ≤ R.toInt := b4; have t2 : y1.toInt = 1 := b8; have e9 := q_clI (i := R) rfl (by have t1 : 0 ≤ R.toInt ∧ R.toInt ≤ 220 := hR; omega); omega)) d_2_9_13 ?_
    obtain ⟨a12, e13⟩ := q_nm (f9 (0 : Int32).toNatClampNeg : Int32)
    refine q_ti (v := a12) e13 ?_
    have b14 : q_F (0 ≤ a12.toInt ∧ a12.toInt ≤ 2147483647) := (by rw [← e13]; show 0 ≤ (f9 (0 : Int32).toNatClampNeg : Int32).toInt ∧ (f9 (0 : Int32).toNatClampNeg : Int32).toInt ≤ 2147483647; exact bf11 _)
    refine lv_iconst (v := 1) hx hb d_2_9_14 (by decide) ?_
    refine lv_icmp_ne (tgt := 29) hx hb d_2_9_15 (by decide) (fun c15 => ?_) (fun c15 => ?_)
    ·
      have b16 : q_F (a12.toInt ≠ 1) := (q_neI c15)
      refine lv_iconst (v := 0) hx hb d_2_9_29 (by decide) ?_
      exact q_retz C0 V (by decide) (⟨show 0 ≤ (0 : Int32).toInt ∧ (0 : Int32).toInt ≤ 1 from (by have z9 : (0 : Int32).toInt = 0 := rfl; omega), rfl⟩) d_2_9_30
    ·
      have b17 : q_F (a12.toInt = 1) := (q_eqI c15)
      refine lv_aload_n hx hb d_2_9_18 rfl (lv_at hl 0 rfl) ?_
      refine q_get (ci := 2) (j := 2) (v := .int y2) C0 V i_Big rfl rfl hO3 (by decide) w_94 rfl d_2_9_19 ?_
      refine lv_if_ne (tgt := 29) hx hb d_2_9_22 (by decide) (fun c18 => ?_) (fun c18 => ?_)
      ·
        have b19 : q_F (y2.toInt ≠ 0) := (q_neI c18)
        refine lv_iconst (v := 0) hx hb d_2_9_29 (by decide) ?_
        exact q_retz C0 V (by decide) (⟨show 0 ≤ (0 : Int32).toInt ∧ (0 : Int32).toInt ≤ 1 from (by have z9 : (0 : Int32).toInt = 0 := rfl; omega), rfl⟩) d_2_9_30
      ·
        have b20 : q_F (y2.toInt = 0) := (q_eqI c18)
        refine lv_iconst (v := 1) hx hb d_2_9_25 (by decide) ?_
        refine lv_goto (tgt := 30) hx hb d_2_9_26 (by decide) ?_
        exact q_retz C0 V (by decide) (⟨show 0 ≤ (1 : Int32).toInt ∧ (1 : Int32).toInt ≤ 1 from (by have z9 : (1 : Int32).toInt = 1 := rfl; omega), rfl⟩) d_2_9_30
theorem d_2_7_39 : decode prog_2_method_7_code 39 = .ok (.iload_n 1, 1) := by decide +kernel
theorem d_2_7_40 : decode prog_2_method_7_code 40 = .ok (.ifCond .le 7, 3) := by decide +kernel
theorem d_2_7_43 : decode prog_2_method_7_code 43 = .ok (.iconst 1, 1) := by decide +kernel
theorem d_2_7_44 : decode prog_2_method_7_code 44 = .ok (.goto 4, 3) := by decide +kernel
set_option maxRecDepth 100000 in
set_option maxHeartbeats 4000000 in
theorem S_Big_trim (l : Launch) (D : va_G) (g : Nat → ClassId) (sh : List q_Ok) (q : Nat → Nat) (ws : va_W) (k : Nat) (R : Int32) (hB : q_isBig sh g q k R) (hI : q_I sh q ws) : q_mV l y_Big_trim prog_2_method_7_code 2 1 0 0 D g [.ref (q k)] ws (fun u => (True) ∧ q_I sh q u ∧ q_un ws u [k, k + 1]) := by
  intro sz
  refine q_into (by decide) (Nat.le_of_ble_eq_true rfl) ?_
  intro p e s m below meth c ls hsz C0 V hl
  have hx := C0.1
  have hb := C0.2.1
  have hR : q_F (0 ≤ R.toInt ∧ R.toInt ≤ 220) := hB.2.2
  have hF : q_un ws ws [k, k + 1] := q_u0
  have hl : lv_has ls 2 [(0, .ref (q k))] := hl
  refine lv_aload_n hx hb d_2_7_0 rfl (lv_at hl 0 rfl) ?_
  obtain ⟨y1, y2, hO3, b4, b5⟩ := q_bigO hI hB
  replace b4 : q_F (0 ≤ y1.toInt ∧ y1.toInt ≤ R.toInt) := b4
  replace b5 : q_F (0 ≤ y2.toInt ∧ y2.toInt ≤ 1) := b5
  refine q_get (ci := 2) (j := 1) (v := .int y1) C0 V i_Big rfl rfl hO3 (by decide) w_85 rfl d_2_7_1 ?_
  refine lv_istore_n (lv' := [(1, .int y1), (0, .ref (q k))]) hx hb d_2_7_4 rfl hl (by decide) rfl (fun ls hl => ?_)
  refine q_loop (X := Int32) (fun z H locs ls w154 => q_F (0 ≤ z.toInt) ∧ q_F (0 ≤ y1.toInt + (-1 * z.toInt)) ∧ q_Wd D g (va_A ws sz) s w154 H locs ∧ lv_has ls 2 [(1, .int z), (0, .ref (q k))] ∧ q_I sh q w154 ∧ q_un ws w154 [k, k + 1]) (fun z => (z.toInt - ((-1))).toNat) ?_ ((y1 : Int32)) _ _ _ ws ⟨(show q_F (0 ≤ y1.toInt) from (show 0 ≤ y1.toInt from by have t1 : 0 ≤ y1.toInt ∧ y1.toInt ≤ R.toInt := b4; omega)), (show q_F (0 ≤ y1.toInt + (-1 * y1.toInt)) from (show 0 ≤ y1.toInt + (-1 * y1.toInt) from by omega)), V, hl, hI, hF⟩
  rintro x6 H locs ls w154 ⟨i151, i152, V, hl, hI, hF⟩ ih153
  replace i151 : q_F (0 ≤ x6.toInt) := i151
  replace i152 : q_F (0 ≤ y1.toInt + (-1 * x6.toInt)) := i152
  replace hl : lv_has ls 2 [(1, .int x6), (0, .ref (q k))] := hl
  refine lv_iload_n hx hb d_2_7_5 rfl (lv_at hl 0 rfl) ?_
  refine lv_if_le (tgt := 26) hx hb d_2_7_6 (by decide) (fun c155 => ?_) (fun c155 => ?_)
  ·
    have b156 : q_F (x6.toInt ≤ 0) := (q_leI c155)
    refine lv_aload_n hx hb d_2_7_26 rfl (lv_at hl 1 rfl) ?_
    refine lv_iload_n hx hb d_2_7_27 rfl (lv_at hl 0 rfl) ?_
    obtain ⟨y157, y158, hO159, b160, b161⟩ := q_bigO hI hB
    replace b160 : q_F (0 ≤ y157.toInt ∧ y157.toInt ≤ R.toInt) := b160
    replace b161 : q_F (0 ≤ y158.toInt ∧ y158.toInt ≤ 1) := b161
    refine q_put (ci := 2) (j := 1) (v := .int x6) (ty := .int) C0 V i_Big o_Big n_Big rfl rfl hO159 (by decide) w_85 rfl rfl rfl rfl (Nat.le_of_ble_eq_true rfl) d_2_7_28 (fun H locs w162 hu163 hO159 V => ?_)
    replace hO159 : w162[k]? = (some (q k, .inr (2, [.ref (q (k + 1)), .int x6, .int y158])) : Option (Nat × va_E)) := hO159
    replace hI := q_bigO' hI hB hu163 hO159 ⟨(by have t1 : 0 ≤ x6.toInt := i151; omega), (by have t1 : 0 ≤ y1.toInt ∧ y1.toInt ≤ R.toInt := b4; have t2 : 0 ≤ y1.toInt + (-1 * x6.toInt) := i152; omega)⟩ ⟨(by have t1 : 0 ≤ y158.toInt ∧ y158.toInt ≤ 1 := b161; omega), (by have t1 : 0 ≤ y158.toInt ∧ y158.toInt ≤ 1 := b161; omega)⟩
    replace hF := q_us hF hu163 (by simp)
    refine lv_aload_n hx hb d_2_7_31 rfl (lv_at hl 1 rfl) ?_
    refine lv_aload_n hx hb d_2_7_32 rfl (lv_at hl 1 rfl) ?_
    refine q_get (ci := 2) (j := 2) (v := .int y158) C0 V i_Big rfl rfl hO159 (by decide) w_94 rfl d_2_7_33 ?_
    refine lv_if_eq (tgt := 47) hx hb d_2_7_36 (by decide) (fun c164 => ?_) (fun c164 => ?_)
    ·
      have b165 : q_F (y158.toInt = 0) := (q_eqI c164)
      refine lv_iconst (v := 0) hx hb d_2_7_47 (by decide) ?_
      refine q_put (ci := 2) (j := 2) (v := .int 0) (ty := .boolean) C0 V i_Big o_Big n_Big rfl rfl hO159 (by decide) w_94 rfl rfl rfl rfl (Nat.le_of_ble_eq_true rfl) d_2_7_48 (fun H locs w166 hu167 hO159 V => ?_)
      replace hO159 : w166[k]? = (some (q k, .inr (2, [.ref (q (k + 1)), .int x6, .int 0])) : Option (Nat × va_E)) := hO159
      replace hI := q_bigO' hI hB hu167 hO159 ⟨(by have t1 : 0 ≤ x6.toInt := i151; omega), (by have t1 : 0 ≤ y1.toInt ∧ y1.toInt ≤ R.toInt := b4; have t2 : 0 ≤ y1.toInt + (-1 * x6.toInt) := i152; omega)⟩ ⟨(by have z9 : (0 : Int32).toInt = 0 := rfl; omega), (by have z9 : (0 : Int32).toInt = 0 := rfl; omega)⟩
      replace hF := q_us hF hu167 (by simp)
      exact q_retv C0 V (⟨trivial, hI, hF⟩) d_2_7_51
    ·
      have b168 : q_F (y158.toInt ≠ 0) := (q_neI c164)
      refine lv_iload_n hx hb d_2_7_39 rfl (lv_at hl 0 rfl) ?_
      refine lv_if_le (tgt := 47) hx hb d_2_7_40 (by decide) (fun c169 => ?_) (fun c169 => absurd (show 0 < x6.toInt from q_nleI c169) (by have t1 : x6.toInt ≤ 0 := b156; omega))
      refine lv_iconst (v := 0) hx hb d_2_7_47 (by decide) ?_
      refine q_put (ci := 2) (j := 2) (v := .int 0) (ty := .boolean) C0 V i_Big o_Big n_Big rfl rfl hO159 (by decide) w_94 rfl rfl rfl rfl (Nat.le_of_ble_eq_true rfl) d_2_7_48 (fun H locs w170 hu171 hO159 V => ?_)
      replace hO159 : w170[k]? = (some (q k, .inr (2, [.ref (q (k + 1)), .int x6, .int 0])) : Option (Nat × va_E)) := hO159
      replace hI := q_bigO' hI hB hu171 hO159 ⟨(by have t1 : 0 ≤ x6.toInt := i151; omega), (by have t1 : 0 ≤ y1.toInt ∧ y1.toInt ≤ R.toInt := b4; have t2 : 0 ≤ y1.toInt + (-1 * x6.toInt) := i152; omega)⟩ ⟨(by have z9 : (0 : Int32).toInt = 0 := rfl; omega), (by have z9 : (0 : Int32).toInt = 0 := rfl; omega)⟩
      replace hF := q_us hF hu171 (by simp)
      exact q_retv C0 V (⟨trivial, hI, hF⟩) d_2_7_51
  ·
    have b172 : q_F (0 < x6.toInt) := (q_nleI c155)
    refine lv_aload_n hx hb d_2_7_9 rfl (lv_at hl 1 rfl) ?_
    obtain ⟨y173, y174, hO175, b176, b177⟩ := q_bigO hI hB
    replace b176 : q_F (0 ≤ y173.toInt ∧ y173.toInt ≤ R.toInt) := b176
    replace b177 : q_F (0 ≤ y174.toInt ∧ y174.toInt ≤ 1) := b177
    refine q_get (ci := 2) (j := 0) (v := .ref (q (k + 1))) C0 V i_Big rfl rfl hO175 (by decide) w_84 rfl d_2_7_10 ?_
    refine lv_iload_n hx hb d_2_7_13 rfl (lv_at hl 0 rfl) ?_
    refine lv_iconst (v := 1) hx hb d_2_7_14 (by decide) ?_
    refine lv_isub hx hb d_2_7_15 ?_
    obtain ⟨a178, e179⟩ := q_nm (x6 - 1 : Int32)
    refine q_ti (v := a178) e179 ?_
    have b180 : q_F (a178.toInt = x6.toInt - 1) := (by rw [← e179]; show (x6 - 1 : Int32).toInt = x6.toInt - 1; exact q_subI (x := x6.toInt) (y := 1) rfl (by decide) (by have t1 : 0 ≤ R.toInt ∧ R.toInt ≤ 220 := hR; have t2 : 0 ≤ y1.toInt ∧ y1.toInt ≤ R.toInt := b4; have t3 : 0 ≤ x6.toInt := i151; have t4 : 0 ≤ y1.toInt + (-1 * x6.toInt) := i152; omega) (by have t1 : 0 ≤ R.toInt ∧ R.toInt ≤ 220 := hR; have t2 : 0 ≤ y1.toInt ∧ y1.toInt ≤ R.toInt := b4; have t3 : 0 ≤ x6.toInt := i151; have t4 : 0 ≤ y1.toInt + (-1 * x6.toInt) := i152; omega))
    obtain ⟨f181, hA182, bf183⟩ := q_bigA hI hB
    refine q_iald C0 V hA182 (q_ix (x := a178.toInt) rfl (by have t1 : 0 < x6.toInt := b172; have t2 : a178.toInt = x6.toInt - 1 := b180; omega) (by have t1 : 0 ≤ y1.toInt ∧ y1.toInt ≤ R.toInt := b4; have t2 : 0 ≤ y1.toInt + (-1 * x6.toInt) := i152; have t3 : 0 < x6.toInt := b172; have t4 : a178.toInt = x6.toInt - 1 := b180; have e9 := q_clI (i := R) rfl (by have t1 : 0 ≤ R.toInt ∧ R.toInt ≤ 220 := hR; omega); omega)) d_2_7_16 ?_
    obtain ⟨a184, e185⟩ := q_nm (f181 a178.toNatClampNeg : Int32)
    refine q_ti (v := a184) e185 ?_
    have b186 : q_F (0 ≤ a184.toInt ∧ a184.toInt ≤ 2147483647) := (by rw [← e185]; show 0 ≤ (f181 a178.toNatClampNeg : Int32).toInt ∧ (f181 a178.toNatClampNeg : Int32).toInt ≤ 2147483647; exact bf183 _)
    refine lv_if_ne (tgt := 26) hx hb d_2_7_17 (by decide) (fun c187 => ?_) (fun c187 => ?_)
    ·
      have b188 : q_F (a184.toInt ≠ 0) := (q_neI c187)
      refine lv_aload_n hx hb d_2_7_26 rfl (lv_at hl 1 rfl) ?_
      refine lv_iload_n hx hb d_2_7_27 rfl (lv_at hl 0 rfl) ?_
      refine q_put (ci := 2) (j := 1) (v := .int x6) (ty := .int) C0 V i_Big o_Big n_Big rfl rfl hO175 (by decide) w_85 rfl rfl rfl rfl (Nat.le_of_ble_eq_true rfl) d_2_7_28 (fun H locs w189 hu190 hO175 V => ?_)
      replace hO175 : w189[k]? = (some (q k, .inr (2, [.ref (q (k + 1)), .int x6, .int y174])) : Option (Nat × va_E)) := hO175
      replace hI := q_bigO' hI hB hu190 hO175 ⟨(by have t1 : 0 ≤ x6.toInt := i151; omega), (by have t1 : 0 ≤ y1.toInt ∧ y1.toInt ≤ R.toInt := b4; have t2 : 0 ≤ y1.toInt + (-1 * x6.toInt) := i152; omega)⟩ ⟨(by have t1 : 0 ≤ y174.toInt ∧ y174.toInt ≤ 1 := b177; omega), (by have t1 : 0 ≤ y174.toInt ∧ y174.toInt ≤ 1 := b177; omega)⟩
      replace hA182 := (hu190 _ (by omega)).trans hA182
      replace hF := q_us hF hu190 (by simp)
      refine lv_aload_n hx hb d_2_7_31 rfl (lv_at hl 1 rfl) ?_
      refine lv_aload_n hx hb d_2_7_32 rfl (lv_at hl 1 rfl) ?_
      refine q_get (ci := 2) (j := 2) (v := .int y174) C0 V i_Big rfl rfl hO175 (by decide) w_94 rfl d_2_7_33 ?_
      refine lv_if_eq (tgt := 47) hx hb d_2_7_36 (by decide) (fun c191 => ?_) (fun c191 => ?_)
      ·
        have b192 : q_F (y174.toInt = 0) := (q_eqI c191)
        refine lv_iconst (v := 0) hx hb d_2_7_47 (by decide) ?_
        refine q_put (ci := 2) (j := 2) (v := .int 0) (ty := .boolean) C0 V i_Big o_Big n_Big rfl rfl hO175 (by decide) w_94 rfl rfl rfl rfl (Nat.le_of_ble_eq_true rfl) d_2_7_48 (fun H locs w193 hu194 hO175 V => ?_)
        replace hO175 : w193[k]? = (some (q k, .inr (2, [.ref (q (k + 1)), .int x6, .int 0])) : Option (Nat × va_E)) := hO175
        replace hI := q_bigO' hI hB hu194 hO175 ⟨(by have t1 : 0 ≤ x6.toInt := i151; omega), (by have t1 : 0 ≤ y1.toInt ∧ y1.toInt ≤ R.toInt := b4; have t2 : 0 ≤ y1.toInt + (-1 * x6.toInt) := i152; omega)⟩ ⟨(by have z9 : (0 : Int32).toInt = 0 := rfl; omega), (by have z9 : (0 : Int32).toInt = 0 := rfl; omega)⟩
        replace hA182 := (hu194 _ (by omega)).trans hA182
        replace hF := q_us hF hu194 (by simp)
        exact q_retv C0 V (⟨trivial, hI, hF⟩) d_2_7_51
      ·
        have b195 : q_F (y174.toInt ≠ 0) := (q_neI c191)
        refine lv_iload_n hx hb d_2_7_39 rfl (lv_at hl 0 rfl) ?_
        refine lv_if_le (tgt := 47) hx hb d_2_7_40 (by decide) (fun c196 => absurd (show x6.toInt ≤ 0 from q_leI c196) (by have t1 : 0 < x6.toInt := b172; omega)) (fun c196 => ?_)
        refine lv_iconst (v := 1) hx hb d_2_7_43 (by decide) ?_
        refine lv_goto (tgt := 48) hx hb d_2_7_44 (by decide) ?_
        refine q_put (ci := 2) (j := 2) (v := .int 1) (ty := .boolean) C0 V i_Big o_Big n_Big rfl rfl hO175 (by decide) w_94 rfl rfl rfl rfl (Nat.le_of_ble_eq_true rfl) d_2_7_48 (fun H locs w197 hu198 hO175 V => ?_)
        replace hO175 : w197[k]? = (some (q k, .inr (2, [.ref (q (k + 1)), .int x6, .int 1])) : Option (Nat × va_E)) := hO175
        replace hI := q_bigO' hI hB hu198 hO175 ⟨(by have t1 : 0 ≤ x6.toInt := i151; omega), (by have t1 : 0 ≤ y1.toInt ∧ y1.toInt ≤ R.toInt := b4; have t2 : 0 ≤ y1.toInt + (-1 * x6.toInt) := i152; omega)⟩ ⟨(by have z9 : (1 : Int32).toInt = 1 := rfl; omega), (by have z9 : (1 : Int32).toInt = 1 := rfl; omega)⟩
        replace hA182 := (hu198 _ (by omega)).trans hA182
        replace hF := q_us hF hu198 (by simp)
        exact q_retv C0 V (⟨trivial, hI, hF⟩) d_2_7_51
    ·
      have b199 : q_F (a184.toInt = 0) := (q_eqI c187)
      obtain ⟨a200, e201⟩ := q_nm (x6 + (-1) : Int32)
      have b202 : q_F (a200.toInt = x6.toInt + (-1)) := (by rw [← e201]; exact q_addI (y := (-1)) rfl (by decide) (by have t1 : 0 ≤ R.toInt ∧ R.toInt ≤ 220 := hR; have t2 : 0 ≤ y1.toInt ∧ y1.toInt ≤ R.toInt := b4; have t3 : 0 ≤ x6.toInt := i151; have t4 : 0 ≤ y1.toInt + (-1 * x6.toInt) := i152; omega) (by have t1 : 0 ≤ R.toInt ∧ R.toInt ≤ 220 := hR; have t2 : 0 ≤ y1.toInt ∧ y1.toInt ≤ R.toInt := b4; have t3 : 0 ≤ x6.toInt := i151; have t4 : 0 ≤ y1.toInt + (-1 * x6.toInt) := i152; omega))
      refine lv_iinc (v := a200) (lv' := [(1, .int a200), (0, .ref (q k))]) hx hb d_2_7_20 hl (k := 0) rfl (e201) (by decide) rfl (fun ls hl => ?_)
      refine lv_goto (tgt := 5) hx hb d_2_7_23 (by decide) ?_
      exact ih153 ((a200 : Int32)) _ _ _ _ (show (a200.toInt - ((-1))).toNat < (x6.toInt - ((-1))).toNat from by have t1 : 0 ≤ x6.toInt := i151; have t2 : a200.toInt = x6.toInt + (-1) := b202; omega) ⟨(show q_F (0 ≤ a200.toInt) from (show 0 ≤ a200.toInt from by have t1 : 0 < x6.toInt := b172; have t2 : a200.toInt = x6.toInt + (-1) := b202; omega)), (show q_F (0 ≤ y1.toInt + (-1 * a200.toInt)) from (show 0 ≤ y1.toInt + (-1 * a200.toInt) from by have t1 : 0 ≤ y1.toInt + (-1 * x6.toInt) := i152; have t2 : a200.toInt = x6.toInt + (-1) := b202; omega)), V, q_lw hl (q_lw1 0 rfl (q_lw1 1 rfl q_lw0)), hI, hF⟩
theorem d_2_18_10 : decode prog_2_method_18_code 10 = .ok (.aload_n 0, 1) := by decide +kernel
theorem d_2_18_11 : decode prog_2_method_18_code 11 = .ok (.getfield 7, 3) := by decide +kernel
theorem d_2_18_14 : decode prog_2_method_18_code 14 = .ok (.iload_n 1, 1) := by decide +kernel
theorem d_2_18_15 : decode prog_2_method_18_code 15 = .ok (.iaload, 1) := by decide +kernel
theorem d_2_18_16 : decode prog_2_method_18_code 16 = .ok (.ifCond .ne 9, 3) := by decide +kernel
theorem d_2_18_19 : decode prog_2_method_18_code 19 = .ok (.iinc 1 1, 3) := by decide +kernel
theorem d_2_18_22 : decode prog_2_method_18_code 22 = .ok (.goto (-20), 3) := by decide +kernel
set_option maxRecDepth 100000 in
set_option maxHeartbeats 4000000 in
theorem S_Big_lowestLimb (l : Launch) (D : va_G) (g : Nat → ClassId) (sh : List q_Ok) (q : Nat → Nat) (ws : va_W) (k : Nat) (R : Int32) (hB : q_isBig sh g q k R) (hI : q_I sh q ws) : q_mI l y_Big_lowestLimb prog_2_method_18_code 2 (.int) 1 0 0 D g [.ref (q k)] ws (fun r u => (0 ≤ r.toInt ∧ r.toInt ≤ R.toInt) ∧ ws = u) := by
  intro sz
  refine q_into (by decide) (Nat.le_of_ble_eq_true rfl) ?_
  intro p e s m below meth c ls hsz C0 V hl
  have hx := C0.1
  have hb := C0.2.1
  have hR : q_F (0 ≤ R.toInt ∧ R.toInt ≤ 220) := hB.2.2
  have hl : lv_has ls 2 [(0, .ref (q k))] := hl
  refine lv_iconst (v := 0) hx hb d_2_18_0 (by decide) ?_
  refine lv_istore_n (lv' := [(1, .int 0), (0, .ref (q k))]) hx hb d_2_18_1 rfl hl (by decide) rfl (fun ls hl => ?_)
  refine q_loop (X := Int32) (fun z H locs ls _ => q_F (0 ≤ z.toInt) ∧ q_F (0 ≤ R.toInt + (-1 * z.toInt)) ∧ q_Wd D g (va_A ws sz) s ws H locs ∧ lv_has ls 2 [(1, .int z), (0, .ref (q k))]) (fun z => (R.toInt - z.toInt).toNat) ?_ ((0 : Int32)) _ _ _ ws ⟨(show q_F (0 ≤ 0) from (show 0 ≤ 0 from by omega)), (show q_F (0 ≤ R.toInt + (-1 * 0)) from (show 0 ≤ R.toInt + (-1 * 0) from by have t1 : 0 ≤ R.toInt ∧ R.toInt ≤ 220 := hR; omega)), V, hl⟩
  rintro x1 H locs ls _ ⟨i82, i83, V, hl⟩ ih84
  replace i82 : q_F (0 ≤ x1.toInt) := i82
  replace i83 : q_F (0 ≤ R.toInt + (-1 * x1.toInt)) := i83
  replace hl : lv_has ls 2 [(1, .int x1), (0, .ref (q k))] := hl
  refine lv_iload_n hx hb d_2_18_2 rfl (lv_at hl 0 rfl) ?_
  refine lv_aload_n hx hb d_2_18_3 rfl (lv_at hl 1 rfl) ?_
  obtain ⟨y85, y86, hO87, b88, b89⟩ := q_bigO hI hB
  replace b88 : q_F (0 ≤ y85.toInt ∧ y85.toInt ≤ R.toInt) := b88
  replace b89 : q_F (0 ≤ y86.toInt ∧ y86.toInt ≤ 1) := b89
  refine q_get (ci := 2) (j := 1) (v := .int y85) C0 V i_Big rfl rfl hO87 (by decide) w_85 rfl d_2_18_4 ?_
  refine lv_icmp_ge (tgt := 25) hx hb d_2_18_7 (by decide) (fun c90 => ?_) (fun c90 => ?_)
  ·
    have b91 : q_F (y85.toInt ≤ x1.toInt) := (q_leI c90)
    refine lv_iload_n hx hb d_2_18_25 rfl (lv_at hl 0 rfl) ?_
    exact q_reti C0 V (⟨show 0 ≤ x1.toInt ∧ x1.toInt ≤ R.toInt from (by have t1 : 0 ≤ x1.toInt := i82; have t2 : 0 ≤ R.toInt + (-1 * x1.toInt) := i83; omega), rfl⟩) d_2_18_26
  ·
    have b92 : q_F (x1.toInt < y85.toInt) := (q_nleI c90)
    refine lv_aload_n hx hb d_2_18_10 rfl (lv_at hl 1 rfl) ?_
    refine q_get (ci := 2) (j := 0) (v := .ref (q (k + 1))) C0 V i_Big rfl rfl hO87 (by decide) w_84 rfl d_2_18_11 ?_
    refine lv_iload_n hx hb d_2_18_14 rfl (lv_at hl 0 rfl) ?_
    obtain ⟨f93, hA94, bf95⟩ := q_bigA hI hB
    refine q_iald C0 V hA94 (q_ix (x := x1.toInt) rfl (by have t1 : 0 ≤ x1.toInt := i82; omega) (by have t1 : 0 ≤ x1.toInt := i82; have t2 : 0 ≤ y85.toInt ∧ y85.toInt ≤ R.toInt := b88; have t3 : x1.toInt < y85.toInt := b92; have e9 := q_clI (i := R) rfl (by have t1 : 0 ≤ R.toInt ∧ R.toInt ≤ 220 := hR; omega); omega)) d_2_18_15 ?_
    obtain ⟨a96, e97⟩ := q_nm (f93 x1.toNatClampNeg : Int32)
    refine q_ti (v := a96) e97 ?_
    have b98 : q_F (0 ≤ a96.toInt ∧ a96.toInt ≤ 2147483647) := (by rw [← e97]; show 0 ≤ (f93 x1.toNatClampNeg : Int32).toInt ∧ (f93 x1.toNatClampNeg : Int32).toInt ≤ 2147483647; exact bf95 _)
    refine lv_if_ne (tgt := 25) hx hb d_2_18_16 (by decide) (fun c99 => ?_) (fun c99 => ?_)
    ·
      have b100 : q_F (a96.toInt ≠ 0) := (q_neI c99)
      refine lv_iload_n hx hb d_2_18_25 rfl (lv_at hl 0 rfl) ?_
      exact q_reti C0 V (⟨show 0 ≤ x1.toInt ∧ x1.toInt ≤ R.toInt from (by have t1 : 0 ≤ x1.toInt := i82; have t2 : 0 ≤ R.toInt + (-1 * x1.toInt) := i83; omega), rfl⟩) d_2_18_26
    ·
      have b101 : q_F (a96.toInt = 0) := (q_eqI c99)
      obtain ⟨a102, e103⟩ := q_nm (x1 + 1 : Int32)
      have b104 : q_F (a102.toInt = x1.toInt + 1) := (by rw [← e103]; exact q_addI (y := 1) rfl (by decide) (by have t1 : 0 ≤ R.toInt ∧ R.toInt ≤ 220 := hR; have t2 : 0 ≤ x1.toInt := i82; have t3 : 0 ≤ R.toInt + (-1 * x1.toInt) := i83; omega) (by have t1 : 0 ≤ R.toInt ∧ R.toInt ≤ 220 := hR; have t2 : 0 ≤ x1.toInt := i82; have t3 : 0 ≤ R.toInt + (-1 * x1.toInt) := i83; omega))
      refine lv_iinc (v := a102) (lv' := [(1, .int a102), (0, .ref (q k))]) hx hb d_2_18_19 hl (k := 0) rfl (e103) (by decide) rfl (fun ls hl => ?_)
      refine lv_goto (tgt := 2) hx hb d_2_18_22 (by decide) ?_
      exact ih84 ((a102 : Int32)) _ _ _ ws (show (R.toInt - a102.toInt).toNat < (R.toInt - x1.toInt).toNat from by have t1 : 0 ≤ y85.toInt ∧ y85.toInt ≤ R.toInt := b88; have t2 : x1.toInt < y85.toInt := b92; have t3 : a102.toInt = x1.toInt + 1 := b104; omega) ⟨(show q_F (0 ≤ a102.toInt) from (show 0 ≤ a102.toInt from by have t1 : 0 ≤ x1.toInt := i82; have t2 : a102.toInt = x1.toInt + 1 := b104; omega)), (show q_F (0 ≤ R.toInt + (-1 * a102.toInt)) from (show 0 ≤ R.toInt + (-1 * a102.toInt) from by have t1 : 0 ≤ y85.toInt ∧ y85.toInt ≤ R.toInt := b88; have t2 : x1.toInt < y85.toInt := b92; have t3 : a102.toInt = x1.toInt + 1 := b104; omega)), V, q_lw hl (q_lw1 0 rfl (q_lw1 1 rfl q_lw0))⟩
theorem d_2_23_0 : decode prog_2_method_23_code 0 = .ok (.aload_n 0, 1) := by decide +kernel
theorem d_2_23_1 : decode prog_2_method_23_code 1 = .ok (.getfield 13, 3) := by decide +kernel
theorem d_2_23_4 : decode prog_2_method_23_code 4 = .ok (.aload_n 1, 1) := by decide +kernel
theorem d_2_23_5 : decode prog_2_method_23_code 5 = .ok (.getfield 13, 3) := by decide +kernel
theorem d_2_23_8 : decode prog_2_method_23_code 8 = .ok (.invokestatic 92, 3) := by decide +kernel
theorem w_1043 : (Cond.methodLink "NumberHouse$Big" (92 : Nat) ({ cls := "java/lang/Math", name := "max", desc := "(II)I" } : MethodName)) ∈ q_tbl := q_of 1043 (by decide +kernel) (by decide +kernel)
theorem d_2_23_11 : decode prog_2_method_23_code 11 = .ok (.aload_n 0, 1) := by decide +kernel
theorem d_2_23_12 : decode prog_2_method_23_code 12 = .ok (.getfield 7, 3) := by decide +kernel
theorem d_2_23_15 : decode prog_2_method_23_code 15 = .ok (.arraylength, 1) := by decide +kernel
theorem d_2_23_16 : decode prog_2_method_23_code 16 = .ok (.invokestatic 39, 3) := by decide +kernel
theorem d_2_23_19 : decode prog_2_method_23_code 19 = .ok (.istore_n 2, 1) := by decide +kernel
theorem d_2_23_20 : decode prog_2_method_23_code 20 = .ok (.iconst 0, 1) := by decide +kernel
theorem d_2_23_21 : decode prog_2_method_23_code 21 = .ok (.istore_n 3, 1) := by decide +kernel
theorem d_2_23_22 : decode prog_2_method_23_code 22 = .ok (.iconst 0, 1) := by decide +kernel
theorem d_2_23_23 : decode prog_2_method_23_code 23 = .ok (.istore 4, 2) := by decide +kernel
theorem d_2_23_25 : decode prog_2_method_23_code 25 = .ok (.iload 4, 2) := by decide +kernel
theorem d_2_23_27 : decode prog_2_method_23_code 27 = .ok (.iload_n 2, 1) := by decide +kernel
theorem d_2_23_28 : decode prog_2_method_23_code 28 = .ok (.if_icmp .ge 44, 3) := by decide +kernel
theorem d_2_23_72 : decode prog_2_method_23_code 72 = .ok (.aload_n 0, 1) := by decide +kernel
theorem d_2_23_73 : decode prog_2_method_23_code 73 = .ok (.iload_n 2, 1) := by decide +kernel
theorem d_2_23_74 : decode prog_2_method_23_code 74 = .ok (.putfield 13, 3) := by decide +kernel
theorem d_2_23_77 : decode prog_2_method_23_code 77 = .ok (.iload_n 3, 1) := by decide +kernel
theorem d_2_23_78 : decode prog_2_method_23_code 78 = .ok (.ifCond .eq 8, 3) := by decide +kernel
theorem d_2_23_86 : decode prog_2_method_23_code 86 = .ok (.return_, 1) := by decide +kernel
theorem d_2_23_81 : decode prog_2_method_23_code 81 = .ok (.aload_n 0, 1) := by decide +kernel
theorem d_2_23_82 : decode prog_2_method_23_code 82 = .ok (.iload_n 3, 1) := by decide +kernel
theorem d_2_23_83 : decode prog_2_method_23_code 83 = .ok (.invokevirtual 32, 3) := by decide +kernel
theorem d_2_23_31 : decode prog_2_method_23_code 31 = .ok (.aload_n 0, 1) := by decide +kernel
theorem d_2_23_32 : decode prog_2_method_23_code 32 = .ok (.iload 4, 2) := by decide +kernel
theorem d_2_23_34 : decode prog_2_method_23_code 34 = .ok (.invokevirtual 49, 3) := by decide +kernel
theorem d_2_23_37 : decode prog_2_method_23_code 37 = .ok (.aload_n 1, 1) := by decide +kernel
theorem d_2_23_38 : decode prog_2_method_23_code 38 = .ok (.iload 4, 2) := by decide +kernel
theorem d_2_23_40 : decode prog_2_method_23_code 40 = .ok (.invokevirtual 49, 3) := by decide +kernel
theorem d_2_23_43 : decode prog_2_method_23_code 43 = .ok (.iadd, 1) := by decide +kernel
theorem d_2_23_44 : decode prog_2_method_23_code 44 = .ok (.iload_n 3, 1) := by decide +kernel
theorem d_2_23_45 : decode prog_2_method_23_code 45 = .ok (.iadd, 1) := by decide +kernel
theorem d_2_23_46 : decode prog_2_method_23_code 46 = .ok (.istore 5, 2) := by decide +kernel
theorem d_2_23_48 : decode prog_2_method_23_code 48 = .ok (.aload_n 0, 1) := by decide +kernel
theorem d_2_23_49 : decode prog_2_method_23_code 49 = .ok (.getfield 7, 3) := by decide +kernel
theorem d_2_23_52 : decode prog_2_method_23_code 52 = .ok (.iload 4, 2) := by decide +kernel
theorem d_2_23_54 : decode prog_2_method_23_code 54 = .ok (.iload 5, 2) := by decide +kernel
theorem d_2_23_56 : decode prog_2_method_23_code 56 = .ok (.ldc 71, 2) := by decide +kernel
theorem w_809 : (Cond.constant "NumberHouse$Big" (71 : Nat) (2147483647 : Int32)) ∈ q_tbl := q_of 809 (by decide +kernel) (by decide +kernel)
theorem d_2_23_58 : decode prog_2_method_23_code 58 = .ok (.iand, 1) := by decide +kernel
theorem d_2_23_59 : decode prog_2_method_23_code 59 = .ok (.iastore, 1) := by decide +kernel
theorem d_2_23_60 : decode prog_2_method_23_code 60 = .ok (.iload 5, 2) := by decide +kernel
theorem d_2_23_62 : decode prog_2_method_23_code 62 = .ok (.bipush 31, 2) := by decide +kernel
theorem d_2_23_64 : decode prog_2_method_23_code 64 = .ok (.iushr, 1) := by decide +kernel
theorem d_2_23_65 : decode prog_2_method_23_code 65 = .ok (.istore_n 3, 1) := by decide +kernel
theorem d_2_23_66 : decode prog_2_method_23_code 66 = .ok (.iinc 4 1, 3) := by decide +kernel
theorem d_2_23_69 : decode prog_2_method_23_code 69 = .ok (.goto (-44), 3) := by decide +kernel
def y_Big_addSize : MethodName := ⟨"NumberHouse$Big", "addSize", "(LNumberHouse$Big;)V"⟩
set_option maxRecDepth 100000 in
set_option maxHeartbeats 4000000 in
theorem S_Big_addSize (l : Launch) (D : va_G) (g : Nat → ClassId) (sh : List q_Ok) (q : Nat → Nat) (ws : va_W) (k : Nat) (R : Int32) (hB : q_isBig sh g q k R) (j : Nat) (Q : Int32) (hJ : q_isBig sh g q j Q) (hI : q_I sh q ws) : q_mV l y_Big_addSize prog_2_method_23_code 6 2 0 0 D g [.ref (q k), .ref (q j)] ws (fun u => (True) ∧ q_I sh q u ∧ q_un ws u [k, k + 1]) := by
  intro sz
  refine q_into (by decide) (Nat.le_of_ble_eq_true rfl) ?_
  intro p e s m below meth c ls hsz C0 V hl
  have hx := C0.1
  have hb := C0.2.1
  have hR : q_F (0 ≤ R.toInt ∧ R.toInt ≤ 220) := hB.2.2
  have hQ : q_F (0 ≤ Q.toInt ∧ Q.toInt ≤ 220) := hJ.2.2
  have hF : q_un ws ws [k, k + 1] := q_u0
  have hl : lv_has ls 6 [(0, .ref (q k)), (1, .ref (q j))] := hl
  refine lv_aload_n hx hb d_2_23_0 rfl (lv_at hl 0 rfl) ?_
  obtain ⟨y1, y2, hO3, b4, b5⟩ := q_bigO hI hB
  replace b4 : q_F (0 ≤ y1.toInt ∧ y1.toInt ≤ R.toInt) := b4
  replace b5 : q_F (0 ≤ y2.toInt ∧ y2.toInt ≤ 1) := b5
  refine q_get (ci := 2) (j := 1) (v := .int y1) C0 V i_Big rfl rfl hO3 (by decide) w_85 rfl d_2_23_1 ?_
  refine lv_aload_n hx hb d_2_23_4 rfl (lv_at hl 1 rfl) ?_
  obtain ⟨y6, y7, hO8, b9, b10⟩ := q_bigO hI hJ
  replace b9 : q_F (0 ≤ y6.toInt ∧ y6.toInt ≤ Q.toInt) := b9
  replace b10 : q_F (0 ≤ y7.toInt ∧ y7.toInt ≤ 1) := b10
  refine q_get (ci := 2) (j := 1) (v := .int y6) C0 V i_Big rfl rfl hO8 (by decide) w_85 rfl d_2_23_5 ?_
  refine q_max C0 hl.1 rfl w_1043 w_803 w_7 w_804 ⟨Nat.le_of_ble_eq_true rfl, Nat.le_of_ble_eq_true rfl⟩ ⟨Nat.le_of_ble_eq_true rfl, Nat.le_of_ble_eq_true rfl⟩ d_2_23_8 ?_
  obtain ⟨a11, e12⟩ := q_nm (if y1 < y6 then y6 else y1 : Int32)
  refine q_ti (v := a11) e12 ?_
  have b13 : q_F (y1.toInt ≤ a11.toInt ∧ y6.toInt ≤ a11.toInt ∧ (a11.toInt = y1.toInt ∨ a11.toInt = y6.toInt)) := (by rw [← e12]; show y1.toInt ≤ (if y1 < y6 then y6 else y1 : Int32).toInt ∧ y6.toInt ≤ (if y1 < y6 then y6 else y1 : Int32).toInt ∧ ((if y1 < y6 then y6 else y1 : Int32).toInt = y1.toInt ∨ (if y1 < y6 then y6 else y1 : Int32).toInt = y6.toInt); exact s_max (a := y1) (b := y6))
  refine lv_aload_n hx hb d_2_23_11 rfl (lv_at hl 0 rfl) ?_
  refine q_get (ci := 2) (j := 0) (v := .ref (q (k + 1))) C0 V i_Big rfl rfl hO3 (by decide) w_84 rfl d_2_23_12 ?_
  obtain ⟨f14, hA15, bf16⟩ := q_bigA hI hB
  refine q_alen (t := 0) (v := R) C0 V hA15 rfl (s_len (by have t1 : 0 ≤ R.toInt ∧ R.toInt ≤ 220 := hR; omega)) d_2_23_15 ?_
  refine q_min C0 hl.1 rfl w_773 w_774 w_7 w_775 ⟨Nat.le_of_ble_eq_true rfl, Nat.le_of_ble_eq_true rfl⟩ ⟨Nat.le_of_ble_eq_true rfl, Nat.le_of_ble_eq_true rfl⟩ d_2_23_16 ?_
  obtain ⟨a17, e18⟩ := q_nm (if R < a11 then R else a11 : Int32)
  refine q_ti (v := a17) e18 ?_
  have b19 : q_F (a17.toInt ≤ a11.toInt ∧ a17.toInt ≤ R.toInt ∧ (a17.toInt = a11.toInt ∨ a17.toInt = R.toInt)) := (by rw [← e18]; show (if R < a11 then R else a11 : Int32).toInt ≤ a11.toInt ∧ (if R < a11 then R else a11 : Int32).toInt ≤ R.toInt ∧ ((if R < a11 then R else a11 : Int32).toInt = a11.toInt ∨ (if R < a11 then R else a11 : Int32).toInt = R.toInt); exact s_min (a := a11) (b := R))
  refine lv_istore_n (lv' := [(2, .int a17), (0, .ref (q k)), (1, .ref (q j))]) hx hb d_2_23_19 rfl hl (by decide) rfl (fun ls hl => ?_)
  refine lv_iconst (v := 0) hx hb d_2_23_20 (by decide) ?_
  refine lv_istore_n (lv' := [(3, .int 0), (2, .int a17), (0, .ref (q k)), (1, .ref (q j))]) hx hb d_2_23_21 rfl hl (by decide) rfl (fun ls hl => ?_)
  refine lv_iconst (v := 0) hx hb d_2_23_22 (by decide) ?_
  refine lv_istore (lv' := [(4, .int 0), (3, .int 0), (2, .int a17), (0, .ref (q k)), (1, .ref (q j))]) hx hb d_2_23_23 hl (by decide) rfl (fun ls hl => ?_)
  refine q_loop (X := Int32 × Int32) (fun z H locs ls w335 => q_F (0 ≤ a17.toInt + (-1 * z.1.toInt)) ∧ q_F (0 ≤ z.2.toInt) ∧ q_F (0 ≤ (-1 * z.2.toInt) + 1) ∧ q_F (0 ≤ z.1.toInt + (-1 * z.2.toInt)) ∧ q_Wd D g (va_A ws sz) s w335 H locs ∧ lv_has ls 6 [(4, .int z.1), (3, .int z.2), (2, .int a17), (0, .ref (q k)), (1, .ref (q j))] ∧ q_I sh q w335 ∧ q_un ws w335 [k, k + 1]) (fun z => (a17.toInt - z.1.toInt).toNat) ?_ ((0 : Int32), (0 : Int32)) _ _ _ ws ⟨(show q_F (0 ≤ a17.toInt + (-1 * 0)) from (show 0 ≤ a17.toInt + (-1 * 0) from by have t1 : 0 ≤ y1.toInt ∧ y1.toInt ≤ R.toInt := b4; have t2 : y1.toInt ≤ a11.toInt ∧ y6.toInt ≤ a11.toInt ∧ (a11.toInt = y1.toInt ∨ a11.toInt = y6.toInt) := b13; have t3 : a17.toInt ≤ a11.toInt ∧ a17.toInt ≤ R.toInt ∧ (a17.toInt = a11.toInt ∨ a17.toInt = R.toInt) := b19; omega)), (show q_F (0 ≤ 0) from (show 0 ≤ 0 from by omega)), (show q_F (0 ≤ (-1 * 0) + 1) from (show 0 ≤ (-1 * 0) + 1 from by omega)), (show q_F (0 ≤ 0 + (-1 * 0)) from (show 0 ≤ 0 + (-1 * 0) from by omega)), V, hl, hI, hF⟩
  rintro ⟨x20, x21⟩ H locs ls w335 ⟨i330, i331, i332, i333, V, hl, hI, hF⟩ ih334
  replace i330 : q_F (0 ≤ a17.toInt + (-1 * x20.toInt)) := i330
  replace i331 : q_F (0 ≤ x21.toInt) := i331
  replace i332 : q_F (0 ≤ (-1 * x21.toInt) + 1) := i332
  replace i333 : q_F (0 ≤ x20.toInt + (-1 * x21.toInt)) := i333
  replace hl : lv_has ls 6 [(4, .int x20), (3, .int x21), (2, .int a17), (0, .ref (q k)), (1, .ref (q j))] := hl
  refine lv_iload hx hb d_2_23_25 (lv_at hl 0 rfl) ?_
  refine lv_iload_n hx hb d_2_23_27 rfl (lv_at hl 2 rfl) ?_
  refine lv_icmp_ge (tgt := 72) hx hb d_2_23_28 (by decide) (fun c336 => ?_) (fun c336 => ?_)
  ·
    have b337 : q_F (a17.toInt ≤ x20.toInt) := (q_leI c336)
    refine lv_aload_n hx hb d_2_23_72 rfl (lv_at hl 3 rfl) ?_
    refine lv_iload_n hx hb d_2_23_73 rfl (lv_at hl 2 rfl) ?_
    obtain ⟨y338, y339, hO340, b341, b342⟩ := q_bigO hI hB
    replace b341 : q_F (0 ≤ y338.toInt ∧ y338.toInt ≤ R.toInt) := b341
    replace b342 : q_F (0 ≤ y339.toInt ∧ y339.toInt ≤ 1) := b342
    refine q_put (ci := 2) (j := 1) (v := .int a17) (ty := .int) C0 V i_Big o_Big n_Big rfl rfl hO340 (by decide) w_85 rfl rfl rfl rfl (Nat.le_of_ble_eq_true rfl) d_2_23_74 (fun H locs w343 hu344 hO340 V => ?_)
    replace hO340 : w343[k]? = (some (q k, .inr (2, [.ref (q (k + 1)), .int a17, .int y339])) : Option (Nat × va_E)) := hO340
    replace hI := q_bigO' hI hB hu344 hO340 ⟨(by have t1 : 0 ≤ y1.toInt ∧ y1.toInt ≤ R.toInt := b4; have t2 : y1.toInt ≤ a11.toInt ∧ y6.toInt ≤ a11.toInt ∧ (a11.toInt = y1.toInt ∨ a11.toInt = y6.toInt) := b13; have t3 : a17.toInt ≤ a11.toInt ∧ a17.toInt ≤ R.toInt ∧ (a17.toInt = a11.toInt ∨ a17.toInt = R.toInt) := b19; omega), (by have t1 : a17.toInt ≤ a11.toInt ∧ a17.toInt ≤ R.toInt ∧ (a17.toInt = a11.toInt ∨ a17.toInt = R.toInt) := b19; omega)⟩ ⟨(by have t1 : 0 ≤ y339.toInt ∧ y339.toInt ≤ 1 := b342; omega), (by have t1 : 0 ≤ y339.toInt ∧ y339.toInt ≤ 1 := b342; omega)⟩
    replace hF := q_us hF hu344 (by simp)
    refine lv_iload_n hx hb d_2_23_77 rfl (lv_at hl 1 rfl) ?_
    refine lv_if_eq (tgt := 86) hx hb d_2_23_78 (by decide) (fun c345 => ?_) (fun c345 => ?_)
    ·
      have b346 : q_F (x21.toInt = 0) := (q_eqI c345)
      exact q_retv C0 V (⟨trivial, hI, hF⟩) d_2_23_86
    ·
      have b347 : q_F (x21.toInt ≠ 0) := (q_neI c345)
      refine lv_aload_n hx hb d_2_23_81 rfl (lv_at hl 3 rfl) ?_
      refine lv_iload_n hx hb d_2_23_82 rfl (lv_at hl 1 rfl) ?_
      refine q_gov V (q_runV (As := [.int x21]) (rest := []) (d := 1) (mc := 0) (ms := 0) (ci := 2) C0 V rfl LV_Big_32 (S_Big_push l D g sh q w343 k R hB x21 hI (by have t1 : 0 ≤ x21.toInt := i331; omega) _) rfl rfl hO340 rfl hl.1 rfl (Nat.le_of_ble_eq_true rfl) ⟨by decide, by decide⟩ ⟨Nat.le_of_ble_eq_true rfl, Nat.le_of_ble_eq_true rfl⟩ d_2_23_83) (fun u348 H locs hp349 V => ?_)
      obtain ⟨_, hI, hu350⟩ := hp349
      replace hF := q_uc hF hu350 (by simp)
      exact q_retv C0 V (⟨trivial, hI, hF⟩) d_2_23_86
  ·
    have b351 : q_F (x20.toInt < a17.toInt) := (q_nleI c336)
    refine lv_aload_n hx hb d_2_23_31 rfl (lv_at hl 3 rfl) ?_
    refine lv_iload hx hb d_2_23_32 (lv_at hl 0 rfl) ?_
    obtain ⟨y355, y356, hO357, b358, b359⟩ := q_bigO hI hB
    replace b358 : q_F (0 ≤ y355.toInt ∧ y355.toInt ≤ R.toInt) := b358
    replace b359 : q_F (0 ≤ y356.toInt ∧ y356.toInt ≤ 1) := b359
    refine q_goi V (q_runV (As := [.int x20]) (rest := []) (d := 1) (mc := 0) (ms := 0) (ci := 2) C0 V rfl LV_Big_49 (S_Big_limb l D g sh q w335 k R hB x20 hI  _) rfl rfl hO357 rfl hl.1 rfl (Nat.le_of_ble_eq_true rfl) ⟨by decide, by decide⟩ ⟨Nat.le_of_ble_eq_true rfl, Nat.le_of_ble_eq_true rfl⟩ d_2_23_34) (fun a354 u352 H locs hp353 V => ?_)
    obtain ⟨b360, rfl⟩ := hp353
    replace b360 : q_F (0 ≤ a354.toInt ∧ a354.toInt ≤ 2147483647) := b360
    refine lv_aload_n hx hb d_2_23_37 rfl (lv_at hl 4 rfl) ?_
    refine lv_iload hx hb d_2_23_38 (lv_at hl 0 rfl) ?_
    obtain ⟨y364, y365, hO366, b367, b368⟩ := q_bigO hI hJ
    replace b367 : q_F (0 ≤ y364.toInt ∧ y364.toInt ≤ Q.toInt) := b367
    replace b368 : q_F (0 ≤ y365.toInt ∧ y365.toInt ≤ 1) := b368
    refine q_goi V (q_runV (As := [.int x20]) (rest := [.int a354]) (d := 1) (mc := 0) (ms := 0) (ci := 2) C0 V rfl LV_Big_49 (S_Big_limb l D g sh q w335 j Q hJ x20 hI  _) rfl rfl hO366 rfl hl.1 rfl (Nat.le_of_ble_eq_true rfl) ⟨by decide, by decide⟩ ⟨Nat.le_of_ble_eq_true rfl, Nat.le_of_ble_eq_true rfl⟩ d_2_23_40) (fun a363 u361 H locs hp362 V => ?_)
    obtain ⟨b369, rfl⟩ := hp362
    replace b369 : q_F (0 ≤ a363.toInt ∧ a363.toInt ≤ 2147483647) := b369
    refine lv_iadd hx hb d_2_23_43 ?_
    obtain ⟨a370, e371⟩ := q_nm (a354 + a363 : Int32)
    refine q_ti (v := a370) e371 ?_
    refine lv_iload_n hx hb d_2_23_44 rfl (lv_at hl 1 rfl) ?_
    refine lv_iadd hx hb d_2_23_45 ?_
    obtain ⟨a372, e373⟩ := q_nm (a370 + x21 : Int32)
    refine q_ti (v := a372) e373 ?_
    refine lv_istore (lv' := [(5, .int a372), (4, .int x20), (3, .int x21), (2, .int a17), (0, .ref (q k)), (1, .ref (q j))]) hx hb d_2_23_46 hl (by decide) rfl (fun ls hl => ?_)
    refine lv_aload_n hx hb d_2_23_48 rfl (lv_at hl 4 rfl) ?_
    refine q_get (ci := 2) (j := 0) (v := .ref (q (k + 1))) C0 V i_Big rfl rfl hO357 (by decide) w_84 rfl d_2_23_49 ?_
    refine lv_iload hx hb d_2_23_52 (lv_at hl 1 rfl) ?_
    refine lv_iload hx hb d_2_23_54 (lv_at hl 0 rfl) ?_
    refine q_ldc C0 rfl w_809 d_2_23_56 ?_
    refine lv_iand hx hb d_2_23_58 ?_
    obtain ⟨a374, e375⟩ := q_nm (a372 &&& 2147483647 : Int32)
    refine q_ti (v := a374) e375 ?_
    have b376 : q_F (0 ≤ a374.toInt ∧ a374.toInt ≤ 2147483647) := (by rw [← e375]; show 0 ≤ (a372 &&& 2147483647 : Int32).toInt ∧ (a372 &&& 2147483647 : Int32).toInt ≤ 2147483647; exact s_and (by decide))
    obtain ⟨f377, hA378, bf379⟩ := q_bigA hI hB
    refine q_iast C0 V hA378 (q_ix (x := x20.toInt) rfl (by have t1 : 0 ≤ x21.toInt := i331; have t2 : 0 ≤ x20.toInt + (-1 * x21.toInt) := i333; omega) (by have t1 : a17.toInt ≤ a11.toInt ∧ a17.toInt ≤ R.toInt ∧ (a17.toInt = a11.toInt ∨ a17.toInt = R.toInt) := b19; have t2 : 0 ≤ x21.toInt := i331; have t3 : 0 ≤ x20.toInt + (-1 * x21.toInt) := i333; have t4 : x20.toInt < a17.toInt := b351; have e9 := q_clI (i := R) rfl (by have t1 : 0 ≤ R.toInt ∧ R.toInt ≤ 220 := hR; omega); omega)) d_2_23_59 (fun H locs w380 hu381 hA378 V => ?_)
    replace hI := q_bigA' hI hB hu381 hA378 (q_updB bf379 ⟨(by have t1 : 0 ≤ a374.toInt ∧ a374.toInt ≤ 2147483647 := b376; omega), (by have t1 : 0 ≤ a374.toInt ∧ a374.toInt ≤ 2147483647 := b376; omega)⟩)
    replace hO357 := (hu381 _ (by omega)).trans hO357
    replace hF := q_us hF hu381 (by simp)
    refine lv_iload hx hb d_2_23_60 (lv_at hl 0 rfl) ?_
    refine lv_bipush (v := 31) hx hb d_2_23_62 (by decide) ?_
    refine lv_iushr hx hb d_2_23_64 rfl ?_
    obtain ⟨a382, e383⟩ := q_nm ((a372.toUInt32 >>> ((31 : Int32).toUInt32 &&& Int32.toUInt32 31)).toInt32 : Int32)
    refine q_ti (v := a382) e383 ?_
    have b384 : q_F (0 ≤ a382.toInt ∧ a382.toInt ≤ 1) := (by rw [← e383]; show 0 ≤ ((a372.toUInt32 >>> ((31 : Int32).toUInt32 &&& Int32.toUInt32 31)).toInt32 : Int32).toInt ∧ ((a372.toUInt32 >>> ((31 : Int32).toUInt32 &&& Int32.toUInt32 31)).toInt32 : Int32).toInt ≤ 1; exact (by have z := s_ushr (x := a372) (c := 31) 31 (by decide) (by decide); omega))
    refine lv_istore_n (lv' := [(3, .int a382), (5, .int a372), (4, .int x20), (2, .int a17), (0, .ref (q k)), (1, .ref (q j))]) hx hb d_2_23_65 rfl hl (by decide) rfl (fun ls hl => ?_)
    obtain ⟨a385, e386⟩ := q_nm (x20 + 1 : Int32)
    have b387 : q_F (a385.toInt = x20.toInt + 1) := (by rw [← e386]; exact q_addI (y := 1) rfl (by decide) (by have t1 : 0 ≤ R.toInt ∧ R.toInt ≤ 220 := hR; have t2 : a17.toInt ≤ a11.toInt ∧ a17.toInt ≤ R.toInt ∧ (a17.toInt = a11.toInt ∨ a17.toInt = R.toInt) := b19; have t3 : 0 ≤ a17.toInt + (-1 * x20.toInt) := i330; have t4 : 0 ≤ x21.toInt := i331; have t5 : 0 ≤ x20.toInt + (-1 * x21.toInt) := i333; omega) (by have t1 : 0 ≤ R.toInt ∧ R.toInt ≤ 220 := hR; have t2 : a17.toInt ≤ a11.toInt ∧ a17.toInt ≤ R.toInt ∧ (a17.toInt = a11.toInt ∨ a17.toInt = R.toInt) := b19; have t3 : 0 ≤ a17.toInt + (-1 * x20.toInt) := i330; have t4 : 0 ≤ x21.toInt := i331; have t5 : 0 ≤ x20.toInt + (-1 * x21.toInt) := i333; omega))
    refine lv_iinc (v := a385) (lv' := [(4, .int a385), (3, .int a382), (5, .int a372), (2, .int a17), (0, .ref (q k)), (1, .ref (q j))]) hx hb d_2_23_66 hl (k := 2) rfl (e386) (by decide) rfl (fun ls hl => ?_)
    refine lv_goto (tgt := 25) hx hb d_2_23_69 (by decide) ?_
    exact ih334 ((a385 : Int32), (a382 : Int32)) _ _ _ _ (show (a17.toInt - a385.toInt).toNat < (a17.toInt - x20.toInt).toNat from by have t1 : x20.toInt < a17.toInt := b351; have t2 : a385.toInt = x20.toInt + 1 := b387; omega) ⟨(show q_F (0 ≤ a17.toInt + (-1 * a385.toInt)) from (show 0 ≤ a17.toInt + (-1 * a385.toInt) from by have t1 : x20.toInt < a17.toInt := b351; have t2 : a385.toInt = x20.toInt + 1 := b387; omega)), (show q_F (0 ≤ a382.toInt) from (show 0 ≤ a382.toInt from by have t1 : 0 ≤ a382.toInt ∧ a382.toInt ≤ 1 := b384; omega)), (show q_F (0 ≤ (-1 * a382.toInt) + 1) from (show 0 ≤ (-1 * a382.toInt) + 1 from by have t1 : 0 ≤ a382.toInt ∧ a382.toInt ≤ 1 := b384; omega)), (show q_F (0 ≤ a385.toInt + (-1 * a382.toInt)) from (show 0 ≤ a385.toInt + (-1 * a382.toInt) from by have t1 : 0 ≤ x21.toInt := i331; have t2 : 0 ≤ x20.toInt + (-1 * x21.toInt) := i333; have t3 : 0 ≤ a382.toInt ∧ a382.toInt ≤ 1 := b384; have t4 : a385.toInt = x20.toInt + 1 := b387; omega)), V, q_lw hl (q_lw1 0 rfl (q_lw1 1 rfl (q_lw1 3 rfl (q_lw1 4 rfl (q_lw1 5 rfl q_lw0))))), hI, hF⟩
