/-! Big, any state -/
set_option maxRecDepth 100000 in
set_option maxHeartbeats 4000000 in
theorem S_Big_clear (l : Launch) (D : va_G) (g : Nat → ClassId) (sh : List q_Ok) (q : Nat → Nat) (ws : va_W) (k : Nat) (R : Int32) (hB : q_isBig sh g q k R) (hI : q_I sh q ws) : q_mV l y_Big_clear prog_2_method_2_code 1 1 0 0 D g [.ref (q k)] ws (fun u => (True) ∧ q_I sh q u ∧ q_un ws u [k, k + 1]) := by
  intro sz
  refine q_into (by decide) (Nat.le_of_ble_eq_true rfl) ?_
  intro p e s m below meth c ls hsz C0 V hl
  have hx := C0.1
  have hb := C0.2.1
  have hR : q_F (0 ≤ R.toInt ∧ R.toInt ≤ 220) := hB.2.2
  have hF : q_un ws ws [k, k + 1] := q_u0
  have hl : lv_has ls 1 [(0, .ref (q k))] := hl
  refine lv_aload_n hx hb d_2_2_0 rfl (lv_at hl 0 rfl) ?_
  refine lv_iconst (v := 0) hx hb d_2_2_1 (by decide) ?_
  obtain ⟨y1, y2, hO3, b4, b5⟩ := q_bigO hI hB
  replace b4 : q_F (0 ≤ y1.toInt ∧ y1.toInt ≤ R.toInt) := b4
  replace b5 : q_F (0 ≤ y2.toInt ∧ y2.toInt ≤ 1) := b5
  refine q_put (ci := 2) (j := 1) (v := .int 0) (ty := .int) C0 V i_Big o_Big n_Big rfl rfl hO3 (by decide) w_85 rfl rfl rfl rfl (Nat.le_of_ble_eq_true rfl) d_2_2_2 (fun H locs w6 hu7 hO3 V => ?_)
  replace hO3 : w6[k]? = (some (q k, .inr (2, [.ref (q (k + 1)), .int 0, .int y2])) : Option (Nat × va_E)) := hO3
  replace hI := q_bigO' hI hB hu7 hO3 ⟨(by have z9 : (0 : Int32).toInt = 0 := rfl; omega), (by have z9 : (0 : Int32).toInt = 0 := rfl; have t1 : 0 ≤ R.toInt ∧ R.toInt ≤ 220 := hR; omega)⟩ ⟨(by have t1 : 0 ≤ y2.toInt ∧ y2.toInt ≤ 1 := b5; omega), (by have t1 : 0 ≤ y2.toInt ∧ y2.toInt ≤ 1 := b5; omega)⟩
  replace hF := q_us hF hu7 (by simp)
  refine lv_aload_n hx hb d_2_2_5 rfl (lv_at hl 0 rfl) ?_
  refine lv_iconst (v := 0) hx hb d_2_2_6 (by decide) ?_
  refine q_put (ci := 2) (j := 2) (v := .int 0) (ty := .boolean) C0 V i_Big o_Big n_Big rfl rfl hO3 (by decide) w_94 rfl rfl rfl rfl (Nat.le_of_ble_eq_true rfl) d_2_2_7 (fun H locs w8 hu9 hO3 V => ?_)
  replace hO3 : w8[k]? = (some (q k, .inr (2, [.ref (q (k + 1)), .int 0, .int 0])) : Option (Nat × va_E)) := hO3
  replace hI := q_bigO' hI hB hu9 hO3 ⟨(by have z9 : (0 : Int32).toInt = 0 := rfl; omega), (by have z9 : (0 : Int32).toInt = 0 := rfl; have t1 : 0 ≤ R.toInt ∧ R.toInt ≤ 220 := hR; omega)⟩ ⟨(by have z9 : (0 : Int32).toInt = 0 := rfl; omega), (by have z9 : (0 : Int32).toInt = 0 := rfl; omega)⟩
  replace hF := q_us hF hu9 (by simp)
  exact q_retv C0 V (⟨trivial, hI, hF⟩) d_2_2_10
theorem d_2_5_12 : decode prog_2_method_5_code 12 = .ok (.aload_n 0, 1) := by decide +kernel
theorem d_2_5_13 : decode prog_2_method_5_code 13 = .ok (.getfield 7, 3) := by decide +kernel
theorem d_2_5_16 : decode prog_2_method_5_code 16 = .ok (.iload_n 1, 1) := by decide +kernel
theorem d_2_5_17 : decode prog_2_method_5_code 17 = .ok (.iaload, 1) := by decide +kernel
theorem d_2_5_18 : decode prog_2_method_5_code 18 = .ok (.goto 4, 3) := by decide +kernel
set_option maxRecDepth 100000 in
set_option maxHeartbeats 4000000 in
theorem S_Big_limb (l : Launch) (D : va_G) (g : Nat → ClassId) (sh : List q_Ok) (q : Nat → Nat) (ws : va_W) (k : Nat) (R : Int32) (hB : q_isBig sh g q k R) (x1 : Int32) (hI : q_I sh q ws) : q_mI l y_Big_limb prog_2_method_5_code 2 (.int) 1 0 0 D g [.ref (q k), .int x1] ws (fun r u => (0 ≤ r.toInt ∧ r.toInt ≤ 2147483647) ∧ ws = u) := by
  intro sz
  refine q_into (by decide) (Nat.le_of_ble_eq_true rfl) ?_
  intro p e s m below meth c ls hsz C0 V hl
  have hx := C0.1
  have hb := C0.2.1
  have hR : q_F (0 ≤ R.toInt ∧ R.toInt ≤ 220) := hB.2.2
  have hl : lv_has ls 2 [(0, .ref (q k)), (1, .int x1)] := hl
  refine lv_iload_n hx hb d_2_5_0 rfl (lv_at hl 1 rfl) ?_
  refine lv_if_lt (tgt := 21) hx hb d_2_5_1 (by decide) (fun c1 => ?_) (fun c1 => ?_)
  ·
    have b2 : q_F (x1.toInt < 0) := (q_ltI c1)
    refine lv_iconst (v := 0) hx hb d_2_5_21 (by decide) ?_
    exact q_reti C0 V (⟨show 0 ≤ (0 : Int32).toInt ∧ (0 : Int32).toInt ≤ 2147483647 from (by have z9 : (0 : Int32).toInt = 0 := rfl; omega), rfl⟩) d_2_5_22
  ·
    have b3 : q_F (0 ≤ x1.toInt) := (q_nltI c1)
    refine lv_iload_n hx hb d_2_5_4 rfl (lv_at hl 1 rfl) ?_
    refine lv_aload_n hx hb d_2_5_5 rfl (lv_at hl 0 rfl) ?_
    obtain ⟨y4, y5, hO6, b7, b8⟩ := q_bigO hI hB
    replace b7 : q_F (0 ≤ y4.toInt ∧ y4.toInt ≤ R.toInt) := b7
    replace b8 : q_F (0 ≤ y5.toInt ∧ y5.toInt ≤ 1) := b8
    refine q_get (ci := 2) (j := 1) (v := .int y4) C0 V i_Big rfl rfl hO6 (by decide) w_85 rfl d_2_5_6 ?_
    refine lv_icmp_ge (tgt := 21) hx hb d_2_5_9 (by decide) (fun c9 => ?_) (fun c9 => ?_)
    ·
      have b10 : q_F (y4.toInt ≤ x1.toInt) := (q_leI c9)
      refine lv_iconst (v := 0) hx hb d_2_5_21 (by decide) ?_
      exact q_reti C0 V (⟨show 0 ≤ (0 : Int32).toInt ∧ (0 : Int32).toInt ≤ 2147483647 from (by have z9 : (0 : Int32).toInt = 0 := rfl; omega), rfl⟩) d_2_5_22
    ·
      have b11 : q_F (x1.toInt < y4.toInt) := (q_nleI c9)
      refine lv_aload_n hx hb d_2_5_12 rfl (lv_at hl 0 rfl) ?_
      refine q_get (ci := 2) (j := 0) (v := .ref (q (k + 1))) C0 V i_Big rfl rfl hO6 (by decide) w_84 rfl d_2_5_13 ?_
      refine lv_iload_n hx hb d_2_5_16 rfl (lv_at hl 1 rfl) ?_
      obtain ⟨f12, hA13, bf14⟩ := q_bigA hI hB
      refine q_iald C0 V hA13 (q_ix (x := x1.toInt) rfl (by have t1 : 0 ≤ x1.toInt := b3; omega) (by have t1 : 0 ≤ x1.toInt := b3; have t2 : 0 ≤ y4.toInt ∧ y4.toInt ≤ R.toInt := b7; have t3 : x1.toInt < y4.toInt := b11; have e9 := q_clI (i := R) rfl (by have t1 : 0 ≤ R.toInt ∧ R.toInt ≤ 220 := hR; omega); omega)) d_2_5_17 ?_
      obtain ⟨a15, e16⟩ := q_nm (f12 x1.toNatClampNeg : Int32)
      refine q_ti (v := a15) e16 ?_
      have b17 : q_F (0 ≤ a15.toInt ∧ a15.toInt ≤ 2147483647) := (by rw [← e16]; show 0 ≤ (f12 x1.toNatClampNeg : Int32).toInt ∧ (f12 x1.toNatClampNeg : Int32).toInt ≤ 2147483647; exact bf14 _)
      refine lv_goto (tgt := 22) hx hb d_2_5_18 (by decide) ?_
      exact q_reti C0 V (⟨show 0 ≤ a15.toInt ∧ a15.toInt ≤ 2147483647 from (by have t1 : 0 ≤ a15.toInt ∧ a15.toInt ≤ 2147483647 := b17; omega), rfl⟩) d_2_5_22
set_option maxRecDepth 100000 in
set_option maxHeartbeats 4000000 in
theorem S_Big_push (l : Launch) (D : va_G) (g : Nat → ClassId) (sh : List q_Ok) (q : Nat → Nat) (ws : va_W) (k : Nat) (R : Int32) (hB : q_isBig sh g q k R) (x1 : Int32) (hI : q_I sh q ws) (pre0 : 0 ≤ x1.toInt) : q_mV l y_Big_push prog_2_method_6_code 2 1 0 0 D g [.ref (q k), .int x1] ws (fun u => (True) ∧ q_I sh q u ∧ q_un ws u [k, k + 1]) := by
  intro sz
  refine q_into (by decide) (Nat.le_of_ble_eq_true rfl) ?_
  intro p e s m below meth c ls hsz C0 V hl
  have hx := C0.1
  have hb := C0.2.1
  have hR : q_F (0 ≤ R.toInt ∧ R.toInt ≤ 220) := hB.2.2
  replace pre0 : q_F (0 ≤ x1.toInt) := pre0
  have hF : q_un ws ws [k, k + 1] := q_u0
  have hl : lv_has ls 2 [(0, .ref (q k)), (1, .int x1)] := hl
  refine lv_aload_n hx hb d_2_6_0 rfl (lv_at hl 0 rfl) ?_
  obtain ⟨y1, y2, hO3, b4, b5⟩ := q_bigO hI hB
  replace b4 : q_F (0 ≤ y1.toInt ∧ y1.toInt ≤ R.toInt) := b4
  replace b5 : q_F (0 ≤ y2.toInt ∧ y2.toInt ≤ 1) := b5
  refine q_get (ci := 2) (j := 1) (v := .int y1) C0 V i_Big rfl rfl hO3 (by decide) w_85 rfl d_2_6_1 ?_
  refine lv_aload_n hx hb d_2_6_4 rfl (lv_at hl 0 rfl) ?_
  refine q_get (ci := 2) (j := 0) (v := .ref (q (k + 1))) C0 V i_Big rfl rfl hO3 (by decide) w_84 rfl d_2_6_5 ?_
  obtain ⟨f6, hA7, bf8⟩ := q_bigA hI hB
  refine q_alen (t := 0) (v := R) C0 V hA7 rfl (s_len (by have t1 : 0 ≤ R.toInt ∧ R.toInt ≤ 220 := hR; omega)) d_2_6_8 ?_
  refine lv_icmp_ge (tgt := 32) hx hb d_2_6_9 (by decide) (fun c9 => ?_) (fun c9 => ?_)
  ·
    have b10 : q_F (R.toInt ≤ y1.toInt) := (q_leI c9)
    exact q_retv C0 V (⟨trivial, hI, hF⟩) d_2_6_32
  ·
    have b11 : q_F (y1.toInt < R.toInt) := (q_nleI c9)
    refine lv_aload_n hx hb d_2_6_12 rfl (lv_at hl 0 rfl) ?_
    refine q_get (ci := 2) (j := 0) (v := .ref (q (k + 1))) C0 V i_Big rfl rfl hO3 (by decide) w_84 rfl d_2_6_13 ?_
    refine lv_aload_n hx hb d_2_6_16 rfl (lv_at hl 0 rfl) ?_
    refine q_get (ci := 2) (j := 1) (v := .int y1) C0 V i_Big rfl rfl hO3 (by decide) w_85 rfl d_2_6_17 ?_
    refine lv_iload_n hx hb d_2_6_20 rfl (lv_at hl 1 rfl) ?_
    refine q_iast C0 V hA7 (q_ix (x := y1.toInt) rfl (by have t1 : 0 ≤ y1.toInt ∧ y1.toInt ≤ R.toInt := b4; omega) (by have t1 : 0 ≤ y1.toInt ∧ y1.toInt ≤ R.toInt := b4; have t2 : y1.toInt < R.toInt := b11; have e9 := q_clI (i := R) rfl (by have t1 : 0 ≤ R.toInt ∧ R.toInt ≤ 220 := hR; omega); omega)) d_2_6_21 (fun H locs w12 hu13 hA7 V => ?_)
    replace hI := q_bigA' hI hB hu13 hA7 (q_updB bf8 ⟨(by have t1 : 0 ≤ x1.toInt := pre0; omega), (by have _ := q_lo32 (x := x1); have _ := q_hi32 (x := x1); omega)⟩)
    replace hO3 := (hu13 _ (by omega)).trans hO3
    replace hF := q_us hF hu13 (by simp)
    refine lv_aload_n hx hb d_2_6_22 rfl (lv_at hl 0 rfl) ?_
    refine lv_dup hx hb d_2_6_23 rfl ?_
    refine q_get (ci := 2) (j := 1) (v := .int y1) C0 V i_Big rfl rfl hO3 (by decide) w_85 rfl d_2_6_24 ?_
    refine lv_iconst (v := 1) hx hb d_2_6_27 (by decide) ?_
    refine lv_iadd hx hb d_2_6_28 ?_
    obtain ⟨a14, e15⟩ := q_nm (y1 + 1 : Int32)
    refine q_ti (v := a14) e15 ?_
    have b16 : q_F (a14.toInt = y1.toInt + 1) := (by rw [← e15]; show (y1 + 1 : Int32).toInt = y1.toInt + 1; exact q_addI (x := y1.toInt) (y := 1) rfl (by decide) (by have t1 : 0 ≤ R.toInt ∧ R.toInt ≤ 220 := hR; have t2 : 0 ≤ y1.toInt ∧ y1.toInt ≤ R.toInt := b4; omega) (by have t1 : 0 ≤ R.toInt ∧ R.toInt ≤ 220 := hR; have t2 : 0 ≤ y1.toInt ∧ y1.toInt ≤ R.toInt := b4; omega))
    refine q_put (ci := 2) (j := 1) (v := .int a14) (ty := .int) C0 V i_Big o_Big n_Big rfl rfl hO3 (by decide) w_85 rfl rfl rfl rfl (Nat.le_of_ble_eq_true rfl) d_2_6_29 (fun H locs w17 hu18 hO3 V => ?_)
    replace hO3 : w17[k]? = (some (q k, .inr (2, [.ref (q (k + 1)), .int a14, .int y2])) : Option (Nat × va_E)) := hO3
    replace hI := q_bigO' hI hB hu18 hO3 ⟨(by have t1 : 0 ≤ y1.toInt ∧ y1.toInt ≤ R.toInt := b4; have t2 : a14.toInt = y1.toInt + 1 := b16; omega), (by have t1 : y1.toInt < R.toInt := b11; have t2 : a14.toInt = y1.toInt + 1 := b16; omega)⟩ ⟨(by have t1 : 0 ≤ y2.toInt ∧ y2.toInt ≤ 1 := b5; omega), (by have t1 : 0 ≤ y2.toInt ∧ y2.toInt ≤ 1 := b5; omega)⟩
    replace hF := q_us hF hu18 (by simp)
    exact q_retv C0 V (⟨trivial, hI, hF⟩) d_2_6_32
set_option maxRecDepth 100000 in
set_option maxHeartbeats 4000000 in
theorem S_Big_sign (l : Launch) (D : va_G) (g : Nat → ClassId) (sh : List q_Ok) (q : Nat → Nat) (ws : va_W) (k : Nat) (R : Int32) (hB : q_isBig sh g q k R) (hI : q_I sh q ws) : q_mI l y_Big_sign prog_2_method_8_code 1 (.int) 1 0 0 D g [.ref (q k)] ws (fun r u => (-1 ≤ r.toInt ∧ r.toInt ≤ 1) ∧ ws = u) := by
  intro sz
  refine q_into (by decide) (Nat.le_of_ble_eq_true rfl) ?_
  intro p e s m below meth c ls hsz C0 V hl
  have hx := C0.1
  have hb := C0.2.1
  have hR : q_F (0 ≤ R.toInt ∧ R.toInt ≤ 220) := hB.2.2
  have hl : lv_has ls 1 [(0, .ref (q k))] := hl
  refine lv_aload_n hx hb d_2_8_0 rfl (lv_at hl 0 rfl) ?_
  obtain ⟨y1, y2, hO3, b4, b5⟩ := q_bigO hI hB
  replace b4 : q_F (0 ≤ y1.toInt ∧ y1.toInt ≤ R.toInt) := b4
  replace b5 : q_F (0 ≤ y2.toInt ∧ y2.toInt ≤ 1) := b5
  refine q_get (ci := 2) (j := 1) (v := .int y1) C0 V i_Big rfl rfl hO3 (by decide) w_85 rfl d_2_8_1 ?_
  refine lv_if_ne (tgt := 11) hx hb d_2_8_4 (by decide) (fun c6 => ?_) (fun c6 => ?_)
  ·
    have b7 : q_F (y1.toInt ≠ 0) := (q_neI c6)
    refine lv_aload_n hx hb d_2_8_11 rfl (lv_at hl 0 rfl) ?_
    refine q_get (ci := 2) (j := 2) (v := .int y2) C0 V i_Big rfl rfl hO3 (by decide) w_94 rfl d_2_8_12 ?_
    refine lv_if_eq (tgt := 22) hx hb d_2_8_15 (by decide) (fun c8 => ?_) (fun c8 => ?_)
    ·
      have b9 : q_F (y2.toInt = 0) := (q_eqI c8)
      refine lv_iconst (v := 1) hx hb d_2_8_22 (by decide) ?_
      exact q_reti C0 V (⟨show -1 ≤ (1 : Int32).toInt ∧ (1 : Int32).toInt ≤ 1 from (by have z9 : (1 : Int32).toInt = 1 := rfl; omega), rfl⟩) d_2_8_23
    ·
      have b10 : q_F (y2.toInt ≠ 0) := (q_neI c8)
      refine lv_iconst (v := (-1)) hx hb d_2_8_18 (by decide) ?_
      refine lv_goto (tgt := 23) hx hb d_2_8_19 (by decide) ?_
      exact q_reti C0 V (⟨show -1 ≤ (-1 : Int32).toInt ∧ (-1 : Int32).toInt ≤ 1 from (by have z9 : (-1 : Int32).toInt = -1 := rfl; omega), rfl⟩) d_2_8_23
  ·
    have b11 : q_F (y1.toInt = 0) := (q_eqI c6)
    refine lv_iconst (v := 0) hx hb d_2_8_7 (by decide) ?_
    refine lv_goto (tgt := 23) hx hb d_2_8_8 (by decide) ?_
    exact q_reti C0 V (⟨show -1 ≤ (0 : Int32).toInt ∧ (0 : Int32).toInt ≤ 1 from (by have z9 : (0 : Int32).toInt = 0 := rfl; omega), rfl⟩) d_2_8_23
theorem d_2_9_8 : decode prog_2_method_9_code 8 = .ok (.aload_n 0, 1) := by decide +kernel
theorem d_2_9_9 : decode prog_2_method_9_code 9 = .ok (.getfield 7, 3) := by decide +kernel
theorem d_2_9_12 : decode prog_2_method_9_code 12 = .ok (.iconst 0, 1) := by decide +kernel
theorem d_2_9_13 : decode prog_2_method_9_code 13 = .ok (.iaload, 1) := by decide +kernel
theorem d_2_9_14 : decode prog_2_method_9_code 14 = .ok (.iconst 1, 1) := by decide +kernel
theorem d_2_9_15 : decode prog_2_method_9_code 15 = .ok (.if_icmp .ne 14, 3) := by decide +kernel
theorem d_2_9_18 : decode prog_2_method_9_code 18 = .ok (.aload_n 0, 1) := by decide +kernel
theorem d_2_9_19 : decode prog_2_method_9_code 19 = .ok (.getfield 17, 3) := by decide +kernel
theorem d_2_9_22 : decode prog_2_method_9_code 22 = .ok (.ifCond .ne 7, 3) := by decide +kernel
theorem d_2_9_25 : decode prog_2_method_9_code 25 = .ok (.iconst 1, 1) := by decide +kernel
theorem d_2_9_26 : decode prog_2_method_9_code 26 = .ok (.goto 4, 3) := by decide +kernel
set_option maxRecDepth 100000 in
set_option maxHeartbeats 4000000 in
theorem S_Big_isOne (l : Launch) (D : va_G) (g : Nat → ClassId) (sh : List q_Ok) (q : Nat → Nat) (ws : va_W) (k : Nat) (R : Int32) (hB : q_isBig sh g q k R) (hI : q_I sh q ws) : q_mI l y_Big_isOne prog_2_method_9_code 1 (.boolean) 1 0 0 D g [.ref (q k)] ws (fun r u => (0 ≤ r.toInt ∧ r.toInt ≤ 1) ∧ ws = u) := by
  intro sz
  refine q_into (by decide) (Nat.le_of_ble_eq_true rfl) ?_
  intro p e s m below meth c ls hsz C0 V hl
  have hx := C0.1
  have hb := C0.2.1
  have hR : q_F (0 ≤ R.toInt ∧ R.toInt ≤ 220) := hB.2.2
  have hl : lv_has ls 1 [(0, .ref (q k))] := hl
  refine lv_aload_n hx hb d_2_9_0 rfl (lv_at hl 0 rfl) ?_
  obtain ⟨y1, y2, hO3, b4, b5⟩ := q_bigO hI hB
  replace b4 : q_F (0 ≤ y1.toInt ∧ y1.toInt ≤ R.toInt) := b4
  replace b5 : q_F (0 ≤ y2.toInt ∧ y2.toInt ≤ 1) := b5
  refine q_get (ci := 2) (j := 1) (v := .int y1) C0 V i_Big rfl rfl hO3 (by decide) w_85 rfl d_2_9_1 ?_
  refine lv_iconst (v := 1) hx hb d_2_9_4 (by decide) ?_
  refine lv_icmp_ne (tgt := 29) hx hb d_2_9_5 (by decide) (fun c6 => ?_) (fun c6 => ?_)
  ·
    have b7 : q_F (y1.toInt ≠ 1) := (q_neI c6)
    refine lv_iconst (v := 0) hx hb d_2_9_29 (by decide) ?_
    exact q_retz C0 V (by decide) (⟨show 0 ≤ (0 : Int32).toInt ∧ (0 : Int32).toInt ≤ 1 from (by have z9 : (0 : Int32).toInt = 0 := rfl; omega), rfl⟩) d_2_9_30
  ·
    have b8 : q_F (y1.toInt = 1) := (q_eqI c6)
    refine lv_aload_n hx hb d_2_9_8 rfl (lv_at hl 0 rfl) ?_
    refine q_get (ci := 2) (j := 0) (v := .ref (q (k + 1))) C0 V i_Big rfl rfl hO3 (by decide) w_84 rfl d_2_9_9 ?_
    refine lv_iconst (v := 0) hx hb d_2_9_12 (by decide) ?_
    obtain ⟨f9, hA10, bf11⟩ := q_bigA hI hB
    refine q_iald C0 V hA10 (q_ix (x := 0) (by decide) (by omega) (by have t1 : 0 ≤ y1.toInt ∧ y1.toInt ≤ R.toInt := b4; have t2 : y1.toInt = 1 := b8; have e9 := q_clI (i := R) rfl (by have t1 : 0 ≤ R.toInt ∧ R.toInt ≤ 220 := hR; omega); omega)) d_2_9_13 ?_
    obtain ⟨a12, e13⟩ := q_nm (f9 (0 : Int32).toNatClampNeg : Int32)
    refine q_ti (v := a12) e13 ?_
    have b14 : q_F (0 ≤ a12.toInt ∧ a12.toInt ≤ 2147483647) := (by rw [← e13]; show 0 ≤ (f9 (0 : Int32).toNatClampNeg : Int32).toInt ∧ (f9 (0 : Int32).toNatClampNeg : Int32).toInt ≤ 2147483647; exact bf11 _)
    refine lv_iconst (v := 1) hx hb d_2_9_14 (by decide) ?_
    refine lv_icmp_ne (tgt := 29) hx hb d_2_9_15 (by decide) (fun c15 => ?_) (fun c15 => ?_)
    ·
      have b16 : q_F (a12.toInt ≠ 1) := (q_neI c15)
      refine lv_iconst (v := 0) hx hb d_2_9_29 (by decide) ?_
      exact q_retz C0 V (by decide) (⟨show 0 ≤ (0 : Int32).toInt ∧ (0 : Int32).toInt ≤ 1 from (by have z9 : (0 : Int32).toInt = 0 := rfl; omega), rfl⟩) d_2_9_30
    ·
      have b17 : q_F (a12.toInt = 1) := (q_eqI c15)
      refine lv_aload_n hx hb d_2_9_18 rfl (lv_at hl 0 rfl) ?_
      refine q_get (ci := 2) (j := 2) (v := .int y2) C0 V i_Big rfl rfl hO3 (by decide) w_94 rfl d_2_9_19 ?_
      refine lv_if_ne (tgt := 29) hx hb d_2_9_22 (by decide) (fun c18 => ?_) (fun c18 => ?_)
      ·
        have b19 : q_F (y2.toInt ≠ 0) := (q_neI c18)
        refine lv_iconst (v := 0) hx hb d_2_9_29 (by decide) ?_
        exact q_retz C0 V (by decide) (⟨show 0 ≤ (0 : Int32).toInt ∧ (0 : Int32).toInt ≤ 1 from (by have z9 : (0 : Int32).toInt = 0 := rfl; omega), rfl⟩) d_2_9_30
      ·
        have b20 : q_F (y2.toInt = 0) := (q_eqI c18)
        refine lv_iconst (v := 1) hx hb d_2_9_25 (by decide) ?_
        refine lv_goto (tgt := 30) hx hb d_2_9_26 (by decide) ?_
        exact q_retz C0 V (by decide) (⟨show 0 ≤ (1 : Int32).toInt ∧ (1 : Int32).toInt ≤ 1 from (by have z9 : (1 : Int32).toInt = 1 := rfl; omega), rfl⟩) d_2_9_30
theorem d_2_7_39 : decode prog_2_method_7_code 39 = .ok (.iload_n 1, 1) := by decide +kernel
theorem d_2_7_40 : decode prog_2_method_7_code 40 = .ok (.ifCond .le 7, 3) := by decide +kernel
theorem d_2_7_43 : decode prog_2_method_7_code 43 = .ok (.iconst 1, 1) := by decide +kernel
theorem d_2_7_44 : decode prog_2_method_7_code 44 = .ok (.goto 4, 3) := by decide +kernel
set_option maxRecDepth 100000 in
set_option maxHeartbeats 4000000 in
theorem S_Big_trim (l : Launch) (D : va_G) (g : Nat → ClassId) (sh : List q_Ok) (q : Nat → Nat) (ws : va_W) (k : Nat) (R : Int32) (hB : q_isBig sh g q k R) (hI : q_I sh q ws) : q_mV l y_Big_trim prog_2_method_7_code 2 1 0 0 D g [.ref (q k)] ws (fun u => (True) ∧ q_I sh q u ∧ q_un ws u [k, k + 1]) := by
  intro sz
  refine q_into (by decide) (Nat.le_of_ble_eq_true rfl) ?_
  intro p e s m below meth c ls hsz C0 V hl
  have hx := C0.1
  have hb := C0.2.1
  have hR : q_F (0 ≤ R.toInt ∧ R.toInt ≤ 220) := hB.2.2
  have hF : q_un ws ws [k, k + 1] := q_u0
  have hl : lv_has ls 2 [(0, .ref (q k))] := hl
  refine lv_aload_n hx hb d_2_7_0 rfl (lv_at hl 0 rfl) ?_
  obtain ⟨y1, y2, hO3, b4, b5⟩ := q_bigO hI hB
  replace b4 : q_F (0 ≤ y1.toInt ∧ y1.toInt ≤ R.toInt) := b4
  replace b5 : q_F (0 ≤ y2.toInt ∧ y2.toInt ≤ 1) := b5
  refine q_get (ci := 2) (j := 1) (v := .int y1) C0 V i_Big rfl rfl hO3 (by decide) w_85 rfl d_2_7_1 ?_
  refine lv_istore_n (lv' := [(1, .int y1), (0, .ref (q k))]) hx hb d_2_7_4 rfl hl (by decide) rfl (fun ls hl => ?_)
  refine q_loop (X := Int32) (fun z H locs ls w154 => q_F (0 ≤ z.toInt) ∧ q_F (0 ≤ y1.toInt + (-1 * z.toInt)) ∧ q_Wd D g (va_A ws sz) s w154 H locs ∧ lv_has ls 2 [(1, .int z), (0, .ref (q k))] ∧ q_I sh q w154 ∧ q_un ws w154 [k, k + 1]) (fun z => (z.toInt - ((-1))).toNat) ?_ ((y1 : Int32)) _ _ _ ws ⟨(show q_F (0 ≤ y1.toInt) from (show 0 ≤ y1.toInt from by have t1 : 0 ≤ y1.toInt ∧ y1.toInt ≤ R.toInt := b4; omega)), (show q_F (0 ≤ y1.toInt + (-1 * y1.toInt)) from (show 0 ≤ y1.toInt + (-1 * y1.toInt) from by omega)), V, hl, hI, hF⟩
  rintro x6 H locs ls w154 ⟨i151, i152, V, hl, hI, hF⟩ ih153
  replace i151 : q_F (0 ≤ x6.toInt) := i151
  replace i152 : q_F (0 ≤ y1.toInt + (-1 * x6.toInt)) := i152
  replace hl : lv_has ls 2 [(1, .int x6), (0, .ref (q k))] := hl
  refine lv_iload_n hx hb d_2_7_5 rfl (lv_at hl 0 rfl) ?_
  refine lv_if_le (tgt := 26) hx hb d_2_7_6 (by decide) (fun c155 => ?_) (fun c155 => ?_)
  ·
    have b156 : q_F (x6.toInt ≤ 0) := (q_leI c155)
    refine lv_aload_n hx hb d_2_7_26 rfl (lv_at hl 1 rfl) ?_
    refine lv_iload_n hx hb d_2_7_27 rfl (lv_at hl 0 rfl) ?_
    obtain ⟨y157, y158, hO159, b160, b161⟩ := q_bigO hI hB
    replace b160 : q_F (0 ≤ y157.toInt ∧ y157.toInt ≤ R.toInt) := b160
    replace b161 : q_F (0 ≤ y158.toInt ∧ y158.toInt ≤ 1) := b161
    refine q_put (ci := 2) (j := 1) (v := .int x6) (ty := .int) C0 V i_Big o_Big n_Big rfl rfl hO159 (by decide) w_85 rfl rfl rfl rfl (Nat.le_of_ble_eq_true rfl) d_2_7_28 (fun H locs w162 hu163 hO159 V => ?_)
    replace hO159 : w162[k]? = (some (q k, .inr (2, [.ref (q (k + 1)), .int x6, .int y158])) : Option (Nat × va_E)) := hO159
    replace hI := q_bigO' hI hB hu163 hO159 ⟨(by have t1 : 0 ≤ x6.toInt := i151; omega), (by have t1 : 0 ≤ y1.toInt ∧ y1.toInt ≤ R.toInt := b4; have t2 : 0 ≤ y1.toInt + (-1 * x6.toInt) := i152; omega)⟩ ⟨(by have t1 : 0 ≤ y158.toInt ∧ y158.toInt ≤ 1 := b161; omega), (by have t1 : 0 ≤ y158.toInt ∧ y158.toInt ≤ 1 := b161; omega)⟩
    replace hF := q_us hF hu163 (by simp)
    refine lv_aload_n hx hb d_2_7_31 rfl (lv_at hl 1 rfl) ?_
    refine lv_aload_n hx hb d_2_7_32 rfl (lv_at hl 1 rfl) ?_
    refine q_get (ci := 2) (j := 2) (v := .int y158) C0 V i_Big rfl rfl hO159 (by decide) w_94 rfl d_2_7_33 ?_
    refine lv_if_eq (tgt := 47) hx hb d_2_7_36 (by decide) (fun c164 => ?_) (fun c164 => ?_)
    ·
      have b165 : q_F (y158.toInt = 0) := (q_eqI c164)
      refine lv_iconst (v := 0) hx hb d_2_7_47 (by decide) ?_
      refine q_put (ci := 2) (j := 2) (v := .int 0) (ty := .boolean) C0 V i_Big o_Big n_Big rfl rfl hO159 (by decide) w_94 rfl rfl rfl rfl (Nat.le_of_ble_eq_true rfl) d_2_7_48 (fun H locs w166 hu167 hO159 V => ?_)
      replace hO159 : w166[k]? = (some (q k, .inr (2, [.ref (q (k + 1)), .int x6, .int 0])) : Option (Nat × va_E)) := hO159
      replace hI := q_bigO' hI hB hu167 hO159 ⟨(by have t1 : 0 ≤ x6.toInt := i151; omega), (by have t1 : 0 ≤ y1.toInt ∧ y1.toInt ≤ R.toInt := b4; have t2 : 0 ≤ y1.toInt + (-1 * x6.toInt) := i152; omega)⟩ ⟨(by have z9 : (0 : Int32).toInt = 0 := rfl; omega), (by have z9 : (0 : Int32).toInt = 0 := rfl; omega)⟩
      replace hF := q_us hF hu167 (by simp)
      exact q_retv C0 V (⟨trivial, hI, hF⟩) d_2_7_51
    ·
      have b168 : q_F (y158.toInt ≠ 0) := (q_neI c164)
      refine lv_iload_n hx hb d_2_7_39 rfl (lv_at hl 0 rfl) ?_
      refine lv_if_le (tgt := 47) hx hb d_2_7_40 (by decide) (fun c169 => ?_) (fun c169 => absurd (show 0 < x6.toInt from q_nleI c169) (by have t1 : x6.toInt ≤ 0 := b156; omega))
      refine lv_iconst (v := 0) hx hb d_2_7_47 (by decide) ?_
      refine q_put (ci := 2) (j := 2) (v := .int 0) (ty := .boolean) C0 V i_Big o_Big n_Big rfl rfl hO159 (by decide) w_94 rfl rfl rfl rfl (Nat.le_of_ble_eq_true rfl) d_2_7_48 (fun H locs w170 hu171 hO159 V => ?_)
      replace hO159 : w170[k]? = (some (q k, .inr (2, [.ref (q (k + 1)), .int x6, .int 0])) : Option (Nat × va_E)) := hO159
      replace hI := q_bigO' hI hB hu171 hO159 ⟨(by have t1 : 0 ≤ x6.toInt := i151; omega), (by have t1 : 0 ≤ y1.toInt ∧ y1.toInt ≤ R.toInt := b4; have t2 : 0 ≤ y1.toInt + (-1 * x6.toInt) := i152; omega)⟩ ⟨(by have z9 : (0 : Int32).toInt = 0 := rfl; omega), (by have z9 : (0 : Int32).toInt = 0 := rfl; omega)⟩
      replace hF := q_us hF hu171 (by simp)
      exact q_retv C0 V (⟨trivial, hI, hF⟩) d_2_7_51
  ·
    have b172 : q_F (0 < x6.toInt) := (q_nleI c155)
    refine lv_aload_n hx hb d_2_7_9 rfl (lv_at hl 1 rfl) ?_
    obtain ⟨y173, y174, hO175, b176, b177⟩ := q_bigO hI hB
    replace b176 : q_F (0 ≤ y173.toInt ∧ y173.toInt ≤ R.toInt) := b176
    replace b177 : q_F (0 ≤ y174.toInt ∧ y174.toInt ≤ 1) := b177
    refine q_get (ci := 2) (j := 0) (v := .ref (q (k + 1))) C0 V i_Big rfl rfl hO175 (by decide) w_84 rfl d_2_7_10 ?_
    refine lv_iload_n hx hb d_2_7_13 rfl (lv_at hl 0 rfl) ?_
    refine lv_iconst (v := 1) hx hb d_2_7_14 (by decide) ?_
    refine lv_isub hx hb d_2_7_15 ?_
    obtain ⟨a178, e179⟩ := q_nm (x6 - 1 : Int32)
    refine q_ti (v := a178) e179 ?_
    have b180 : q_F (a178.toInt = x6.toInt - 1) := (by rw [← e179]; show (x6 - 1 : Int32).toInt = x6.toInt - 1; exact q_subI (x := x6.toInt) (y := 1) rfl (by decide) (by have t1 : 0 ≤ R.toInt ∧ R.toInt ≤ 220 := hR; have t2 : 0 ≤ y1.toInt ∧ y1.toInt ≤ R.toInt := b4; have t3 : 0 ≤ x6.toInt := i151; have t4 : 0 ≤ y1.toInt + (-1 * x6.toInt) := i152; omega) (by have t1 : 0 ≤ R.toInt ∧ R.toInt ≤ 220 := hR; have t2 : 0 ≤ y1.toInt ∧ y1.toInt ≤ R.toInt := b4; have t3 : 0 ≤ x6.toInt := i151; have t4 : 0 ≤ y1.toInt + (-1 * x6.toInt) := i152; omega))
    obtain ⟨f181, hA182, bf183⟩ := q_bigA hI hB
    refine q_iald C0 V hA182 (q_ix (x := a178.toInt) rfl (by have t1 : 0 < x6.toInt := b172; have t2 : a178.toInt = x6.toInt - 1 := b180; omega) (by have t1 : 0 ≤ y1.toInt ∧ y1.toInt ≤ R.toInt := b4; have t2 : 0 ≤ y1.toInt + (-1 * x6.toInt) := i152; have t3 : 0 < x6.toInt := b172; have t4 : a178.toInt = x6.toInt - 1 := b180; have e9 := q_clI (i := R) rfl (by have t1 : 0 ≤ R.toInt ∧ R.toInt ≤ 220 := hR; omega); omega)) d_2_7_16 ?_
    obtain ⟨a184, e185⟩ := q_nm (f181 a178.toNatClampNeg : Int32)
    refine q_ti (v := a184) e185 ?_
    have b186 : q_F (0 ≤ a184.toInt ∧ a184.toInt ≤ 2147483647) := (by rw [← e185]; show 0 ≤ (f181 a178.toNatClampNeg : Int32).toInt ∧ (f181 a178.toNatClampNeg : Int32).toInt ≤ 2147483647; exact bf183 _)
    refine lv_if_ne (tgt := 26) hx hb d_2_7_17 (by decide) (fun c187 => ?_) (fun c187 => ?_)
    ·
      have b188 : q_F (a184.toInt ≠ 0) := (q_neI c187)
      refine lv_aload_n hx hb d_2_7_26 rfl (lv_at hl 1 rfl) ?_
      refine lv_iload_n hx hb d_2_7_27 rfl (lv_at hl 0 rfl) ?_
      refine q_put (ci := 2) (j := 1) (v := .int x6) (ty := .int) C0 V i_Big o_Big n_Big rfl rfl hO175 (by decide) w_85 rfl rfl rfl rfl (Nat.le_of_ble_eq_true rfl) d_2_7_28 (fun H locs w189 hu190 hO175 V => ?_)
      replace hO175 : w189[k]? = (some (q k, .inr (2, [.ref (q (k + 1)), .int x6, .int y174])) : Option (Nat × va_E)) := hO175
      replace hI := q_bigO' hI hB hu190 hO175 ⟨(by have t1 : 0 ≤ x6.toInt := i151; omega), (by have t1 : 0 ≤ y1.toInt ∧ y1.toInt ≤ R.toInt := b4; have t2 : 0 ≤ y1.toInt + (-1 * x6.toInt) := i152; omega)⟩ ⟨(by have t1 : 0 ≤ y174.toInt ∧ y174.toInt ≤ 1 := b177; omega), (by have t1 : 0 ≤ y174.toInt ∧ y174.toInt ≤ 1 := b177; omega)⟩
      replace hA182 := (hu190 _ (by omega)).trans hA182
      replace hF := q_us hF hu190 (by simp)
      refine lv_aload_n hx hb d_2_7_31 rfl (lv_at hl 1 rfl) ?_
      refine lv_aload_n hx hb d_2_7_32 rfl (lv_at hl 1 rfl) ?_
      refine q_get (ci := 2) (j := 2) (v := .int y174) C0 V i_Big rfl rfl hO175 (by decide) w_94 rfl d_2_7_33 ?_
      refine lv_if_eq (tgt := 47) hx hb d_2_7_36 (by decide) (fun c191 => ?_) (fun c191 => ?_)
      ·
        have b192 : q_F (y174.toInt = 0) := (q_eqI c191)
        refine lv_iconst (v := 0) hx hb d_2_7_47 (by decide) ?_
        refine q_put (ci := 2) (j := 2) (v := .int 0) (ty := .boolean) C0 V i_Big o_Big n_Big rfl rfl hO175 (by decide) w_94 rfl rfl rfl rfl (Nat.le_of_ble_eq_true rfl) d_2_7_48 (fun H locs w193 hu194 hO175 V => ?_)
        replace hO175 : w193[k]? = (some (q k, .inr (2, [.ref (q (k + 1)), .int x6, .int 0])) : Option (Nat × va_E)) := hO175
        replace hI := q_bigO' hI hB hu194 hO175 ⟨(by have t1 : 0 ≤ x6.toInt := i151; omega), (by have t1 : 0 ≤ y1.toInt ∧ y1.toInt ≤ R.toInt := b4; have t2 : 0 ≤ y1.toInt + (-1 * x6.toInt) := i152; omega)⟩ ⟨(by have z9 : (0 : Int32).toInt = 0 := rfl; omega), (by have z9 : (0 : Int32).toInt = 0 := rfl; omega)⟩
        replace hA182 := (hu194 _ (by omega)).trans hA182
        replace hF := q_us hF hu194 (by simp)
        exact q_retv C0 V (⟨trivial, hI, hF⟩) d_2_7_51
      ·
        have b195 : q_F (y174.toInt ≠ 0) := (q_neI c191)
        refine lv_iload_n hx hb d_2_7_39 rfl (lv_at hl 0 rfl) ?_
        refine lv_if_le (tgt := 47) hx hb d_2_7_40 (by decide) (fun c196 => absurd (show x6.toInt ≤ 0 from q_leI c196) (by have t1 : 0 < x6.toInt := b172; omega)) (fun c196 => ?_)
        refine lv_iconst (v := 1) hx hb d_2_7_43 (by decide) ?_
        refine lv_goto (tgt := 48) hx hb d_2_7_44 (by decide) ?_
        refine q_put (ci := 2) (j := 2) (v := .int 1) (ty := .boolean) C0 V i_Big o_Big n_Big rfl rfl hO175 (by decide) w_94 rfl rfl rfl rfl (Nat.le_of_ble_eq_true rfl) d_2_7_48 (fun H locs w197 hu198 hO175 V => ?_)
        replace hO175 : w197[k]? = (some (q k, .inr (2, [.ref (q (k + 1)), .int x6, .int 1])) : Option (Nat × va_E)) := hO175
        replace hI := q_bigO' hI hB hu198 hO175 ⟨(by have t1 : 0 ≤ x6.toInt := i151; omega), (by have t1 : 0 ≤ y1.toInt ∧ y1.toInt ≤ R.toInt := b4; have t2 : 0 ≤ y1.toInt + (-1 * x6.toInt) := i152; omega)⟩ ⟨(by have z9 : (1 : Int32).toInt = 1 := rfl; omega), (by have z9 : (1 : Int32).toInt = 1 := rfl; omega)⟩
        replace hA182 := (hu198 _ (by omega)).trans hA182
        replace hF := q_us hF hu198 (by simp)
        exact q_retv C0 V (⟨trivial, hI, hF⟩) d_2_7_51
    ·
      have b199 : q_F (a184.toInt = 0) := (q_eqI c187)
      obtain ⟨a200, e201⟩ := q_nm (x6 + (-1) : Int32)
      have b202 : q_F (a200.toInt = x6.toInt + (-1)) := (by rw [← e201]; exact q_addI (y := (-1)) rfl (by decide) (by have t1 : 0 ≤ R.toInt ∧ R.toInt ≤ 220 := hR; have t2 : 0 ≤ y1.toInt ∧ y1.toInt ≤ R.toInt := b4; have t3 : 0 ≤ x6.toInt := i151; have t4 : 0 ≤ y1.toInt + (-1 * x6.toInt) := i152; omega) (by have t1 : 0 ≤ R.toInt ∧ R.toInt ≤ 220 := hR; have t2 : 0 ≤ y1.toInt ∧ y1.toInt ≤ R.toInt := b4; have t3 : 0 ≤ x6.toInt := i151; have t4 : 0 ≤ y1.toInt + (-1 * x6.toInt) := i152; omega))
      refine lv_iinc (v := a200) (lv' := [(1, .int a200), (0, .ref (q k))]) hx hb d_2_7_20 hl (k := 0) rfl (e201) (by decide) rfl (fun ls hl => ?_)
      refine lv_goto (tgt := 5) hx hb d_2_7_23 (by decide) ?_
      exact ih153 ((a200 : Int32)) _ _ _ _ (show (a200.toInt - ((-1))).toNat < (x6.toInt - ((-1))).toNat from by have t1 : 0 ≤ x6.toInt := i151; have t2 : a200.toInt = x6.toInt + (-1) := b202; omega) ⟨(show q_F (0 ≤ a200.toInt) from (show 0 ≤ a200.toInt from by have t1 : 0 < x6.toInt := b172; have t2 : a200.toInt = x6.toInt + (-1) := b202; omega)), (show q_F (0 ≤ y1.toInt + (-1 * a200.toInt)) from (show 0 ≤ y1.toInt + (-1 * a200.toInt) from by have t1 : 0 ≤ y1.toInt + (-1 * x6.toInt) := i152; have t2 : a200.toInt = x6.toInt + (-1) := b202; omega)), V, q_lw hl (q_lw1 0 rfl (q_lw1 1 rfl q_lw0)), hI, hF⟩
theorem d_2_18_10 : decode prog_2_method_18_code 10 = .ok (.aload_n 0, 1) := by decide +kernel
theorem d_2_18_11 : decode prog_2_method_18_code 11 = .ok (.getfield 7, 3) := by decide +kernel
theorem d_2_18_14 : decode prog_2_method_18_code 14 = .ok (.iload_n 1, 1) := by decide +kernel
theorem d_2_18_15 : decode prog_2_method_18_code 15 = .ok (.iaload, 1) := by decide +kernel
theorem d_2_18_16 : decode prog_2_method_18_code 16 = .ok (.ifCond .ne 9, 3) := by decide +kernel
theorem d_2_18_19 : decode prog_2_method_18_code 19 = .ok (.iinc 1 1, 3) := by decide +kernel
theorem d_2_18_22 : decode prog_2_method_18_code 22 = .ok (.goto (-20), 3) := by decide +kernel
set_option maxRecDepth 100000 in
set_option maxHeartbeats 4000000 in
theorem S_Big_lowestLimb (l : Launch) (D : va_G) (g : Nat → ClassId) (sh : List q_Ok) (q : Nat → Nat) (ws : va_W) (k : Nat) (R : Int32) (hB : q_isBig sh g q k R) (hI : q_I sh q ws) : q_mI l y_Big_lowestLimb prog_2_method_18_code 2 (.int) 1 0 0 D g [.ref (q k)] ws (fun r u => (0 ≤ r.toInt ∧ r.toInt ≤ R.toInt) ∧ ws = u) := by
  intro sz
  refine q_into (by decide) (Nat.le_of_ble_eq_true rfl) ?_
  intro p e s m below meth c ls hsz C0 V hl
  have hx := C0.1
  have hb := C0.2.1
  have hR : q_F (0 ≤ R.toInt ∧ R.toInt ≤ 220) := hB.2.2
  have hl : lv_has ls 2 [(0, .ref (q k))] := hl
  refine lv_iconst (v := 0) hx hb d_2_18_0 (by decide) ?_
  refine lv_istore_n (lv' := [(1, .int 0), (0, .ref (q k))]) hx hb d_2_18_1 rfl hl (by decide) rfl (fun ls hl => ?_)
  refine q_loop (X := Int32) (fun z H locs ls _ => q_F (0 ≤ z.toInt) ∧ q_F (0 ≤ R.toInt + (-1 * z.toInt)) ∧ q_Wd D g (va_A ws sz) s ws H locs ∧ lv_has ls 2 [(1, .int z), (0, .ref (q k))]) (fun z => (R.toInt - z.toInt).toNat) ?_ ((0 : Int32)) _ _ _ ws ⟨(show q_F (0 ≤ 0) from (show 0 ≤ 0 from by omega)), (show q_F (0 ≤ R.toInt + (-1 * 0)) from (show 0 ≤ R.toInt + (-1 * 0) from by have t1 : 0 ≤ R.toInt ∧ R.toInt ≤ 220 := hR; omega)), V, hl⟩
  rintro x1 H locs ls _ ⟨i82, i83, V, hl⟩ ih84
  replace i82 : q_F (0 ≤ x1.toInt) := i82
  replace i83 : q_F (0 ≤ R.toInt + (-1 * x1.toInt)) := i83
  replace hl : lv_has ls 2 [(1, .int x1), (0, .ref (q k))] := hl
  refine lv_iload_n hx hb d_2_18_2 rfl (lv_at hl 0 rfl) ?_
  refine lv_aload_n hx hb d_2_18_3 rfl (lv_at hl 1 rfl) ?_
  obtain ⟨y85, y86, hO87, b88, b89⟩ := q_bigO hI hB
  replace b88 : q_F (0 ≤ y85.toInt ∧ y85.toInt ≤ R.toInt) := b88
  replace b89 : q_F (0 ≤ y86.toInt ∧ y86.toInt ≤ 1) := b89
  refine q_get (ci := 2) (j := 1) (v := .int y85) C0 V i_Big rfl rfl hO87 (by decide) w_85 rfl d_2_18_4 ?_
  refine lv_icmp_ge (tgt := 25) hx hb d_2_18_7 (by decide) (fun c90 => ?_) (fun c90 => ?_)
  ·
    have b91 : q_F (y85.toInt ≤ x1.toInt) := (q_leI c90)
    refine lv_iload_n hx hb d_2_18_25 rfl (lv_at hl 0 rfl) ?_
    exact q_reti C0 V (⟨show 0 ≤ x1.toInt ∧ x1.toInt ≤ R.toInt from (by have t1 : 0 ≤ x1.toInt := i82; have t2 : 0 ≤ R.toInt + (-1 * x1.toInt) := i83; omega), rfl⟩) d_2_18_26
  ·
    have b92 : q_F (x1.toInt < y85.toInt) := (q_nleI c90)
    refine lv_aload_n hx hb d_2_18_10 rfl (lv_at hl 1 rfl) ?_
    refine q_get (ci := 2) (j := 0) (v := .ref (q (k + 1))) C0 V i_Big rfl rfl hO87 (by decide) w_84 rfl d_2_18_11 ?_
    refine lv_iload_n hx hb d_2_18_14 rfl (lv_at hl 0 rfl) ?_
    obtain ⟨f93, hA94, bf95⟩ := q_bigA hI hB
    refine q_iald C0 V hA94 (q_ix (x := x1.toInt) rfl (by have t1 : 0 ≤ x1.toInt := i82; omega) (by have t1 : 0 ≤ x1.toInt := i82; have t2 : 0 ≤ y85.toInt ∧ y85.toInt ≤ R.toInt := b88; have t3 : x1.toInt < y85.toInt := b92; have e9 := q_clI (i := R) rfl (by have t1 : 0 ≤ R.toInt ∧ R.toInt ≤ 220 := hR; omega); omega)) d_2_18_15 ?_
    obtain ⟨a96, e97⟩ := q_nm (f93 x1.toNatClampNeg : Int32)
    refine q_ti (v := a96) e97 ?_
    have b98 : q_F (0 ≤ a96.toInt ∧ a96.toInt ≤ 2147483647) := (by rw [← e97]; show 0 ≤ (f93 x1.toNatClampNeg : Int32).toInt ∧ (f93 x1.toNatClampNeg : Int32).toInt ≤ 2147483647; exact bf95 _)
    refine lv_if_ne (tgt := 25) hx hb d_2_18_16 (by decide) (fun c99 => ?_) (fun c99 => ?_)
    ·
      have b100 : q_F (a96.toInt ≠ 0) := (q_neI c99)
      refine lv_iload_n hx hb d_2_18_25 rfl (lv_at hl 0 rfl) ?_
      exact q_reti C0 V (⟨show 0 ≤ x1.toInt ∧ x1.toInt ≤ R.toInt from (by have t1 : 0 ≤ x1.toInt := i82; have t2 : 0 ≤ R.toInt + (-1 * x1.toInt) := i83; omega), rfl⟩) d_2_18_26
    ·
      have b101 : q_F (a96.toInt = 0) := (q_eqI c99)
      obtain ⟨a102, e103⟩ := q_nm (x1 + 1 : Int32)
      have b104 : q_F (a102.toInt = x1.toInt + 1) := (by rw [← e103]; exact q_addI (y := 1) rfl (by decide) (by have t1 : 0 ≤ R.toInt ∧ R.toInt ≤ 220 := hR; have t2 : 0 ≤ x1.toInt := i82; have t3 : 0 ≤ R.toInt + (-1 * x1.toInt) := i83; omega) (by have t1 : 0 ≤ R.toInt ∧ R.toInt ≤ 220 := hR; have t2 : 0 ≤ x1.toInt := i82; have t3 : 0 ≤ R.toInt + (-1 * x1.toInt) := i83; omega))
      refine lv_iinc (v := a102) (lv' := [(1, .int a102), (0, .ref (q k))]) hx hb d_2_18_19 hl (k := 0) rfl (e103) (by decide) rfl (fun ls hl => ?_)
      refine lv_goto (tgt := 2) hx hb d_2_18_22 (by decide) ?_
      exact ih84 ((a102 : Int32)) _ _ _ ws (show (R.toInt - a102.toInt).toNat < (R.toInt - x1.toInt).toNat from by have t1 : 0 ≤ y85.toInt ∧ y85.toInt ≤ R.toInt := b88; have t2 : x1.toInt < y85.toInt := b92; have t3 : a102.toInt = x1.toInt + 1 := b104; omega) ⟨(show q_F (0 ≤ a102.toInt) from (show 0 ≤ a102.toInt from by have t1 : 0 ≤ x1.toInt := i82; have t2 : a102.toInt = x1.toInt + 1 := b104; omega)), (show q_F (0 ≤ R.toInt + (-1 * a102.toInt)) from (show 0 ≤ R.toInt + (-1 * a102.toInt) from by have t1 : 0 ≤ y85.toInt ∧ y85.toInt ≤ R.toInt := b88; have t2 : x1.toInt < y85.toInt := b92; have t3 : a102.toInt = x1.toInt + 1 := b104; omega)), V, q_lw hl (q_lw1 0 rfl (q_lw1 1 rfl q_lw0))⟩
theorem d_2_23_0 : decode prog_2_method_23_code 0 = .ok (.aload_n 0, 1) := by decide +kernel
theorem d_2_23_1 : decode prog_2_method_23_code 1 = .ok (.getfield 13, 3) := by decide +kernel
theorem d_2_23_4 : decode prog_2_method_23_code 4 = .ok (.aload_n 1, 1) := by decide +kernel
theorem d_2_23_5 : decode prog_2_method_23_code 5 = .ok (.getfield 13, 3) := by decide +kernel
theorem d_2_23_8 : decode prog_2_method_23_code 8 = .ok (.invokestatic 92, 3) := by decide +kernel
theorem w_1043 : (Cond.methodLink "NumberHouse$Big" (92 : Nat) ({ cls := "java/lang/Math", name := "max", desc := "(II)I" } : MethodName)) ∈ q_tbl := q_of 1043 (by decide +kernel) (by decide +kernel)
theorem d_2_23_11 : decode prog_2_method_23_code 11 = .ok (.aload_n 0, 1) := by decide +kernel
theorem d_2_23_12 : decode prog_2_method_23_code 12 = .ok (.getfield 7, 3) := by decide +kernel
theorem d_2_23_15 : decode prog_2_method_23_code 15 = .ok (.arraylength, 1) := by decide +kernel
theorem d_2_23_16 : decode prog_2_method_23_code 16 = .ok (.invokestatic 39, 3) := by decide +kernel
theorem d_2_23_19 : decode prog_2_method_23_code 19 = .ok (.istore_n 2, 1) := by decide +kernel
theorem d_2_23_20 : decode prog_2_method_23_code 20 = .ok (.iconst 0, 1) := by decide +kernel
theorem d_2_23_21 : decode prog_2_method_23_code 21 = .ok (.istore_n 3, 1) := by decide +kernel
theorem d_2_23_22 : decode prog_2_method_23_code 22 = .ok (.iconst 0, 1) := by decide +kernel
theorem d_2_23_23 : decode prog_2_method_23_code 23 = .ok (.istore 4, 2) := by decide +kernel
theorem d_2_23_25 : decode prog_2_method_23_code 25 = .ok (.iload 4, 2) := by decide +kernel
theorem d_2_23_27 : decode prog_2_method_23_code 27 = .ok (.iload_n 2, 1) := by decide +kernel
theorem d_2_23_28 : decode prog_2_method_23_code 28 = .ok (.if_icmp .ge 44, 3) := by decide +kernel
theorem d_2_23_72 : decode prog_2_method_23_code 72 = .ok (.aload_n 0, 1) := by decide +kernel
theorem d_2_23_73 : decode prog_2_method_23_code 73 = .ok (.iload_n 2, 1) := by decide +kernel
theorem d_2_23_74 : decode prog_2_method_23_code 74 = .ok (.putfield 13, 3) := by decide +kernel
theorem d_2_23_77 : decode prog_2_method_23_code 77 = .ok (.iload_n 3, 1) := by decide +kernel
theorem d_2_23_78 : decode prog_2_method_23_code 78 = .ok (.ifCond .eq 8, 3) := by decide +kernel
theorem d_2_23_86 : decode prog_2_method_23_code 86 = .ok (.return_, 1) := by decide +kernel
theorem d_2_23_81 : decode prog_2_method_23_code 81 = .ok (.aload_n 0, 1) := by decide +kernel
theorem d_2_23_82 : decode prog_2_method_23_code 82 = .ok (.iload_n 3, 1) := by decide +kernel
theorem d_2_23_83 : decode prog_2_method_23_code 83 = .ok (.invokevirtual 32, 3) := by decide +kernel
theorem d_2_23_31 : decode prog_2_method_23_code 31 = .ok (.aload_n 0, 1) := by decide +kernel
theorem d_2_23_32 : decode prog_2_method_23_code 32 = .ok (.iload 4, 2) := by decide +kernel
theorem d_2_23_34 : decode prog_2_method_23_code 34 = .ok (.invokevirtual 49, 3) := by decide +kernel
theorem d_2_23_37 : decode prog_2_method_23_code 37 = .ok (.aload_n 1, 1) := by decide +kernel
theorem d_2_23_38 : decode prog_2_method_23_code 38 = .ok (.iload 4, 2) := by decide +kernel
theorem d_2_23_40 : decode prog_2_method_23_code 40 = .ok (.invokevirtual 49, 3) := by decide +kernel
theorem d_2_23_43 : decode prog_2_method_23_code 43 = .ok (.iadd, 1) := by decide +kernel
theorem d_2_23_44 : decode prog_2_method_23_code 44 = .ok (.iload_n 3, 1) := by decide +kernel
theorem d_2_23_45 : decode prog_2_method_23_code 45 = .ok (.iadd, 1) := by decide +kernel
theorem d_2_23_46 : decode prog_2_method_23_code 46 = .ok (.istore 5, 2) := by decide +kernel
theorem d_2_23_48 : decode prog_2_method_23_code 48 = .ok (.aload_n 0, 1) := by decide +kernel
theorem d_2_23_49 : decode prog_2_method_23_code 49 = .ok (.getfield 7, 3) := by decide +kernel
theorem d_2_23_52 : decode prog_2_method_23_code 52 = .ok (.iload 4, 2) := by decide +kernel
theorem d_2_23_54 : decode prog_2_method_23_code 54 = .ok (.iload 5, 2) := by decide +kernel
theorem d_2_23_56 : decode prog_2_method_23_code 56 = .ok (.ldc 71, 2) := by decide +kernel
theorem w_809 : (Cond.constant "NumberHouse$Big" (71 : Nat) (2147483647 : Int32)) ∈ q_tbl := q_of 809 (by decide +kernel) (by decide +kernel)
theorem d_2_23_58 : decode prog_2_method_23_code 58 = .ok (.iand, 1) := by decide +kernel
theorem d_2_23_59 : decode prog_2_method_23_code 59 = .ok (.iastore, 1) := by decide +kernel
theorem d_2_23_60 : decode prog_2_method_23_code 60 = .ok (.iload 5, 2) := by decide +kernel
theorem d_2_23_62 : decode prog_2_method_23_code 62 = .ok (.bipush 31, 2) := by decide +kernel
theorem d_2_23_64 : decode prog_2_method_23_code 64 = .ok (.iushr, 1) := by decide +kernel
theorem d_2_23_65 : decode prog_2_method_23_code 65 = .ok (.istore_n 3, 1) := by decide +kernel
theorem d_2_23_66 : decode prog_2_method_23_code 66 = .ok (.iinc 4 1, 3) := by decide +kernel
theorem d_2_23_69 : decode prog_2_method_23_code 69 = .ok (.goto (-44), 3) := by decide +kernel
def y_Big_addSize : MethodName := ⟨"NumberHouse$Big", "addSize", "(LNumberHouse$Big;)V"⟩
set_option maxRecDepth 100000 in
set_option maxHeartbeats 4000000 in
theorem S_Big_addSize (l : Launch) (D : va_G) (g : Nat → ClassId) (sh : List q_Ok) (q : Nat → Nat) (ws : va_W) (k : Nat) (R : Int32) (hB : q_isBig sh g q k R) (j : Nat) (Q : Int32) (hJ : q_isBig sh g q j Q) (hI : q_I sh q ws) : q_mV l y_Big_addSize prog_2_method_23_code 6 2 0 0 D g [.ref (q k), .ref (q j)] ws (fun u => (True) ∧ q_I sh q u ∧ q_un ws u [k, k + 1]) := by
  intro sz
  refine q_into (by decide) (Nat.le_of_ble_eq_true rfl) ?_
  intro p e s m below meth c ls hsz C0 V hl
  have hx := C0.1
  have hb := C0.2.1
  have hR : q_F (0 ≤ R.toInt ∧ R.toInt ≤ 220) := hB.2.2
  have hQ : q_F (0 ≤ Q.toInt ∧ Q.toInt ≤ 220) := hJ.2.2
  have hF : q_un ws ws [k, k + 1] := q_u0
  have hl : lv_has ls 6 [(0, .ref (q k)), (1, .ref (q j))] := hl
  refine lv_aload_n hx hb d_2_23_0 rfl (lv_at hl 0 rfl) ?_
  obtain ⟨y1, y2, hO3, b4, b5⟩ := q_bigO hI hB
  replace b4 : q_F (0 ≤ y1.toInt ∧ y1.toInt ≤ R.toInt) := b4
  replace b5 : q_F (0 ≤ y2.toInt ∧ y2.toInt ≤ 1) := b5
  refine q_get (ci := 2) (j := 1) (v := .int y1) C0 V i_Big rfl rfl hO3 (by decide) w_85 rfl d_2_23_1 ?_
  refine lv_aload_n hx hb d_2_23_4 rfl (lv_at hl 1 rfl) ?_
  obtain ⟨y6, y7, hO8, b9, b10⟩ := q_bigO hI hJ
  replace b9 : q_F (0 ≤ y6.toInt ∧ y6.toInt ≤ Q.toInt) := b9
  replace b10 : q_F (0 ≤ y7.toInt ∧ y7.toInt ≤ 1) := b10
  refine q_get (ci := 2) (j := 1) (v := .int y6) C0 V i_Big rfl rfl hO8 (by decide) w_85 rfl d_2_23_5 ?_
  refine q_max C0 hl.1 rfl w_1043 w_803 w_7 w_804 ⟨Nat.le_of_ble_eq_true rfl, Nat.le_of_ble_eq_true rfl⟩ ⟨Nat.le_of_ble_eq_true rfl, Nat.le_of_ble_eq_true rfl⟩ d_2_23_8 ?_
  obtain ⟨a11, e12⟩ := q_nm (if y1 < y6 then y6 else y1 : Int32)
  refine q_ti (v := a11) e12 ?_
  have b13 : q_F (y1.toInt ≤ a11.toInt ∧ y6.toInt ≤ a11.toInt ∧ (a11.toInt = y1.toInt ∨ a11.toInt = y6.toInt)) := (by rw [← e12]; show y1.toInt ≤ (if y1 < y6 then y6 else y1 : Int32).toInt ∧ y6.toInt ≤ (if y1 < y6 then y6 else y1 : Int32).toInt ∧ ((if y1 < y6 then y6 else y1 : Int32).toInt = y1.toInt ∨ (if y1 < y6 then y6 else y1 : Int32).toInt = y6.toInt); exact s_max (a := y1) (b := y6))
  refine lv_aload_n hx hb d_2_23_11 rfl (lv_at hl 0 rfl) ?_
  refine q_get (ci := 2) (j := 0) (v := .ref (q (k + 1))) C0 V i_Big rfl rfl hO3 (by decide) w_84 rfl d_2_23_12 ?_
  obtain ⟨f14, hA15, bf16⟩ := q_bigA hI hB
  refine q_alen (t := 0) (v := R) C0 V hA15 rfl (s_len (by have t1 : 0 ≤ R.toInt ∧ R.toInt ≤ 220 := hR; omega)) d_2_23_15 ?_
  refine q_min C0 hl.1 rfl w_773 w_774 w_7 w_775 ⟨Nat.le_of_ble_eq_true rfl, Nat.le_of_ble_eq_true rfl⟩ ⟨Nat.le_of_ble_eq_true rfl, Nat.le_of_ble_eq_true rfl⟩ d_2_23_16 ?_
  obtain ⟨a17, e18⟩ := q_nm (if R < a11 then R else a11 : Int32)
  refine q_ti (v := a17) e18 ?_
  have b19 : q_F (a17.toInt ≤ a11.toInt ∧ a17.toInt ≤ R.toInt ∧ (a17.toInt = a11.toInt ∨ a17.toInt = R.toInt)) := (by rw [← e18]; show (if R < a11 then R else a11 : Int32).toInt ≤ a11.toInt ∧ (if R < a11 then R else a11 : Int32).toInt ≤ R.toInt ∧ ((if R < a11 then R else a11 : Int32).toInt = a11.toInt ∨ (if R < a11 then R else a11 : Int32).toInt = R.toInt); exact s_min (a := a11) (b := R))
  refine lv_istore_n (lv' := [(2, .int a17), (0, .ref (q k)), (1, .ref (q j))]) hx hb d_2_23_19 rfl hl (by decide) rfl (fun ls hl => ?_)
  refine lv_iconst (v := 0) hx hb d_2_23_20 (by decide) ?_
  refine lv_istore_n (lv' := [(3, .int 0), (2, .int a17), (0, .ref (q k)), (1, .ref (q j))]) hx hb d_2_23_21 rfl hl (by decide) rfl (fun ls hl => ?_)
  refine lv_iconst (v := 0) hx hb d_2_23_22 (by decide) ?_
  refine lv_istore (lv' := [(4, .int 0), (3, .int 0), (2, .int a17), (0, .ref (q k)), (1, .ref (q j))]) hx hb d_2_23_23 hl (by decide) rfl (fun ls hl => ?_)
  refine q_loop (X := Int32 × Int32) (fun z H locs ls w335 => q_F (0 ≤ a17.toInt + (-1 * z.1.toInt)) ∧ q_F (0 ≤ z.2.toInt) ∧ q_F (0 ≤ (-1 * z.2.toInt) + 1) ∧ q_F (0 ≤ z.1.toInt + (-1 * z.2.toInt)) ∧ q_Wd D g (va_A ws sz) s w335 H locs ∧ lv_has ls 6 [(4, .int z.1), (3, .int z.2), (2, .int a17), (0, .ref (q k)), (1, .ref (q j))] ∧ q_I sh q w335 ∧ q_un ws w335 [k, k + 1]) (fun z => (a17.toInt - z.1.toInt).toNat) ?_ ((0 : Int32), (0 : Int32)) _ _ _ ws ⟨(show q_F (0 ≤ a17.toInt + (-1 * 0)) from (show 0 ≤ a17.toInt + (-1 * 0) from by have t1 : 0 ≤ y1.toInt ∧ y1.toInt ≤ R.toInt := b4; have t2 : y1.toInt ≤ a11.toInt ∧ y6.toInt ≤ a11.toInt ∧ (a11.toInt = y1.toInt ∨ a11.toInt = y6.toInt) := b13; have t3 : a17.toInt ≤ a11.toInt ∧ a17.toInt ≤ R.toInt ∧ (a17.toInt = a11.toInt ∨ a17.toInt = R.toInt) := b19; omega)), (show q_F (0 ≤ 0) from (show 0 ≤ 0 from by omega)), (show q_F (0 ≤ (-1 * 0) + 1) from (show 0 ≤ (-1 * 0) + 1 from by omega)), (show q_F (0 ≤ 0 + (-1 * 0)) from (show 0 ≤ 0 + (-1 * 0) from by omega)), V, hl, hI, hF⟩
  rintro ⟨x20, x21⟩ H locs ls w335 ⟨i330, i331, i332, i333, V, hl, hI, hF⟩ ih334
  replace i330 : q_F (0 ≤ a17.toInt + (-1 * x20.toInt)) := i330
  replace i331 : q_F (0 ≤ x21.toInt) := i331
  replace i332 : q_F (0 ≤ (-1 * x21.toInt) + 1) := i332
  replace i333 : q_F (0 ≤ x20.toInt + (-1 * x21.toInt)) := i333
  replace hl : lv_has ls 6 [(4, .int x20), (3, .int x21), (2, .int a17), (0, .ref (q k)), (1, .ref (q j))] := hl
  refine lv_iload hx hb d_2_23_25 (lv_at hl 0 rfl) ?_
  refine lv_iload_n hx hb d_2_23_27 rfl (lv_at hl 2 rfl) ?_
  refine lv_icmp_ge (tgt := 72) hx hb d_2_23_28 (by decide) (fun c336 => ?_) (fun c336 => ?_)
  ·
    have b337 : q_F (a17.toInt ≤ x20.toInt) := (q_leI c336)
    refine lv_aload_n hx hb d_2_23_72 rfl (lv_at hl 3 rfl) ?_
    refine lv_iload_n hx hb d_2_23_73 rfl (lv_at hl 2 rfl) ?_
    obtain ⟨y338, y339, hO340, b341, b342⟩ := q_bigO hI hB
    replace b341 : q_F (0 ≤ y338.toInt ∧ y338.toInt ≤ R.toInt) := b341
    replace b342 : q_F (0 ≤ y339.toInt ∧ y339.toInt ≤ 1) := b342
    refine q_put (ci := 2) (j := 1) (v := .int a17) (ty := .int) C0 V i_Big o_Big n_Big rfl rfl hO340 (by decide) w_85 rfl rfl rfl rfl (Nat.le_of_ble_eq_true rfl) d_2_23_74 (fun H locs w343 hu344 hO340 V => ?_)
    replace hO340 : w343[k]? = (some (q k, .inr (2, [.ref (q (k + 1)), .int a17, .int y339])) : Option (Nat × va_E)) := hO340
    replace hI := q_bigO' hI hB hu344 hO340 ⟨(by have t1 : 0 ≤ y1.toInt ∧ y1.toInt ≤ R.toInt := b4; have t2 : y1.toInt ≤ a11.toInt ∧ y6.toInt ≤ a11.toInt ∧ (a11.toInt = y1.toInt ∨ a11.toInt = y6.toInt) := b13; have t3 : a17.toInt ≤ a11.toInt ∧ a17.toInt ≤ R.toInt ∧ (a17.toInt = a11.toInt ∨ a17.toInt = R.toInt) := b19; omega), (by have t1 : a17.toInt ≤ a11.toInt ∧ a17.toInt ≤ R.toInt ∧ (a17.toInt = a11.toInt ∨ a17.toInt = R.toInt) := b19; omega)⟩ ⟨(by have t1 : 0 ≤ y339.toInt ∧ y339.toInt ≤ 1 := b342; omega), (by have t1 : 0 ≤ y339.toInt ∧ y339.toInt ≤ 1 := b342; omega)⟩
    replace hF := q_us hF hu344 (by simp)
    refine lv_iload_n hx hb d_2_23_77 rfl (lv_at hl 1 rfl) ?_
    refine lv_if_eq (tgt := 86) hx hb d_2_23_78 (by decide) (fun c345 => ?_) (fun c345 => ?_)
    ·
      have b346 : q_F (x21.toInt = 0) := (q_eqI c345)
      exact q_retv C0 V (⟨trivial, hI, hF⟩) d_2_23_86
    ·
      have b347 : q_F (x21.toInt ≠ 0) := (q_neI c345)
      refine lv_aload_n hx hb d_2_23_81 rfl (lv_at hl 3 rfl) ?_
      refine lv_iload_n hx hb d_2_23_82 rfl (lv_at hl 1 rfl) ?_
      refine q_gov V (q_runV (As := [.int x21]) (rest := []) (d := 1) (mc := 0) (ms := 0) (ci := 2) C0 V rfl LV_Big_32 (S_Big_push l D g sh q w343 k R hB x21 hI (by have t1 : 0 ≤ x21.toInt := i331; omega) _) rfl rfl hO340 rfl hl.1 rfl (Nat.le_of_ble_eq_true rfl) ⟨by decide, by decide⟩ ⟨Nat.le_of_ble_eq_true rfl, Nat.le_of_ble_eq_true rfl⟩ d_2_23_83) (fun u348 H locs hp349 V => ?_)
      obtain ⟨_, hI, hu350⟩ := hp349
      replace hF := q_uc hF hu350 (by simp)
      exact q_retv C0 V (⟨trivial, hI, hF⟩) d_2_23_86
  ·
    have b351 : q_F (x20.toInt < a17.toInt) := (q_nleI c336)
    refine lv_aload_n hx hb d_2_23_31 rfl (lv_at hl 3 rfl) ?_
    refine lv_iload hx hb d_2_23_32 (lv_at hl 0 rfl) ?_
    obtain ⟨y355, y356, hO357, b358, b359⟩ := q_bigO hI hB
    replace b358 : q_F (0 ≤ y355.toInt ∧ y355.toInt ≤ R.toInt) := b358
    replace b359 : q_F (0 ≤ y356.toInt ∧ y356.toInt ≤ 1) := b359
    refine q_goi V (q_runV (As := [.int x20]) (rest := []) (d := 1) (mc := 0) (ms := 0) (ci := 2) C0 V rfl LV_Big_49 (S_Big_limb l D g sh q w335 k R hB x20 hI  _) rfl rfl hO357 rfl hl.1 rfl (Nat.le_of_ble_eq_true rfl) ⟨by decide, by decide⟩ ⟨Nat.le_of_ble_eq_true rfl, Nat.le_of_ble_eq_true rfl⟩ d_2_23_34) (fun a354 u352 H locs hp353 V => ?_)
    obtain ⟨b360, rfl⟩ := hp353
    replace b360 : q_F (0 ≤ a354.toInt ∧ a354.toInt ≤ 2147483647) := b360
    refine lv_aload_n hx hb d_2_23_37 rfl (lv_at hl 4 rfl) ?_
    refine lv_iload hx hb d_2_23_38 (lv_at hl 0 rfl) ?_
    obtain ⟨y364, y365, hO366, b367, b368⟩ := q_bigO hI hJ
    replace b367 : q_F (0 ≤ y364.toInt ∧ y364.toInt ≤ Q.toInt) := b367
    replace b368 : q_F (0 ≤ y365.toInt ∧ y365.toInt ≤ 1) := b368
    refine q_goi V (q_runV (As := [.int x20]) (rest := [.int a354]) (d := 1) (mc := 0) (ms := 0) (ci := 2) C0 V rfl LV_Big_49 (S_Big_limb l D g sh q w335 j Q hJ x20 hI  _) rfl rfl hO366 rfl hl.1 rfl (Nat.le_of_ble_eq_true rfl) ⟨by decide, by decide⟩ ⟨Nat.le_of_ble_eq_true rfl, Nat.le_of_ble_eq_true rfl⟩ d_2_23_40) (fun a363 u361 H locs hp362 V => ?_)
    obtain ⟨b369, rfl⟩ := hp362
    replace b369 : q_F (0 ≤ a363.toInt ∧ a363.toInt ≤ 2147483647) := b369
    refine lv_iadd hx hb d_2_23_43 ?_
    obtain ⟨a370, e371⟩ := q_nm (a354 + a363 : Int32)
    refine q_ti (v := a370) e371 ?_
    refine lv_iload_n hx hb d_2_23_44 rfl (lv_at hl 1 rfl) ?_
    refine lv_iadd hx hb d_2_23_45 ?_
    obtain ⟨a372, e373⟩ := q_nm (a370 + x21 : Int32)
    refine q_ti (v := a372) e373 ?_
    refine lv_istore (lv' := [(5, .int a372), (4, .int x20), (3, .int x21), (2, .int a17), (0, .ref (q k)), (1, .ref (q j))]) hx hb d_2_23_46 hl (by decide) rfl (fun ls hl => ?_)
    refine lv_aload_n hx hb d_2_23_48 rfl (lv_at hl 4 rfl) ?_
    refine q_get (ci := 2) (j := 0) (v := .ref (q (k + 1))) C0 V i_Big rfl rfl hO357 (by decide) w_84 rfl d_2_23_49 ?_
    refine lv_iload hx hb d_2_23_52 (lv_at hl 1 rfl) ?_
    refine lv_iload hx hb d_2_23_54 (lv_at hl 0 rfl) ?_
    refine q_ldc C0 rfl w_809 d_2_23_56 ?_
    refine lv_iand hx hb d_2_23_58 ?_
    obtain ⟨a374, e375⟩ := q_nm (a372 &&& 2147483647 : Int32)
    refine q_ti (v := a374) e375 ?_
    have b376 : q_F (0 ≤ a374.toInt ∧ a374.toInt ≤ 2147483647) := (by rw [← e375]; show 0 ≤ (a372 &&& 2147483647 : Int32).toInt ∧ (a372 &&& 2147483647 : Int32).toInt ≤ 2147483647; exact s_and (by decide))
    obtain ⟨f377, hA378, bf379⟩ := q_bigA hI hB
    refine q_iast C0 V hA378 (q_ix (x := x20.toInt) rfl (by have t1 : 0 ≤ x21.toInt := i331; have t2 : 0 ≤ x20.toInt + (-1 * x21.toInt) := i333; omega) (by have t1 : a17.toInt ≤ a11.toInt ∧ a17.toInt ≤ R.toInt ∧ (a17.toInt = a11.toInt ∨ a17.toInt = R.toInt) := b19; have t2 : 0 ≤ x21.toInt := i331; have t3 : 0 ≤ x20.toInt + (-1 * x21.toInt) := i333; have t4 : x20.toInt < a17.toInt := b351; have e9 := q_clI (i := R) rfl (by have t1 : 0 ≤ R.toInt ∧ R.toInt ≤ 220 := hR; omega); omega)) d_2_23_59 (fun H locs w380 hu381 hA378 V => ?_)
    replace hI := q_bigA' hI hB hu381 hA378 (q_updB bf379 ⟨(by have t1 : 0 ≤ a374.toInt ∧ a374.toInt ≤ 2147483647 := b376; omega), (by have t1 : 0 ≤ a374.toInt ∧ a374.toInt ≤ 2147483647 := b376; omega)⟩)
    replace hO357 := (hu381 _ (by omega)).trans hO357
    replace hF := q_us hF hu381 (by simp)
    refine lv_iload hx hb d_2_23_60 (lv_at hl 0 rfl) ?_
    refine lv_bipush (v := 31) hx hb d_2_23_62 (by decide) ?_
    refine lv_iushr hx hb d_2_23_64 rfl ?_
    obtain ⟨a382, e383⟩ := q_nm ((a372.toUInt32 >>> ((31 : Int32).toUInt32 &&& Int32.toUInt32 31)).toInt32 : Int32)
    refine q_ti (v := a382) e383 ?_
    have b384 : q_F (0 ≤ a382.toInt ∧ a382.toInt ≤ 1) := (by rw [← e383]; show 0 ≤ ((a372.toUInt32 >>> ((31 : Int32).toUInt32 &&& Int32.toUInt32 31)).toInt32 : Int32).toInt ∧ ((a372.toUInt32 >>> ((31 : Int32).toUInt32 &&& Int32.toUInt32 31)).toInt32 : Int32).toInt ≤ 1; exact (by have z := s_ushr (x := a372) (c := 31) 31 (by decide) (by decide); omega))
    refine lv_istore_n (lv' := [(3, .int a382), (5, .int a372), (4, .int x20), (2, .int a17), (0, .ref (q k)), (1, .ref (q j))]) hx hb d_2_23_65 rfl hl (by decide) rfl (fun ls hl => ?_)
    obtain ⟨a385, e386⟩ := q_nm (x20 + 1 : Int32)
    have b387 : q_F (a385.toInt = x20.toInt + 1) := (by rw [← e386]; exact q_addI (y := 1) rfl (by decide) (by have t1 : 0 ≤ R.toInt ∧ R.toInt ≤ 220 := hR; have t2 : a17.toInt ≤ a11.toInt ∧ a17.toInt ≤ R.toInt ∧ (a17.toInt = a11.toInt ∨ a17.toInt = R.toInt) := b19; have t3 : 0 ≤ a17.toInt + (-1 * x20.toInt) := i330; have t4 : 0 ≤ x21.toInt := i331; have t5 : 0 ≤ x20.toInt + (-1 * x21.toInt) := i333; omega) (by have t1 : 0 ≤ R.toInt ∧ R.toInt ≤ 220 := hR; have t2 : a17.toInt ≤ a11.toInt ∧ a17.toInt ≤ R.toInt ∧ (a17.toInt = a11.toInt ∨ a17.toInt = R.toInt) := b19; have t3 : 0 ≤ a17.toInt + (-1 * x20.toInt) := i330; have t4 : 0 ≤ x21.toInt := i331; have t5 : 0 ≤ x20.toInt + (-1 * x21.toInt) := i333; omega))
    refine lv_iinc (v := a385) (lv' := [(4, .int a385), (3, .int a382), (5, .int a372), (2, .int a17), (0, .ref (q k)), (1, .ref (q j))]) hx hb d_2_23_66 hl (k := 2) rfl (e386) (by decide) rfl (fun ls hl => ?_)
    refine lv_goto (tgt := 25) hx hb d_2_23_69 (by decide) ?_
    exact ih334 ((a385 : Int32), (a382 : Int32)) _ _ _ _ (show (a17.toInt - a385.toInt).toNat < (a17.toInt - x20.toInt).toNat from by have t1 : x20.toInt < a17.toInt := b351; have t2 : a385.toInt = x20.toInt + 1 := b387; omega) ⟨(show q_F (0 ≤ a17.toInt + (-1 * a385.toInt)) from (show 0 ≤ a17.toInt + (-1 * a385.toInt) from by have t1 : x20.toInt < a17.toInt := b351; have t2 : a385.toInt = x20.toInt + 1 := b387; omega)), (show q_F (0 ≤ a382.toInt) from (show 0 ≤ a382.toInt from by have t1 : 0 ≤ a382.toInt ∧ a382.toInt ≤ 1 := b384; omega)), (show q_F (0 ≤ (-1 * a382.toInt) + 1) from (show 0 ≤ (-1 * a382.toInt) + 1 from by have t1 : 0 ≤ a382.toInt ∧ a382.toInt ≤ 1 := b384; omega)), (show q_F (0 ≤ a385.toInt + (-1 * a382.toInt)) from (show 0 ≤ a385.toInt + (-1 * a382.toInt) from by have t1 : 0 ≤ x21.toInt := i331; have t2 : 0 ≤ x20.toInt + (-1 * x21.toInt) := i333; have t3 : 0 ≤ a382.toInt ∧ a382.toInt ≤ 1 := b384; have t4 : a385.toInt = x20.toInt + 1 := b387; omega)), V, q_lw hl (q_lw1 0 rfl (q_lw1 1 rfl (q_lw1 3 rfl (q_lw1 4 rfl (q_lw1 5 rfl q_lw0))))), hI, hF⟩
set_option maxRecDepth 100000 in
set_option maxHeartbeats 4000000 in
theorem S_Int_compare (l : Launch) (D : va_G) (g : Nat → ClassId) (sh : List q_Ok) (q : Nat → Nat) (ws : va_W) (x1 : Int32) (x2 : Int32) (hI : q_I sh q ws) : q_mI l y_jInt_compare prog_27_method_40_code 2 (.int) 1 0 0 D g [.int x1, .int x2] ws (fun r u => (-1 ≤ r.toInt ∧ r.toInt ≤ 1) ∧ ws = u) := by
  intro sz
  refine q_into (by decide) (Nat.le_of_ble_eq_true rfl) ?_
  intro p e s m below meth c ls hsz C0 V hl
  have hx := C0.1
  have hb := C0.2.1
  have hl : lv_has ls 2 [(0, .int x1), (1, .int x2)] := hl
  refine lv_iload_n hx hb d_27_40_0 rfl (lv_at hl 0 rfl) ?_
  refine lv_iload_n hx hb d_27_40_1 rfl (lv_at hl 1 rfl) ?_
  refine lv_icmp_ge (tgt := 9) hx hb d_27_40_2 (by decide) (fun c1 => ?_) (fun c1 => ?_)
  ·
    have b2 : q_F (x2.toInt ≤ x1.toInt) := (q_leI c1)
    refine lv_iload_n hx hb d_27_40_9 rfl (lv_at hl 0 rfl) ?_
    refine lv_iload_n hx hb d_27_40_10 rfl (lv_at hl 1 rfl) ?_
    refine lv_icmp_ne (tgt := 18) hx hb d_27_40_11 (by decide) (fun c3 => ?_) (fun c3 => ?_)
    ·
      have b4 : q_F (x1.toInt ≠ x2.toInt) := (q_neI c3)
      refine lv_iconst (v := 1) hx hb d_27_40_18 (by decide) ?_
      exact q_reti C0 V (⟨show -1 ≤ (1 : Int32).toInt ∧ (1 : Int32).toInt ≤ 1 from (by have z9 : (1 : Int32).toInt = 1 := rfl; omega), rfl⟩) d_27_40_19
    ·
      have b5 : q_F (x1.toInt = x2.toInt) := (q_eqI c3)
      refine lv_iconst (v := 0) hx hb d_27_40_14 (by decide) ?_
      refine lv_goto (tgt := 19) hx hb d_27_40_15 (by decide) ?_
      exact q_reti C0 V (⟨show -1 ≤ (0 : Int32).toInt ∧ (0 : Int32).toInt ≤ 1 from (by have z9 : (0 : Int32).toInt = 0 := rfl; omega), rfl⟩) d_27_40_19
  ·
    have b6 : q_F (x1.toInt < x2.toInt) := (q_nleI c1)
    refine lv_iconst (v := (-1)) hx hb d_27_40_5 (by decide) ?_
    refine lv_goto (tgt := 19) hx hb d_27_40_6 (by decide) ?_
    exact q_reti C0 V (⟨show -1 ≤ (-1 : Int32).toInt ∧ (-1 : Int32).toInt ≤ 1 from (by have z9 : (-1 : Int32).toInt = -1 := rfl; omega), rfl⟩) d_27_40_19
set_option maxRecDepth 100000 in
set_option maxHeartbeats 4000000 in
theorem S_Int_bitCount (l : Launch) (D : va_G) (g : Nat → ClassId) (sh : List q_Ok) (q : Nat → Nat) (ws : va_W) (x1 : Int32) (hI : q_I sh q ws) : q_mI l y_jInt_bitCount prog_27_method_49_code 1 (.int) 1 0 0 D g [.int x1] ws (fun r u => (0 ≤ r.toInt ∧ r.toInt ≤ 63) ∧ ws = u) := by
  intro sz
  refine q_into (by decide) (Nat.le_of_ble_eq_true rfl) ?_
  intro p e s m below meth c ls hsz C0 V hl
  have hx := C0.1
  have hb := C0.2.1
  have hl : lv_has ls 1 [(0, .int x1)] := hl
  refine lv_iload_n hx hb d_27_49_0 rfl (lv_at hl 0 rfl) ?_
  refine lv_iload_n hx hb d_27_49_1 rfl (lv_at hl 0 rfl) ?_
  refine lv_iconst (v := 1) hx hb d_27_49_2 (by decide) ?_
  refine lv_iushr hx hb d_27_49_3 rfl ?_
  obtain ⟨a1, e2⟩ := q_nm ((x1.toUInt32 >>> ((1 : Int32).toUInt32 &&& Int32.toUInt32 31)).toInt32 : Int32)
  refine q_ti (v := a1) e2 ?_
  have b3 : q_F (0 ≤ a1.toInt ∧ a1.toInt ≤ 2147483647) := (by rw [← e2]; show 0 ≤ ((x1.toUInt32 >>> ((1 : Int32).toUInt32 &&& Int32.toUInt32 31)).toInt32 : Int32).toInt ∧ ((x1.toUInt32 >>> ((1 : Int32).toUInt32 &&& Int32.toUInt32 31)).toInt32 : Int32).toInt ≤ 2147483647; exact (by have z := s_ushr (x := x1) (c := 1) 1 (by decide) (by decide); omega))
  refine q_ldcw C0 rfl w_617 d_27_49_4 ?_
  refine lv_iand hx hb d_27_49_7 ?_
  obtain ⟨a4, e5⟩ := q_nm (a1 &&& 1431655765 : Int32)
  refine q_ti (v := a4) e5 ?_
  have b6 : q_F (0 ≤ a4.toInt ∧ a4.toInt ≤ 1431655765) := (by rw [← e5]; show 0 ≤ (a1 &&& 1431655765 : Int32).toInt ∧ (a1 &&& 1431655765 : Int32).toInt ≤ 1431655765; exact s_and (by decide))
  refine lv_isub hx hb d_27_49_8 ?_
  obtain ⟨a7, e8⟩ := q_nm (x1 - a4 : Int32)
  refine q_ti (v := a7) e8 ?_
  refine lv_istore_n (lv' := [(0, .int a7)]) hx hb d_27_49_9 rfl hl (by decide) rfl (fun ls hl => ?_)
  refine lv_iload_n hx hb d_27_49_10 rfl (lv_at hl 0 rfl) ?_
  refine q_ldcw C0 rfl w_618 d_27_49_11 ?_
  refine lv_iand hx hb d_27_49_14 ?_
  obtain ⟨a9, e10⟩ := q_nm (a7 &&& 858993459 : Int32)
  refine q_ti (v := a9) e10 ?_
  have b11 : q_F (0 ≤ a9.toInt ∧ a9.toInt ≤ 858993459) := (by rw [← e10]; show 0 ≤ (a7 &&& 858993459 : Int32).toInt ∧ (a7 &&& 858993459 : Int32).toInt ≤ 858993459; exact s_and (by decide))
  refine lv_iload_n hx hb d_27_49_15 rfl (lv_at hl 0 rfl) ?_
  refine lv_iconst (v := 2) hx hb d_27_49_16 (by decide) ?_
  refine lv_iushr hx hb d_27_49_17 rfl ?_
  obtain ⟨a12, e13⟩ := q_nm ((a7.toUInt32 >>> ((2 : Int32).toUInt32 &&& Int32.toUInt32 31)).toInt32 : Int32)
  refine q_ti (v := a12) e13 ?_
  have b14 : q_F (0 ≤ a12.toInt ∧ a12.toInt ≤ 1073741823) := (by rw [← e13]; show 0 ≤ ((a7.toUInt32 >>> ((2 : Int32).toUInt32 &&& Int32.toUInt32 31)).toInt32 : Int32).toInt ∧ ((a7.toUInt32 >>> ((2 : Int32).toUInt32 &&& Int32.toUInt32 31)).toInt32 : Int32).toInt ≤ 1073741823; exact (by have z := s_ushr (x := a7) (c := 2) 2 (by decide) (by decide); omega))
  refine q_ldcw C0 rfl w_618 d_27_49_18 ?_
  refine lv_iand hx hb d_27_49_21 ?_
  obtain ⟨a15, e16⟩ := q_nm (a12 &&& 858993459 : Int32)
  refine q_ti (v := a15) e16 ?_
  have b17 : q_F (0 ≤ a15.toInt ∧ a15.toInt ≤ 858993459) := (by rw [← e16]; show 0 ≤ (a12 &&& 858993459 : Int32).toInt ∧ (a12 &&& 858993459 : Int32).toInt ≤ 858993459; exact s_and (by decide))
  refine lv_iadd hx hb d_27_49_22 ?_
  obtain ⟨a18, e19⟩ := q_nm (a9 + a15 : Int32)
  refine q_ti (v := a18) e19 ?_
  have b20 : q_F (a18.toInt = a9.toInt + a15.toInt) := (by rw [← e19]; show (a9 + a15 : Int32).toInt = a9.toInt + a15.toInt; exact q_addI (x := a9.toInt) (y := a15.toInt) rfl rfl (by have t1 : 0 ≤ a9.toInt ∧ a9.toInt ≤ 858993459 := b11; have t2 : 0 ≤ a15.toInt ∧ a15.toInt ≤ 858993459 := b17; omega) (by have t1 : 0 ≤ a9.toInt ∧ a9.toInt ≤ 858993459 := b11; have t2 : 0 ≤ a15.toInt ∧ a15.toInt ≤ 858993459 := b17; omega))
  refine lv_istore_n (lv' := [(0, .int a18)]) hx hb d_27_49_23 rfl hl (by decide) rfl (fun ls hl => ?_)
  refine lv_iload_n hx hb d_27_49_24 rfl (lv_at hl 0 rfl) ?_
  refine lv_iload_n hx hb d_27_49_25 rfl (lv_at hl 0 rfl) ?_
  refine lv_iconst (v := 4) hx hb d_27_49_26 (by decide) ?_
  refine lv_iushr hx hb d_27_49_27 rfl ?_
  obtain ⟨a21, e22⟩ := q_nm ((a18.toUInt32 >>> ((4 : Int32).toUInt32 &&& Int32.toUInt32 31)).toInt32 : Int32)
  refine q_ti (v := a21) e22 ?_
  have b23 : q_F (0 ≤ a21.toInt ∧ a21.toInt ≤ 268435455) := (by rw [← e22]; show 0 ≤ ((a18.toUInt32 >>> ((4 : Int32).toUInt32 &&& Int32.toUInt32 31)).toInt32 : Int32).toInt ∧ ((a18.toUInt32 >>> ((4 : Int32).toUInt32 &&& Int32.toUInt32 31)).toInt32 : Int32).toInt ≤ 268435455; exact (by have z := s_ushr (x := a18) (c := 4) 4 (by decide) (by decide); omega))
  refine lv_iadd hx hb d_27_49_28 ?_
  obtain ⟨a24, e25⟩ := q_nm (a18 + a21 : Int32)
  refine q_ti (v := a24) e25 ?_
  have b26 : q_F (a24.toInt = a18.toInt + a21.toInt) := (by rw [← e25]; show (a18 + a21 : Int32).toInt = a18.toInt + a21.toInt; exact q_addI (x := a18.toInt) (y := a21.toInt) rfl rfl (by have t1 : 0 ≤ a9.toInt ∧ a9.toInt ≤ 858993459 := b11; have t2 : 0 ≤ a15.toInt ∧ a15.toInt ≤ 858993459 := b17; have t3 : a18.toInt = a9.toInt + a15.toInt := b20; have t4 : 0 ≤ a21.toInt ∧ a21.toInt ≤ 268435455 := b23; omega) (by have t1 : 0 ≤ a9.toInt ∧ a9.toInt ≤ 858993459 := b11; have t2 : 0 ≤ a15.toInt ∧ a15.toInt ≤ 858993459 := b17; have t3 : a18.toInt = a9.toInt + a15.toInt := b20; have t4 : 0 ≤ a21.toInt ∧ a21.toInt ≤ 268435455 := b23; omega))
  refine q_ldcw C0 rfl w_619 d_27_49_29 ?_
  refine lv_iand hx hb d_27_49_32 ?_
  obtain ⟨a27, e28⟩ := q_nm (a24 &&& 252645135 : Int32)
  refine q_ti (v := a27) e28 ?_
  have b29 : q_F (0 ≤ a27.toInt ∧ a27.toInt ≤ 252645135) := (by rw [← e28]; show 0 ≤ (a24 &&& 252645135 : Int32).toInt ∧ (a24 &&& 252645135 : Int32).toInt ≤ 252645135; exact s_and (by decide))
  refine lv_istore_n (lv' := [(0, .int a27)]) hx hb d_27_49_33 rfl hl (by decide) rfl (fun ls hl => ?_)
  refine lv_iload_n hx hb d_27_49_34 rfl (lv_at hl 0 rfl) ?_
  refine lv_iload_n hx hb d_27_49_35 rfl (lv_at hl 0 rfl) ?_
  refine lv_bipush (v := 8) hx hb d_27_49_36 (by decide) ?_
  refine lv_iushr hx hb d_27_49_38 rfl ?_
  obtain ⟨a30, e31⟩ := q_nm ((a27.toUInt32 >>> ((8 : Int32).toUInt32 &&& Int32.toUInt32 31)).toInt32 : Int32)
  refine q_ti (v := a30) e31 ?_
  have b32 : q_F (0 ≤ a30.toInt ∧ a30.toInt ≤ 16777215) := (by rw [← e31]; show 0 ≤ ((a27.toUInt32 >>> ((8 : Int32).toUInt32 &&& Int32.toUInt32 31)).toInt32 : Int32).toInt ∧ ((a27.toUInt32 >>> ((8 : Int32).toUInt32 &&& Int32.toUInt32 31)).toInt32 : Int32).toInt ≤ 16777215; exact (by have z := s_ushr (x := a27) (c := 8) 8 (by decide) (by decide); omega))
  refine lv_iadd hx hb d_27_49_39 ?_
  obtain ⟨a33, e34⟩ := q_nm (a27 + a30 : Int32)
  refine q_ti (v := a33) e34 ?_
  have b35 : q_F (a33.toInt = a27.toInt + a30.toInt) := (by rw [← e34]; show (a27 + a30 : Int32).toInt = a27.toInt + a30.toInt; exact q_addI (x := a27.toInt) (y := a30.toInt) rfl rfl (by have t1 : 0 ≤ a27.toInt ∧ a27.toInt ≤ 252645135 := b29; have t2 : 0 ≤ a30.toInt ∧ a30.toInt ≤ 16777215 := b32; omega) (by have t1 : 0 ≤ a27.toInt ∧ a27.toInt ≤ 252645135 := b29; have t2 : 0 ≤ a30.toInt ∧ a30.toInt ≤ 16777215 := b32; omega))
  refine lv_istore_n (lv' := [(0, .int a33)]) hx hb d_27_49_40 rfl hl (by decide) rfl (fun ls hl => ?_)
  refine lv_iload_n hx hb d_27_49_41 rfl (lv_at hl 0 rfl) ?_
  refine lv_iload_n hx hb d_27_49_42 rfl (lv_at hl 0 rfl) ?_
  refine lv_bipush (v := 16) hx hb d_27_49_43 (by decide) ?_
  refine lv_iushr hx hb d_27_49_45 rfl ?_
  obtain ⟨a36, e37⟩ := q_nm ((a33.toUInt32 >>> ((16 : Int32).toUInt32 &&& Int32.toUInt32 31)).toInt32 : Int32)
  refine q_ti (v := a36) e37 ?_
  have b38 : q_F (0 ≤ a36.toInt ∧ a36.toInt ≤ 65535) := (by rw [← e37]; show 0 ≤ ((a33.toUInt32 >>> ((16 : Int32).toUInt32 &&& Int32.toUInt32 31)).toInt32 : Int32).toInt ∧ ((a33.toUInt32 >>> ((16 : Int32).toUInt32 &&& Int32.toUInt32 31)).toInt32 : Int32).toInt ≤ 65535; exact (by have z := s_ushr (x := a33) (c := 16) 16 (by decide) (by decide); omega))
  refine lv_iadd hx hb d_27_49_46 ?_
  obtain ⟨a39, e40⟩ := q_nm (a33 + a36 : Int32)
  refine q_ti (v := a39) e40 ?_
  have b41 : q_F (a39.toInt = a33.toInt + a36.toInt) := (by rw [← e40]; show (a33 + a36 : Int32).toInt = a33.toInt + a36.toInt; exact q_addI (x := a33.toInt) (y := a36.toInt) rfl rfl (by have t1 : 0 ≤ a27.toInt ∧ a27.toInt ≤ 252645135 := b29; have t2 : 0 ≤ a30.toInt ∧ a30.toInt ≤ 16777215 := b32; have t3 : a33.toInt = a27.toInt + a30.toInt := b35; have t4 : 0 ≤ a36.toInt ∧ a36.toInt ≤ 65535 := b38; omega) (by have t1 : 0 ≤ a27.toInt ∧ a27.toInt ≤ 252645135 := b29; have t2 : 0 ≤ a30.toInt ∧ a30.toInt ≤ 16777215 := b32; have t3 : a33.toInt = a27.toInt + a30.toInt := b35; have t4 : 0 ≤ a36.toInt ∧ a36.toInt ≤ 65535 := b38; omega))
  refine lv_istore_n (lv' := [(0, .int a39)]) hx hb d_27_49_47 rfl hl (by decide) rfl (fun ls hl => ?_)
  refine lv_iload_n hx hb d_27_49_48 rfl (lv_at hl 0 rfl) ?_
  refine lv_bipush (v := 63) hx hb d_27_49_49 (by decide) ?_
  refine lv_iand hx hb d_27_49_51 ?_
  obtain ⟨a42, e43⟩ := q_nm (a39 &&& 63 : Int32)
  refine q_ti (v := a42) e43 ?_
  have b44 : q_F (0 ≤ a42.toInt ∧ a42.toInt ≤ 63) := (by rw [← e43]; show 0 ≤ (a39 &&& 63 : Int32).toInt ∧ (a39 &&& 63 : Int32).toInt ≤ 63; exact s_and (by decide))
  exact q_reti C0 V (⟨show 0 ≤ a42.toInt ∧ a42.toInt ≤ 63 from (by have t1 : 0 ≤ a42.toInt ∧ a42.toInt ≤ 63 := b44; omega), rfl⟩) d_27_49_52
set_option maxRecDepth 100000 in
set_option maxHeartbeats 4000000 in
theorem S_Big_bitsOf (l : Launch) (D : va_G) (g : Nat → ClassId) (sh : List q_Ok) (q : Nat → Nat) (ws : va_W) (x1 : Int32) (hI : q_I sh q ws) : q_mI l y_Big_bitsOf prog_2_method_13_code 2 (.int) 2 0 0 D g [.int x1] ws (fun r u => (0 ≤ r.toInt ∧ r.toInt ≤ 63) ∧ ws = u) := by
  intro sz
  refine q_into (by decide) (Nat.le_of_ble_eq_true rfl) ?_
  intro p e s m below meth c ls hsz C0 V hl
  have hx := C0.1
  have hb := C0.2.1
  have hl : lv_has ls 2 [(0, .int x1)] := hl
  refine lv_iload_n hx hb d_2_13_0 rfl (lv_at hl 0 rfl) ?_
  refine lv_iload_n hx hb d_2_13_1 rfl (lv_at hl 0 rfl) ?_
  refine lv_iconst (v := 1) hx hb d_2_13_2 (by decide) ?_
  refine lv_iushr hx hb d_2_13_3 rfl ?_
  obtain ⟨a1, e2⟩ := q_nm ((x1.toUInt32 >>> ((1 : Int32).toUInt32 &&& Int32.toUInt32 31)).toInt32 : Int32)
  refine q_ti (v := a1) e2 ?_
  have b3 : q_F (0 ≤ a1.toInt ∧ a1.toInt ≤ 2147483647) := (by rw [← e2]; show 0 ≤ ((x1.toUInt32 >>> ((1 : Int32).toUInt32 &&& Int32.toUInt32 31)).toInt32 : Int32).toInt ∧ ((x1.toUInt32 >>> ((1 : Int32).toUInt32 &&& Int32.toUInt32 31)).toInt32 : Int32).toInt ≤ 2147483647; exact (by have z := s_ushr (x := x1) (c := 1) 1 (by decide) (by decide); omega))
  refine lv_ior hx hb d_2_13_4 ?_
  obtain ⟨a4, e5⟩ := q_nm (x1 ||| a1 : Int32)
  refine q_ti (v := a4) e5 ?_
  refine lv_istore_n (lv' := [(1, .int a4), (0, .int x1)]) hx hb d_2_13_5 rfl hl (by decide) rfl (fun ls hl => ?_)
  refine lv_iload_n hx hb d_2_13_6 rfl (lv_at hl 0 rfl) ?_
  refine lv_iload_n hx hb d_2_13_7 rfl (lv_at hl 0 rfl) ?_
  refine lv_iconst (v := 2) hx hb d_2_13_8 (by decide) ?_
  refine lv_iushr hx hb d_2_13_9 rfl ?_
  obtain ⟨a6, e7⟩ := q_nm ((a4.toUInt32 >>> ((2 : Int32).toUInt32 &&& Int32.toUInt32 31)).toInt32 : Int32)
  refine q_ti (v := a6) e7 ?_
  have b8 : q_F (0 ≤ a6.toInt ∧ a6.toInt ≤ 1073741823) := (by rw [← e7]; show 0 ≤ ((a4.toUInt32 >>> ((2 : Int32).toUInt32 &&& Int32.toUInt32 31)).toInt32 : Int32).toInt ∧ ((a4.toUInt32 >>> ((2 : Int32).toUInt32 &&& Int32.toUInt32 31)).toInt32 : Int32).toInt ≤ 1073741823; exact (by have z := s_ushr (x := a4) (c := 2) 2 (by decide) (by decide); omega))
  refine lv_ior hx hb d_2_13_10 ?_
  obtain ⟨a9, e10⟩ := q_nm (a4 ||| a6 : Int32)
  refine q_ti (v := a9) e10 ?_
  refine lv_istore_n (lv' := [(1, .int a9), (0, .int x1)]) hx hb d_2_13_11 rfl hl (by decide) rfl (fun ls hl => ?_)
  refine lv_iload_n hx hb d_2_13_12 rfl (lv_at hl 0 rfl) ?_
  refine lv_iload_n hx hb d_2_13_13 rfl (lv_at hl 0 rfl) ?_
  refine lv_iconst (v := 4) hx hb d_2_13_14 (by decide) ?_
  refine lv_iushr hx hb d_2_13_15 rfl ?_
  obtain ⟨a11, e12⟩ := q_nm ((a9.toUInt32 >>> ((4 : Int32).toUInt32 &&& Int32.toUInt32 31)).toInt32 : Int32)
  refine q_ti (v := a11) e12 ?_
  have b13 : q_F (0 ≤ a11.toInt ∧ a11.toInt ≤ 268435455) := (by rw [← e12]; show 0 ≤ ((a9.toUInt32 >>> ((4 : Int32).toUInt32 &&& Int32.toUInt32 31)).toInt32 : Int32).toInt ∧ ((a9.toUInt32 >>> ((4 : Int32).toUInt32 &&& Int32.toUInt32 31)).toInt32 : Int32).toInt ≤ 268435455; exact (by have z := s_ushr (x := a9) (c := 4) 4 (by decide) (by decide); omega))
  refine lv_ior hx hb d_2_13_16 ?_
  obtain ⟨a14, e15⟩ := q_nm (a9 ||| a11 : Int32)
  refine q_ti (v := a14) e15 ?_
  refine lv_istore_n (lv' := [(1, .int a14), (0, .int x1)]) hx hb d_2_13_17 rfl hl (by decide) rfl (fun ls hl => ?_)
  refine lv_iload_n hx hb d_2_13_18 rfl (lv_at hl 0 rfl) ?_
  refine lv_iload_n hx hb d_2_13_19 rfl (lv_at hl 0 rfl) ?_
  refine lv_bipush (v := 8) hx hb d_2_13_20 (by decide) ?_
  refine lv_iushr hx hb d_2_13_22 rfl ?_
  obtain ⟨a16, e17⟩ := q_nm ((a14.toUInt32 >>> ((8 : Int32).toUInt32 &&& Int32.toUInt32 31)).toInt32 : Int32)
  refine q_ti (v := a16) e17 ?_
  have b18 : q_F (0 ≤ a16.toInt ∧ a16.toInt ≤ 16777215) := (by rw [← e17]; show 0 ≤ ((a14.toUInt32 >>> ((8 : Int32).toUInt32 &&& Int32.toUInt32 31)).toInt32 : Int32).toInt ∧ ((a14.toUInt32 >>> ((8 : Int32).toUInt32 &&& Int32.toUInt32 31)).toInt32 : Int32).toInt ≤ 16777215; exact (by have z := s_ushr (x := a14) (c := 8) 8 (by decide) (by decide); omega))
  refine lv_ior hx hb d_2_13_23 ?_
  obtain ⟨a19, e20⟩ := q_nm (a14 ||| a16 : Int32)
  refine q_ti (v := a19) e20 ?_
  refine lv_istore_n (lv' := [(1, .int a19), (0, .int x1)]) hx hb d_2_13_24 rfl hl (by decide) rfl (fun ls hl => ?_)
  refine lv_iload_n hx hb d_2_13_25 rfl (lv_at hl 0 rfl) ?_
  refine lv_iload_n hx hb d_2_13_26 rfl (lv_at hl 0 rfl) ?_
  refine lv_bipush (v := 16) hx hb d_2_13_27 (by decide) ?_
  refine lv_iushr hx hb d_2_13_29 rfl ?_
  obtain ⟨a21, e22⟩ := q_nm ((a19.toUInt32 >>> ((16 : Int32).toUInt32 &&& Int32.toUInt32 31)).toInt32 : Int32)
  refine q_ti (v := a21) e22 ?_
  have b23 : q_F (0 ≤ a21.toInt ∧ a21.toInt ≤ 65535) := (by rw [← e22]; show 0 ≤ ((a19.toUInt32 >>> ((16 : Int32).toUInt32 &&& Int32.toUInt32 31)).toInt32 : Int32).toInt ∧ ((a19.toUInt32 >>> ((16 : Int32).toUInt32 &&& Int32.toUInt32 31)).toInt32 : Int32).toInt ≤ 65535; exact (by have z := s_ushr (x := a19) (c := 16) 16 (by decide) (by decide); omega))
  refine lv_ior hx hb d_2_13_30 ?_
  obtain ⟨a24, e25⟩ := q_nm (a19 ||| a21 : Int32)
  refine q_ti (v := a24) e25 ?_
  refine lv_istore_n (lv' := [(1, .int a24), (0, .int x1)]) hx hb d_2_13_31 rfl hl (by decide) rfl (fun ls hl => ?_)
  refine lv_iload_n hx hb d_2_13_32 rfl (lv_at hl 0 rfl) ?_
  refine q_goi V (q_runS (As := [.int a24]) (rest := []) (d := 1) (mc := 0) (ms := 0) C0 V rfl LS_Big_60 (S_Int_bitCount l D g sh q ws a24 hI  _) rfl hl.1 rfl (Nat.le_of_ble_eq_true rfl) ⟨by decide, by decide⟩ ⟨Nat.le_of_ble_eq_true rfl, Nat.le_of_ble_eq_true rfl⟩ d_2_13_33) (fun a28 u26 H locs hp27 V => ?_)
  obtain ⟨b29, rfl⟩ := hp27
  replace b29 : q_F (0 ≤ a28.toInt ∧ a28.toInt ≤ 63) := b29
  exact q_reti C0 V (⟨show 0 ≤ a28.toInt ∧ a28.toInt ≤ 63 from (by have t1 : 0 ≤ a28.toInt ∧ a28.toInt ≤ 63 := b29; omega), rfl⟩) d_2_13_36
set_option maxRecDepth 100000 in
set_option maxHeartbeats 4000000 in
theorem S_Big_bitLength (l : Launch) (D : va_G) (g : Nat → ClassId) (sh : List q_Ok) (q : Nat → Nat) (ws : va_W) (k : Nat) (R : Int32) (hB : q_isBig sh g q k R) (hI : q_I sh q ws) : q_mI l y_Big_bitLength prog_2_method_12_code 1 (.int) 3 0 0 D g [.ref (q k)] ws (fun r u => (0 ≤ r.toInt ∧ r.toInt ≤ 6852) ∧ ws = u) := by
  intro sz
  refine q_into (by decide) (Nat.le_of_ble_eq_true rfl) ?_
  intro p e s m below meth c ls hsz C0 V hl
  have hx := C0.1
  have hb := C0.2.1
  have hR : q_F (0 ≤ R.toInt ∧ R.toInt ≤ 220) := hB.2.2
  have hl : lv_has ls 1 [(0, .ref (q k))] := hl
  refine lv_aload_n hx hb d_2_12_0 rfl (lv_at hl 0 rfl) ?_
  obtain ⟨y1, y2, hO3, b4, b5⟩ := q_bigO hI hB
  replace b4 : q_F (0 ≤ y1.toInt ∧ y1.toInt ≤ R.toInt) := b4
  replace b5 : q_F (0 ≤ y2.toInt ∧ y2.toInt ≤ 1) := b5
  refine q_get (ci := 2) (j := 1) (v := .int y1) C0 V i_Big rfl rfl hO3 (by decide) w_85 rfl d_2_12_1 ?_
  refine lv_if_ne (tgt := 11) hx hb d_2_12_4 (by decide) (fun c6 => ?_) (fun c6 => ?_)
  ·
    have b7 : q_F (y1.toInt ≠ 0) := (q_neI c6)
    refine lv_aload_n hx hb d_2_12_11 rfl (lv_at hl 0 rfl) ?_
    refine q_get (ci := 2) (j := 1) (v := .int y1) C0 V i_Big rfl rfl hO3 (by decide) w_85 rfl d_2_12_12 ?_
    refine lv_iconst (v := 1) hx hb d_2_12_15 (by decide) ?_
    refine lv_isub hx hb d_2_12_16 ?_
    obtain ⟨a8, e9⟩ := q_nm (y1 - 1 : Int32)
    refine q_ti (v := a8) e9 ?_
    have b10 : q_F (a8.toInt = y1.toInt - 1) := (by rw [← e9]; show (y1 - 1 : Int32).toInt = y1.toInt - 1; exact q_subI (x := y1.toInt) (y := 1) rfl (by decide) (by have t1 : 0 ≤ R.toInt ∧ R.toInt ≤ 220 := hR; have t2 : 0 ≤ y1.toInt ∧ y1.toInt ≤ R.toInt := b4; omega) (by have t1 : 0 ≤ R.toInt ∧ R.toInt ≤ 220 := hR; have t2 : 0 ≤ y1.toInt ∧ y1.toInt ≤ R.toInt := b4; omega))
    refine lv_bipush (v := 31) hx hb d_2_12_17 (by decide) ?_
    refine lv_imul hx hb d_2_12_19 ?_
    obtain ⟨a11, e12⟩ := q_nm (a8 * 31 : Int32)
    refine q_ti (v := a11) e12 ?_
    have b13 : q_F (a11.toInt = a8.toInt * 31) := (by rw [← e12]; show (a8 * 31 : Int32).toInt = a8.toInt * 31; exact q_mulI (x := a8.toInt) (y := 31) rfl (by decide) (by have t1 : 0 ≤ R.toInt ∧ R.toInt ≤ 220 := hR; have t2 : 0 ≤ y1.toInt ∧ y1.toInt ≤ R.toInt := b4; have t3 : a8.toInt = y1.toInt - 1 := b10; omega) (by have t1 : 0 ≤ R.toInt ∧ R.toInt ≤ 220 := hR; have t2 : 0 ≤ y1.toInt ∧ y1.toInt ≤ R.toInt := b4; have t3 : a8.toInt = y1.toInt - 1 := b10; omega))
    refine lv_aload_n hx hb d_2_12_20 rfl (lv_at hl 0 rfl) ?_
    refine q_get (ci := 2) (j := 0) (v := .ref (q (k + 1))) C0 V i_Big rfl rfl hO3 (by decide) w_84 rfl d_2_12_21 ?_
    refine lv_aload_n hx hb d_2_12_24 rfl (lv_at hl 0 rfl) ?_
    refine q_get (ci := 2) (j := 1) (v := .int y1) C0 V i_Big rfl rfl hO3 (by decide) w_85 rfl d_2_12_25 ?_
    refine lv_iconst (v := 1) hx hb d_2_12_28 (by decide) ?_
    refine lv_isub hx hb d_2_12_29 ?_
    obtain ⟨a14, e15⟩ := q_nm (y1 - 1 : Int32)
    refine q_ti (v := a14) e15 ?_
    have b16 : q_F (a14.toInt = y1.toInt - 1) := (by rw [← e15]; show (y1 - 1 : Int32).toInt = y1.toInt - 1; exact q_subI (x := y1.toInt) (y := 1) rfl (by decide) (by have t1 : 0 ≤ R.toInt ∧ R.toInt ≤ 220 := hR; have t2 : 0 ≤ y1.toInt ∧ y1.toInt ≤ R.toInt := b4; omega) (by have t1 : 0 ≤ R.toInt ∧ R.toInt ≤ 220 := hR; have t2 : 0 ≤ y1.toInt ∧ y1.toInt ≤ R.toInt := b4; omega))
    obtain ⟨f17, hA18, bf19⟩ := q_bigA hI hB
    refine q_iald C0 V hA18 (q_ix (x := a14.toInt) rfl (by have t1 : 0 ≤ y1.toInt ∧ y1.toInt ≤ R.toInt := b4; have t2 : y1.toInt ≠ 0 := b7; have t3 : a14.toInt = y1.toInt - 1 := b16; omega) (by have t1 : 0 ≤ y1.toInt ∧ y1.toInt ≤ R.toInt := b4; have t2 : y1.toInt ≠ 0 := b7; have t3 : a14.toInt = y1.toInt - 1 := b16; have e9 := q_clI (i := R) rfl (by have t1 : 0 ≤ R.toInt ∧ R.toInt ≤ 220 := hR; omega); omega)) d_2_12_30 ?_
    obtain ⟨a20, e21⟩ := q_nm (f17 a14.toNatClampNeg : Int32)
    refine q_ti (v := a20) e21 ?_
    have b22 : q_F (0 ≤ a20.toInt ∧ a20.toInt ≤ 2147483647) := (by rw [← e21]; show 0 ≤ (f17 a14.toNatClampNeg : Int32).toInt ∧ (f17 a14.toNatClampNeg : Int32).toInt ≤ 2147483647; exact bf19 _)
    refine q_goi V (q_runS (As := [.int a20]) (rest := [.int a11]) (d := 2) (mc := 0) (ms := 0) C0 V rfl LS_Big_57 (S_Big_bitsOf l D g sh q ws a20 hI  _) rfl hl.1 rfl (Nat.le_of_ble_eq_true rfl) ⟨by decide, by decide⟩ ⟨Nat.le_of_ble_eq_true rfl, Nat.le_of_ble_eq_true rfl⟩ d_2_12_31) (fun a25 u23 H locs hp24 V => ?_)
    obtain ⟨b26, rfl⟩ := hp24
    replace b26 : q_F (0 ≤ a25.toInt ∧ a25.toInt ≤ 63) := b26
    refine lv_iadd hx hb d_2_12_34 ?_
    obtain ⟨a27, e28⟩ := q_nm (a11 + a25 : Int32)
    refine q_ti (v := a27) e28 ?_
    have b29 : q_F (a27.toInt = a11.toInt + a25.toInt) := (by rw [← e28]; show (a11 + a25 : Int32).toInt = a11.toInt + a25.toInt; exact q_addI (x := a11.toInt) (y := a25.toInt) rfl rfl (by have t1 : 0 ≤ R.toInt ∧ R.toInt ≤ 220 := hR; have t2 : 0 ≤ y1.toInt ∧ y1.toInt ≤ R.toInt := b4; have t3 : a8.toInt = y1.toInt - 1 := b10; have t4 : a11.toInt = a8.toInt * 31 := b13; have t5 : 0 ≤ a25.toInt ∧ a25.toInt ≤ 63 := b26; omega) (by have t1 : 0 ≤ R.toInt ∧ R.toInt ≤ 220 := hR; have t2 : 0 ≤ y1.toInt ∧ y1.toInt ≤ R.toInt := b4; have t3 : a8.toInt = y1.toInt - 1 := b10; have t4 : a11.toInt = a8.toInt * 31 := b13; have t5 : 0 ≤ a25.toInt ∧ a25.toInt ≤ 63 := b26; omega))
    exact q_reti C0 V (⟨show 0 ≤ a27.toInt ∧ a27.toInt ≤ 6852 from (by have t1 : 0 ≤ R.toInt ∧ R.toInt ≤ 220 := hR; have t2 : 0 ≤ y1.toInt ∧ y1.toInt ≤ R.toInt := b4; have t3 : y1.toInt ≠ 0 := b7; have t4 : a8.toInt = y1.toInt - 1 := b10; have t5 : a11.toInt = a8.toInt * 31 := b13; have t6 : 0 ≤ a25.toInt ∧ a25.toInt ≤ 63 := b26; have t7 : a27.toInt = a11.toInt + a25.toInt := b29; omega), rfl⟩) d_2_12_35
  ·
    have b30 : q_F (y1.toInt = 0) := (q_eqI c6)
    refine lv_iconst (v := 0) hx hb d_2_12_7 (by decide) ?_
    refine lv_goto (tgt := 35) hx hb d_2_12_8 (by decide) ?_
    exact q_reti C0 V (⟨show 0 ≤ (0 : Int32).toInt ∧ (0 : Int32).toInt ≤ 6852 from (by have z9 : (0 : Int32).toInt = 0 := rfl; omega), rfl⟩) d_2_12_35
theorem d_2_15_10 : decode prog_2_method_15_code 10 = .ok (.aload_n 0, 1) := by decide +kernel
theorem d_2_15_11 : decode prog_2_method_15_code 11 = .ok (.getfield 7, 3) := by decide +kernel
theorem d_2_15_14 : decode prog_2_method_15_code 14 = .ok (.iload_n 1, 1) := by decide +kernel
theorem d_2_15_15 : decode prog_2_method_15_code 15 = .ok (.iaload, 1) := by decide +kernel
theorem d_2_15_16 : decode prog_2_method_15_code 16 = .ok (.ifCond .eq 28, 3) := by decide +kernel
theorem d_2_15_44 : decode prog_2_method_15_code 44 = .ok (.iinc 1 1, 3) := by decide +kernel
theorem d_2_15_47 : decode prog_2_method_15_code 47 = .ok (.goto (-45), 3) := by decide +kernel
theorem d_2_15_19 : decode prog_2_method_15_code 19 = .ok (.iload_n 1, 1) := by decide +kernel
theorem d_2_15_20 : decode prog_2_method_15_code 20 = .ok (.bipush 31, 2) := by decide +kernel
theorem d_2_15_22 : decode prog_2_method_15_code 22 = .ok (.imul, 1) := by decide +kernel
theorem d_2_15_23 : decode prog_2_method_15_code 23 = .ok (.aload_n 0, 1) := by decide +kernel
theorem d_2_15_24 : decode prog_2_method_15_code 24 = .ok (.getfield 7, 3) := by decide +kernel
theorem d_2_15_27 : decode prog_2_method_15_code 27 = .ok (.iload_n 1, 1) := by decide +kernel
theorem d_2_15_28 : decode prog_2_method_15_code 28 = .ok (.iaload, 1) := by decide +kernel
theorem d_2_15_29 : decode prog_2_method_15_code 29 = .ok (.aload_n 0, 1) := by decide +kernel
theorem d_2_15_30 : decode prog_2_method_15_code 30 = .ok (.getfield 7, 3) := by decide +kernel
theorem d_2_15_33 : decode prog_2_method_15_code 33 = .ok (.iload_n 1, 1) := by decide +kernel
theorem d_2_15_34 : decode prog_2_method_15_code 34 = .ok (.iaload, 1) := by decide +kernel
theorem d_2_15_35 : decode prog_2_method_15_code 35 = .ok (.ineg, 1) := by decide +kernel
theorem d_2_15_36 : decode prog_2_method_15_code 36 = .ok (.iand, 1) := by decide +kernel
theorem d_2_15_37 : decode prog_2_method_15_code 37 = .ok (.iconst 1, 1) := by decide +kernel
theorem d_2_15_38 : decode prog_2_method_15_code 38 = .ok (.isub, 1) := by decide +kernel
theorem d_2_15_39 : decode prog_2_method_15_code 39 = .ok (.invokestatic 60, 3) := by decide +kernel
theorem d_2_15_42 : decode prog_2_method_15_code 42 = .ok (.iadd, 1) := by decide +kernel
theorem d_2_15_43 : decode prog_2_method_15_code 43 = .ok (.ireturn, 1) := by decide +kernel
set_option maxRecDepth 100000 in
set_option maxHeartbeats 4000000 in
theorem S_Big_lowestOne (l : Launch) (D : va_G) (g : Nat → ClassId) (sh : List q_Ok) (q : Nat → Nat) (ws : va_W) (k : Nat) (R : Int32) (hB : q_isBig sh g q k R) (hI : q_I sh q ws) : q_mI l y_Big_lowestOne prog_2_method_15_code 2 (.int) 2 0 0 D g [.ref (q k)] ws (fun r u => (0 ≤ r.toInt ∧ r.toInt ≤ 6852) ∧ ws = u) := by
  intro sz
  refine q_into (by decide) (Nat.le_of_ble_eq_true rfl) ?_
  intro p e s m below meth c ls hsz C0 V hl
  have hx := C0.1
  have hb := C0.2.1
  have hR : q_F (0 ≤ R.toInt ∧ R.toInt ≤ 220) := hB.2.2
  have hl : lv_has ls 2 [(0, .ref (q k))] := hl
  refine lv_iconst (v := 0) hx hb d_2_15_0 (by decide) ?_
  refine lv_istore_n (lv' := [(1, .int 0), (0, .ref (q k))]) hx hb d_2_15_1 rfl hl (by decide) rfl (fun ls hl => ?_)
  refine q_loop (X := Int32) (fun z H locs ls _ => q_F (0 ≤ z.toInt) ∧ q_F (0 ≤ R.toInt + (-1 * z.toInt)) ∧ q_Wd D g (va_A ws sz) s ws H locs ∧ lv_has ls 2 [(1, .int z), (0, .ref (q k))]) (fun z => (R.toInt - z.toInt).toNat) ?_ ((0 : Int32)) _ _ _ ws ⟨(show q_F (0 ≤ 0) from (show 0 ≤ 0 from by omega)), (show q_F (0 ≤ R.toInt + (-1 * 0)) from (show 0 ≤ R.toInt + (-1 * 0) from by have t1 : 0 ≤ R.toInt ∧ R.toInt ≤ 220 := hR; omega)), V, hl⟩
  rintro x1 H locs ls _ ⟨i260, i261, V, hl⟩ ih262
  replace i260 : q_F (0 ≤ x1.toInt) := i260
  replace i261 : q_F (0 ≤ R.toInt + (-1 * x1.toInt)) := i261
  replace hl : lv_has ls 2 [(1, .int x1), (0, .ref (q k))] := hl
  refine lv_iload_n hx hb d_2_15_2 rfl (lv_at hl 0 rfl) ?_
  refine lv_aload_n hx hb d_2_15_3 rfl (lv_at hl 1 rfl) ?_
  obtain ⟨y263, y264, hO265, b266, b267⟩ := q_bigO hI hB
  replace b266 : q_F (0 ≤ y263.toInt ∧ y263.toInt ≤ R.toInt) := b266
  replace b267 : q_F (0 ≤ y264.toInt ∧ y264.toInt ≤ 1) := b267
  refine q_get (ci := 2) (j := 1) (v := .int y263) C0 V i_Big rfl rfl hO265 (by decide) w_85 rfl d_2_15_4 ?_
  refine lv_icmp_ge (tgt := 50) hx hb d_2_15_7 (by decide) (fun c268 => ?_) (fun c268 => ?_)
  ·
    have b269 : q_F (y263.toInt ≤ x1.toInt) := (q_leI c268)
    refine lv_iconst (v := 0) hx hb d_2_15_50 (by decide) ?_
    exact q_reti C0 V (⟨show 0 ≤ (0 : Int32).toInt ∧ (0 : Int32).toInt ≤ 6852 from (by have z9 : (0 : Int32).toInt = 0 := rfl; omega), rfl⟩) d_2_15_51
  ·
    have b270 : q_F (x1.toInt < y263.toInt) := (q_nleI c268)
    refine lv_aload_n hx hb d_2_15_10 rfl (lv_at hl 1 rfl) ?_
    refine q_get (ci := 2) (j := 0) (v := .ref (q (k + 1))) C0 V i_Big rfl rfl hO265 (by decide) w_84 rfl d_2_15_11 ?_
    refine lv_iload_n hx hb d_2_15_14 rfl (lv_at hl 0 rfl) ?_
    obtain ⟨f271, hA272, bf273⟩ := q_bigA hI hB
    refine q_iald C0 V hA272 (q_ix (x := x1.toInt) rfl (by have t1 : 0 ≤ x1.toInt := i260; omega) (by have t1 : 0 ≤ x1.toInt := i260; have t2 : 0 ≤ y263.toInt ∧ y263.toInt ≤ R.toInt := b266; have t3 : x1.toInt < y263.toInt := b270; have e9 := q_clI (i := R) rfl (by have t1 : 0 ≤ R.toInt ∧ R.toInt ≤ 220 := hR; omega); omega)) d_2_15_15 ?_
    obtain ⟨a274, e275⟩ := q_nm (f271 x1.toNatClampNeg : Int32)
    refine q_ti (v := a274) e275 ?_
    have b276 : q_F (0 ≤ a274.toInt ∧ a274.toInt ≤ 2147483647) := (by rw [← e275]; show 0 ≤ (f271 x1.toNatClampNeg : Int32).toInt ∧ (f271 x1.toNatClampNeg : Int32).toInt ≤ 2147483647; exact bf273 _)
    refine lv_if_eq (tgt := 44) hx hb d_2_15_16 (by decide) (fun c277 => ?_) (fun c277 => ?_)
    ·
      have b278 : q_F (a274.toInt = 0) := (q_eqI c277)
      obtain ⟨a279, e280⟩ := q_nm (x1 + 1 : Int32)
      have b281 : q_F (a279.toInt = x1.toInt + 1) := (by rw [← e280]; exact q_addI (y := 1) rfl (by decide) (by have t1 : 0 ≤ R.toInt ∧ R.toInt ≤ 220 := hR; have t2 : 0 ≤ x1.toInt := i260; have t3 : 0 ≤ R.toInt + (-1 * x1.toInt) := i261; omega) (by have t1 : 0 ≤ R.toInt ∧ R.toInt ≤ 220 := hR; have t2 : 0 ≤ x1.toInt := i260; have t3 : 0 ≤ R.toInt + (-1 * x1.toInt) := i261; omega))
      refine lv_iinc (v := a279) (lv' := [(1, .int a279), (0, .ref (q k))]) hx hb d_2_15_44 hl (k := 0) rfl (e280) (by decide) rfl (fun ls hl => ?_)
      refine lv_goto (tgt := 2) hx hb d_2_15_47 (by decide) ?_
      exact ih262 ((a279 : Int32)) _ _ _ ws (show (R.toInt - a279.toInt).toNat < (R.toInt - x1.toInt).toNat from by have t1 : 0 ≤ y263.toInt ∧ y263.toInt ≤ R.toInt := b266; have t2 : x1.toInt < y263.toInt := b270; have t3 : a279.toInt = x1.toInt + 1 := b281; omega) ⟨(show q_F (0 ≤ a279.toInt) from (show 0 ≤ a279.toInt from by have t1 : 0 ≤ x1.toInt := i260; have t2 : a279.toInt = x1.toInt + 1 := b281; omega)), (show q_F (0 ≤ R.toInt + (-1 * a279.toInt)) from (show 0 ≤ R.toInt + (-1 * a279.toInt) from by have t1 : 0 ≤ y263.toInt ∧ y263.toInt ≤ R.toInt := b266; have t2 : x1.toInt < y263.toInt := b270; have t3 : a279.toInt = x1.toInt + 1 := b281; omega)), V, q_lw hl (q_lw1 0 rfl (q_lw1 1 rfl q_lw0))⟩
    ·
      have b282 : q_F (a274.toInt ≠ 0) := (q_neI c277)
      refine lv_iload_n hx hb d_2_15_19 rfl (lv_at hl 0 rfl) ?_
      refine lv_bipush (v := 31) hx hb d_2_15_20 (by decide) ?_
      refine lv_imul hx hb d_2_15_22 ?_
      obtain ⟨a283, e284⟩ := q_nm (x1 * 31 : Int32)
      refine q_ti (v := a283) e284 ?_
      have b285 : q_F (a283.toInt = x1.toInt * 31) := (by rw [← e284]; show (x1 * 31 : Int32).toInt = x1.toInt * 31; exact q_mulI (x := x1.toInt) (y := 31) rfl (by decide) (by have t1 : 0 ≤ R.toInt ∧ R.toInt ≤ 220 := hR; have t2 : 0 ≤ x1.toInt := i260; have t3 : 0 ≤ R.toInt + (-1 * x1.toInt) := i261; omega) (by have t1 : 0 ≤ R.toInt ∧ R.toInt ≤ 220 := hR; have t2 : 0 ≤ x1.toInt := i260; have t3 : 0 ≤ R.toInt + (-1 * x1.toInt) := i261; omega))
      refine lv_aload_n hx hb d_2_15_23 rfl (lv_at hl 1 rfl) ?_
      refine q_get (ci := 2) (j := 0) (v := .ref (q (k + 1))) C0 V i_Big rfl rfl hO265 (by decide) w_84 rfl d_2_15_24 ?_
      refine lv_iload_n hx hb d_2_15_27 rfl (lv_at hl 0 rfl) ?_
      refine q_iald C0 V hA272 (q_ix (x := x1.toInt) rfl (by have t1 : 0 ≤ x1.toInt := i260; omega) (by have t1 : 0 ≤ x1.toInt := i260; have t2 : 0 ≤ y263.toInt ∧ y263.toInt ≤ R.toInt := b266; have t3 : x1.toInt < y263.toInt := b270; have e9 := q_clI (i := R) rfl (by have t1 : 0 ≤ R.toInt ∧ R.toInt ≤ 220 := hR; omega); omega)) d_2_15_28 ?_
      obtain ⟨a286, e287⟩ := q_nm (f271 x1.toNatClampNeg : Int32)
      refine q_ti (v := a286) e287 ?_
      have b288 : q_F (0 ≤ a286.toInt ∧ a286.toInt ≤ 2147483647) := (by rw [← e287]; show 0 ≤ (f271 x1.toNatClampNeg : Int32).toInt ∧ (f271 x1.toNatClampNeg : Int32).toInt ≤ 2147483647; exact bf273 _)
      refine lv_aload_n hx hb d_2_15_29 rfl (lv_at hl 1 rfl) ?_
      refine q_get (ci := 2) (j := 0) (v := .ref (q (k + 1))) C0 V i_Big rfl rfl hO265 (by decide) w_84 rfl d_2_15_30 ?_
      refine lv_iload_n hx hb d_2_15_33 rfl (lv_at hl 0 rfl) ?_
      refine q_iald C0 V hA272 (q_ix (x := x1.toInt) rfl (by have t1 : 0 ≤ x1.toInt := i260; omega) (by have t1 : 0 ≤ x1.toInt := i260; have t2 : 0 ≤ y263.toInt ∧ y263.toInt ≤ R.toInt := b266; have t3 : x1.toInt < y263.toInt := b270; have e9 := q_clI (i := R) rfl (by have t1 : 0 ≤ R.toInt ∧ R.toInt ≤ 220 := hR; omega); omega)) d_2_15_34 ?_
      obtain ⟨a289, e290⟩ := q_nm (f271 x1.toNatClampNeg : Int32)
      refine q_ti (v := a289) e290 ?_
      have b291 : q_F (0 ≤ a289.toInt ∧ a289.toInt ≤ 2147483647) := (by rw [← e290]; show 0 ≤ (f271 x1.toNatClampNeg : Int32).toInt ∧ (f271 x1.toNatClampNeg : Int32).toInt ≤ 2147483647; exact bf273 _)
      refine lv_ineg hx hb d_2_15_35 ?_
      obtain ⟨a292, e293⟩ := q_nm (-a289 : Int32)
      refine q_ti (v := a292) e293 ?_
      have b294 : q_F (a292.toInt = -a289.toInt) := (by rw [← e293]; show (-a289 : Int32).toInt = -a289.toInt; exact q_negI rfl (by have t1 : 0 ≤ a289.toInt ∧ a289.toInt ≤ 2147483647 := b291; omega))
      refine lv_iand hx hb d_2_15_36 ?_
      obtain ⟨a295, e296⟩ := q_nm (a286 &&& a292 : Int32)
      refine q_ti (v := a295) e296 ?_
      refine lv_iconst (v := 1) hx hb d_2_15_37 (by decide) ?_
      refine lv_isub hx hb d_2_15_38 ?_
      obtain ⟨a297, e298⟩ := q_nm (a295 - 1 : Int32)
      refine q_ti (v := a297) e298 ?_
      refine q_goi V (q_runS (As := [.int a297]) (rest := [.int a283]) (d := 1) (mc := 0) (ms := 0) C0 V rfl LS_Big_60 (S_Int_bitCount l D g sh q ws a297 hI  _) rfl hl.1 rfl (Nat.le_of_ble_eq_true rfl) ⟨by decide, by decide⟩ ⟨Nat.le_of_ble_eq_true rfl, Nat.le_of_ble_eq_true rfl⟩ d_2_15_39) (fun a301 u299 H locs hp300 V => ?_)
      obtain ⟨b302, rfl⟩ := hp300
      replace b302 : q_F (0 ≤ a301.toInt ∧ a301.toInt ≤ 63) := b302
      refine lv_iadd hx hb d_2_15_42 ?_
      obtain ⟨a303, e304⟩ := q_nm (a283 + a301 : Int32)
      refine q_ti (v := a303) e304 ?_
      have b305 : q_F (a303.toInt = a283.toInt + a301.toInt) := (by rw [← e304]; show (a283 + a301 : Int32).toInt = a283.toInt + a301.toInt; exact q_addI (x := a283.toInt) (y := a301.toInt) rfl rfl (by have t1 : 0 ≤ R.toInt ∧ R.toInt ≤ 220 := hR; have t2 : 0 ≤ x1.toInt := i260; have t3 : 0 ≤ R.toInt + (-1 * x1.toInt) := i261; have t4 : a283.toInt = x1.toInt * 31 := b285; have t5 : 0 ≤ a301.toInt ∧ a301.toInt ≤ 63 := b302; omega) (by have t1 : 0 ≤ R.toInt ∧ R.toInt ≤ 220 := hR; have t2 : 0 ≤ x1.toInt := i260; have t3 : 0 ≤ R.toInt + (-1 * x1.toInt) := i261; have t4 : a283.toInt = x1.toInt * 31 := b285; have t5 : 0 ≤ a301.toInt ∧ a301.toInt ≤ 63 := b302; omega))
      exact q_reti C0 V (⟨show 0 ≤ a303.toInt ∧ a303.toInt ≤ 6852 from (by have t1 : 0 ≤ R.toInt ∧ R.toInt ≤ 220 := hR; have t2 : 0 ≤ x1.toInt := i260; have t3 : 0 ≤ y263.toInt ∧ y263.toInt ≤ R.toInt := b266; have t4 : x1.toInt < y263.toInt := b270; have t5 : a283.toInt = x1.toInt * 31 := b285; have t6 : 0 ≤ a301.toInt ∧ a301.toInt ≤ 63 := b302; have t7 : a303.toInt = a283.toInt + a301.toInt := b305; omega), rfl⟩) d_2_15_43
theorem d_2_14_12 : decode prog_2_method_14_code 12 = .ok (.aload_n 0, 1) := by decide +kernel
theorem d_2_14_13 : decode prog_2_method_14_code 13 = .ok (.invokevirtual 68, 3) := by decide +kernel
theorem w_754 : (Cond.code ({ cls := "NumberHouse$Big", name := "lowestOne", desc := "()I" } : MethodName) prog_2_method_15_code (2 : Nat) (some .int)) ∈ q_tbl := q_of 754 (by decide +kernel) (by decide +kernel)
theorem w_1063 : (Cond.methodLink "NumberHouse$Big" (68 : Nat) ({ cls := "NumberHouse$Big", name := "lowestOne", desc := "()I" } : MethodName)) ∈ q_tbl := q_of 1063 (by decide +kernel) (by decide +kernel)
theorem w_752 : (Cond.instanceMethod ({ cls := "NumberHouse$Big", name := "lowestOne", desc := "()I" } : MethodName)) ∈ q_tbl := q_of 752 (by decide +kernel) (by decide +kernel)
theorem w_753 : (Cond.selects "NumberHouse$Big" ({ cls := "NumberHouse$Big", name := "lowestOne", desc := "()I" } : MethodName) ({ cls := "NumberHouse$Big", name := "lowestOne", desc := "()I" } : MethodName)) ∈ q_tbl := q_of 753 (by decide +kernel) (by decide +kernel)
theorem LV_Big_68 : q_LV "NumberHouse$Big" 68 y_Big_lowestOne prog_2_method_15_code 2 (some .int) 0 := ⟨w_754, w_4, w_1063, w_752, w_753, ⟨by decide, by decide, by decide +kernel⟩⟩
theorem d_2_14_16 : decode prog_2_method_14_code 16 = .ok (.iload_n 1, 1) := by decide +kernel
theorem d_2_14_17 : decode prog_2_method_14_code 17 = .ok (.iconst 1, 1) := by decide +kernel
theorem d_2_14_18 : decode prog_2_method_14_code 18 = .ok (.isub, 1) := by decide +kernel
theorem d_2_14_19 : decode prog_2_method_14_code 19 = .ok (.if_icmp .ne 9, 3) := by decide +kernel
theorem d_2_14_22 : decode prog_2_method_14_code 22 = .ok (.iload_n 1, 1) := by decide +kernel
theorem d_2_14_23 : decode prog_2_method_14_code 23 = .ok (.iconst 1, 1) := by decide +kernel
theorem d_2_14_24 : decode prog_2_method_14_code 24 = .ok (.isub, 1) := by decide +kernel
theorem d_2_14_25 : decode prog_2_method_14_code 25 = .ok (.goto 4, 3) := by decide +kernel
set_option maxRecDepth 100000 in
set_option maxHeartbeats 4000000 in
theorem S_Big_lengthInBits (l : Launch) (D : va_G) (g : Nat → ClassId) (sh : List q_Ok) (q : Nat → Nat) (ws : va_W) (k : Nat) (R : Int32) (hB : q_isBig sh g q k R) (hI : q_I sh q ws) : q_mI l y_Big_lengthInBits prog_2_method_14_code 2 (.int) 4 0 0 D g [.ref (q k)] ws (fun r u => (-1 ≤ r.toInt ∧ r.toInt ≤ 6852) ∧ ws = u) := by
  intro sz
  refine q_into (by decide) (Nat.le_of_ble_eq_true rfl) ?_
  intro p e s m below meth c ls hsz C0 V hl
  have hx := C0.1
  have hb := C0.2.1
  have hR : q_F (0 ≤ R.toInt ∧ R.toInt ≤ 220) := hB.2.2
  have hl : lv_has ls 2 [(0, .ref (q k))] := hl
  refine lv_aload_n hx hb d_2_14_0 rfl (lv_at hl 0 rfl) ?_
  obtain ⟨y4, y5, hO6, b7, b8⟩ := q_bigO hI hB
  replace b7 : q_F (0 ≤ y4.toInt ∧ y4.toInt ≤ R.toInt) := b7
  replace b8 : q_F (0 ≤ y5.toInt ∧ y5.toInt ≤ 1) := b8
  refine q_goi V (q_runV (As := []) (rest := []) (d := 3) (mc := 0) (ms := 0) (ci := 2) C0 V rfl LV_Big_65 (S_Big_bitLength l D g sh q ws k R hB hI  _) rfl rfl hO6 rfl hl.1 rfl (Nat.le_of_ble_eq_true rfl) ⟨by decide, by decide⟩ ⟨Nat.le_of_ble_eq_true rfl, Nat.le_of_ble_eq_true rfl⟩ d_2_14_1) (fun a3 u1 H locs hp2 V => ?_)
  obtain ⟨b9, rfl⟩ := hp2
  replace b9 : q_F (0 ≤ a3.toInt ∧ a3.toInt ≤ 6852) := b9
  refine lv_istore_n (lv' := [(1, .int a3), (0, .ref (q k))]) hx hb d_2_14_4 rfl hl (by decide) rfl (fun ls hl => ?_)
  refine lv_aload_n hx hb d_2_14_5 rfl (lv_at hl 1 rfl) ?_
  refine q_get (ci := 2) (j := 2) (v := .int y5) C0 V i_Big rfl rfl hO6 (by decide) w_94 rfl d_2_14_6 ?_
  refine lv_if_eq (tgt := 28) hx hb d_2_14_9 (by decide) (fun c10 => ?_) (fun c10 => ?_)
  ·
    have b11 : q_F (y5.toInt = 0) := (q_eqI c10)
    refine lv_iload_n hx hb d_2_14_28 rfl (lv_at hl 0 rfl) ?_
    exact q_reti C0 V (⟨show -1 ≤ a3.toInt ∧ a3.toInt ≤ 6852 from (by have t1 : 0 ≤ a3.toInt ∧ a3.toInt ≤ 6852 := b9; omega), rfl⟩) d_2_14_29
  ·
    have b12 : q_F (y5.toInt ≠ 0) := (q_neI c10)
    refine lv_aload_n hx hb d_2_14_12 rfl (lv_at hl 1 rfl) ?_
    refine q_goi V (q_runV (As := []) (rest := []) (d := 2) (mc := 0) (ms := 0) (ci := 2) C0 V rfl LV_Big_68 (S_Big_lowestOne l D g sh q ws k R hB hI  _) rfl rfl hO6 rfl hl.1 rfl (Nat.le_of_ble_eq_true rfl) ⟨by decide, by decide⟩ ⟨Nat.le_of_ble_eq_true rfl, Nat.le_of_ble_eq_true rfl⟩ d_2_14_13) (fun a15 u13 H locs hp14 V => ?_)
    obtain ⟨b16, rfl⟩ := hp14
    replace b16 : q_F (0 ≤ a15.toInt ∧ a15.toInt ≤ 6852) := b16
    refine lv_iload_n hx hb d_2_14_16 rfl (lv_at hl 0 rfl) ?_
    refine lv_iconst (v := 1) hx hb d_2_14_17 (by decide) ?_
    refine lv_isub hx hb d_2_14_18 ?_
    obtain ⟨a17, e18⟩ := q_nm (a3 - 1 : Int32)
    refine q_ti (v := a17) e18 ?_
    have b19 : q_F (a17.toInt = a3.toInt - 1) := (by rw [← e18]; show (a3 - 1 : Int32).toInt = a3.toInt - 1; exact q_subI (x := a3.toInt) (y := 1) rfl (by decide) (by have t1 : 0 ≤ a3.toInt ∧ a3.toInt ≤ 6852 := b9; omega) (by have t1 : 0 ≤ a3.toInt ∧ a3.toInt ≤ 6852 := b9; omega))
    refine lv_icmp_ne (tgt := 28) hx hb d_2_14_19 (by decide) (fun c20 => ?_) (fun c20 => ?_)
    ·
      have b21 : q_F (a15.toInt ≠ a17.toInt) := (q_neI c20)
      refine lv_iload_n hx hb d_2_14_28 rfl (lv_at hl 0 rfl) ?_
      exact q_reti C0 V (⟨show -1 ≤ a3.toInt ∧ a3.toInt ≤ 6852 from (by have t1 : 0 ≤ a3.toInt ∧ a3.toInt ≤ 6852 := b9; omega), rfl⟩) d_2_14_29
    ·
      have b22 : q_F (a15.toInt = a17.toInt) := (q_eqI c20)
      refine lv_iload_n hx hb d_2_14_22 rfl (lv_at hl 0 rfl) ?_
      refine lv_iconst (v := 1) hx hb d_2_14_23 (by decide) ?_
      refine lv_isub hx hb d_2_14_24 ?_
      obtain ⟨a23, e24⟩ := q_nm (a3 - 1 : Int32)
      refine q_ti (v := a23) e24 ?_
      have b25 : q_F (a23.toInt = a3.toInt - 1) := (by rw [← e24]; show (a3 - 1 : Int32).toInt = a3.toInt - 1; exact q_subI (x := a3.toInt) (y := 1) rfl (by decide) (by have t1 : 0 ≤ a3.toInt ∧ a3.toInt ≤ 6852 := b9; omega) (by have t1 : 0 ≤ a3.toInt ∧ a3.toInt ≤ 6852 := b9; omega))
      refine lv_goto (tgt := 29) hx hb d_2_14_25 (by decide) ?_
      exact q_reti C0 V (⟨show -1 ≤ a23.toInt ∧ a23.toInt ≤ 6852 from (by have t1 : 0 ≤ a3.toInt ∧ a3.toInt ≤ 6852 := b9; have t2 : a23.toInt = a3.toInt - 1 := b25; omega), rfl⟩) d_2_14_29
theorem d_2_11_13 : decode prog_2_method_11_code 13 = .ok (.iconst 0, 1) := by decide +kernel
set_option maxRecDepth 100000 in
set_option maxHeartbeats 4000000 in
theorem S_Big_fitsLong (l : Launch) (D : va_G) (g : Nat → ClassId) (sh : List q_Ok) (q : Nat → Nat) (ws : va_W) (k : Nat) (R : Int32) (hB : q_isBig sh g q k R) (hI : q_I sh q ws) : q_mI l y_Big_fitsLong prog_2_method_11_code 1 (.boolean) 5 0 0 D g [.ref (q k)] ws (fun r u => (0 ≤ r.toInt ∧ r.toInt ≤ 1) ∧ ws = u) := by
  intro sz
  refine q_into (by decide) (Nat.le_of_ble_eq_true rfl) ?_
  intro p e s m below meth c ls hsz C0 V hl
  have hx := C0.1
  have hb := C0.2.1
  have hR : q_F (0 ≤ R.toInt ∧ R.toInt ≤ 220) := hB.2.2
  have hl : lv_has ls 1 [(0, .ref (q k))] := hl
  refine lv_aload_n hx hb d_2_11_0 rfl (lv_at hl 0 rfl) ?_
  obtain ⟨y4, y5, hO6, b7, b8⟩ := q_bigO hI hB
  replace b7 : q_F (0 ≤ y4.toInt ∧ y4.toInt ≤ R.toInt) := b7
  replace b8 : q_F (0 ≤ y5.toInt ∧ y5.toInt ≤ 1) := b8
  refine q_goi V (q_runV (As := []) (rest := []) (d := 4) (mc := 0) (ms := 0) (ci := 2) C0 V rfl LV_Big_53 (S_Big_lengthInBits l D g sh q ws k R hB hI  _) rfl rfl hO6 rfl hl.1 rfl (Nat.le_of_ble_eq_true rfl) ⟨by decide, by decide⟩ ⟨Nat.le_of_ble_eq_true rfl, Nat.le_of_ble_eq_true rfl⟩ d_2_11_1) (fun a3 u1 H locs hp2 V => ?_)
  obtain ⟨b9, rfl⟩ := hp2
  replace b9 : q_F (-1 ≤ a3.toInt ∧ a3.toInt ≤ 6852) := b9
  refine lv_bipush (v := 63) hx hb d_2_11_4 (by decide) ?_
  refine lv_icmp_gt (tgt := 13) hx hb d_2_11_6 (by decide) (fun c10 => ?_) (fun c10 => ?_)
  ·
    have b11 : q_F (63 < a3.toInt) := (q_ltI c10)
    refine lv_iconst (v := 0) hx hb d_2_11_13 (by decide) ?_
    exact q_retz C0 V (by decide) (⟨show 0 ≤ (0 : Int32).toInt ∧ (0 : Int32).toInt ≤ 1 from (by have z9 : (0 : Int32).toInt = 0 := rfl; omega), rfl⟩) d_2_11_14
  ·
    have b12 : q_F (a3.toInt ≤ 63) := (q_nltI c10)
    refine lv_iconst (v := 1) hx hb d_2_11_9 (by decide) ?_
    refine lv_goto (tgt := 14) hx hb d_2_11_10 (by decide) ?_
    exact q_retz C0 V (by decide) (⟨show 0 ≤ (1 : Int32).toInt ∧ (1 : Int32).toInt ≤ 1 from (by have z9 : (1 : Int32).toInt = 1 := rfl; omega), rfl⟩) d_2_11_14
theorem d_2_17_0 : decode prog_2_method_17_code 0 = .ok (.aload_n 0, 1) := by decide +kernel
theorem d_2_17_1 : decode prog_2_method_17_code 1 = .ok (.iload_n 1, 1) := by decide +kernel
theorem d_2_17_2 : decode prog_2_method_17_code 2 = .ok (.bipush 31, 2) := by decide +kernel
theorem d_2_17_4 : decode prog_2_method_17_code 4 = .ok (.idiv, 1) := by decide +kernel
theorem d_2_17_5 : decode prog_2_method_17_code 5 = .ok (.invokevirtual 49, 3) := by decide +kernel
theorem d_2_17_8 : decode prog_2_method_17_code 8 = .ok (.iload_n 1, 1) := by decide +kernel
theorem d_2_17_9 : decode prog_2_method_17_code 9 = .ok (.bipush 31, 2) := by decide +kernel
theorem d_2_17_11 : decode prog_2_method_17_code 11 = .ok (.irem, 1) := by decide +kernel
theorem d_2_17_12 : decode prog_2_method_17_code 12 = .ok (.iushr, 1) := by decide +kernel
theorem d_2_17_13 : decode prog_2_method_17_code 13 = .ok (.iconst 1, 1) := by decide +kernel
theorem d_2_17_14 : decode prog_2_method_17_code 14 = .ok (.iand, 1) := by decide +kernel
theorem d_2_17_15 : decode prog_2_method_17_code 15 = .ok (.ireturn, 1) := by decide +kernel
def y_Big_bit : MethodName := ⟨"NumberHouse$Big", "bit", "(I)I"⟩
set_option maxRecDepth 100000 in
set_option maxHeartbeats 4000000 in
theorem S_Big_bit (l : Launch) (D : va_G) (g : Nat → ClassId) (sh : List q_Ok) (q : Nat → Nat) (ws : va_W) (k : Nat) (R : Int32) (hB : q_isBig sh g q k R) (x1 : Int32) (hI : q_I sh q ws) : q_mI l y_Big_bit prog_2_method_17_code 2 (.int) 2 0 0 D g [.ref (q k), .int x1] ws (fun r u => (0 ≤ r.toInt ∧ r.toInt ≤ 1) ∧ ws = u) := by
  intro sz
  refine q_into (by decide) (Nat.le_of_ble_eq_true rfl) ?_
  intro p e s m below meth c ls hsz C0 V hl
  have hx := C0.1
  have hb := C0.2.1
  have hR : q_F (0 ≤ R.toInt ∧ R.toInt ≤ 220) := hB.2.2
  have hl : lv_has ls 2 [(0, .ref (q k)), (1, .int x1)] := hl
  refine lv_aload_n hx hb d_2_17_0 rfl (lv_at hl 0 rfl) ?_
  refine lv_iload_n hx hb d_2_17_1 rfl (lv_at hl 1 rfl) ?_
  refine lv_bipush (v := 31) hx hb d_2_17_2 (by decide) ?_
  refine lv_idiv hx hb d_2_17_4 (by decide) ?_
  obtain ⟨a1, e2⟩ := q_nm (x1 / 31 : Int32)
  refine q_ti (v := a1) e2 ?_
  obtain ⟨y6, y7, hO8, b9, b10⟩ := q_bigO hI hB
  replace b9 : q_F (0 ≤ y6.toInt ∧ y6.toInt ≤ R.toInt) := b9
  replace b10 : q_F (0 ≤ y7.toInt ∧ y7.toInt ≤ 1) := b10
  refine q_goi V (q_runV (As := [.int a1]) (rest := []) (d := 1) (mc := 0) (ms := 0) (ci := 2) C0 V rfl LV_Big_49 (S_Big_limb l D g sh q ws k R hB a1 hI  _) rfl rfl hO8 rfl hl.1 rfl (Nat.le_of_ble_eq_true rfl) ⟨by decide, by decide⟩ ⟨Nat.le_of_ble_eq_true rfl, Nat.le_of_ble_eq_true rfl⟩ d_2_17_5) (fun a5 u3 H locs hp4 V => ?_)
  obtain ⟨b11, rfl⟩ := hp4
  replace b11 : q_F (0 ≤ a5.toInt ∧ a5.toInt ≤ 2147483647) := b11
  refine lv_iload_n hx hb d_2_17_8 rfl (lv_at hl 1 rfl) ?_
  refine lv_bipush (v := 31) hx hb d_2_17_9 (by decide) ?_
  refine lv_irem hx hb d_2_17_11 (by decide) ?_
  obtain ⟨a12, e13⟩ := q_nm (x1 - x1 / 31 * 31 : Int32)
  refine q_ti (v := a12) e13 ?_
  refine lv_iushr hx hb d_2_17_12 rfl ?_
  obtain ⟨a14, e15⟩ := q_nm ((a5.toUInt32 >>> (a12.toUInt32 &&& Int32.toUInt32 31)).toInt32 : Int32)
  refine q_ti (v := a14) e15 ?_
  refine lv_iconst (v := 1) hx hb d_2_17_13 (by decide) ?_
  refine lv_iand hx hb d_2_17_14 ?_
  obtain ⟨a16, e17⟩ := q_nm (a14 &&& 1 : Int32)
  refine q_ti (v := a16) e17 ?_
  have b18 : q_F (0 ≤ a16.toInt ∧ a16.toInt ≤ 1) := (by rw [← e17]; show 0 ≤ (a14 &&& 1 : Int32).toInt ∧ (a14 &&& 1 : Int32).toInt ≤ 1; exact s_and (by decide))
  exact q_reti C0 V (⟨show 0 ≤ a16.toInt ∧ a16.toInt ≤ 1 from (by have t1 : 0 ≤ a16.toInt ∧ a16.toInt ≤ 1 := b18; omega), rfl⟩) d_2_17_15
set_option maxRecDepth 100000 in
set_option maxHeartbeats 4000000 in
theorem S_Big_compareSize (l : Launch) (D : va_G) (g : Nat → ClassId) (sh : List q_Ok) (q : Nat → Nat) (ws : va_W) (k : Nat) (R : Int32) (hB : q_isBig sh g q k R) (j : Nat) (Q : Int32) (hJ : q_isBig sh g q j Q) (hI : q_I sh q ws) : q_mI l y_Big_compareSize prog_2_method_21_code 3 (.int) 2 0 0 D g [.ref (q k), .ref (q j)] ws (fun r u => (-1 ≤ r.toInt ∧ r.toInt ≤ 1) ∧ ws = u) := by
  intro sz
  refine q_into (by decide) (Nat.le_of_ble_eq_true rfl) ?_
  intro p e s m below meth c ls hsz C0 V hl
  have hx := C0.1
  have hb := C0.2.1
  have hR : q_F (0 ≤ R.toInt ∧ R.toInt ≤ 220) := hB.2.2
  have hQ : q_F (0 ≤ Q.toInt ∧ Q.toInt ≤ 220) := hJ.2.2
  have hl : lv_has ls 3 [(0, .ref (q k)), (1, .ref (q j))] := hl
  refine lv_aload_n hx hb d_2_21_0 rfl (lv_at hl 0 rfl) ?_
  obtain ⟨y1, y2, hO3, b4, b5⟩ := q_bigO hI hB
  replace b4 : q_F (0 ≤ y1.toInt ∧ y1.toInt ≤ R.toInt) := b4
  replace b5 : q_F (0 ≤ y2.toInt ∧ y2.toInt ≤ 1) := b5
  refine q_get (ci := 2) (j := 1) (v := .int y1) C0 V i_Big rfl rfl hO3 (by decide) w_85 rfl d_2_21_1 ?_
  refine lv_aload_n hx hb d_2_21_4 rfl (lv_at hl 1 rfl) ?_
  obtain ⟨y6, y7, hO8, b9, b10⟩ := q_bigO hI hJ
  replace b9 : q_F (0 ≤ y6.toInt ∧ y6.toInt ≤ Q.toInt) := b9
  replace b10 : q_F (0 ≤ y7.toInt ∧ y7.toInt ≤ 1) := b10
  refine q_get (ci := 2) (j := 1) (v := .int y6) C0 V i_Big rfl rfl hO8 (by decide) w_85 rfl d_2_21_5 ?_
  refine lv_icmp_eq (tgt := 23) hx hb d_2_21_8 (by decide) (fun c11 => ?_) (fun c11 => ?_)
  ·
    have b12 : q_F (y1.toInt = y6.toInt) := (q_eqI c11)
    refine lv_aload_n hx hb d_2_21_23 rfl (lv_at hl 0 rfl) ?_
    refine q_get (ci := 2) (j := 1) (v := .int y1) C0 V i_Big rfl rfl hO3 (by decide) w_85 rfl d_2_21_24 ?_
    refine lv_iconst (v := 1) hx hb d_2_21_27 (by decide) ?_
    refine lv_isub hx hb d_2_21_28 ?_
    obtain ⟨a13, e14⟩ := q_nm (y1 - 1 : Int32)
    refine q_ti (v := a13) e14 ?_
    have b15 : q_F (a13.toInt = y1.toInt - 1) := (by rw [← e14]; show (y1 - 1 : Int32).toInt = y1.toInt - 1; exact q_subI (x := y1.toInt) (y := 1) rfl (by decide) (by have t1 : 0 ≤ R.toInt ∧ R.toInt ≤ 220 := hR; have t2 : 0 ≤ y1.toInt ∧ y1.toInt ≤ R.toInt := b4; omega) (by have t1 : 0 ≤ R.toInt ∧ R.toInt ≤ 220 := hR; have t2 : 0 ≤ y1.toInt ∧ y1.toInt ≤ R.toInt := b4; omega))
    refine lv_istore_n (lv' := [(2, .int a13), (0, .ref (q k)), (1, .ref (q j))]) hx hb d_2_21_29 rfl hl (by decide) rfl (fun ls hl => ?_)
    refine q_loop (X := Int32) (fun z H locs ls _ => q_F (0 ≤ z.toInt + 1) ∧ q_F (0 ≤ a13.toInt + (-1 * z.toInt)) ∧ q_Wd D g (va_A ws sz) s ws H locs ∧ lv_has ls 3 [(2, .int z), (0, .ref (q k)), (1, .ref (q j))]) (fun z => (z.toInt - ((-1))).toNat) ?_ ((a13 : Int32)) _ _ _ ws ⟨(show q_F (0 ≤ a13.toInt + 1) from (show 0 ≤ a13.toInt + 1 from by have t1 : 0 ≤ y1.toInt ∧ y1.toInt ≤ R.toInt := b4; have t2 : a13.toInt = y1.toInt - 1 := b15; omega)), (show q_F (0 ≤ a13.toInt + (-1 * a13.toInt)) from (show 0 ≤ a13.toInt + (-1 * a13.toInt) from by omega)), V, hl⟩
    rintro x16 H locs ls _ ⟨i140, i141, V, hl⟩ ih142
    replace i140 : q_F (0 ≤ x16.toInt + 1) := i140
    replace i141 : q_F (0 ≤ a13.toInt + (-1 * x16.toInt)) := i141
    replace hl : lv_has ls 3 [(2, .int x16), (0, .ref (q k)), (1, .ref (q j))] := hl
    refine lv_iload_n hx hb d_2_21_30 rfl (lv_at hl 0 rfl) ?_
    refine lv_if_lt (tgt := 71) hx hb d_2_21_31 (by decide) (fun c143 => ?_) (fun c143 => ?_)
    ·
      have b144 : q_F (x16.toInt < 0) := (q_ltI c143)
      refine lv_iconst (v := 0) hx hb d_2_21_71 (by decide) ?_
      exact q_reti C0 V (⟨show -1 ≤ (0 : Int32).toInt ∧ (0 : Int32).toInt ≤ 1 from (by have z9 : (0 : Int32).toInt = 0 := rfl; omega), rfl⟩) d_2_21_72
    ·
      have b145 : q_F (0 ≤ x16.toInt) := (q_nltI c143)
      refine lv_aload_n hx hb d_2_21_34 rfl (lv_at hl 1 rfl) ?_
      obtain ⟨y146, y147, hO148, b149, b150⟩ := q_bigO hI hB
      replace b149 : q_F (0 ≤ y146.toInt ∧ y146.toInt ≤ R.toInt) := b149
      replace b150 : q_F (0 ≤ y147.toInt ∧ y147.toInt ≤ 1) := b150
      refine q_get (ci := 2) (j := 0) (v := .ref (q (k + 1))) C0 V i_Big rfl rfl hO148 (by decide) w_84 rfl d_2_21_35 ?_
      refine lv_iload_n hx hb d_2_21_38 rfl (lv_at hl 0 rfl) ?_
      obtain ⟨f151, hA152, bf153⟩ := q_bigA hI hB
      refine q_iald C0 V hA152 (q_ix (x := x16.toInt) rfl (by have t1 : 0 ≤ x16.toInt := b145; omega) (by have t1 : 0 ≤ y1.toInt ∧ y1.toInt ≤ R.toInt := b4; have t2 : a13.toInt = y1.toInt - 1 := b15; have t3 : 0 ≤ a13.toInt + (-1 * x16.toInt) := i141; have t4 : 0 ≤ x16.toInt := b145; have e9 := q_clI (i := R) rfl (by have t1 : 0 ≤ R.toInt ∧ R.toInt ≤ 220 := hR; omega); omega)) d_2_21_39 ?_
      obtain ⟨a154, e155⟩ := q_nm (f151 x16.toNatClampNeg : Int32)
      refine q_ti (v := a154) e155 ?_
      have b156 : q_F (0 ≤ a154.toInt ∧ a154.toInt ≤ 2147483647) := (by rw [← e155]; show 0 ≤ (f151 x16.toNatClampNeg : Int32).toInt ∧ (f151 x16.toNatClampNeg : Int32).toInt ≤ 2147483647; exact bf153 _)
      refine lv_aload_n hx hb d_2_21_40 rfl (lv_at hl 2 rfl) ?_
      obtain ⟨y157, y158, hO159, b160, b161⟩ := q_bigO hI hJ
      replace b160 : q_F (0 ≤ y157.toInt ∧ y157.toInt ≤ Q.toInt) := b160
      replace b161 : q_F (0 ≤ y158.toInt ∧ y158.toInt ≤ 1) := b161
      refine q_get (ci := 2) (j := 0) (v := .ref (q (j + 1))) C0 V i_Big rfl rfl hO159 (by decide) w_84 rfl d_2_21_41 ?_
      refine lv_iload_n hx hb d_2_21_44 rfl (lv_at hl 0 rfl) ?_
      obtain ⟨f162, hA163, bf164⟩ := q_bigA hI hJ
      refine q_iald C0 V hA163 (q_ix (x := x16.toInt) rfl (by have t1 : 0 ≤ x16.toInt := b145; omega) (by have t1 : 0 ≤ y6.toInt ∧ y6.toInt ≤ Q.toInt := b9; have t2 : y1.toInt = y6.toInt := b12; have t3 : a13.toInt = y1.toInt - 1 := b15; have t4 : 0 ≤ a13.toInt + (-1 * x16.toInt) := i141; have t5 : 0 ≤ x16.toInt := b145; have e9 := q_clI (i := Q) rfl (by have t1 : 0 ≤ Q.toInt ∧ Q.toInt ≤ 220 := hQ; omega); omega)) d_2_21_45 ?_
      obtain ⟨a165, e166⟩ := q_nm (f162 x16.toNatClampNeg : Int32)
      refine q_ti (v := a165) e166 ?_
      have b167 : q_F (0 ≤ a165.toInt ∧ a165.toInt ≤ 2147483647) := (by rw [← e166]; show 0 ≤ (f162 x16.toNatClampNeg : Int32).toInt ∧ (f162 x16.toNatClampNeg : Int32).toInt ≤ 2147483647; exact bf164 _)
      refine lv_icmp_eq (tgt := 65) hx hb d_2_21_46 (by decide) (fun c168 => ?_) (fun c168 => ?_)
      ·
        have b169 : q_F (a154.toInt = a165.toInt) := (q_eqI c168)
        obtain ⟨a170, e171⟩ := q_nm (x16 + (-1) : Int32)
        have b172 : q_F (a170.toInt = x16.toInt + (-1)) := (by rw [← e171]; exact q_addI (y := (-1)) rfl (by decide) (by have t1 : 0 ≤ R.toInt ∧ R.toInt ≤ 220 := hR; have t2 : 0 ≤ y1.toInt ∧ y1.toInt ≤ R.toInt := b4; have t3 : a13.toInt = y1.toInt - 1 := b15; have t4 : 0 ≤ x16.toInt + 1 := i140; have t5 : 0 ≤ a13.toInt + (-1 * x16.toInt) := i141; omega) (by have t1 : 0 ≤ R.toInt ∧ R.toInt ≤ 220 := hR; have t2 : 0 ≤ y1.toInt ∧ y1.toInt ≤ R.toInt := b4; have t3 : a13.toInt = y1.toInt - 1 := b15; have t4 : 0 ≤ x16.toInt + 1 := i140; have t5 : 0 ≤ a13.toInt + (-1 * x16.toInt) := i141; omega))
        refine lv_iinc (v := a170) (lv' := [(2, .int a170), (0, .ref (q k)), (1, .ref (q j))]) hx hb d_2_21_65 hl (k := 0) rfl (e171) (by decide) rfl (fun ls hl => ?_)
        refine lv_goto (tgt := 30) hx hb d_2_21_68 (by decide) ?_
        exact ih142 ((a170 : Int32)) _ _ _ ws (show (a170.toInt - ((-1))).toNat < (x16.toInt - ((-1))).toNat from by have t1 : 0 ≤ x16.toInt := b145; have t2 : a170.toInt = x16.toInt + (-1) := b172; omega) ⟨(show q_F (0 ≤ a170.toInt + 1) from (show 0 ≤ a170.toInt + 1 from by have t1 : 0 ≤ x16.toInt := b145; have t2 : a170.toInt = x16.toInt + (-1) := b172; omega)), (show q_F (0 ≤ a13.toInt + (-1 * a170.toInt)) from (show 0 ≤ a13.toInt + (-1 * a170.toInt) from by have t1 : 0 ≤ a13.toInt + (-1 * x16.toInt) := i141; have t2 : a170.toInt = x16.toInt + (-1) := b172; omega)), V, q_lw hl (q_lw1 0 rfl (q_lw1 1 rfl (q_lw1 2 rfl q_lw0)))⟩
      ·
        have b173 : q_F (a154.toInt ≠ a165.toInt) := (q_neI c168)
        refine lv_aload_n hx hb d_2_21_49 rfl (lv_at hl 1 rfl) ?_
        refine q_get (ci := 2) (j := 0) (v := .ref (q (k + 1))) C0 V i_Big rfl rfl hO148 (by decide) w_84 rfl d_2_21_50 ?_
        refine lv_iload_n hx hb d_2_21_53 rfl (lv_at hl 0 rfl) ?_
        refine q_iald C0 V hA152 (q_ix (x := x16.toInt) rfl (by have t1 : 0 ≤ x16.toInt := b145; omega) (by have t1 : 0 ≤ y1.toInt ∧ y1.toInt ≤ R.toInt := b4; have t2 : a13.toInt = y1.toInt - 1 := b15; have t3 : 0 ≤ a13.toInt + (-1 * x16.toInt) := i141; have t4 : 0 ≤ x16.toInt := b145; have e9 := q_clI (i := R) rfl (by have t1 : 0 ≤ R.toInt ∧ R.toInt ≤ 220 := hR; omega); omega)) d_2_21_54 ?_
        obtain ⟨a174, e175⟩ := q_nm (f151 x16.toNatClampNeg : Int32)
        refine q_ti (v := a174) e175 ?_
        have b176 : q_F (0 ≤ a174.toInt ∧ a174.toInt ≤ 2147483647) := (by rw [← e175]; show 0 ≤ (f151 x16.toNatClampNeg : Int32).toInt ∧ (f151 x16.toNatClampNeg : Int32).toInt ≤ 2147483647; exact bf153 _)
        refine lv_aload_n hx hb d_2_21_55 rfl (lv_at hl 2 rfl) ?_
        refine q_get (ci := 2) (j := 0) (v := .ref (q (j + 1))) C0 V i_Big rfl rfl hO159 (by decide) w_84 rfl d_2_21_56 ?_
        refine lv_iload_n hx hb d_2_21_59 rfl (lv_at hl 0 rfl) ?_
        refine q_iald C0 V hA163 (q_ix (x := x16.toInt) rfl (by have t1 : 0 ≤ x16.toInt := b145; omega) (by have t1 : 0 ≤ y6.toInt ∧ y6.toInt ≤ Q.toInt := b9; have t2 : y1.toInt = y6.toInt := b12; have t3 : a13.toInt = y1.toInt - 1 := b15; have t4 : 0 ≤ a13.toInt + (-1 * x16.toInt) := i141; have t5 : 0 ≤ x16.toInt := b145; have e9 := q_clI (i := Q) rfl (by have t1 : 0 ≤ Q.toInt ∧ Q.toInt ≤ 220 := hQ; omega); omega)) d_2_21_60 ?_
        obtain ⟨a177, e178⟩ := q_nm (f162 x16.toNatClampNeg : Int32)
        refine q_ti (v := a177) e178 ?_
        have b179 : q_F (0 ≤ a177.toInt ∧ a177.toInt ≤ 2147483647) := (by rw [← e178]; show 0 ≤ (f162 x16.toNatClampNeg : Int32).toInt ∧ (f162 x16.toNatClampNeg : Int32).toInt ≤ 2147483647; exact bf164 _)
        refine q_goi V (q_runS (As := [.int a174, .int a177]) (rest := []) (d := 1) (mc := 0) (ms := 0) C0 V rfl LS_Big_75 (S_Int_compare l D g sh q ws a174 a177 hI  _) rfl hl.1 rfl (Nat.le_of_ble_eq_true rfl) ⟨by decide, by decide⟩ ⟨Nat.le_of_ble_eq_true rfl, Nat.le_of_ble_eq_true rfl⟩ d_2_21_61) (fun a182 u180 H locs hp181 V => ?_)
        obtain ⟨b183, rfl⟩ := hp181
        replace b183 : q_F (-1 ≤ a182.toInt ∧ a182.toInt ≤ 1) := b183
        exact q_reti C0 V (⟨show -1 ≤ a182.toInt ∧ a182.toInt ≤ 1 from (by have t1 : -1 ≤ a182.toInt ∧ a182.toInt ≤ 1 := b183; omega), rfl⟩) d_2_21_64
  ·
    have b184 : q_F (y1.toInt ≠ y6.toInt) := (q_neI c11)
    refine lv_aload_n hx hb d_2_21_11 rfl (lv_at hl 0 rfl) ?_
    refine q_get (ci := 2) (j := 1) (v := .int y1) C0 V i_Big rfl rfl hO3 (by decide) w_85 rfl d_2_21_12 ?_
    refine lv_aload_n hx hb d_2_21_15 rfl (lv_at hl 1 rfl) ?_
    refine q_get (ci := 2) (j := 1) (v := .int y6) C0 V i_Big rfl rfl hO8 (by decide) w_85 rfl d_2_21_16 ?_
    refine q_goi V (q_runS (As := [.int y1, .int y6]) (rest := []) (d := 1) (mc := 0) (ms := 0) C0 V rfl LS_Big_75 (S_Int_compare l D g sh q ws y1 y6 hI  _) rfl hl.1 rfl (Nat.le_of_ble_eq_true rfl) ⟨by decide, by decide⟩ ⟨Nat.le_of_ble_eq_true rfl, Nat.le_of_ble_eq_true rfl⟩ d_2_21_19) (fun a187 u185 H locs hp186 V => ?_)
    obtain ⟨b188, rfl⟩ := hp186
    replace b188 : q_F (-1 ≤ a187.toInt ∧ a187.toInt ≤ 1) := b188
    exact q_reti C0 V (⟨show -1 ≤ a187.toInt ∧ a187.toInt ≤ 1 from (by have t1 : -1 ≤ a187.toInt ∧ a187.toInt ≤ 1 := b188; omega), rfl⟩) d_2_21_22
theorem d_2_20_36 : decode prog_2_method_20_code 36 = .ok (.iload_n 2, 1) := by decide +kernel
theorem d_2_20_37 : decode prog_2_method_20_code 37 = .ok (.ineg, 1) := by decide +kernel
theorem d_2_20_38 : decode prog_2_method_20_code 38 = .ok (.goto 4, 3) := by decide +kernel
theorem d_2_20_11 : decode prog_2_method_20_code 11 = .ok (.aload_n 0, 1) := by decide +kernel
theorem d_2_20_12 : decode prog_2_method_20_code 12 = .ok (.invokevirtual 72, 3) := by decide +kernel
theorem d_2_20_15 : decode prog_2_method_20_code 15 = .ok (.aload_n 1, 1) := by decide +kernel
theorem d_2_20_16 : decode prog_2_method_20_code 16 = .ok (.invokevirtual 72, 3) := by decide +kernel
theorem d_2_20_19 : decode prog_2_method_20_code 19 = .ok (.invokestatic 75, 3) := by decide +kernel
theorem d_2_20_22 : decode prog_2_method_20_code 22 = .ok (.ireturn, 1) := by decide +kernel
set_option maxRecDepth 100000 in
set_option maxHeartbeats 4000000 in
theorem S_Big_order (l : Launch) (D : va_G) (g : Nat → ClassId) (sh : List q_Ok) (q : Nat → Nat) (ws : va_W) (k : Nat) (R : Int32) (hB : q_isBig sh g q k R) (j : Nat) (Q : Int32) (hJ : q_isBig sh g q j Q) (hI : q_I sh q ws) : q_mI l y_Big_order prog_2_method_20_code 3 (.int) 3 0 0 D g [.ref (q k), .ref (q j)] ws (fun r u => (-1 ≤ r.toInt ∧ r.toInt ≤ 1) ∧ ws = u) := by
  intro sz
  refine q_into (by decide) (Nat.le_of_ble_eq_true rfl) ?_
  intro p e s m below meth c ls hsz C0 V hl
  have hx := C0.1
  have hb := C0.2.1
  have hR : q_F (0 ≤ R.toInt ∧ R.toInt ≤ 220) := hB.2.2
  have hQ : q_F (0 ≤ Q.toInt ∧ Q.toInt ≤ 220) := hJ.2.2
  have hl : lv_has ls 3 [(0, .ref (q k)), (1, .ref (q j))] := hl
  refine lv_aload_n hx hb d_2_20_0 rfl (lv_at hl 0 rfl) ?_
  obtain ⟨y4, y5, hO6, b7, b8⟩ := q_bigO hI hB
  replace b7 : q_F (0 ≤ y4.toInt ∧ y4.toInt ≤ R.toInt) := b7
  replace b8 : q_F (0 ≤ y5.toInt ∧ y5.toInt ≤ 1) := b8
  refine q_goi V (q_runV (As := []) (rest := []) (d := 1) (mc := 0) (ms := 0) (ci := 2) C0 V rfl LV_Big_72 (S_Big_sign l D g sh q ws k R hB hI  _) rfl rfl hO6 rfl hl.1 rfl (Nat.le_of_ble_eq_true rfl) ⟨by decide, by decide⟩ ⟨Nat.le_of_ble_eq_true rfl, Nat.le_of_ble_eq_true rfl⟩ d_2_20_1) (fun a3 u1 H locs hp2 V => ?_)
  obtain ⟨b9, rfl⟩ := hp2
  replace b9 : q_F (-1 ≤ a3.toInt ∧ a3.toInt ≤ 1) := b9
  refine lv_aload_n hx hb d_2_20_4 rfl (lv_at hl 1 rfl) ?_
  obtain ⟨y13, y14, hO15, b16, b17⟩ := q_bigO hI hJ
  replace b16 : q_F (0 ≤ y13.toInt ∧ y13.toInt ≤ Q.toInt) := b16
  replace b17 : q_F (0 ≤ y14.toInt ∧ y14.toInt ≤ 1) := b17
  refine q_goi V (q_runV (As := []) (rest := [.int a3]) (d := 1) (mc := 0) (ms := 0) (ci := 2) C0 V rfl LV_Big_72 (S_Big_sign l D g sh q ws j Q hJ hI  _) rfl rfl hO15 rfl hl.1 rfl (Nat.le_of_ble_eq_true rfl) ⟨by decide, by decide⟩ ⟨Nat.le_of_ble_eq_true rfl, Nat.le_of_ble_eq_true rfl⟩ d_2_20_5) (fun a12 u10 H locs hp11 V => ?_)
  obtain ⟨b18, rfl⟩ := hp11
  replace b18 : q_F (-1 ≤ a12.toInt ∧ a12.toInt ≤ 1) := b18
  refine lv_icmp_eq (tgt := 23) hx hb d_2_20_8 (by decide) (fun c19 => ?_) (fun c19 => ?_)
  ·
    have b20 : q_F (a3.toInt = a12.toInt) := (q_eqI c19)
    refine lv_aload_n hx hb d_2_20_23 rfl (lv_at hl 0 rfl) ?_
    refine lv_aload_n hx hb d_2_20_24 rfl (lv_at hl 1 rfl) ?_
    refine q_goi V (q_runV (As := [.ref (q j)]) (rest := []) (d := 2) (mc := 0) (ms := 0) (ci := 2) C0 V rfl LV_Big_78 (S_Big_compareSize l D g sh q ws k R hB j Q hJ hI  _) rfl rfl hO6 rfl hl.1 rfl (Nat.le_of_ble_eq_true rfl) ⟨by decide, by decide⟩ ⟨Nat.le_of_ble_eq_true rfl, Nat.le_of_ble_eq_true rfl⟩ d_2_20_25) (fun a23 u21 H locs hp22 V => ?_)
    obtain ⟨b24, rfl⟩ := hp22
    replace b24 : q_F (-1 ≤ a23.toInt ∧ a23.toInt ≤ 1) := b24
    refine lv_istore_n (lv' := [(2, .int a23), (0, .ref (q k)), (1, .ref (q j))]) hx hb d_2_20_28 rfl hl (by decide) rfl (fun ls hl => ?_)
    refine lv_aload_n hx hb d_2_20_29 rfl (lv_at hl 1 rfl) ?_
    refine q_get (ci := 2) (j := 2) (v := .int y5) C0 V i_Big rfl rfl hO6 (by decide) w_94 rfl d_2_20_30 ?_
    refine lv_if_eq (tgt := 41) hx hb d_2_20_33 (by decide) (fun c25 => ?_) (fun c25 => ?_)
    ·
      have b26 : q_F (y5.toInt = 0) := (q_eqI c25)
      refine lv_iload_n hx hb d_2_20_41 rfl (lv_at hl 0 rfl) ?_
      exact q_reti C0 V (⟨show -1 ≤ a23.toInt ∧ a23.toInt ≤ 1 from (by have t1 : -1 ≤ a23.toInt ∧ a23.toInt ≤ 1 := b24; omega), rfl⟩) d_2_20_42
    ·
      have b27 : q_F (y5.toInt ≠ 0) := (q_neI c25)
      refine lv_iload_n hx hb d_2_20_36 rfl (lv_at hl 0 rfl) ?_
      refine lv_ineg hx hb d_2_20_37 ?_
      obtain ⟨a28, e29⟩ := q_nm (-a23 : Int32)
      refine q_ti (v := a28) e29 ?_
      have b30 : q_F (a28.toInt = -a23.toInt) := (by rw [← e29]; show (-a23 : Int32).toInt = -a23.toInt; exact q_negI rfl (by have t1 : -1 ≤ a23.toInt ∧ a23.toInt ≤ 1 := b24; omega))
      refine lv_goto (tgt := 42) hx hb d_2_20_38 (by decide) ?_
      exact q_reti C0 V (⟨show -1 ≤ a28.toInt ∧ a28.toInt ≤ 1 from (by have t1 : -1 ≤ a23.toInt ∧ a23.toInt ≤ 1 := b24; have t2 : a28.toInt = -a23.toInt := b30; omega), rfl⟩) d_2_20_42
  ·
    have b31 : q_F (a3.toInt ≠ a12.toInt) := (q_neI c19)
    refine lv_aload_n hx hb d_2_20_11 rfl (lv_at hl 0 rfl) ?_
    refine q_goi V (q_runV (As := []) (rest := []) (d := 1) (mc := 0) (ms := 0) (ci := 2) C0 V rfl LV_Big_72 (S_Big_sign l D g sh q ws k R hB hI  _) rfl rfl hO6 rfl hl.1 rfl (Nat.le_of_ble_eq_true rfl) ⟨by decide, by decide⟩ ⟨Nat.le_of_ble_eq_true rfl, Nat.le_of_ble_eq_true rfl⟩ d_2_20_12) (fun a34 u32 H locs hp33 V => ?_)
    obtain ⟨b35, rfl⟩ := hp33
    replace b35 : q_F (-1 ≤ a34.toInt ∧ a34.toInt ≤ 1) := b35
    refine lv_aload_n hx hb d_2_20_15 rfl (lv_at hl 1 rfl) ?_
    refine q_goi V (q_runV (As := []) (rest := [.int a34]) (d := 1) (mc := 0) (ms := 0) (ci := 2) C0 V rfl LV_Big_72 (S_Big_sign l D g sh q ws j Q hJ hI  _) rfl rfl hO15 rfl hl.1 rfl (Nat.le_of_ble_eq_true rfl) ⟨by decide, by decide⟩ ⟨Nat.le_of_ble_eq_true rfl, Nat.le_of_ble_eq_true rfl⟩ d_2_20_16) (fun a38 u36 H locs hp37 V => ?_)
    obtain ⟨b39, rfl⟩ := hp37
    replace b39 : q_F (-1 ≤ a38.toInt ∧ a38.toInt ≤ 1) := b39
    refine q_goi V (q_runS (As := [.int a34, .int a38]) (rest := []) (d := 1) (mc := 0) (ms := 0) C0 V rfl LS_Big_75 (S_Int_compare l D g sh q ws a34 a38 hI  _) rfl hl.1 rfl (Nat.le_of_ble_eq_true rfl) ⟨by decide, by decide⟩ ⟨Nat.le_of_ble_eq_true rfl, Nat.le_of_ble_eq_true rfl⟩ d_2_20_19) (fun a42 u40 H locs hp41 V => ?_)
    obtain ⟨b43, rfl⟩ := hp41
    replace b43 : q_F (-1 ≤ a42.toInt ∧ a42.toInt ≤ 1) := b43
    exact q_reti C0 V (⟨show -1 ≤ a42.toInt ∧ a42.toInt ≤ 1 from (by have t1 : -1 ≤ a42.toInt ∧ a42.toInt ≤ 1 := b43; omega), rfl⟩) d_2_20_22
theorem d_2_24_0 : decode prog_2_method_24_code 0 = .ok (.iconst 0, 1) := by decide +kernel
theorem d_2_24_1 : decode prog_2_method_24_code 1 = .ok (.istore_n 2, 1) := by decide +kernel
theorem d_2_24_2 : decode prog_2_method_24_code 2 = .ok (.iconst 0, 1) := by decide +kernel
theorem d_2_24_3 : decode prog_2_method_24_code 3 = .ok (.istore_n 3, 1) := by decide +kernel
theorem d_2_24_4 : decode prog_2_method_24_code 4 = .ok (.iload_n 3, 1) := by decide +kernel
theorem d_2_24_5 : decode prog_2_method_24_code 5 = .ok (.aload_n 0, 1) := by decide +kernel
theorem d_2_24_6 : decode prog_2_method_24_code 6 = .ok (.getfield 13, 3) := by decide +kernel
theorem d_2_24_9 : decode prog_2_method_24_code 9 = .ok (.if_icmp .ge 42, 3) := by decide +kernel
theorem d_2_24_51 : decode prog_2_method_24_code 51 = .ok (.aload_n 0, 1) := by decide +kernel
theorem d_2_24_52 : decode prog_2_method_24_code 52 = .ok (.invokevirtual 36, 3) := by decide +kernel
theorem d_2_24_55 : decode prog_2_method_24_code 55 = .ok (.return_, 1) := by decide +kernel
theorem d_2_24_12 : decode prog_2_method_24_code 12 = .ok (.aload_n 0, 1) := by decide +kernel
theorem d_2_24_13 : decode prog_2_method_24_code 13 = .ok (.getfield 7, 3) := by decide +kernel
theorem d_2_24_16 : decode prog_2_method_24_code 16 = .ok (.iload_n 3, 1) := by decide +kernel
theorem d_2_24_17 : decode prog_2_method_24_code 17 = .ok (.iaload, 1) := by decide +kernel
theorem d_2_24_18 : decode prog_2_method_24_code 18 = .ok (.aload_n 1, 1) := by decide +kernel
theorem d_2_24_19 : decode prog_2_method_24_code 19 = .ok (.iload_n 3, 1) := by decide +kernel
theorem d_2_24_20 : decode prog_2_method_24_code 20 = .ok (.invokevirtual 49, 3) := by decide +kernel
theorem d_2_24_23 : decode prog_2_method_24_code 23 = .ok (.isub, 1) := by decide +kernel
theorem d_2_24_24 : decode prog_2_method_24_code 24 = .ok (.iload_n 2, 1) := by decide +kernel
theorem d_2_24_25 : decode prog_2_method_24_code 25 = .ok (.isub, 1) := by decide +kernel
theorem d_2_24_26 : decode prog_2_method_24_code 26 = .ok (.istore 4, 2) := by decide +kernel
theorem d_2_24_28 : decode prog_2_method_24_code 28 = .ok (.aload_n 0, 1) := by decide +kernel
theorem d_2_24_29 : decode prog_2_method_24_code 29 = .ok (.getfield 7, 3) := by decide +kernel
theorem d_2_24_32 : decode prog_2_method_24_code 32 = .ok (.iload_n 3, 1) := by decide +kernel
theorem d_2_24_33 : decode prog_2_method_24_code 33 = .ok (.iload 4, 2) := by decide +kernel
theorem d_2_24_35 : decode prog_2_method_24_code 35 = .ok (.ldc 71, 2) := by decide +kernel
theorem d_2_24_37 : decode prog_2_method_24_code 37 = .ok (.iand, 1) := by decide +kernel
theorem d_2_24_38 : decode prog_2_method_24_code 38 = .ok (.iastore, 1) := by decide +kernel
theorem d_2_24_39 : decode prog_2_method_24_code 39 = .ok (.iload 4, 2) := by decide +kernel
theorem d_2_24_41 : decode prog_2_method_24_code 41 = .ok (.bipush 31, 2) := by decide +kernel
theorem d_2_24_43 : decode prog_2_method_24_code 43 = .ok (.iushr, 1) := by decide +kernel
theorem d_2_24_44 : decode prog_2_method_24_code 44 = .ok (.istore_n 2, 1) := by decide +kernel
theorem d_2_24_45 : decode prog_2_method_24_code 45 = .ok (.iinc 3 1, 3) := by decide +kernel
theorem d_2_24_48 : decode prog_2_method_24_code 48 = .ok (.goto (-44), 3) := by decide +kernel
def y_Big_subtractSize : MethodName := ⟨"NumberHouse$Big", "subtractSize", "(LNumberHouse$Big;)V"⟩
set_option maxRecDepth 100000 in
set_option maxHeartbeats 4000000 in
theorem S_Big_subtractSize (l : Launch) (D : va_G) (g : Nat → ClassId) (sh : List q_Ok) (q : Nat → Nat) (ws : va_W) (k : Nat) (R : Int32) (hB : q_isBig sh g q k R) (j : Nat) (Q : Int32) (hJ : q_isBig sh g q j Q) (hI : q_I sh q ws) : q_mV l y_Big_subtractSize prog_2_method_24_code 5 2 0 0 D g [.ref (q k), .ref (q j)] ws (fun u => (True) ∧ q_I sh q u ∧ q_un ws u [k, k + 1]) := by
  intro sz
  refine q_into (by decide) (Nat.le_of_ble_eq_true rfl) ?_
  intro p e s m below meth c ls hsz C0 V hl
  have hx := C0.1
  have hb := C0.2.1
  have hR : q_F (0 ≤ R.toInt ∧ R.toInt ≤ 220) := hB.2.2
  have hQ : q_F (0 ≤ Q.toInt ∧ Q.toInt ≤ 220) := hJ.2.2
  have hF : q_un ws ws [k, k + 1] := q_u0
  have hl : lv_has ls 5 [(0, .ref (q k)), (1, .ref (q j))] := hl
  refine lv_iconst (v := 0) hx hb d_2_24_0 (by decide) ?_
  refine lv_istore_n (lv' := [(2, .int 0), (0, .ref (q k)), (1, .ref (q j))]) hx hb d_2_24_1 rfl hl (by decide) rfl (fun ls hl => ?_)
  refine lv_iconst (v := 0) hx hb d_2_24_2 (by decide) ?_
  refine lv_istore_n (lv' := [(3, .int 0), (2, .int 0), (0, .ref (q k)), (1, .ref (q j))]) hx hb d_2_24_3 rfl hl (by decide) rfl (fun ls hl => ?_)
  refine q_loop (X := Int32 × Int32) (fun z H locs ls w266 => q_F (0 ≤ R.toInt + (-1 * z.1.toInt)) ∧ q_F (0 ≤ z.2.toInt) ∧ q_F (0 ≤ (-1 * z.2.toInt) + 1) ∧ q_F (0 ≤ z.1.toInt + (-1 * z.2.toInt)) ∧ q_Wd D g (va_A ws sz) s w266 H locs ∧ lv_has ls 5 [(3, .int z.1), (2, .int z.2), (0, .ref (q k)), (1, .ref (q j))] ∧ q_I sh q w266 ∧ q_un ws w266 [k, k + 1]) (fun z => (R.toInt - z.1.toInt).toNat) ?_ ((0 : Int32), (0 : Int32)) _ _ _ ws ⟨(show q_F (0 ≤ R.toInt + (-1 * 0)) from (show 0 ≤ R.toInt + (-1 * 0) from by have t1 : 0 ≤ R.toInt ∧ R.toInt ≤ 220 := hR; omega)), (show q_F (0 ≤ 0) from (show 0 ≤ 0 from by omega)), (show q_F (0 ≤ (-1 * 0) + 1) from (show 0 ≤ (-1 * 0) + 1 from by omega)), (show q_F (0 ≤ 0 + (-1 * 0)) from (show 0 ≤ 0 + (-1 * 0) from by omega)), V, hl, hI, hF⟩
  rintro ⟨x1, x2⟩ H locs ls w266 ⟨i261, i262, i263, i264, V, hl, hI, hF⟩ ih265
  replace i261 : q_F (0 ≤ R.toInt + (-1 * x1.toInt)) := i261
  replace i262 : q_F (0 ≤ x2.toInt) := i262
  replace i263 : q_F (0 ≤ (-1 * x2.toInt) + 1) := i263
  replace i264 : q_F (0 ≤ x1.toInt + (-1 * x2.toInt)) := i264
  replace hl : lv_has ls 5 [(3, .int x1), (2, .int x2), (0, .ref (q k)), (1, .ref (q j))] := hl
  refine lv_iload_n hx hb d_2_24_4 rfl (lv_at hl 0 rfl) ?_
  refine lv_aload_n hx hb d_2_24_5 rfl (lv_at hl 2 rfl) ?_
  obtain ⟨y267, y268, hO269, b270, b271⟩ := q_bigO hI hB
  replace b270 : q_F (0 ≤ y267.toInt ∧ y267.toInt ≤ R.toInt) := b270
  replace b271 : q_F (0 ≤ y268.toInt ∧ y268.toInt ≤ 1) := b271
  refine q_get (ci := 2) (j := 1) (v := .int y267) C0 V i_Big rfl rfl hO269 (by decide) w_85 rfl d_2_24_6 ?_
  refine lv_icmp_ge (tgt := 51) hx hb d_2_24_9 (by decide) (fun c272 => ?_) (fun c272 => ?_)
  ·
    have b273 : q_F (y267.toInt ≤ x1.toInt) := (q_leI c272)
    refine lv_aload_n hx hb d_2_24_51 rfl (lv_at hl 2 rfl) ?_
    refine q_gov V (q_runV (As := []) (rest := []) (d := 1) (mc := 0) (ms := 0) (ci := 2) C0 V rfl LV_Big_36 (S_Big_trim l D g sh q w266 k R hB hI  _) rfl rfl hO269 rfl hl.1 rfl (Nat.le_of_ble_eq_true rfl) ⟨by decide, by decide⟩ ⟨Nat.le_of_ble_eq_true rfl, Nat.le_of_ble_eq_true rfl⟩ d_2_24_52) (fun u274 H locs hp275 V => ?_)
    obtain ⟨_, hI, hu276⟩ := hp275
    replace hF := q_uc hF hu276 (by simp)
    exact q_retv C0 V (⟨trivial, hI, hF⟩) d_2_24_55
  ·
    have b277 : q_F (x1.toInt < y267.toInt) := (q_nleI c272)
    refine lv_aload_n hx hb d_2_24_12 rfl (lv_at hl 2 rfl) ?_
    refine q_get (ci := 2) (j := 0) (v := .ref (q (k + 1))) C0 V i_Big rfl rfl hO269 (by decide) w_84 rfl d_2_24_13 ?_
    refine lv_iload_n hx hb d_2_24_16 rfl (lv_at hl 0 rfl) ?_
    obtain ⟨f278, hA279, bf280⟩ := q_bigA hI hB
    refine q_iald C0 V hA279 (q_ix (x := x1.toInt) rfl (by have t1 : 0 ≤ x2.toInt := i262; have t2 : 0 ≤ x1.toInt + (-1 * x2.toInt) := i264; omega) (by have t1 : 0 ≤ x2.toInt := i262; have t2 : 0 ≤ x1.toInt + (-1 * x2.toInt) := i264; have t3 : 0 ≤ y267.toInt ∧ y267.toInt ≤ R.toInt := b270; have t4 : x1.toInt < y267.toInt := b277; have e9 := q_clI (i := R) rfl (by have t1 : 0 ≤ R.toInt ∧ R.toInt ≤ 220 := hR; omega); omega)) d_2_24_17 ?_
    obtain ⟨a281, e282⟩ := q_nm (f278 x1.toNatClampNeg : Int32)
    refine q_ti (v := a281) e282 ?_
    have b283 : q_F (0 ≤ a281.toInt ∧ a281.toInt ≤ 2147483647) := (by rw [← e282]; show 0 ≤ (f278 x1.toNatClampNeg : Int32).toInt ∧ (f278 x1.toNatClampNeg : Int32).toInt ≤ 2147483647; exact bf280 _)
    refine lv_aload_n hx hb d_2_24_18 rfl (lv_at hl 3 rfl) ?_
    refine lv_iload_n hx hb d_2_24_19 rfl (lv_at hl 0 rfl) ?_
    obtain ⟨y287, y288, hO289, b290, b291⟩ := q_bigO hI hJ
    replace b290 : q_F (0 ≤ y287.toInt ∧ y287.toInt ≤ Q.toInt) := b290
    replace b291 : q_F (0 ≤ y288.toInt ∧ y288.toInt ≤ 1) := b291
    refine q_goi V (q_runV (As := [.int x1]) (rest := [.int a281]) (d := 1) (mc := 0) (ms := 0) (ci := 2) C0 V rfl LV_Big_49 (S_Big_limb l D g sh q w266 j Q hJ x1 hI  _) rfl rfl hO289 rfl hl.1 rfl (Nat.le_of_ble_eq_true rfl) ⟨by decide, by decide⟩ ⟨Nat.le_of_ble_eq_true rfl, Nat.le_of_ble_eq_true rfl⟩ d_2_24_20) (fun a286 u284 H locs hp285 V => ?_)
    obtain ⟨b292, rfl⟩ := hp285
    replace b292 : q_F (0 ≤ a286.toInt ∧ a286.toInt ≤ 2147483647) := b292
    refine lv_isub hx hb d_2_24_23 ?_
    obtain ⟨a293, e294⟩ := q_nm (a281 - a286 : Int32)
    refine q_ti (v := a293) e294 ?_
    have b295 : q_F (a293.toInt = a281.toInt - a286.toInt) := (by rw [← e294]; show (a281 - a286 : Int32).toInt = a281.toInt - a286.toInt; exact q_subI (x := a281.toInt) (y := a286.toInt) rfl rfl (by have t1 : 0 ≤ a281.toInt ∧ a281.toInt ≤ 2147483647 := b283; have t2 : 0 ≤ a286.toInt ∧ a286.toInt ≤ 2147483647 := b292; omega) (by have t1 : 0 ≤ a281.toInt ∧ a281.toInt ≤ 2147483647 := b283; have t2 : 0 ≤ a286.toInt ∧ a286.toInt ≤ 2147483647 := b292; omega))
    refine lv_iload_n hx hb d_2_24_24 rfl (lv_at hl 1 rfl) ?_
    refine lv_isub hx hb d_2_24_25 ?_
    obtain ⟨a296, e297⟩ := q_nm (a293 - x2 : Int32)
    refine q_ti (v := a296) e297 ?_
    have b298 : q_F (a296.toInt = a293.toInt - x2.toInt) := (by rw [← e297]; show (a293 - x2 : Int32).toInt = a293.toInt - x2.toInt; exact q_subI (x := a293.toInt) (y := x2.toInt) rfl rfl (by have t1 : 0 ≤ x2.toInt := i262; have t2 : 0 ≤ (-1 * x2.toInt) + 1 := i263; have t3 : 0 ≤ a281.toInt ∧ a281.toInt ≤ 2147483647 := b283; have t4 : 0 ≤ a286.toInt ∧ a286.toInt ≤ 2147483647 := b292; have t5 : a293.toInt = a281.toInt - a286.toInt := b295; omega) (by have t1 : 0 ≤ x2.toInt := i262; have t2 : 0 ≤ (-1 * x2.toInt) + 1 := i263; have t3 : 0 ≤ a281.toInt ∧ a281.toInt ≤ 2147483647 := b283; have t4 : 0 ≤ a286.toInt ∧ a286.toInt ≤ 2147483647 := b292; have t5 : a293.toInt = a281.toInt - a286.toInt := b295; omega))
    refine lv_istore (lv' := [(4, .int a296), (3, .int x1), (2, .int x2), (0, .ref (q k)), (1, .ref (q j))]) hx hb d_2_24_26 hl (by decide) rfl (fun ls hl => ?_)
    refine lv_aload_n hx hb d_2_24_28 rfl (lv_at hl 3 rfl) ?_
    refine q_get (ci := 2) (j := 0) (v := .ref (q (k + 1))) C0 V i_Big rfl rfl hO269 (by decide) w_84 rfl d_2_24_29 ?_
    refine lv_iload_n hx hb d_2_24_32 rfl (lv_at hl 1 rfl) ?_
    refine lv_iload hx hb d_2_24_33 (lv_at hl 0 rfl) ?_
    refine q_ldc C0 rfl w_809 d_2_24_35 ?_
    refine lv_iand hx hb d_2_24_37 ?_
    obtain ⟨a299, e300⟩ := q_nm (a296 &&& 2147483647 : Int32)
    refine q_ti (v := a299) e300 ?_
    have b301 : q_F (0 ≤ a299.toInt ∧ a299.toInt ≤ 2147483647) := (by rw [← e300]; show 0 ≤ (a296 &&& 2147483647 : Int32).toInt ∧ (a296 &&& 2147483647 : Int32).toInt ≤ 2147483647; exact s_and (by decide))
    refine q_iast C0 V hA279 (q_ix (x := x1.toInt) rfl (by have t1 : 0 ≤ x2.toInt := i262; have t2 : 0 ≤ x1.toInt + (-1 * x2.toInt) := i264; omega) (by have t1 : 0 ≤ x2.toInt := i262; have t2 : 0 ≤ x1.toInt + (-1 * x2.toInt) := i264; have t3 : 0 ≤ y267.toInt ∧ y267.toInt ≤ R.toInt := b270; have t4 : x1.toInt < y267.toInt := b277; have e9 := q_clI (i := R) rfl (by have t1 : 0 ≤ R.toInt ∧ R.toInt ≤ 220 := hR; omega); omega)) d_2_24_38 (fun H locs w302 hu303 hA279 V => ?_)
    replace hI := q_bigA' hI hB hu303 hA279 (q_updB bf280 ⟨(by have t1 : 0 ≤ a299.toInt ∧ a299.toInt ≤ 2147483647 := b301; omega), (by have t1 : 0 ≤ a299.toInt ∧ a299.toInt ≤ 2147483647 := b301; omega)⟩)
    replace hO269 := (hu303 _ (by omega)).trans hO269
    replace hF := q_us hF hu303 (by simp)
    refine lv_iload hx hb d_2_24_39 (lv_at hl 0 rfl) ?_
    refine lv_bipush (v := 31) hx hb d_2_24_41 (by decide) ?_
    refine lv_iushr hx hb d_2_24_43 rfl ?_
    obtain ⟨a304, e305⟩ := q_nm ((a296.toUInt32 >>> ((31 : Int32).toUInt32 &&& Int32.toUInt32 31)).toInt32 : Int32)
    refine q_ti (v := a304) e305 ?_
    have b306 : q_F (0 ≤ a304.toInt ∧ a304.toInt ≤ 1) := (by rw [← e305]; show 0 ≤ ((a296.toUInt32 >>> ((31 : Int32).toUInt32 &&& Int32.toUInt32 31)).toInt32 : Int32).toInt ∧ ((a296.toUInt32 >>> ((31 : Int32).toUInt32 &&& Int32.toUInt32 31)).toInt32 : Int32).toInt ≤ 1; exact (by have z := s_ushr (x := a296) (c := 31) 31 (by decide) (by decide); omega))
    refine lv_istore_n (lv' := [(2, .int a304), (4, .int a296), (3, .int x1), (0, .ref (q k)), (1, .ref (q j))]) hx hb d_2_24_44 rfl hl (by decide) rfl (fun ls hl => ?_)
    obtain ⟨a307, e308⟩ := q_nm (x1 + 1 : Int32)
    have b309 : q_F (a307.toInt = x1.toInt + 1) := (by rw [← e308]; exact q_addI (y := 1) rfl (by decide) (by have t1 : 0 ≤ R.toInt ∧ R.toInt ≤ 220 := hR; have t2 : 0 ≤ R.toInt + (-1 * x1.toInt) := i261; have t3 : 0 ≤ x2.toInt := i262; have t4 : 0 ≤ x1.toInt + (-1 * x2.toInt) := i264; omega) (by have t1 : 0 ≤ R.toInt ∧ R.toInt ≤ 220 := hR; have t2 : 0 ≤ R.toInt + (-1 * x1.toInt) := i261; have t3 : 0 ≤ x2.toInt := i262; have t4 : 0 ≤ x1.toInt + (-1 * x2.toInt) := i264; omega))
    refine lv_iinc (v := a307) (lv' := [(3, .int a307), (2, .int a304), (4, .int a296), (0, .ref (q k)), (1, .ref (q j))]) hx hb d_2_24_45 hl (k := 2) rfl (e308) (by decide) rfl (fun ls hl => ?_)
    refine lv_goto (tgt := 4) hx hb d_2_24_48 (by decide) ?_
    exact ih265 ((a307 : Int32), (a304 : Int32)) _ _ _ _ (show (R.toInt - a307.toInt).toNat < (R.toInt - x1.toInt).toNat from by have t1 : 0 ≤ y267.toInt ∧ y267.toInt ≤ R.toInt := b270; have t2 : x1.toInt < y267.toInt := b277; have t3 : a307.toInt = x1.toInt + 1 := b309; omega) ⟨(show q_F (0 ≤ R.toInt + (-1 * a307.toInt)) from (show 0 ≤ R.toInt + (-1 * a307.toInt) from by have t1 : 0 ≤ y267.toInt ∧ y267.toInt ≤ R.toInt := b270; have t2 : x1.toInt < y267.toInt := b277; have t3 : a307.toInt = x1.toInt + 1 := b309; omega)), (show q_F (0 ≤ a304.toInt) from (show 0 ≤ a304.toInt from by have t1 : 0 ≤ a304.toInt ∧ a304.toInt ≤ 1 := b306; omega)), (show q_F (0 ≤ (-1 * a304.toInt) + 1) from (show 0 ≤ (-1 * a304.toInt) + 1 from by have t1 : 0 ≤ a304.toInt ∧ a304.toInt ≤ 1 := b306; omega)), (show q_F (0 ≤ a307.toInt + (-1 * a304.toInt)) from (show 0 ≤ a307.toInt + (-1 * a304.toInt) from by have t1 : 0 ≤ x2.toInt := i262; have t2 : 0 ≤ x1.toInt + (-1 * x2.toInt) := i264; have t3 : 0 ≤ a304.toInt ∧ a304.toInt ≤ 1 := b306; have t4 : a307.toInt = x1.toInt + 1 := b309; omega)), V, q_lw hl (q_lw1 0 rfl (q_lw1 1 rfl (q_lw1 3 rfl (q_lw1 4 rfl q_lw0)))), hI, hF⟩
theorem d_2_25_0 : decode prog_2_method_25_code 0 = .ok (.aload_n 1, 1) := by decide +kernel
theorem d_2_25_1 : decode prog_2_method_25_code 1 = .ok (.getfield 13, 3) := by decide +kernel
theorem d_2_25_4 : decode prog_2_method_25_code 4 = .ok (.aload_n 0, 1) := by decide +kernel
theorem d_2_25_5 : decode prog_2_method_25_code 5 = .ok (.getfield 7, 3) := by decide +kernel
theorem d_2_25_8 : decode prog_2_method_25_code 8 = .ok (.arraylength, 1) := by decide +kernel
theorem d_2_25_9 : decode prog_2_method_25_code 9 = .ok (.invokestatic 39, 3) := by decide +kernel
theorem d_2_25_12 : decode prog_2_method_25_code 12 = .ok (.istore_n 2, 1) := by decide +kernel
theorem d_2_25_13 : decode prog_2_method_25_code 13 = .ok (.iconst 0, 1) := by decide +kernel
theorem d_2_25_14 : decode prog_2_method_25_code 14 = .ok (.istore_n 3, 1) := by decide +kernel
theorem d_2_25_15 : decode prog_2_method_25_code 15 = .ok (.iconst 0, 1) := by decide +kernel
theorem d_2_25_16 : decode prog_2_method_25_code 16 = .ok (.istore 4, 2) := by decide +kernel
theorem d_2_25_18 : decode prog_2_method_25_code 18 = .ok (.iload 4, 2) := by decide +kernel
theorem d_2_25_20 : decode prog_2_method_25_code 20 = .ok (.iload_n 2, 1) := by decide +kernel
theorem d_2_25_21 : decode prog_2_method_25_code 21 = .ok (.if_icmp .ge 45, 3) := by decide +kernel
theorem d_2_25_66 : decode prog_2_method_25_code 66 = .ok (.aload_n 0, 1) := by decide +kernel
theorem d_2_25_67 : decode prog_2_method_25_code 67 = .ok (.iload_n 2, 1) := by decide +kernel
theorem d_2_25_68 : decode prog_2_method_25_code 68 = .ok (.putfield 13, 3) := by decide +kernel
theorem d_2_25_71 : decode prog_2_method_25_code 71 = .ok (.aload_n 0, 1) := by decide +kernel
theorem d_2_25_72 : decode prog_2_method_25_code 72 = .ok (.invokevirtual 36, 3) := by decide +kernel
theorem d_2_25_75 : decode prog_2_method_25_code 75 = .ok (.return_, 1) := by decide +kernel
theorem d_2_25_24 : decode prog_2_method_25_code 24 = .ok (.aload_n 1, 1) := by decide +kernel
theorem d_2_25_25 : decode prog_2_method_25_code 25 = .ok (.getfield 7, 3) := by decide +kernel
theorem d_2_25_28 : decode prog_2_method_25_code 28 = .ok (.iload 4, 2) := by decide +kernel
theorem d_2_25_30 : decode prog_2_method_25_code 30 = .ok (.iaload, 1) := by decide +kernel
theorem d_2_25_31 : decode prog_2_method_25_code 31 = .ok (.aload_n 0, 1) := by decide +kernel
theorem d_2_25_32 : decode prog_2_method_25_code 32 = .ok (.iload 4, 2) := by decide +kernel
theorem d_2_25_34 : decode prog_2_method_25_code 34 = .ok (.invokevirtual 49, 3) := by decide +kernel
theorem d_2_25_37 : decode prog_2_method_25_code 37 = .ok (.isub, 1) := by decide +kernel
theorem d_2_25_38 : decode prog_2_method_25_code 38 = .ok (.iload_n 3, 1) := by decide +kernel
theorem d_2_25_39 : decode prog_2_method_25_code 39 = .ok (.isub, 1) := by decide +kernel
theorem d_2_25_40 : decode prog_2_method_25_code 40 = .ok (.istore 5, 2) := by decide +kernel
theorem d_2_25_42 : decode prog_2_method_25_code 42 = .ok (.aload_n 0, 1) := by decide +kernel
theorem d_2_25_43 : decode prog_2_method_25_code 43 = .ok (.getfield 7, 3) := by decide +kernel
theorem d_2_25_46 : decode prog_2_method_25_code 46 = .ok (.iload 4, 2) := by decide +kernel
theorem d_2_25_48 : decode prog_2_method_25_code 48 = .ok (.iload 5, 2) := by decide +kernel
theorem d_2_25_50 : decode prog_2_method_25_code 50 = .ok (.ldc 71, 2) := by decide +kernel
theorem d_2_25_52 : decode prog_2_method_25_code 52 = .ok (.iand, 1) := by decide +kernel
theorem d_2_25_53 : decode prog_2_method_25_code 53 = .ok (.iastore, 1) := by decide +kernel
theorem d_2_25_54 : decode prog_2_method_25_code 54 = .ok (.iload 5, 2) := by decide +kernel
theorem d_2_25_56 : decode prog_2_method_25_code 56 = .ok (.bipush 31, 2) := by decide +kernel
theorem d_2_25_58 : decode prog_2_method_25_code 58 = .ok (.iushr, 1) := by decide +kernel
theorem d_2_25_59 : decode prog_2_method_25_code 59 = .ok (.istore_n 3, 1) := by decide +kernel
theorem d_2_25_60 : decode prog_2_method_25_code 60 = .ok (.iinc 4 1, 3) := by decide +kernel
theorem d_2_25_63 : decode prog_2_method_25_code 63 = .ok (.goto (-45), 3) := by decide +kernel
def y_Big_subtractFrom : MethodName := ⟨"NumberHouse$Big", "subtractFrom", "(LNumberHouse$Big;)V"⟩
set_option maxRecDepth 100000 in
set_option maxHeartbeats 4000000 in
theorem S_Big_subtractFrom (l : Launch) (D : va_G) (g : Nat → ClassId) (sh : List q_Ok) (q : Nat → Nat) (ws : va_W) (k : Nat) (R : Int32) (hB : q_isBig sh g q k R) (j : Nat) (Q : Int32) (hJ : q_isBig sh g q j Q) (hI : q_I sh q ws) : q_mV l y_Big_subtractFrom prog_2_method_25_code 6 2 0 0 D g [.ref (q k), .ref (q j)] ws (fun u => (True) ∧ q_I sh q u ∧ q_un ws u [k, k + 1]) := by
  intro sz
  refine q_into (by decide) (Nat.le_of_ble_eq_true rfl) ?_
  intro p e s m below meth c ls hsz C0 V hl
  have hx := C0.1
  have hb := C0.2.1
  have hR : q_F (0 ≤ R.toInt ∧ R.toInt ≤ 220) := hB.2.2
  have hQ : q_F (0 ≤ Q.toInt ∧ Q.toInt ≤ 220) := hJ.2.2
  have hF : q_un ws ws [k, k + 1] := q_u0
  have hl : lv_has ls 6 [(0, .ref (q k)), (1, .ref (q j))] := hl
  refine lv_aload_n hx hb d_2_25_0 rfl (lv_at hl 1 rfl) ?_
  obtain ⟨y1, y2, hO3, b4, b5⟩ := q_bigO hI hJ
  replace b4 : q_F (0 ≤ y1.toInt ∧ y1.toInt ≤ Q.toInt) := b4
  replace b5 : q_F (0 ≤ y2.toInt ∧ y2.toInt ≤ 1) := b5
  refine q_get (ci := 2) (j := 1) (v := .int y1) C0 V i_Big rfl rfl hO3 (by decide) w_85 rfl d_2_25_1 ?_
  refine lv_aload_n hx hb d_2_25_4 rfl (lv_at hl 0 rfl) ?_
  obtain ⟨y6, y7, hO8, b9, b10⟩ := q_bigO hI hB
  replace b9 : q_F (0 ≤ y6.toInt ∧ y6.toInt ≤ R.toInt) := b9
  replace b10 : q_F (0 ≤ y7.toInt ∧ y7.toInt ≤ 1) := b10
  refine q_get (ci := 2) (j := 0) (v := .ref (q (k + 1))) C0 V i_Big rfl rfl hO8 (by decide) w_84 rfl d_2_25_5 ?_
  obtain ⟨f11, hA12, bf13⟩ := q_bigA hI hB
  refine q_alen (t := 0) (v := R) C0 V hA12 rfl (s_len (by have t1 : 0 ≤ R.toInt ∧ R.toInt ≤ 220 := hR; omega)) d_2_25_8 ?_
  refine q_min C0 hl.1 rfl w_773 w_774 w_7 w_775 ⟨Nat.le_of_ble_eq_true rfl, Nat.le_of_ble_eq_true rfl⟩ ⟨Nat.le_of_ble_eq_true rfl, Nat.le_of_ble_eq_true rfl⟩ d_2_25_9 ?_
  obtain ⟨a14, e15⟩ := q_nm (if R < y1 then R else y1 : Int32)
  refine q_ti (v := a14) e15 ?_
  have b16 : q_F (a14.toInt ≤ y1.toInt ∧ a14.toInt ≤ R.toInt ∧ (a14.toInt = y1.toInt ∨ a14.toInt = R.toInt)) := (by rw [← e15]; show (if R < y1 then R else y1 : Int32).toInt ≤ y1.toInt ∧ (if R < y1 then R else y1 : Int32).toInt ≤ R.toInt ∧ ((if R < y1 then R else y1 : Int32).toInt = y1.toInt ∨ (if R < y1 then R else y1 : Int32).toInt = R.toInt); exact s_min (a := y1) (b := R))
  refine lv_istore_n (lv' := [(2, .int a14), (0, .ref (q k)), (1, .ref (q j))]) hx hb d_2_25_12 rfl hl (by decide) rfl (fun ls hl => ?_)
  refine lv_iconst (v := 0) hx hb d_2_25_13 (by decide) ?_
  refine lv_istore_n (lv' := [(3, .int 0), (2, .int a14), (0, .ref (q k)), (1, .ref (q j))]) hx hb d_2_25_14 rfl hl (by decide) rfl (fun ls hl => ?_)
  refine lv_iconst (v := 0) hx hb d_2_25_15 (by decide) ?_
  refine lv_istore (lv' := [(4, .int 0), (3, .int 0), (2, .int a14), (0, .ref (q k)), (1, .ref (q j))]) hx hb d_2_25_16 hl (by decide) rfl (fun ls hl => ?_)
  refine q_loop (X := Int32 × Int32) (fun z H locs ls w342 => q_F (0 ≤ a14.toInt + (-1 * z.1.toInt)) ∧ q_F (0 ≤ z.2.toInt) ∧ q_F (0 ≤ (-1 * z.2.toInt) + 1) ∧ q_F (0 ≤ z.1.toInt + (-1 * z.2.toInt)) ∧ q_Wd D g (va_A ws sz) s w342 H locs ∧ lv_has ls 6 [(4, .int z.1), (3, .int z.2), (2, .int a14), (0, .ref (q k)), (1, .ref (q j))] ∧ q_I sh q w342 ∧ q_un ws w342 [k, k + 1]) (fun z => (a14.toInt - z.1.toInt).toNat) ?_ ((0 : Int32), (0 : Int32)) _ _ _ ws ⟨(show q_F (0 ≤ a14.toInt + (-1 * 0)) from (show 0 ≤ a14.toInt + (-1 * 0) from by have t1 : 0 ≤ R.toInt ∧ R.toInt ≤ 220 := hR; have t2 : 0 ≤ y1.toInt ∧ y1.toInt ≤ Q.toInt := b4; have t3 : a14.toInt ≤ y1.toInt ∧ a14.toInt ≤ R.toInt ∧ (a14.toInt = y1.toInt ∨ a14.toInt = R.toInt) := b16; omega)), (show q_F (0 ≤ 0) from (show 0 ≤ 0 from by omega)), (show q_F (0 ≤ (-1 * 0) + 1) from (show 0 ≤ (-1 * 0) + 1 from by omega)), (show q_F (0 ≤ 0 + (-1 * 0)) from (show 0 ≤ 0 + (-1 * 0) from by omega)), V, hl, hI, hF⟩
  rintro ⟨x17, x18⟩ H locs ls w342 ⟨i337, i338, i339, i340, V, hl, hI, hF⟩ ih341
  replace i337 : q_F (0 ≤ a14.toInt + (-1 * x17.toInt)) := i337
  replace i338 : q_F (0 ≤ x18.toInt) := i338
  replace i339 : q_F (0 ≤ (-1 * x18.toInt) + 1) := i339
  replace i340 : q_F (0 ≤ x17.toInt + (-1 * x18.toInt)) := i340
  replace hl : lv_has ls 6 [(4, .int x17), (3, .int x18), (2, .int a14), (0, .ref (q k)), (1, .ref (q j))] := hl
  refine lv_iload hx hb d_2_25_18 (lv_at hl 0 rfl) ?_
  refine lv_iload_n hx hb d_2_25_20 rfl (lv_at hl 2 rfl) ?_
  refine lv_icmp_ge (tgt := 66) hx hb d_2_25_21 (by decide) (fun c343 => ?_) (fun c343 => ?_)
  ·
    have b344 : q_F (a14.toInt ≤ x17.toInt) := (q_leI c343)
    refine lv_aload_n hx hb d_2_25_66 rfl (lv_at hl 3 rfl) ?_
    refine lv_iload_n hx hb d_2_25_67 rfl (lv_at hl 2 rfl) ?_
    obtain ⟨y345, y346, hO347, b348, b349⟩ := q_bigO hI hB
    replace b348 : q_F (0 ≤ y345.toInt ∧ y345.toInt ≤ R.toInt) := b348
    replace b349 : q_F (0 ≤ y346.toInt ∧ y346.toInt ≤ 1) := b349
    refine q_put (ci := 2) (j := 1) (v := .int a14) (ty := .int) C0 V i_Big o_Big n_Big rfl rfl hO347 (by decide) w_85 rfl rfl rfl rfl (Nat.le_of_ble_eq_true rfl) d_2_25_68 (fun H locs w350 hu351 hO347 V => ?_)
    replace hO347 : w350[k]? = (some (q k, .inr (2, [.ref (q (k + 1)), .int a14, .int y346])) : Option (Nat × va_E)) := hO347
    replace hI := q_bigO' hI hB hu351 hO347 ⟨(by have t1 : 0 ≤ R.toInt ∧ R.toInt ≤ 220 := hR; have t2 : 0 ≤ y1.toInt ∧ y1.toInt ≤ Q.toInt := b4; have t3 : a14.toInt ≤ y1.toInt ∧ a14.toInt ≤ R.toInt ∧ (a14.toInt = y1.toInt ∨ a14.toInt = R.toInt) := b16; omega), (by have t1 : a14.toInt ≤ y1.toInt ∧ a14.toInt ≤ R.toInt ∧ (a14.toInt = y1.toInt ∨ a14.toInt = R.toInt) := b16; omega)⟩ ⟨(by have t1 : 0 ≤ y346.toInt ∧ y346.toInt ≤ 1 := b349; omega), (by have t1 : 0 ≤ y346.toInt ∧ y346.toInt ≤ 1 := b349; omega)⟩
    replace hF := q_us hF hu351 (by simp)
    refine lv_aload_n hx hb d_2_25_71 rfl (lv_at hl 3 rfl) ?_
    refine q_gov V (q_runV (As := []) (rest := []) (d := 1) (mc := 0) (ms := 0) (ci := 2) C0 V rfl LV_Big_36 (S_Big_trim l D g sh q w350 k R hB hI  _) rfl rfl hO347 rfl hl.1 rfl (Nat.le_of_ble_eq_true rfl) ⟨by decide, by decide⟩ ⟨Nat.le_of_ble_eq_true rfl, Nat.le_of_ble_eq_true rfl⟩ d_2_25_72) (fun u352 H locs hp353 V => ?_)
    obtain ⟨_, hI, hu354⟩ := hp353
    replace hF := q_uc hF hu354 (by simp)
    exact q_retv C0 V (⟨trivial, hI, hF⟩) d_2_25_75
  ·
    have b355 : q_F (x17.toInt < a14.toInt) := (q_nleI c343)
    refine lv_aload_n hx hb d_2_25_24 rfl (lv_at hl 4 rfl) ?_
    obtain ⟨y356, y357, hO358, b359, b360⟩ := q_bigO hI hJ
    replace b359 : q_F (0 ≤ y356.toInt ∧ y356.toInt ≤ Q.toInt) := b359
    replace b360 : q_F (0 ≤ y357.toInt ∧ y357.toInt ≤ 1) := b360
    refine q_get (ci := 2) (j := 0) (v := .ref (q (j + 1))) C0 V i_Big rfl rfl hO358 (by decide) w_84 rfl d_2_25_25 ?_
    refine lv_iload hx hb d_2_25_28 (lv_at hl 0 rfl) ?_
    obtain ⟨f361, hA362, bf363⟩ := q_bigA hI hJ
    refine q_iald C0 V hA362 (q_ix (x := x17.toInt) rfl (by have t1 : 0 ≤ x18.toInt := i338; have t2 : 0 ≤ x17.toInt + (-1 * x18.toInt) := i340; omega) (by have t1 : 0 ≤ y1.toInt ∧ y1.toInt ≤ Q.toInt := b4; have t2 : a14.toInt ≤ y1.toInt ∧ a14.toInt ≤ R.toInt ∧ (a14.toInt = y1.toInt ∨ a14.toInt = R.toInt) := b16; have t3 : 0 ≤ x18.toInt := i338; have t4 : 0 ≤ x17.toInt + (-1 * x18.toInt) := i340; have t5 : x17.toInt < a14.toInt := b355; have e9 := q_clI (i := Q) rfl (by have t1 : 0 ≤ Q.toInt ∧ Q.toInt ≤ 220 := hQ; omega); omega)) d_2_25_30 ?_
    obtain ⟨a364, e365⟩ := q_nm (f361 x17.toNatClampNeg : Int32)
    refine q_ti (v := a364) e365 ?_
    have b366 : q_F (0 ≤ a364.toInt ∧ a364.toInt ≤ 2147483647) := (by rw [← e365]; show 0 ≤ (f361 x17.toNatClampNeg : Int32).toInt ∧ (f361 x17.toNatClampNeg : Int32).toInt ≤ 2147483647; exact bf363 _)
    refine lv_aload_n hx hb d_2_25_31 rfl (lv_at hl 3 rfl) ?_
    refine lv_iload hx hb d_2_25_32 (lv_at hl 0 rfl) ?_
    obtain ⟨y370, y371, hO372, b373, b374⟩ := q_bigO hI hB
    replace b373 : q_F (0 ≤ y370.toInt ∧ y370.toInt ≤ R.toInt) := b373
    replace b374 : q_F (0 ≤ y371.toInt ∧ y371.toInt ≤ 1) := b374
    refine q_goi V (q_runV (As := [.int x17]) (rest := [.int a364]) (d := 1) (mc := 0) (ms := 0) (ci := 2) C0 V rfl LV_Big_49 (S_Big_limb l D g sh q w342 k R hB x17 hI  _) rfl rfl hO372 rfl hl.1 rfl (Nat.le_of_ble_eq_true rfl) ⟨by decide, by decide⟩ ⟨Nat.le_of_ble_eq_true rfl, Nat.le_of_ble_eq_true rfl⟩ d_2_25_34) (fun a369 u367 H locs hp368 V => ?_)
    obtain ⟨b375, rfl⟩ := hp368
    replace b375 : q_F (0 ≤ a369.toInt ∧ a369.toInt ≤ 2147483647) := b375
    refine lv_isub hx hb d_2_25_37 ?_
    obtain ⟨a376, e377⟩ := q_nm (a364 - a369 : Int32)
    refine q_ti (v := a376) e377 ?_
    have b378 : q_F (a376.toInt = a364.toInt - a369.toInt) := (by rw [← e377]; show (a364 - a369 : Int32).toInt = a364.toInt - a369.toInt; exact q_subI (x := a364.toInt) (y := a369.toInt) rfl rfl (by have t1 : 0 ≤ a364.toInt ∧ a364.toInt ≤ 2147483647 := b366; have t2 : 0 ≤ a369.toInt ∧ a369.toInt ≤ 2147483647 := b375; omega) (by have t1 : 0 ≤ a364.toInt ∧ a364.toInt ≤ 2147483647 := b366; have t2 : 0 ≤ a369.toInt ∧ a369.toInt ≤ 2147483647 := b375; omega))
    refine lv_iload_n hx hb d_2_25_38 rfl (lv_at hl 1 rfl) ?_
    refine lv_isub hx hb d_2_25_39 ?_
    obtain ⟨a379, e380⟩ := q_nm (a376 - x18 : Int32)
    refine q_ti (v := a379) e380 ?_
    have b381 : q_F (a379.toInt = a376.toInt - x18.toInt) := (by rw [← e380]; show (a376 - x18 : Int32).toInt = a376.toInt - x18.toInt; exact q_subI (x := a376.toInt) (y := x18.toInt) rfl rfl (by have t1 : 0 ≤ x18.toInt := i338; have t2 : 0 ≤ (-1 * x18.toInt) + 1 := i339; have t3 : 0 ≤ a364.toInt ∧ a364.toInt ≤ 2147483647 := b366; have t4 : 0 ≤ a369.toInt ∧ a369.toInt ≤ 2147483647 := b375; have t5 : a376.toInt = a364.toInt - a369.toInt := b378; omega) (by have t1 : 0 ≤ x18.toInt := i338; have t2 : 0 ≤ (-1 * x18.toInt) + 1 := i339; have t3 : 0 ≤ a364.toInt ∧ a364.toInt ≤ 2147483647 := b366; have t4 : 0 ≤ a369.toInt ∧ a369.toInt ≤ 2147483647 := b375; have t5 : a376.toInt = a364.toInt - a369.toInt := b378; omega))
    refine lv_istore (lv' := [(5, .int a379), (4, .int x17), (3, .int x18), (2, .int a14), (0, .ref (q k)), (1, .ref (q j))]) hx hb d_2_25_40 hl (by decide) rfl (fun ls hl => ?_)
    refine lv_aload_n hx hb d_2_25_42 rfl (lv_at hl 4 rfl) ?_
    refine q_get (ci := 2) (j := 0) (v := .ref (q (k + 1))) C0 V i_Big rfl rfl hO372 (by decide) w_84 rfl d_2_25_43 ?_
    refine lv_iload hx hb d_2_25_46 (lv_at hl 1 rfl) ?_
    refine lv_iload hx hb d_2_25_48 (lv_at hl 0 rfl) ?_
    refine q_ldc C0 rfl w_809 d_2_25_50 ?_
    refine lv_iand hx hb d_2_25_52 ?_
    obtain ⟨a382, e383⟩ := q_nm (a379 &&& 2147483647 : Int32)
    refine q_ti (v := a382) e383 ?_
    have b384 : q_F (0 ≤ a382.toInt ∧ a382.toInt ≤ 2147483647) := (by rw [← e383]; show 0 ≤ (a379 &&& 2147483647 : Int32).toInt ∧ (a379 &&& 2147483647 : Int32).toInt ≤ 2147483647; exact s_and (by decide))
    obtain ⟨f385, hA386, bf387⟩ := q_bigA hI hB
    refine q_iast C0 V hA386 (q_ix (x := x17.toInt) rfl (by have t1 : 0 ≤ x18.toInt := i338; have t2 : 0 ≤ x17.toInt + (-1 * x18.toInt) := i340; omega) (by have t1 : a14.toInt ≤ y1.toInt ∧ a14.toInt ≤ R.toInt ∧ (a14.toInt = y1.toInt ∨ a14.toInt = R.toInt) := b16; have t2 : 0 ≤ x18.toInt := i338; have t3 : 0 ≤ x17.toInt + (-1 * x18.toInt) := i340; have t4 : x17.toInt < a14.toInt := b355; have e9 := q_clI (i := R) rfl (by have t1 : 0 ≤ R.toInt ∧ R.toInt ≤ 220 := hR; omega); omega)) d_2_25_53 (fun H locs w388 hu389 hA386 V => ?_)
    replace hI := q_bigA' hI hB hu389 hA386 (q_updB bf387 ⟨(by have t1 : 0 ≤ a382.toInt ∧ a382.toInt ≤ 2147483647 := b384; omega), (by have t1 : 0 ≤ a382.toInt ∧ a382.toInt ≤ 2147483647 := b384; omega)⟩)
    replace hO372 := (hu389 _ (by omega)).trans hO372
    replace hF := q_us hF hu389 (by simp)
    refine lv_iload hx hb d_2_25_54 (lv_at hl 0 rfl) ?_
    refine lv_bipush (v := 31) hx hb d_2_25_56 (by decide) ?_
    refine lv_iushr hx hb d_2_25_58 rfl ?_
    obtain ⟨a390, e391⟩ := q_nm ((a379.toUInt32 >>> ((31 : Int32).toUInt32 &&& Int32.toUInt32 31)).toInt32 : Int32)
    refine q_ti (v := a390) e391 ?_
    have b392 : q_F (0 ≤ a390.toInt ∧ a390.toInt ≤ 1) := (by rw [← e391]; show 0 ≤ ((a379.toUInt32 >>> ((31 : Int32).toUInt32 &&& Int32.toUInt32 31)).toInt32 : Int32).toInt ∧ ((a379.toUInt32 >>> ((31 : Int32).toUInt32 &&& Int32.toUInt32 31)).toInt32 : Int32).toInt ≤ 1; exact (by have z := s_ushr (x := a379) (c := 31) 31 (by decide) (by decide); omega))
    refine lv_istore_n (lv' := [(3, .int a390), (5, .int a379), (4, .int x17), (2, .int a14), (0, .ref (q k)), (1, .ref (q j))]) hx hb d_2_25_59 rfl hl (by decide) rfl (fun ls hl => ?_)
    obtain ⟨a393, e394⟩ := q_nm (x17 + 1 : Int32)
    have b395 : q_F (a393.toInt = x17.toInt + 1) := (by rw [← e394]; exact q_addI (y := 1) rfl (by decide) (by have t1 : 0 ≤ R.toInt ∧ R.toInt ≤ 220 := hR; have t2 : a14.toInt ≤ y1.toInt ∧ a14.toInt ≤ R.toInt ∧ (a14.toInt = y1.toInt ∨ a14.toInt = R.toInt) := b16; have t3 : 0 ≤ a14.toInt + (-1 * x17.toInt) := i337; have t4 : 0 ≤ x18.toInt := i338; have t5 : 0 ≤ x17.toInt + (-1 * x18.toInt) := i340; omega) (by have t1 : 0 ≤ R.toInt ∧ R.toInt ≤ 220 := hR; have t2 : a14.toInt ≤ y1.toInt ∧ a14.toInt ≤ R.toInt ∧ (a14.toInt = y1.toInt ∨ a14.toInt = R.toInt) := b16; have t3 : 0 ≤ a14.toInt + (-1 * x17.toInt) := i337; have t4 : 0 ≤ x18.toInt := i338; have t5 : 0 ≤ x17.toInt + (-1 * x18.toInt) := i340; omega))
    refine lv_iinc (v := a393) (lv' := [(4, .int a393), (3, .int a390), (5, .int a379), (2, .int a14), (0, .ref (q k)), (1, .ref (q j))]) hx hb d_2_25_60 hl (k := 2) rfl (e394) (by decide) rfl (fun ls hl => ?_)
    refine lv_goto (tgt := 18) hx hb d_2_25_63 (by decide) ?_
    exact ih341 ((a393 : Int32), (a390 : Int32)) _ _ _ _ (show (a14.toInt - a393.toInt).toNat < (a14.toInt - x17.toInt).toNat from by have t1 : x17.toInt < a14.toInt := b355; have t2 : a393.toInt = x17.toInt + 1 := b395; omega) ⟨(show q_F (0 ≤ a14.toInt + (-1 * a393.toInt)) from (show 0 ≤ a14.toInt + (-1 * a393.toInt) from by have t1 : x17.toInt < a14.toInt := b355; have t2 : a393.toInt = x17.toInt + 1 := b395; omega)), (show q_F (0 ≤ a390.toInt) from (show 0 ≤ a390.toInt from by have t1 : 0 ≤ a390.toInt ∧ a390.toInt ≤ 1 := b392; omega)), (show q_F (0 ≤ (-1 * a390.toInt) + 1) from (show 0 ≤ (-1 * a390.toInt) + 1 from by have t1 : 0 ≤ a390.toInt ∧ a390.toInt ≤ 1 := b392; omega)), (show q_F (0 ≤ a393.toInt + (-1 * a390.toInt)) from (show 0 ≤ a393.toInt + (-1 * a390.toInt) from by have t1 : 0 ≤ x18.toInt := i338; have t2 : 0 ≤ x17.toInt + (-1 * x18.toInt) := i340; have t3 : 0 ≤ a390.toInt ∧ a390.toInt ≤ 1 := b392; have t4 : a393.toInt = x17.toInt + 1 := b395; omega)), V, q_lw hl (q_lw1 0 rfl (q_lw1 1 rfl (q_lw1 3 rfl (q_lw1 4 rfl (q_lw1 5 rfl q_lw0))))), hI, hF⟩
theorem d_2_22_22 : decode prog_2_method_22_code 22 = .ok (.aload_n 0, 1) := by decide +kernel
theorem d_2_22_23 : decode prog_2_method_22_code 23 = .ok (.getfield 13, 3) := by decide +kernel
theorem d_2_22_26 : decode prog_2_method_22_code 26 = .ok (.ifCond .eq 11, 3) := by decide +kernel
theorem d_2_22_37 : decode prog_2_method_22_code 37 = .ok (.aload_n 0, 1) := by decide +kernel
theorem d_2_22_38 : decode prog_2_method_22_code 38 = .ok (.aload_n 1, 1) := by decide +kernel
theorem d_2_22_39 : decode prog_2_method_22_code 39 = .ok (.invokevirtual 82, 3) := by decide +kernel
theorem w_1206 : (Cond.code ({ cls := "NumberHouse$Big", name := "addSize", desc := "(LNumberHouse$Big;)V" } : MethodName) prog_2_method_23_code (6 : Nat) (none : Option ClassFile.FieldType)) ∈ q_tbl := q_of 1206 (by decide +kernel) (by decide +kernel)
theorem w_1268 : (Cond.methodLink "NumberHouse$Big" (82 : Nat) ({ cls := "NumberHouse$Big", name := "addSize", desc := "(LNumberHouse$Big;)V" } : MethodName)) ∈ q_tbl := q_of 1268 (by decide +kernel) (by decide +kernel)
theorem w_1204 : (Cond.instanceMethod ({ cls := "NumberHouse$Big", name := "addSize", desc := "(LNumberHouse$Big;)V" } : MethodName)) ∈ q_tbl := q_of 1204 (by decide +kernel) (by decide +kernel)
theorem w_1205 : (Cond.selects "NumberHouse$Big" ({ cls := "NumberHouse$Big", name := "addSize", desc := "(LNumberHouse$Big;)V" } : MethodName) ({ cls := "NumberHouse$Big", name := "addSize", desc := "(LNumberHouse$Big;)V" } : MethodName)) ∈ q_tbl := q_of 1205 (by decide +kernel) (by decide +kernel)
theorem LV_Big_82 : q_LV "NumberHouse$Big" 82 y_Big_addSize prog_2_method_23_code 6 none 1 := ⟨w_1206, w_4, w_1268, w_1204, w_1205, ⟨by decide, by decide, by decide +kernel⟩⟩
theorem d_2_22_42 : decode prog_2_method_22_code 42 = .ok (.aload_n 0, 1) := by decide +kernel
theorem d_2_22_43 : decode prog_2_method_22_code 43 = .ok (.iload_n 3, 1) := by decide +kernel
theorem d_2_22_44 : decode prog_2_method_22_code 44 = .ok (.putfield 17, 3) := by decide +kernel
theorem d_2_22_47 : decode prog_2_method_22_code 47 = .ok (.goto 29, 3) := by decide +kernel
theorem d_2_22_76 : decode prog_2_method_22_code 76 = .ok (.return_, 1) := by decide +kernel
theorem d_2_22_29 : decode prog_2_method_22_code 29 = .ok (.aload_n 0, 1) := by decide +kernel
theorem d_2_22_30 : decode prog_2_method_22_code 30 = .ok (.getfield 17, 3) := by decide +kernel
theorem d_2_22_33 : decode prog_2_method_22_code 33 = .ok (.iload_n 3, 1) := by decide +kernel
theorem d_2_22_34 : decode prog_2_method_22_code 34 = .ok (.if_icmp .ne 16, 3) := by decide +kernel
theorem d_2_22_50 : decode prog_2_method_22_code 50 = .ok (.aload_n 0, 1) := by decide +kernel
theorem d_2_22_51 : decode prog_2_method_22_code 51 = .ok (.aload_n 1, 1) := by decide +kernel
theorem d_2_22_52 : decode prog_2_method_22_code 52 = .ok (.invokevirtual 78, 3) := by decide +kernel
theorem d_2_22_55 : decode prog_2_method_22_code 55 = .ok (.ifCond .lt 11, 3) := by decide +kernel
theorem d_2_22_66 : decode prog_2_method_22_code 66 = .ok (.aload_n 0, 1) := by decide +kernel
theorem d_2_22_67 : decode prog_2_method_22_code 67 = .ok (.aload_n 1, 1) := by decide +kernel
theorem d_2_22_68 : decode prog_2_method_22_code 68 = .ok (.invokevirtual 89, 3) := by decide +kernel
theorem w_1273 : (Cond.code ({ cls := "NumberHouse$Big", name := "subtractFrom", desc := "(LNumberHouse$Big;)V" } : MethodName) prog_2_method_25_code (6 : Nat) (none : Option ClassFile.FieldType)) ∈ q_tbl := q_of 1273 (by decide +kernel) (by decide +kernel)
theorem w_1270 : (Cond.methodLink "NumberHouse$Big" (89 : Nat) ({ cls := "NumberHouse$Big", name := "subtractFrom", desc := "(LNumberHouse$Big;)V" } : MethodName)) ∈ q_tbl := q_of 1270 (by decide +kernel) (by decide +kernel)
theorem w_1271 : (Cond.instanceMethod ({ cls := "NumberHouse$Big", name := "subtractFrom", desc := "(LNumberHouse$Big;)V" } : MethodName)) ∈ q_tbl := q_of 1271 (by decide +kernel) (by decide +kernel)
theorem w_1272 : (Cond.selects "NumberHouse$Big" ({ cls := "NumberHouse$Big", name := "subtractFrom", desc := "(LNumberHouse$Big;)V" } : MethodName) ({ cls := "NumberHouse$Big", name := "subtractFrom", desc := "(LNumberHouse$Big;)V" } : MethodName)) ∈ q_tbl := q_of 1272 (by decide +kernel) (by decide +kernel)
theorem LV_Big_89 : q_LV "NumberHouse$Big" 89 y_Big_subtractFrom prog_2_method_25_code 6 none 1 := ⟨w_1273, w_4, w_1270, w_1271, w_1272, ⟨by decide, by decide, by decide +kernel⟩⟩
theorem d_2_22_71 : decode prog_2_method_22_code 71 = .ok (.aload_n 0, 1) := by decide +kernel
theorem d_2_22_72 : decode prog_2_method_22_code 72 = .ok (.iload_n 3, 1) := by decide +kernel
theorem d_2_22_73 : decode prog_2_method_22_code 73 = .ok (.putfield 17, 3) := by decide +kernel
theorem d_2_22_58 : decode prog_2_method_22_code 58 = .ok (.aload_n 0, 1) := by decide +kernel
theorem d_2_22_59 : decode prog_2_method_22_code 59 = .ok (.aload_n 1, 1) := by decide +kernel
theorem d_2_22_60 : decode prog_2_method_22_code 60 = .ok (.invokevirtual 86, 3) := by decide +kernel
theorem w_1202 : (Cond.code ({ cls := "NumberHouse$Big", name := "subtractSize", desc := "(LNumberHouse$Big;)V" } : MethodName) prog_2_method_24_code (5 : Nat) (none : Option ClassFile.FieldType)) ∈ q_tbl := q_of 1202 (by decide +kernel) (by decide +kernel)
theorem w_1269 : (Cond.methodLink "NumberHouse$Big" (86 : Nat) ({ cls := "NumberHouse$Big", name := "subtractSize", desc := "(LNumberHouse$Big;)V" } : MethodName)) ∈ q_tbl := q_of 1269 (by decide +kernel) (by decide +kernel)
theorem w_1200 : (Cond.instanceMethod ({ cls := "NumberHouse$Big", name := "subtractSize", desc := "(LNumberHouse$Big;)V" } : MethodName)) ∈ q_tbl := q_of 1200 (by decide +kernel) (by decide +kernel)
theorem w_1201 : (Cond.selects "NumberHouse$Big" ({ cls := "NumberHouse$Big", name := "subtractSize", desc := "(LNumberHouse$Big;)V" } : MethodName) ({ cls := "NumberHouse$Big", name := "subtractSize", desc := "(LNumberHouse$Big;)V" } : MethodName)) ∈ q_tbl := q_of 1201 (by decide +kernel) (by decide +kernel)
theorem LV_Big_86 : q_LV "NumberHouse$Big" 86 y_Big_subtractSize prog_2_method_24_code 5 none 1 := ⟨w_1202, w_4, w_1269, w_1200, w_1201, ⟨by decide, by decide, by decide +kernel⟩⟩
theorem d_2_22_63 : decode prog_2_method_22_code 63 = .ok (.goto 13, 3) := by decide +kernel
set_option maxRecDepth 100000 in
set_option maxHeartbeats 4000000 in
theorem S_Big_addSigned (l : Launch) (D : va_G) (g : Nat → ClassId) (sh : List q_Ok) (q : Nat → Nat) (ws : va_W) (k : Nat) (R : Int32) (hB : q_isBig sh g q k R) (j : Nat) (Q : Int32) (hJ : q_isBig sh g q j Q) (x2 : Int32) (hI : q_I sh q ws) (pre0 : 0 ≤ x2.toInt) (pre1 : 0 ≤ (-1 * x2.toInt) + 1) : q_mV l y_Big_addSigned prog_2_method_22_code 4 3 0 0 D g [.ref (q k), .ref (q j), .int x2] ws (fun u => (True) ∧ q_I sh q u ∧ q_un ws u [k, k + 1]) := by
  intro sz
  refine q_into (by decide) (Nat.le_of_ble_eq_true rfl) ?_
  intro p e s m below meth c ls hsz C0 V hl
  have hx := C0.1
  have hb := C0.2.1
  have hR : q_F (0 ≤ R.toInt ∧ R.toInt ≤ 220) := hB.2.2
  have hQ : q_F (0 ≤ Q.toInt ∧ Q.toInt ≤ 220) := hJ.2.2
  replace pre0 : q_F (0 ≤ x2.toInt) := pre0
  replace pre1 : q_F (0 ≤ (-1 * x2.toInt) + 1) := pre1
  have hF : q_un ws ws [k, k + 1] := q_u0
  have hl : lv_has ls 4 [(0, .ref (q k)), (1, .ref (q j)), (2, .int x2)] := hl
  refine lv_aload_n hx hb d_2_22_0 rfl (lv_at hl 1 rfl) ?_
  obtain ⟨y1, y2, hO3, b4, b5⟩ := q_bigO hI hJ
  replace b4 : q_F (0 ≤ y1.toInt ∧ y1.toInt ≤ Q.toInt) := b4
  replace b5 : q_F (0 ≤ y2.toInt ∧ y2.toInt ≤ 1) := b5
  refine q_get (ci := 2) (j := 2) (v := .int y2) C0 V i_Big rfl rfl hO3 (by decide) w_94 rfl d_2_22_1 ?_
  refine lv_iload_n hx hb d_2_22_4 rfl (lv_at hl 2 rfl) ?_
  refine lv_icmp_eq (tgt := 12) hx hb d_2_22_5 (by decide) (fun c6 => ?_) (fun c6 => ?_)
  ·
    have b7 : q_F (y2.toInt = x2.toInt) := (q_eqI c6)
    refine lv_iconst (v := 0) hx hb d_2_22_12 (by decide) ?_
    refine lv_istore_n (lv' := [(3, .int 0), (0, .ref (q k)), (1, .ref (q j)), (2, .int x2)]) hx hb d_2_22_13 rfl hl (by decide) rfl (fun ls hl => ?_)
    refine lv_aload_n hx hb d_2_22_14 rfl (lv_at hl 2 rfl) ?_
    refine q_get (ci := 2) (j := 1) (v := .int y1) C0 V i_Big rfl rfl hO3 (by decide) w_85 rfl d_2_22_15 ?_
    refine lv_if_ne (tgt := 22) hx hb d_2_22_18 (by decide) (fun c8 => ?_) (fun c8 => ?_)
    ·
      have b9 : q_F (y1.toInt ≠ 0) := (q_neI c8)
      refine lv_aload_n hx hb d_2_22_22 rfl (lv_at hl 1 rfl) ?_
      obtain ⟨y10, y11, hO12, b13, b14⟩ := q_bigO hI hB
      replace b13 : q_F (0 ≤ y10.toInt ∧ y10.toInt ≤ R.toInt) := b13
      replace b14 : q_F (0 ≤ y11.toInt ∧ y11.toInt ≤ 1) := b14
      refine q_get (ci := 2) (j := 1) (v := .int y10) C0 V i_Big rfl rfl hO12 (by decide) w_85 rfl d_2_22_23 ?_
      refine lv_if_eq (tgt := 37) hx hb d_2_22_26 (by decide) (fun c15 => ?_) (fun c15 => ?_)
      ·
        have b16 : q_F (y10.toInt = 0) := (q_eqI c15)
        refine lv_aload_n hx hb d_2_22_37 rfl (lv_at hl 1 rfl) ?_
        refine lv_aload_n hx hb d_2_22_38 rfl (lv_at hl 2 rfl) ?_
        refine q_gov V (q_runV (As := [.ref (q j)]) (rest := []) (d := 2) (mc := 0) (ms := 0) (ci := 2) C0 V rfl LV_Big_82 (S_Big_addSize l D g sh q ws k R hB j Q hJ hI  _) rfl rfl hO12 rfl hl.1 rfl (Nat.le_of_ble_eq_true rfl) ⟨by decide, by decide⟩ ⟨Nat.le_of_ble_eq_true rfl, Nat.le_of_ble_eq_true rfl⟩ d_2_22_39) (fun u17 H locs hp18 V => ?_)
        obtain ⟨_, hI, hu19⟩ := hp18
        replace hF := q_uc hF hu19 (by simp)
        refine lv_aload_n hx hb d_2_22_42 rfl (lv_at hl 1 rfl) ?_
        refine lv_iload_n hx hb d_2_22_43 rfl (lv_at hl 0 rfl) ?_
        obtain ⟨y20, y21, hO22, b23, b24⟩ := q_bigO hI hB
        replace b23 : q_F (0 ≤ y20.toInt ∧ y20.toInt ≤ R.toInt) := b23
        replace b24 : q_F (0 ≤ y21.toInt ∧ y21.toInt ≤ 1) := b24
        refine q_put (ci := 2) (j := 2) (v := .int 0) (ty := .boolean) C0 V i_Big o_Big n_Big rfl rfl hO22 (by decide) w_94 rfl rfl rfl rfl (Nat.le_of_ble_eq_true rfl) d_2_22_44 (fun H locs w25 hu26 hO22 V => ?_)
        replace hO22 : w25[k]? = (some (q k, .inr (2, [.ref (q (k + 1)), .int y20, .int 0])) : Option (Nat × va_E)) := hO22
        replace hI := q_bigO' hI hB hu26 hO22 ⟨(by have t1 : 0 ≤ y20.toInt ∧ y20.toInt ≤ R.toInt := b23; omega), (by have t1 : 0 ≤ y20.toInt ∧ y20.toInt ≤ R.toInt := b23; omega)⟩ ⟨(by have z9 : (0 : Int32).toInt = 0 := rfl; omega), (by have z9 : (0 : Int32).toInt = 0 := rfl; omega)⟩
        replace hF := q_us hF hu26 (by simp)
        refine lv_goto (tgt := 76) hx hb d_2_22_47 (by decide) ?_
        exact q_retv C0 V (⟨trivial, hI, hF⟩) d_2_22_76
      ·
        have b27 : q_F (y10.toInt ≠ 0) := (q_neI c15)
        refine lv_aload_n hx hb d_2_22_29 rfl (lv_at hl 1 rfl) ?_
        refine q_get (ci := 2) (j := 2) (v := .int y11) C0 V i_Big rfl rfl hO12 (by decide) w_94 rfl d_2_22_30 ?_
        refine lv_iload_n hx hb d_2_22_33 rfl (lv_at hl 0 rfl) ?_
        refine lv_icmp_ne (tgt := 50) hx hb d_2_22_34 (by decide) (fun c28 => ?_) (fun c28 => ?_)
        ·
          have b29 : q_F (y11.toInt ≠ 0) := (q_neI c28)
          refine lv_aload_n hx hb d_2_22_50 rfl (lv_at hl 1 rfl) ?_
          refine lv_aload_n hx hb d_2_22_51 rfl (lv_at hl 2 rfl) ?_
          refine q_goi V (q_runV (As := [.ref (q j)]) (rest := []) (d := 2) (mc := 0) (ms := 0) (ci := 2) C0 V rfl LV_Big_78 (S_Big_compareSize l D g sh q ws k R hB j Q hJ hI  _) rfl rfl hO12 rfl hl.1 rfl (Nat.le_of_ble_eq_true rfl) ⟨by decide, by decide⟩ ⟨Nat.le_of_ble_eq_true rfl, Nat.le_of_ble_eq_true rfl⟩ d_2_22_52) (fun a32 u30 H locs hp31 V => ?_)
          obtain ⟨b33, rfl⟩ := hp31
          replace b33 : q_F (-1 ≤ a32.toInt ∧ a32.toInt ≤ 1) := b33
          refine lv_if_lt (tgt := 66) hx hb d_2_22_55 (by decide) (fun c34 => ?_) (fun c34 => ?_)
          ·
            have b35 : q_F (a32.toInt < 0) := (q_ltI c34)
            refine lv_aload_n hx hb d_2_22_66 rfl (lv_at hl 1 rfl) ?_
            refine lv_aload_n hx hb d_2_22_67 rfl (lv_at hl 2 rfl) ?_
            refine q_gov V (q_runV (As := [.ref (q j)]) (rest := []) (d := 2) (mc := 0) (ms := 0) (ci := 2) C0 V rfl LV_Big_89 (S_Big_subtractFrom l D g sh q ws k R hB j Q hJ hI  _) rfl rfl hO12 rfl hl.1 rfl (Nat.le_of_ble_eq_true rfl) ⟨by decide, by decide⟩ ⟨Nat.le_of_ble_eq_true rfl, Nat.le_of_ble_eq_true rfl⟩ d_2_22_68) (fun u36 H locs hp37 V => ?_)
            obtain ⟨_, hI, hu38⟩ := hp37
            replace hF := q_uc hF hu38 (by simp)
            refine lv_aload_n hx hb d_2_22_71 rfl (lv_at hl 1 rfl) ?_
            refine lv_iload_n hx hb d_2_22_72 rfl (lv_at hl 0 rfl) ?_
            obtain ⟨y39, y40, hO41, b42, b43⟩ := q_bigO hI hB
            replace b42 : q_F (0 ≤ y39.toInt ∧ y39.toInt ≤ R.toInt) := b42
            replace b43 : q_F (0 ≤ y40.toInt ∧ y40.toInt ≤ 1) := b43
            refine q_put (ci := 2) (j := 2) (v := .int 0) (ty := .boolean) C0 V i_Big o_Big n_Big rfl rfl hO41 (by decide) w_94 rfl rfl rfl rfl (Nat.le_of_ble_eq_true rfl) d_2_22_73 (fun H locs w44 hu45 hO41 V => ?_)
            replace hO41 : w44[k]? = (some (q k, .inr (2, [.ref (q (k + 1)), .int y39, .int 0])) : Option (Nat × va_E)) := hO41
            replace hI := q_bigO' hI hB hu45 hO41 ⟨(by have t1 : 0 ≤ y39.toInt ∧ y39.toInt ≤ R.toInt := b42; omega), (by have t1 : 0 ≤ y39.toInt ∧ y39.toInt ≤ R.toInt := b42; omega)⟩ ⟨(by have z9 : (0 : Int32).toInt = 0 := rfl; omega), (by have z9 : (0 : Int32).toInt = 0 := rfl; omega)⟩
            replace hF := q_us hF hu45 (by simp)
            exact q_retv C0 V (⟨trivial, hI, hF⟩) d_2_22_76
          ·
            have b46 : q_F (0 ≤ a32.toInt) := (q_nltI c34)
            refine lv_aload_n hx hb d_2_22_58 rfl (lv_at hl 1 rfl) ?_
            refine lv_aload_n hx hb d_2_22_59 rfl (lv_at hl 2 rfl) ?_
            refine q_gov V (q_runV (As := [.ref (q j)]) (rest := []) (d := 2) (mc := 0) (ms := 0) (ci := 2) C0 V rfl LV_Big_86 (S_Big_subtractSize l D g sh q ws k R hB j Q hJ hI  _) rfl rfl hO12 rfl hl.1 rfl (Nat.le_of_ble_eq_true rfl) ⟨by decide, by decide⟩ ⟨Nat.le_of_ble_eq_true rfl, Nat.le_of_ble_eq_true rfl⟩ d_2_22_60) (fun u47 H locs hp48 V => ?_)
            obtain ⟨_, hI, hu49⟩ := hp48
            replace hF := q_uc hF hu49 (by simp)
            refine lv_goto (tgt := 76) hx hb d_2_22_63 (by decide) ?_
            exact q_retv C0 V (⟨trivial, hI, hF⟩) d_2_22_76
        ·
          have b50 : q_F (y11.toInt = 0) := (q_eqI c28)
          refine lv_aload_n hx hb d_2_22_37 rfl (lv_at hl 1 rfl) ?_
          refine lv_aload_n hx hb d_2_22_38 rfl (lv_at hl 2 rfl) ?_
          refine q_gov V (q_runV (As := [.ref (q j)]) (rest := []) (d := 2) (mc := 0) (ms := 0) (ci := 2) C0 V rfl LV_Big_82 (S_Big_addSize l D g sh q ws k R hB j Q hJ hI  _) rfl rfl hO12 rfl hl.1 rfl (Nat.le_of_ble_eq_true rfl) ⟨by decide, by decide⟩ ⟨Nat.le_of_ble_eq_true rfl, Nat.le_of_ble_eq_true rfl⟩ d_2_22_39) (fun u51 H locs hp52 V => ?_)
          obtain ⟨_, hI, hu53⟩ := hp52
          replace hF := q_uc hF hu53 (by simp)
          refine lv_aload_n hx hb d_2_22_42 rfl (lv_at hl 1 rfl) ?_
          refine lv_iload_n hx hb d_2_22_43 rfl (lv_at hl 0 rfl) ?_
          obtain ⟨y54, y55, hO56, b57, b58⟩ := q_bigO hI hB
          replace b57 : q_F (0 ≤ y54.toInt ∧ y54.toInt ≤ R.toInt) := b57
          replace b58 : q_F (0 ≤ y55.toInt ∧ y55.toInt ≤ 1) := b58
          refine q_put (ci := 2) (j := 2) (v := .int 0) (ty := .boolean) C0 V i_Big o_Big n_Big rfl rfl hO56 (by decide) w_94 rfl rfl rfl rfl (Nat.le_of_ble_eq_true rfl) d_2_22_44 (fun H locs w59 hu60 hO56 V => ?_)
          replace hO56 : w59[k]? = (some (q k, .inr (2, [.ref (q (k + 1)), .int y54, .int 0])) : Option (Nat × va_E)) := hO56
          replace hI := q_bigO' hI hB hu60 hO56 ⟨(by have t1 : 0 ≤ y54.toInt ∧ y54.toInt ≤ R.toInt := b57; omega), (by have t1 : 0 ≤ y54.toInt ∧ y54.toInt ≤ R.toInt := b57; omega)⟩ ⟨(by have z9 : (0 : Int32).toInt = 0 := rfl; omega), (by have z9 : (0 : Int32).toInt = 0 := rfl; omega)⟩
          replace hF := q_us hF hu60 (by simp)
          refine lv_goto (tgt := 76) hx hb d_2_22_47 (by decide) ?_
          exact q_retv C0 V (⟨trivial, hI, hF⟩) d_2_22_76
    ·
      have b61 : q_F (y1.toInt = 0) := (q_eqI c8)
      exact q_retv C0 V (⟨trivial, hI, hF⟩) d_2_22_21
  ·
    have b62 : q_F (y2.toInt ≠ x2.toInt) := (q_neI c6)
    refine lv_iconst (v := 1) hx hb d_2_22_8 (by decide) ?_
    refine lv_goto (tgt := 13) hx hb d_2_22_9 (by decide) ?_
    refine lv_istore_n (lv' := [(3, .int 1), (0, .ref (q k)), (1, .ref (q j)), (2, .int x2)]) hx hb d_2_22_13 rfl hl (by decide) rfl (fun ls hl => ?_)
    refine lv_aload_n hx hb d_2_22_14 rfl (lv_at hl 2 rfl) ?_
    refine q_get (ci := 2) (j := 1) (v := .int y1) C0 V i_Big rfl rfl hO3 (by decide) w_85 rfl d_2_22_15 ?_
    refine lv_if_ne (tgt := 22) hx hb d_2_22_18 (by decide) (fun c63 => ?_) (fun c63 => ?_)
    ·
      have b64 : q_F (y1.toInt ≠ 0) := (q_neI c63)
      refine lv_aload_n hx hb d_2_22_22 rfl (lv_at hl 1 rfl) ?_
      obtain ⟨y65, y66, hO67, b68, b69⟩ := q_bigO hI hB
      replace b68 : q_F (0 ≤ y65.toInt ∧ y65.toInt ≤ R.toInt) := b68
      replace b69 : q_F (0 ≤ y66.toInt ∧ y66.toInt ≤ 1) := b69
      refine q_get (ci := 2) (j := 1) (v := .int y65) C0 V i_Big rfl rfl hO67 (by decide) w_85 rfl d_2_22_23 ?_
      refine lv_if_eq (tgt := 37) hx hb d_2_22_26 (by decide) (fun c70 => ?_) (fun c70 => ?_)
      ·
        have b71 : q_F (y65.toInt = 0) := (q_eqI c70)
        refine lv_aload_n hx hb d_2_22_37 rfl (lv_at hl 1 rfl) ?_
        refine lv_aload_n hx hb d_2_22_38 rfl (lv_at hl 2 rfl) ?_
        refine q_gov V (q_runV (As := [.ref (q j)]) (rest := []) (d := 2) (mc := 0) (ms := 0) (ci := 2) C0 V rfl LV_Big_82 (S_Big_addSize l D g sh q ws k R hB j Q hJ hI  _) rfl rfl hO67 rfl hl.1 rfl (Nat.le_of_ble_eq_true rfl) ⟨by decide, by decide⟩ ⟨Nat.le_of_ble_eq_true rfl, Nat.le_of_ble_eq_true rfl⟩ d_2_22_39) (fun u72 H locs hp73 V => ?_)
        obtain ⟨_, hI, hu74⟩ := hp73
        replace hF := q_uc hF hu74 (by simp)
        refine lv_aload_n hx hb d_2_22_42 rfl (lv_at hl 1 rfl) ?_
        refine lv_iload_n hx hb d_2_22_43 rfl (lv_at hl 0 rfl) ?_
        obtain ⟨y75, y76, hO77, b78, b79⟩ := q_bigO hI hB
        replace b78 : q_F (0 ≤ y75.toInt ∧ y75.toInt ≤ R.toInt) := b78
        replace b79 : q_F (0 ≤ y76.toInt ∧ y76.toInt ≤ 1) := b79
        refine q_put (ci := 2) (j := 2) (v := .int 1) (ty := .boolean) C0 V i_Big o_Big n_Big rfl rfl hO77 (by decide) w_94 rfl rfl rfl rfl (Nat.le_of_ble_eq_true rfl) d_2_22_44 (fun H locs w80 hu81 hO77 V => ?_)
        replace hO77 : w80[k]? = (some (q k, .inr (2, [.ref (q (k + 1)), .int y75, .int 1])) : Option (Nat × va_E)) := hO77
        replace hI := q_bigO' hI hB hu81 hO77 ⟨(by have t1 : 0 ≤ y75.toInt ∧ y75.toInt ≤ R.toInt := b78; omega), (by have t1 : 0 ≤ y75.toInt ∧ y75.toInt ≤ R.toInt := b78; omega)⟩ ⟨(by have z9 : (1 : Int32).toInt = 1 := rfl; omega), (by have z9 : (1 : Int32).toInt = 1 := rfl; omega)⟩
        replace hF := q_us hF hu81 (by simp)
        refine lv_goto (tgt := 76) hx hb d_2_22_47 (by decide) ?_
        exact q_retv C0 V (⟨trivial, hI, hF⟩) d_2_22_76
      ·
        have b82 : q_F (y65.toInt ≠ 0) := (q_neI c70)
        refine lv_aload_n hx hb d_2_22_29 rfl (lv_at hl 1 rfl) ?_
        refine q_get (ci := 2) (j := 2) (v := .int y66) C0 V i_Big rfl rfl hO67 (by decide) w_94 rfl d_2_22_30 ?_
        refine lv_iload_n hx hb d_2_22_33 rfl (lv_at hl 0 rfl) ?_
        refine lv_icmp_ne (tgt := 50) hx hb d_2_22_34 (by decide) (fun c83 => ?_) (fun c83 => ?_)
        ·
          have b84 : q_F (y66.toInt ≠ 1) := (q_neI c83)
          refine lv_aload_n hx hb d_2_22_50 rfl (lv_at hl 1 rfl) ?_
          refine lv_aload_n hx hb d_2_22_51 rfl (lv_at hl 2 rfl) ?_
          refine q_goi V (q_runV (As := [.ref (q j)]) (rest := []) (d := 2) (mc := 0) (ms := 0) (ci := 2) C0 V rfl LV_Big_78 (S_Big_compareSize l D g sh q ws k R hB j Q hJ hI  _) rfl rfl hO67 rfl hl.1 rfl (Nat.le_of_ble_eq_true rfl) ⟨by decide, by decide⟩ ⟨Nat.le_of_ble_eq_true rfl, Nat.le_of_ble_eq_true rfl⟩ d_2_22_52) (fun a87 u85 H locs hp86 V => ?_)
          obtain ⟨b88, rfl⟩ := hp86
          replace b88 : q_F (-1 ≤ a87.toInt ∧ a87.toInt ≤ 1) := b88
          refine lv_if_lt (tgt := 66) hx hb d_2_22_55 (by decide) (fun c89 => ?_) (fun c89 => ?_)
          ·
            have b90 : q_F (a87.toInt < 0) := (q_ltI c89)
            refine lv_aload_n hx hb d_2_22_66 rfl (lv_at hl 1 rfl) ?_
            refine lv_aload_n hx hb d_2_22_67 rfl (lv_at hl 2 rfl) ?_
            refine q_gov V (q_runV (As := [.ref (q j)]) (rest := []) (d := 2) (mc := 0) (ms := 0) (ci := 2) C0 V rfl LV_Big_89 (S_Big_subtractFrom l D g sh q ws k R hB j Q hJ hI  _) rfl rfl hO67 rfl hl.1 rfl (Nat.le_of_ble_eq_true rfl) ⟨by decide, by decide⟩ ⟨Nat.le_of_ble_eq_true rfl, Nat.le_of_ble_eq_true rfl⟩ d_2_22_68) (fun u91 H locs hp92 V => ?_)
            obtain ⟨_, hI, hu93⟩ := hp92
            replace hF := q_uc hF hu93 (by simp)
            refine lv_aload_n hx hb d_2_22_71 rfl (lv_at hl 1 rfl) ?_
            refine lv_iload_n hx hb d_2_22_72 rfl (lv_at hl 0 rfl) ?_
            obtain ⟨y94, y95, hO96, b97, b98⟩ := q_bigO hI hB
            replace b97 : q_F (0 ≤ y94.toInt ∧ y94.toInt ≤ R.toInt) := b97
            replace b98 : q_F (0 ≤ y95.toInt ∧ y95.toInt ≤ 1) := b98
            refine q_put (ci := 2) (j := 2) (v := .int 1) (ty := .boolean) C0 V i_Big o_Big n_Big rfl rfl hO96 (by decide) w_94 rfl rfl rfl rfl (Nat.le_of_ble_eq_true rfl) d_2_22_73 (fun H locs w99 hu100 hO96 V => ?_)
            replace hO96 : w99[k]? = (some (q k, .inr (2, [.ref (q (k + 1)), .int y94, .int 1])) : Option (Nat × va_E)) := hO96
            replace hI := q_bigO' hI hB hu100 hO96 ⟨(by have t1 : 0 ≤ y94.toInt ∧ y94.toInt ≤ R.toInt := b97; omega), (by have t1 : 0 ≤ y94.toInt ∧ y94.toInt ≤ R.toInt := b97; omega)⟩ ⟨(by have z9 : (1 : Int32).toInt = 1 := rfl; omega), (by have z9 : (1 : Int32).toInt = 1 := rfl; omega)⟩
            replace hF := q_us hF hu100 (by simp)
            exact q_retv C0 V (⟨trivial, hI, hF⟩) d_2_22_76
          ·
            have b101 : q_F (0 ≤ a87.toInt) := (q_nltI c89)
            refine lv_aload_n hx hb d_2_22_58 rfl (lv_at hl 1 rfl) ?_
            refine lv_aload_n hx hb d_2_22_59 rfl (lv_at hl 2 rfl) ?_
            refine q_gov V (q_runV (As := [.ref (q j)]) (rest := []) (d := 2) (mc := 0) (ms := 0) (ci := 2) C0 V rfl LV_Big_86 (S_Big_subtractSize l D g sh q ws k R hB j Q hJ hI  _) rfl rfl hO67 rfl hl.1 rfl (Nat.le_of_ble_eq_true rfl) ⟨by decide, by decide⟩ ⟨Nat.le_of_ble_eq_true rfl, Nat.le_of_ble_eq_true rfl⟩ d_2_22_60) (fun u102 H locs hp103 V => ?_)
            obtain ⟨_, hI, hu104⟩ := hp103
            replace hF := q_uc hF hu104 (by simp)
            refine lv_goto (tgt := 76) hx hb d_2_22_63 (by decide) ?_
            exact q_retv C0 V (⟨trivial, hI, hF⟩) d_2_22_76
        ·
          have b105 : q_F (y66.toInt = 1) := (q_eqI c83)
          refine lv_aload_n hx hb d_2_22_37 rfl (lv_at hl 1 rfl) ?_
          refine lv_aload_n hx hb d_2_22_38 rfl (lv_at hl 2 rfl) ?_
          refine q_gov V (q_runV (As := [.ref (q j)]) (rest := []) (d := 2) (mc := 0) (ms := 0) (ci := 2) C0 V rfl LV_Big_82 (S_Big_addSize l D g sh q ws k R hB j Q hJ hI  _) rfl rfl hO67 rfl hl.1 rfl (Nat.le_of_ble_eq_true rfl) ⟨by decide, by decide⟩ ⟨Nat.le_of_ble_eq_true rfl, Nat.le_of_ble_eq_true rfl⟩ d_2_22_39) (fun u106 H locs hp107 V => ?_)
          obtain ⟨_, hI, hu108⟩ := hp107
          replace hF := q_uc hF hu108 (by simp)
          refine lv_aload_n hx hb d_2_22_42 rfl (lv_at hl 1 rfl) ?_
          refine lv_iload_n hx hb d_2_22_43 rfl (lv_at hl 0 rfl) ?_
          obtain ⟨y109, y110, hO111, b112, b113⟩ := q_bigO hI hB
          replace b112 : q_F (0 ≤ y109.toInt ∧ y109.toInt ≤ R.toInt) := b112
          replace b113 : q_F (0 ≤ y110.toInt ∧ y110.toInt ≤ 1) := b113
          refine q_put (ci := 2) (j := 2) (v := .int 1) (ty := .boolean) C0 V i_Big o_Big n_Big rfl rfl hO111 (by decide) w_94 rfl rfl rfl rfl (Nat.le_of_ble_eq_true rfl) d_2_22_44 (fun H locs w114 hu115 hO111 V => ?_)
          replace hO111 : w114[k]? = (some (q k, .inr (2, [.ref (q (k + 1)), .int y109, .int 1])) : Option (Nat × va_E)) := hO111
          replace hI := q_bigO' hI hB hu115 hO111 ⟨(by have t1 : 0 ≤ y109.toInt ∧ y109.toInt ≤ R.toInt := b112; omega), (by have t1 : 0 ≤ y109.toInt ∧ y109.toInt ≤ R.toInt := b112; omega)⟩ ⟨(by have z9 : (1 : Int32).toInt = 1 := rfl; omega), (by have z9 : (1 : Int32).toInt = 1 := rfl; omega)⟩
          replace hF := q_us hF hu115 (by simp)
          refine lv_goto (tgt := 76) hx hb d_2_22_47 (by decide) ?_
          exact q_retv C0 V (⟨trivial, hI, hF⟩) d_2_22_76
    ·
      have b116 : q_F (y1.toInt = 0) := (q_eqI c63)
      exact q_retv C0 V (⟨trivial, hI, hF⟩) d_2_22_21
