/-! Big, any state -/
set_option maxRecDepth 100000 in
set_option maxHeartbeats 4000000 in
theorem S_Big_clear (l : Launch) (D : va_G) (g : Nat → ClassId) (sh : List q_Ok) (q : Nat → Nat) (ws : va_W) (k : Nat) (R : Int32) (hB : q_isBig sh g q k R) (hI : q_I sh q ws) : q_mV l y_Big_clear prog_2_method_2_code 1 1 0 0 D g [.ref (q k)] ws (fun u => (True) ∧ q_I sh q u ∧ q_un ws u [k, k + 1]) := by
  intro sz
  refine q_into (by decide) (Nat.le_of_ble_eq_true rfl) ?_
  intro p e s m below meth c ls hsz C0 V hl
  have hx := C0.1
  have hb := C0.2.1
  have hR : q_F (0 ≤ R.toInt ∧ R.toInt ≤ 220) := hB.2.2
  have hF : q_un ws ws [k, k + 1] := q_u0
  have hl : lv_has ls 1 [(0, .ref (q k))] := hl
  refine lv_aload_n hx hb d_2_2_0 rfl (lv_at hl 0 rfl) ?_
  refine lv_iconst (v := 0) hx hb d_2_2_1 (by decide) ?_
  obtain ⟨y1, y2, hO3, b4, b5⟩ := q_bigO hI hB
  replace b4 : q_F (0 ≤ y1.toInt ∧ y1.toInt ≤ R.toInt) := b4
  replace b5 : q_F (0 ≤ y2.toInt ∧ y2.toInt ≤ 1) := b5
  refine q_put (ci := 2) (j := 1) (v := .int 0) (ty := .int) C0 V i_Big o_Big n_Big rfl rfl hO3 (by decide) w_85 rfl rfl rfl rfl (Nat.le_of_ble_eq_true rfl) d_2_2_2 (fun H locs w6 hu7 hO3 V => ?_)
  replace hO3 : w6[k]? = (some (q k, .inr (2, [.ref (q (k + 1)), .int 0, .int y2])) : Option (Nat × va_E)) := hO3
  replace hI := q_bigO' hI hB hu7 hO3 ⟨(by have z9 : (0 : Int32).toInt = 0 := rfl; omega), (by have z9 : (0 : Int32).toInt = 0 := rfl; have t1 : 0 ≤ R.toInt ∧ R.toInt ≤ 220 := hR; omega)⟩ ⟨(by have t1 : 0 ≤ y2.toInt ∧ y2.toInt ≤ 1 := b5; omega), (by have t1 : 0 ≤ y2.toInt ∧ y2.toInt ≤ 1 := b5; omega)⟩
  replace hF := q_us hF hu7 (by simp)
  refine lv_aload_n hx hb d_2_2_5 rfl (lv_at hl 0 rfl) ?_
  refine lv_iconst (v := 0) hx hb d_2_2_6 (by decide) ?_
  refine q_put (ci := 2) (j := 2) (v := .int 0) (ty := .boolean) C0 V i_Big o_Big n_Big rfl rfl hO3 (by decide) w_94 rfl rfl rfl rfl (Nat.le_of_ble_eq_true rfl) d_2_2_7 (fun H locs w8 hu9 hO3 V => ?_)
  replace hO3 : w8[k]? = (some (q k, .inr (2, [.ref (q (k + 1)), .int 0, .int 0])) : Option (Nat × va_E)) := hO3
  replace hI := q_bigO' hI hB hu9 hO3 ⟨(by have z9 : (0 : Int32).toInt = 0 := rfl; omega), (by have z9 : (0 : Int32).toInt = 0 := rfl; have t1 : 0 ≤ R.toInt ∧ R.toInt ≤ 220 := hR; omega)⟩ ⟨(by have z9 : (0 : Int32).toInt = 0 := rfl; omega), (by have z9 : (0 : Int32).toInt = 0 := rfl; omega)⟩
  replace hF := q_us hF hu9 (by simp)
  exact q_retv C0 V (⟨trivial, hI, hF⟩) d_2_2_10
theorem d_2_5_12 : decode prog_2_method_5_code 12 = .ok (.aload_n 0, 1) := by decide +kernel
theorem d_2_5_13 : decode prog_2_method_5_code 13 = .ok (.getfield 7, 3) := by decide +kernel
theorem d_2_5_16 : decode prog_2_method_5_code 16 = .ok (.iload_n 1, 1) := by decide +kernel
theorem d_2_5_17 : decode prog_2_method_5_code 17 = .ok (.iaload, 1) := by decide +kernel
theorem d_2_5_18 : decode prog_2_method_5_code 18 = .ok (.goto 4, 3) := by decide +kernel
set_option maxRecDepth 100000 in
set_option maxHeartbeats 4000000 in
theorem S_Big_limb (l : Launch) (D : va_G) (g : Nat → ClassId) (sh : List q_Ok) (q : Nat → Nat) (ws : va_W) (k : Nat) (R : Int32) (hB : q_isBig sh g q k R) (x1 : Int32) (hI : q_I sh q ws) : q_mI l y_Big_limb prog_2_method_5_code 2 (.int) 1 0 0 D g [.ref (q k), .int x1] ws (fun r u => (True) ∧ ws = u) := by
  intro sz
  refine q_into (by decide) (Nat.le_of_ble_eq_true rfl) ?_
  intro p e s m below meth c ls hsz C0 V hl
  have hx := C0.1
  have hb := C0.2.1
  have hR : q_F (0 ≤ R.toInt ∧ R.toInt ≤ 220) := hB.2.2
  have hl : lv_has ls 2 [(0, .ref (q k)), (1, .int x1)] := hl
  refine lv_iload_n hx hb d_2_5_0 rfl (lv_at hl 1 rfl) ?_
  refine lv_if_lt (tgt := 21) hx hb d_2_5_1 (by decide) (fun c1 => ?_) (fun c1 => ?_)
  ·
    have b2 : q_F (x1.toInt < 0) := (q_ltI c1)
    refine lv_iconst (v := 0) hx hb d_2_5_21 (by decide) ?_
    exact q_reti C0 V (⟨trivial, rfl⟩) d_2_5_22
  ·
    have b3 : q_F (0 ≤ x1.toInt) := (q_nltI c1)
    refine lv_iload_n hx hb d_2_5_4 rfl (lv_at hl 1 rfl) ?_
    refine lv_aload_n hx hb d_2_5_5 rfl (lv_at hl 0 rfl) ?_
    obtain ⟨y4, y5, hO6, b7, b8⟩ := q_bigO hI hB
    replace b7 : q_F (0 ≤ y4.toInt ∧ y4.toInt ≤ R.toInt) := b7
    replace b8 : q_F (0 ≤ y5.toInt ∧ y5.toInt ≤ 1) := b8
    refine q_get (ci := 2) (j := 1) (v := .int y4) C0 V i_Big rfl rfl hO6 (by decide) w_85 rfl d_2_5_6 ?_
    refine lv_icmp_ge (tgt := 21) hx hb d_2_5_9 (by decide) (fun c9 => ?_) (fun c9 => ?_)
    ·
      have b10 : q_F (y4.toInt ≤ x1.toInt) := (q_leI c9)
      refine lv_iconst (v := 0) hx hb d_2_5_21 (by decide) ?_
      exact q_reti C0 V (⟨trivial, rfl⟩) d_2_5_22
    ·
      have b11 : q_F (x1.toInt < y4.toInt) := (q_nleI c9)
      refine lv_aload_n hx hb d_2_5_12 rfl (lv_at hl 0 rfl) ?_
      refine q_get (ci := 2) (j := 0) (v := .ref (q (k + 1))) C0 V i_Big rfl rfl hO6 (by decide) w_84 rfl d_2_5_13 ?_
      refine lv_iload_n hx hb d_2_5_16 rfl (lv_at hl 1 rfl) ?_
      obtain ⟨f12, hA13, bf14⟩ := q_bigA hI hB
      refine q_iald C0 V hA13 (q_ix (x := x1.toInt) rfl (by have t1 : 0 ≤ x1.toInt := b3; omega) (by have t1 : 0 ≤ x1.toInt := b3; have t2 : 0 ≤ y4.toInt ∧ y4.toInt ≤ R.toInt := b7; have t3 : x1.toInt < y4.toInt := b11; have e9 := q_clI (i := R) rfl (by have t1 : 0 ≤ R.toInt ∧ R.toInt ≤ 220 := hR; omega); omega)) d_2_5_17 ?_
      obtain ⟨a15, e16⟩ := q_nm (f12 x1.toNatClampNeg : Int32)
      refine q_ti (v := a15) e16 ?_
      refine lv_goto (tgt := 22) hx hb d_2_5_18 (by decide) ?_
      exact q_reti C0 V (⟨trivial, rfl⟩) d_2_5_22
set_option maxRecDepth 100000 in
set_option maxHeartbeats 4000000 in
theorem S_Big_push (l : Launch) (D : va_G) (g : Nat → ClassId) (sh : List q_Ok) (q : Nat → Nat) (ws : va_W) (k : Nat) (R : Int32) (hB : q_isBig sh g q k R) (x1 : Int32) (hI : q_I sh q ws) : q_mV l y_Big_push prog_2_method_6_code 2 1 0 0 D g [.ref (q k), .int x1] ws (fun u => (True) ∧ q_I sh q u ∧ q_un ws u [k, k + 1]) := by
  intro sz
  refine q_into (by decide) (Nat.le_of_ble_eq_true rfl) ?_
  intro p e s m below meth c ls hsz C0 V hl
  have hx := C0.1
  have hb := C0.2.1
  have hR : q_F (0 ≤ R.toInt ∧ R.toInt ≤ 220) := hB.2.2
  have hF : q_un ws ws [k, k + 1] := q_u0
  have hl : lv_has ls 2 [(0, .ref (q k)), (1, .int x1)] := hl
  refine lv_aload_n hx hb d_2_6_0 rfl (lv_at hl 0 rfl) ?_
  obtain ⟨y1, y2, hO3, b4, b5⟩ := q_bigO hI hB
  replace b4 : q_F (0 ≤ y1.toInt ∧ y1.toInt ≤ R.toInt) := b4
  replace b5 : q_F (0 ≤ y2.toInt ∧ y2.toInt ≤ 1) := b5
  refine q_get (ci := 2) (j := 1) (v := .int y1) C0 V i_Big rfl rfl hO3 (by decide) w_85 rfl d_2_6_1 ?_
  refine lv_aload_n hx hb d_2_6_4 rfl (lv_at hl 0 rfl) ?_
  refine q_get (ci := 2) (j := 0) (v := .ref (q (k + 1))) C0 V i_Big rfl rfl hO3 (by decide) w_84 rfl d_2_6_5 ?_
  obtain ⟨f6, hA7, bf8⟩ := q_bigA hI hB
  refine q_alen (t := 0) (v := R) C0 V hA7 rfl (s_len (by have t1 : 0 ≤ R.toInt ∧ R.toInt ≤ 220 := hR; omega)) d_2_6_8 ?_
  refine lv_icmp_ge (tgt := 32) hx hb d_2_6_9 (by decide) (fun c9 => ?_) (fun c9 => ?_)
  ·
    have b10 : q_F (R.toInt ≤ y1.toInt) := (q_leI c9)
    exact q_retv C0 V (⟨trivial, hI, hF⟩) d_2_6_32
  ·
    have b11 : q_F (y1.toInt < R.toInt) := (q_nleI c9)
    refine lv_aload_n hx hb d_2_6_12 rfl (lv_at hl 0 rfl) ?_
    refine q_get (ci := 2) (j := 0) (v := .ref (q (k + 1))) C0 V i_Big rfl rfl hO3 (by decide) w_84 rfl d_2_6_13 ?_
    refine lv_aload_n hx hb d_2_6_16 rfl (lv_at hl 0 rfl) ?_
    refine q_get (ci := 2) (j := 1) (v := .int y1) C0 V i_Big rfl rfl hO3 (by decide) w_85 rfl d_2_6_17 ?_
    refine lv_iload_n hx hb d_2_6_20 rfl (lv_at hl 1 rfl) ?_
    refine q_iast C0 V hA7 (q_ix (x := y1.toInt) rfl (by have t1 : 0 ≤ y1.toInt ∧ y1.toInt ≤ R.toInt := b4; omega) (by have t1 : 0 ≤ y1.toInt ∧ y1.toInt ≤ R.toInt := b4; have t2 : y1.toInt < R.toInt := b11; have e9 := q_clI (i := R) rfl (by have t1 : 0 ≤ R.toInt ∧ R.toInt ≤ 220 := hR; omega); omega)) d_2_6_21 (fun H locs w12 hu13 hA7 V => ?_)
    replace hI := q_bigA' hI hB hu13 hA7 (q_updB bf8 s_bnd)
    replace hO3 := (hu13 _ (by omega)).trans hO3
    replace hF := q_us hF hu13 (by simp)
    refine lv_aload_n hx hb d_2_6_22 rfl (lv_at hl 0 rfl) ?_
    refine lv_dup hx hb d_2_6_23 rfl ?_
    refine q_get (ci := 2) (j := 1) (v := .int y1) C0 V i_Big rfl rfl hO3 (by decide) w_85 rfl d_2_6_24 ?_
    refine lv_iconst (v := 1) hx hb d_2_6_27 (by decide) ?_
    refine lv_iadd hx hb d_2_6_28 ?_
    obtain ⟨a14, e15⟩ := q_nm (y1 + 1 : Int32)
    refine q_ti (v := a14) e15 ?_
    have b16 : q_F (a14.toInt = y1.toInt + 1) := (by rw [← e15]; show (y1 + 1 : Int32).toInt = y1.toInt + 1; exact q_addI (x := y1.toInt) (y := 1) rfl (by decide) (by have t1 : 0 ≤ R.toInt ∧ R.toInt ≤ 220 := hR; have t2 : 0 ≤ y1.toInt ∧ y1.toInt ≤ R.toInt := b4; omega) (by have t1 : 0 ≤ R.toInt ∧ R.toInt ≤ 220 := hR; have t2 : 0 ≤ y1.toInt ∧ y1.toInt ≤ R.toInt := b4; omega))
    refine q_put (ci := 2) (j := 1) (v := .int a14) (ty := .int) C0 V i_Big o_Big n_Big rfl rfl hO3 (by decide) w_85 rfl rfl rfl rfl (Nat.le_of_ble_eq_true rfl) d_2_6_29 (fun H locs w17 hu18 hO3 V => ?_)
    replace hO3 : w17[k]? = (some (q k, .inr (2, [.ref (q (k + 1)), .int a14, .int y2])) : Option (Nat × va_E)) := hO3
    replace hI := q_bigO' hI hB hu18 hO3 ⟨(by have t1 : 0 ≤ y1.toInt ∧ y1.toInt ≤ R.toInt := b4; have t2 : a14.toInt = y1.toInt + 1 := b16; omega), (by have t1 : y1.toInt < R.toInt := b11; have t2 : a14.toInt = y1.toInt + 1 := b16; omega)⟩ ⟨(by have t1 : 0 ≤ y2.toInt ∧ y2.toInt ≤ 1 := b5; omega), (by have t1 : 0 ≤ y2.toInt ∧ y2.toInt ≤ 1 := b5; omega)⟩
    replace hF := q_us hF hu18 (by simp)
    exact q_retv C0 V (⟨trivial, hI, hF⟩) d_2_6_32
set_option maxRecDepth 100000 in
set_option maxHeartbeats 4000000 in
theorem S_Big_sign (l : Launch) (D : va_G) (g : Nat → ClassId) (sh : List q_Ok) (q : Nat → Nat) (ws : va_W) (k : Nat) (R : Int32) (hB : q_isBig sh g q k R) (hI : q_I sh q ws) : q_mI l y_Big_sign prog_2_method_8_code 1 (.int) 1 0 0 D g [.ref (q k)] ws (fun r u => (-1 ≤ r.toInt ∧ r.toInt ≤ 1) ∧ ws = u) := by
  intro sz
  refine q_into (by decide) (Nat.le_of_ble_eq_true rfl) ?_
  intro p e s m below meth c ls hsz C0 V hl
  have hx := C0.1
  have hb := C0.2.1
  have hR : q_F (0 ≤ R.toInt ∧ R.toInt ≤ 220) := hB.2.2
  have hl : lv_has ls 1 [(0, .ref (q k))] := hl
  refine lv_aload_n hx hb d_2_8_0 rfl (lv_at hl 0 rfl) ?_
  obtain ⟨y1, y2, hO3, b4, b5⟩ := q_bigO hI hB
  replace b4 : q_F (0 ≤ y1.toInt ∧ y1.toInt ≤ R.toInt) := b4
  replace b5 : q_F (0 ≤ y2.toInt ∧ y2.toInt ≤ 1) := b5
  refine q_get (ci := 2) (j := 1) (v := .int y1) C0 V i_Big rfl rfl hO3 (by decide) w_85 rfl d_2_8_1 ?_
  refine lv_if_ne (tgt := 11) hx hb d_2_8_4 (by decide) (fun c6 => ?_) (fun c6 => ?_)
  ·
    have b7 : q_F (y1.toInt ≠ 0) := (q_neI c6)
    refine lv_aload_n hx hb d_2_8_11 rfl (lv_at hl 0 rfl) ?_
    refine q_get (ci := 2) (j := 2) (v := .int y2) C0 V i_Big rfl rfl hO3 (by decide) w_94 rfl d_2_8_12 ?_
    refine lv_if_eq (tgt := 22) hx hb d_2_8_15 (by decide) (fun c8 => ?_) (fun c8 => ?_)
    ·
      have b9 : q_F (y2.toInt = 0) := (q_eqI c8)
      refine lv_iconst (v := 1) hx hb d_2_8_22 (by decide) ?_
      exact q_reti C0 V (⟨show -1 ≤ (1 : Int32).toInt ∧ (1 : Int32).toInt ≤ 1 from (by have z9 : (1 : Int32).toInt = 1 := rfl; omega), rfl⟩) d_2_8_23
    ·
      have b10 : q_F (y2.toInt ≠ 0) := (q_neI c8)
      refine lv_iconst (v := (-1)) hx hb d_2_8_18 (by decide) ?_
      refine lv_goto (tgt := 23) hx hb d_2_8_19 (by decide) ?_
      exact q_reti C0 V (⟨show -1 ≤ (-1 : Int32).toInt ∧ (-1 : Int32).toInt ≤ 1 from (by have z9 : (-1 : Int32).toInt = -1 := rfl; omega), rfl⟩) d_2_8_23
  ·
    have b11 : q_F (y1.toInt = 0) := (q_eqI c6)
    refine lv_iconst (v := 0) hx hb d_2_8_7 (by decide) ?_
    refine lv_goto (tgt := 23) hx hb d_2_8_8 (by decide) ?_
    exact q_reti C0 V (⟨show -1 ≤ (0 : Int32).toInt ∧ (0 : Int32).toInt ≤ 1 from (by have z9 : (0 : Int32).toInt = 0 := rfl; omega), rfl⟩) d_2_8_23
theorem d_2_9_8 : decode prog_2_method_9_code 8 = .ok (.aload_n 0, 1) := by decide +kernel
theorem d_2_9_9 : decode prog_2_method_9_code 9 = .ok (.getfield 7, 3) := by decide +kernel
theorem d_2_9_12 : decode prog_2_method_9_code 12 = .ok (.iconst 0, 1) := by decide +kernel
theorem d_2_9_13 : decode prog_2_method_9_code 13 = .ok (.iaload, 1) := by decide +kernel
theorem d_2_9_14 : decode prog_2_method_9_code 14 = .ok (.iconst 1, 1) := by decide +kernel
theorem d_2_9_15 : decode prog_2_method_9_code 15 = .ok (.if_icmp .ne 14, 3) := by decide +kernel
theorem d_2_9_18 : decode prog_2_method_9_code 18 = .ok (.aload_n 0, 1) := by decide +kernel
theorem d_2_9_19 : decode prog_2_method_9_code 19 = .ok (.getfield 17, 3) := by decide +kernel
theorem d_2_9_22 : decode prog_2_method_9_code 22 = .ok (.ifCond .ne 7, 3) := by decide +kernel
theorem d_2_9_25 : decode prog_2_method_9_code 25 = .ok (.iconst 1, 1) := by decide +kernel
theorem d_2_9_26 : decode prog_2_method_9_code 26 = .ok (.goto 4, 3) := by decide +kernel
set_option maxRecDepth 100000 in
set_option maxHeartbeats 4000000 in
theorem S_Big_isOne (l : Launch) (D : va_G) (g : Nat → ClassId) (sh : List q_Ok) (q : Nat → Nat) (ws : va_W) (k : Nat) (R : Int32) (hB : q_isBig sh g q k R) (hI : q_I sh q ws) : q_mI l y_Big_isOne prog_2_method_9_code 1 (.boolean) 1 0 0 D g [.ref (q k)] ws (fun r u => (0 ≤ r.toInt ∧ r.toInt ≤ 1) ∧ ws = u) := by
  intro sz
  refine q_into (by decide) (Nat.le_of_ble_eq_true rfl) ?_
  intro p e s m below meth c ls hsz C0 V hl
  have hx := C0.1
  have hb := C0.2.1
  have hR : q_F (0 ≤ R.toInt ∧ R.toInt ≤ 220) := hB.2.2
  have hl : lv_has ls 1 [(0, .ref (q k))] := hl
  refine lv_aload_n hx hb d_2_9_0 rfl (lv_at hl 0 rfl) ?_
  obtain ⟨y1, y2, hO3, b4, b5⟩ := q_bigO hI hB
  replace b4 : q_F (0 ≤ y1.toInt ∧ y1.toInt ≤ R.toInt) := b4
  replace b5 : q_F (0 ≤ y2.toInt ∧ y2.toInt ≤ 1) := b5
  refine q_get (ci := 2) (j := 1) (v := .int y1) C0 V i_Big rfl rfl hO3 (by decide) w_85 rfl d_2_9_1 ?_
  refine lv_iconst (v := 1) hx hb d_2_9_4 (by decide) ?_
  refine lv_icmp_ne (tgt := 29) hx hb d_2_9_5 (by decide) (fun c6 => ?_) (fun c6 => ?_)
  ·
    have b7 : q_F (y1.toInt ≠ 1) := (q_neI c6)
    refine lv_iconst (v := 0) hx hb d_2_9_29 (by decide) ?_
    exact q_retz C0 V (by decide) (⟨show 0 ≤ (0 : Int32).toInt ∧ (0 : Int32).toInt ≤ 1 from (by have z9 : (0 : Int32).toInt = 0 := rfl; omega), rfl⟩) d_2_9_30
  ·
    have b8 : q_F (y1.toInt = 1) := (q_eqI c6)
    refine lv_aload_n hx hb d_2_9_8 rfl (lv_at hl 0 rfl) ?_
    refine q_get (ci := 2) (j := 0) (v := .ref (q (k + 1))) C0 V i_Big rfl rfl hO3 (by decide) w_84 rfl d_2_9_9 ?_
    refine lv_iconst (v := 0) hx hb d_2_9_12 (by decide) ?_
    obtain ⟨f9, hA10, bf11⟩ := q_bigA hI hB
    refine q_iald C0 V hA10 (q_ix (x := 0) (by decide) (by omega) (by have t1 : 0 ≤ y1.toInt ∧ y1.toInt ≤ R.toInt := b4; have t2 : y1.toInt = 1 := b8; have e9 := q_clI (i := R) rfl (by have t1 : 0 ≤ R.toInt ∧ R.toInt ≤ 220 := hR; omega); omega)) d_2_9_13 ?_
    obtain ⟨a12, e13⟩ := q_nm (f9 (0 : Int32).toNatClampNeg : Int32)
    refine q_ti (v := a12) e13 ?_
    refine lv_iconst (v := 1) hx hb d_2_9_14 (by decide) ?_
    refine lv_icmp_ne (tgt := 29) hx hb d_2_9_15 (by decide) (fun c14 => ?_) (fun c14 => ?_)
    ·
      have b15 : q_F (a12.toInt ≠ 1) := (q_neI c14)
      refine lv_iconst (v := 0) hx hb d_2_9_29 (by decide) ?_
      exact q_retz C0 V (by decide) (⟨show 0 ≤ (0 : Int32).toInt ∧ (0 : Int32).toInt ≤ 1 from (by have z9 : (0 : Int32).toInt = 0 := rfl; omega), rfl⟩) d_2_9_30
    ·
      have b16 : q_F (a12.toInt = 1) := (q_eqI c14)
      refine lv_aload_n hx hb d_2_9_18 rfl (lv_at hl 0 rfl) ?_
      refine q_get (ci := 2) (j := 2) (v := .int y2) C0 V i_Big rfl rfl hO3 (by decide) w_94 rfl d_2_9_19 ?_
      refine lv_if_ne (tgt := 29) hx hb d_2_9_22 (by decide) (fun c17 => ?_) (fun c17 => ?_)
      ·
        have b18 : q_F (y2.toInt ≠ 0) := (q_neI c17)
        refine lv_iconst (v := 0) hx hb d_2_9_29 (by decide) ?_
        exact q_retz C0 V (by decide) (⟨show 0 ≤ (0 : Int32).toInt ∧ (0 : Int32).toInt ≤ 1 from (by have z9 : (0 : Int32).toInt = 0 := rfl; omega), rfl⟩) d_2_9_30
      ·
        have b19 : q_F (y2.toInt = 0) := (q_eqI c17)
        refine lv_iconst (v := 1) hx hb d_2_9_25 (by decide) ?_
        refine lv_goto (tgt := 30) hx hb d_2_9_26 (by decide) ?_
        exact q_retz C0 V (by decide) (⟨show 0 ≤ (1 : Int32).toInt ∧ (1 : Int32).toInt ≤ 1 from (by have z9 : (1 : Int32).toInt = 1 := rfl; omega), rfl⟩) d_2_9_30
theorem d_2_7_39 : decode prog_2_method_7_code 39 = .ok (.iload_n 1, 1) := by decide +kernel
theorem d_2_7_40 : decode prog_2_method_7_code 40 = .ok (.ifCond .le 7, 3) := by decide +kernel
theorem d_2_7_43 : decode prog_2_method_7_code 43 = .ok (.iconst 1, 1) := by decide +kernel
theorem d_2_7_44 : decode prog_2_method_7_code 44 = .ok (.goto 4, 3) := by decide +kernel
set_option maxRecDepth 100000 in
set_option maxHeartbeats 4000000 in
theorem S_Big_trim (l : Launch) (D : va_G) (g : Nat → ClassId) (sh : List q_Ok) (q : Nat → Nat) (ws : va_W) (k : Nat) (R : Int32) (hB : q_isBig sh g q k R) (hI : q_I sh q ws) : q_mV l y_Big_trim prog_2_method_7_code 2 1 0 0 D g [.ref (q k)] ws (fun u => (True) ∧ q_I sh q u ∧ q_un ws u [k, k + 1]) := by
  intro sz
  refine q_into (by decide) (Nat.le_of_ble_eq_true rfl) ?_
  intro p e s m below meth c ls hsz C0 V hl
  have hx := C0.1
  have hb := C0.2.1
  have hR : q_F (0 ≤ R.toInt ∧ R.toInt ≤ 220) := hB.2.2
  have hF : q_un ws ws [k, k + 1] := q_u0
  have hl : lv_has ls 2 [(0, .ref (q k))] := hl
  refine lv_aload_n hx hb d_2_7_0 rfl (lv_at hl 0 rfl) ?_
  obtain ⟨y1, y2, hO3, b4, b5⟩ := q_bigO hI hB
  replace b4 : q_F (0 ≤ y1.toInt ∧ y1.toInt ≤ R.toInt) := b4
  replace b5 : q_F (0 ≤ y2.toInt ∧ y2.toInt ≤ 1) := b5
  refine q_get (ci := 2) (j := 1) (v := .int y1) C0 V i_Big rfl rfl hO3 (by decide) w_85 rfl d_2_7_1 ?_
  refine lv_istore_n (lv' := [(1, .int y1), (0, .ref (q k))]) hx hb d_2_7_4 rfl hl (by decide) rfl (fun ls hl => ?_)
  refine q_loop (X := Int32) (fun z H locs ls w151 => q_F (0 ≤ z.toInt) ∧ q_F (0 ≤ y1.toInt + (-1 * z.toInt)) ∧ q_Wd D g (va_A ws sz) s w151 H locs ∧ lv_has ls 2 [(1, .int z), (0, .ref (q k))] ∧ q_I sh q w151 ∧ q_un ws w151 [k, k + 1]) (fun z => (z.toInt - ((-1))).toNat) ?_ ((y1 : Int32)) _ _ _ ws ⟨(show q_F (0 ≤ y1.toInt) from (show 0 ≤ y1.toInt from by have t1 : 0 ≤ y1.toInt ∧ y1.toInt ≤ R.toInt := b4; omega)), (show q_F (0 ≤ y1.toInt + (-1 * y1.toInt)) from (show 0 ≤ y1.toInt + (-1 * y1.toInt) from by omega)), V, hl, hI, hF⟩
  rintro lx6 H locs ls w151 ⟨i148, i149, V, hl, hI, hF⟩ ih150
  replace i148 : q_F (0 ≤ lx6.toInt) := i148
  replace i149 : q_F (0 ≤ y1.toInt + (-1 * lx6.toInt)) := i149
  replace hl : lv_has ls 2 [(1, .int lx6), (0, .ref (q k))] := hl
  refine lv_iload_n hx hb d_2_7_5 rfl (lv_at hl 0 rfl) ?_
  refine lv_if_le (tgt := 26) hx hb d_2_7_6 (by decide) (fun c152 => ?_) (fun c152 => ?_)
  ·
    have b153 : q_F (lx6.toInt ≤ 0) := (q_leI c152)
    refine lv_aload_n hx hb d_2_7_26 rfl (lv_at hl 1 rfl) ?_
    refine lv_iload_n hx hb d_2_7_27 rfl (lv_at hl 0 rfl) ?_
    obtain ⟨y154, y155, hO156, b157, b158⟩ := q_bigO hI hB
    replace b157 : q_F (0 ≤ y154.toInt ∧ y154.toInt ≤ R.toInt) := b157
    replace b158 : q_F (0 ≤ y155.toInt ∧ y155.toInt ≤ 1) := b158
    refine q_put (ci := 2) (j := 1) (v := .int lx6) (ty := .int) C0 V i_Big o_Big n_Big rfl rfl hO156 (by decide) w_85 rfl rfl rfl rfl (Nat.le_of_ble_eq_true rfl) d_2_7_28 (fun H locs w159 hu160 hO156 V => ?_)
    replace hO156 : w159[k]? = (some (q k, .inr (2, [.ref (q (k + 1)), .int lx6, .int y155])) : Option (Nat × va_E)) := hO156
    replace hI := q_bigO' hI hB hu160 hO156 ⟨(by have t1 : 0 ≤ lx6.toInt := i148; omega), (by have t1 : 0 ≤ y1.toInt ∧ y1.toInt ≤ R.toInt := b4; have t2 : 0 ≤ y1.toInt + (-1 * lx6.toInt) := i149; omega)⟩ ⟨(by have t1 : 0 ≤ y155.toInt ∧ y155.toInt ≤ 1 := b158; omega), (by have t1 : 0 ≤ y155.toInt ∧ y155.toInt ≤ 1 := b158; omega)⟩
    replace hF := q_us hF hu160 (by simp)
    refine lv_aload_n hx hb d_2_7_31 rfl (lv_at hl 1 rfl) ?_
    refine lv_aload_n hx hb d_2_7_32 rfl (lv_at hl 1 rfl) ?_
    refine q_get (ci := 2) (j := 2) (v := .int y155) C0 V i_Big rfl rfl hO156 (by decide) w_94 rfl d_2_7_33 ?_
    refine lv_if_eq (tgt := 47) hx hb d_2_7_36 (by decide) (fun c161 => ?_) (fun c161 => ?_)
    ·
      have b162 : q_F (y155.toInt = 0) := (q_eqI c161)
      refine lv_iconst (v := 0) hx hb d_2_7_47 (by decide) ?_
      refine q_put (ci := 2) (j := 2) (v := .int 0) (ty := .boolean) C0 V i_Big o_Big n_Big rfl rfl hO156 (by decide) w_94 rfl rfl rfl rfl (Nat.le_of_ble_eq_true rfl) d_2_7_48 (fun H locs w163 hu164 hO156 V => ?_)
      replace hO156 : w163[k]? = (some (q k, .inr (2, [.ref (q (k + 1)), .int lx6, .int 0])) : Option (Nat × va_E)) := hO156
      replace hI := q_bigO' hI hB hu164 hO156 ⟨(by have t1 : 0 ≤ lx6.toInt := i148; omega), (by have t1 : 0 ≤ y1.toInt ∧ y1.toInt ≤ R.toInt := b4; have t2 : 0 ≤ y1.toInt + (-1 * lx6.toInt) := i149; omega)⟩ ⟨(by have z9 : (0 : Int32).toInt = 0 := rfl; omega), (by have z9 : (0 : Int32).toInt = 0 := rfl; omega)⟩
      replace hF := q_us hF hu164 (by simp)
      exact q_retv C0 V (⟨trivial, hI, hF⟩) d_2_7_51
    ·
      have b165 : q_F (y155.toInt ≠ 0) := (q_neI c161)
      refine lv_iload_n hx hb d_2_7_39 rfl (lv_at hl 0 rfl) ?_
      refine lv_if_le (tgt := 47) hx hb d_2_7_40 (by decide) (fun c166 => ?_) (fun c166 => absurd (show 0 < lx6.toInt from q_nleI c166) (by have t1 : lx6.toInt ≤ 0 := b153; omega))
      refine lv_iconst (v := 0) hx hb d_2_7_47 (by decide) ?_
      refine q_put (ci := 2) (j := 2) (v := .int 0) (ty := .boolean) C0 V i_Big o_Big n_Big rfl rfl hO156 (by decide) w_94 rfl rfl rfl rfl (Nat.le_of_ble_eq_true rfl) d_2_7_48 (fun H locs w167 hu168 hO156 V => ?_)
      replace hO156 : w167[k]? = (some (q k, .inr (2, [.ref (q (k + 1)), .int lx6, .int 0])) : Option (Nat × va_E)) := hO156
      replace hI := q_bigO' hI hB hu168 hO156 ⟨(by have t1 : 0 ≤ lx6.toInt := i148; omega), (by have t1 : 0 ≤ y1.toInt ∧ y1.toInt ≤ R.toInt := b4; have t2 : 0 ≤ y1.toInt + (-1 * lx6.toInt) := i149; omega)⟩ ⟨(by have z9 : (0 : Int32).toInt = 0 := rfl; omega), (by have z9 : (0 : Int32).toInt = 0 := rfl; omega)⟩
      replace hF := q_us hF hu168 (by simp)
      exact q_retv C0 V (⟨trivial, hI, hF⟩) d_2_7_51
  ·
    have b169 : q_F (0 < lx6.toInt) := (q_nleI c152)
    refine lv_aload_n hx hb d_2_7_9 rfl (lv_at hl 1 rfl) ?_
    obtain ⟨y170, y171, hO172, b173, b174⟩ := q_bigO hI hB
    replace b173 : q_F (0 ≤ y170.toInt ∧ y170.toInt ≤ R.toInt) := b173
    replace b174 : q_F (0 ≤ y171.toInt ∧ y171.toInt ≤ 1) := b174
    refine q_get (ci := 2) (j := 0) (v := .ref (q (k + 1))) C0 V i_Big rfl rfl hO172 (by decide) w_84 rfl d_2_7_10 ?_
    refine lv_iload_n hx hb d_2_7_13 rfl (lv_at hl 0 rfl) ?_
    refine lv_iconst (v := 1) hx hb d_2_7_14 (by decide) ?_
    refine lv_isub hx hb d_2_7_15 ?_
    obtain ⟨a175, e176⟩ := q_nm (lx6 - 1 : Int32)
    refine q_ti (v := a175) e176 ?_
    have b177 : q_F (a175.toInt = lx6.toInt - 1) := (by rw [← e176]; show (lx6 - 1 : Int32).toInt = lx6.toInt - 1; exact q_subI (x := lx6.toInt) (y := 1) rfl (by decide) (by have t1 : 0 ≤ R.toInt ∧ R.toInt ≤ 220 := hR; have t2 : 0 ≤ y1.toInt ∧ y1.toInt ≤ R.toInt := b4; have t3 : 0 ≤ lx6.toInt := i148; have t4 : 0 ≤ y1.toInt + (-1 * lx6.toInt) := i149; omega) (by have t1 : 0 ≤ R.toInt ∧ R.toInt ≤ 220 := hR; have t2 : 0 ≤ y1.toInt ∧ y1.toInt ≤ R.toInt := b4; have t3 : 0 ≤ lx6.toInt := i148; have t4 : 0 ≤ y1.toInt + (-1 * lx6.toInt) := i149; omega))
    obtain ⟨f178, hA179, bf180⟩ := q_bigA hI hB
    refine q_iald C0 V hA179 (q_ix (x := a175.toInt) rfl (by have t1 : 0 < lx6.toInt := b169; have t2 : a175.toInt = lx6.toInt - 1 := b177; omega) (by have t1 : 0 ≤ y1.toInt ∧ y1.toInt ≤ R.toInt := b4; have t2 : 0 ≤ y1.toInt + (-1 * lx6.toInt) := i149; have t3 : 0 < lx6.toInt := b169; have t4 : a175.toInt = lx6.toInt - 1 := b177; have e9 := q_clI (i := R) rfl (by have t1 : 0 ≤ R.toInt ∧ R.toInt ≤ 220 := hR; omega); omega)) d_2_7_16 ?_
    obtain ⟨a181, e182⟩ := q_nm (f178 a175.toNatClampNeg : Int32)
    refine q_ti (v := a181) e182 ?_
    refine lv_if_ne (tgt := 26) hx hb d_2_7_17 (by decide) (fun c183 => ?_) (fun c183 => ?_)
    ·
      have b184 : q_F (a181.toInt ≠ 0) := (q_neI c183)
      refine lv_aload_n hx hb d_2_7_26 rfl (lv_at hl 1 rfl) ?_
      refine lv_iload_n hx hb d_2_7_27 rfl (lv_at hl 0 rfl) ?_
      refine q_put (ci := 2) (j := 1) (v := .int lx6) (ty := .int) C0 V i_Big o_Big n_Big rfl rfl hO172 (by decide) w_85 rfl rfl rfl rfl (Nat.le_of_ble_eq_true rfl) d_2_7_28 (fun H locs w185 hu186 hO172 V => ?_)
      replace hO172 : w185[k]? = (some (q k, .inr (2, [.ref (q (k + 1)), .int lx6, .int y171])) : Option (Nat × va_E)) := hO172
      replace hI := q_bigO' hI hB hu186 hO172 ⟨(by have t1 : 0 ≤ lx6.toInt := i148; omega), (by have t1 : 0 ≤ y1.toInt ∧ y1.toInt ≤ R.toInt := b4; have t2 : 0 ≤ y1.toInt + (-1 * lx6.toInt) := i149; omega)⟩ ⟨(by have t1 : 0 ≤ y171.toInt ∧ y171.toInt ≤ 1 := b174; omega), (by have t1 : 0 ≤ y171.toInt ∧ y171.toInt ≤ 1 := b174; omega)⟩
      replace hA179 := (hu186 _ (by omega)).trans hA179
      replace hF := q_us hF hu186 (by simp)
      refine lv_aload_n hx hb d_2_7_31 rfl (lv_at hl 1 rfl) ?_
      refine lv_aload_n hx hb d_2_7_32 rfl (lv_at hl 1 rfl) ?_
      refine q_get (ci := 2) (j := 2) (v := .int y171) C0 V i_Big rfl rfl hO172 (by decide) w_94 rfl d_2_7_33 ?_
      refine lv_if_eq (tgt := 47) hx hb d_2_7_36 (by decide) (fun c187 => ?_) (fun c187 => ?_)
      ·
        have b188 : q_F (y171.toInt = 0) := (q_eqI c187)
        refine lv_iconst (v := 0) hx hb d_2_7_47 (by decide) ?_
        refine q_put (ci := 2) (j := 2) (v := .int 0) (ty := .boolean) C0 V i_Big o_Big n_Big rfl rfl hO172 (by decide) w_94 rfl rfl rfl rfl (Nat.le_of_ble_eq_true rfl) d_2_7_48 (fun H locs w189 hu190 hO172 V => ?_)
        replace hO172 : w189[k]? = (some (q k, .inr (2, [.ref (q (k + 1)), .int lx6, .int 0])) : Option (Nat × va_E)) := hO172
        replace hI := q_bigO' hI hB hu190 hO172 ⟨(by have t1 : 0 ≤ lx6.toInt := i148; omega), (by have t1 : 0 ≤ y1.toInt ∧ y1.toInt ≤ R.toInt := b4; have t2 : 0 ≤ y1.toInt + (-1 * lx6.toInt) := i149; omega)⟩ ⟨(by have z9 : (0 : Int32).toInt = 0 := rfl; omega), (by have z9 : (0 : Int32).toInt = 0 := rfl; omega)⟩
        replace hA179 := (hu190 _ (by omega)).trans hA179
        replace hF := q_us hF hu190 (by simp)
        exact q_retv C0 V (⟨trivial, hI, hF⟩) d_2_7_51
      ·
        have b191 : q_F (y171.toInt ≠ 0) := (q_neI c187)
        refine lv_iload_n hx hb d_2_7_39 rfl (lv_at hl 0 rfl) ?_
        refine lv_if_le (tgt := 47) hx hb d_2_7_40 (by decide) (fun c192 => absurd (show lx6.toInt ≤ 0 from q_leI c192) (by have t1 : 0 < lx6.toInt := b169; omega)) (fun c192 => ?_)
        refine lv_iconst (v := 1) hx hb d_2_7_43 (by decide) ?_
        refine lv_goto (tgt := 48) hx hb d_2_7_44 (by decide) ?_
        refine q_put (ci := 2) (j := 2) (v := .int 1) (ty := .boolean) C0 V i_Big o_Big n_Big rfl rfl hO172 (by decide) w_94 rfl rfl rfl rfl (Nat.le_of_ble_eq_true rfl) d_2_7_48 (fun H locs w193 hu194 hO172 V => ?_)
        replace hO172 : w193[k]? = (some (q k, .inr (2, [.ref (q (k + 1)), .int lx6, .int 1])) : Option (Nat × va_E)) := hO172
        replace hI := q_bigO' hI hB hu194 hO172 ⟨(by have t1 : 0 ≤ lx6.toInt := i148; omega), (by have t1 : 0 ≤ y1.toInt ∧ y1.toInt ≤ R.toInt := b4; have t2 : 0 ≤ y1.toInt + (-1 * lx6.toInt) := i149; omega)⟩ ⟨(by have z9 : (1 : Int32).toInt = 1 := rfl; omega), (by have z9 : (1 : Int32).toInt = 1 := rfl; omega)⟩
        replace hA179 := (hu194 _ (by omega)).trans hA179
        replace hF := q_us hF hu194 (by simp)
        exact q_retv C0 V (⟨trivial, hI, hF⟩) d_2_7_51
    ·
      have b195 : q_F (a181.toInt = 0) := (q_eqI c183)
      obtain ⟨a196, e197⟩ := q_nm (lx6 + (-1) : Int32)
      have b198 : q_F (a196.toInt = lx6.toInt + (-1)) := (by rw [← e197]; exact q_addI (y := (-1)) rfl (by decide) (by have t1 : 0 ≤ R.toInt ∧ R.toInt ≤ 220 := hR; have t2 : 0 ≤ y1.toInt ∧ y1.toInt ≤ R.toInt := b4; have t3 : 0 ≤ lx6.toInt := i148; have t4 : 0 ≤ y1.toInt + (-1 * lx6.toInt) := i149; omega) (by have t1 : 0 ≤ R.toInt ∧ R.toInt ≤ 220 := hR; have t2 : 0 ≤ y1.toInt ∧ y1.toInt ≤ R.toInt := b4; have t3 : 0 ≤ lx6.toInt := i148; have t4 : 0 ≤ y1.toInt + (-1 * lx6.toInt) := i149; omega))
      refine lv_iinc (v := a196) (lv' := [(1, .int a196), (0, .ref (q k))]) hx hb d_2_7_20 hl (k := 0) rfl (e197) (by decide) rfl (fun ls hl => ?_)
      refine lv_goto (tgt := 5) hx hb d_2_7_23 (by decide) ?_
      exact ih150 ((a196 : Int32)) _ _ _ _ (show (a196.toInt - ((-1))).toNat < (lx6.toInt - ((-1))).toNat from by have t1 : 0 ≤ lx6.toInt := i148; have t2 : a196.toInt = lx6.toInt + (-1) := b198; omega) ⟨(show q_F (0 ≤ a196.toInt) from (show 0 ≤ a196.toInt from by have t1 : 0 < lx6.toInt := b169; have t2 : a196.toInt = lx6.toInt + (-1) := b198; omega)), (show q_F (0 ≤ y1.toInt + (-1 * a196.toInt)) from (show 0 ≤ y1.toInt + (-1 * a196.toInt) from by have t1 : 0 ≤ y1.toInt + (-1 * lx6.toInt) := i149; have t2 : a196.toInt = lx6.toInt + (-1) := b198; omega)), V, q_lw hl (q_lw1 0 rfl (q_lw1 1 rfl q_lw0)), hI, hF⟩
theorem d_2_18_10 : decode prog_2_method_18_code 10 = .ok (.aload_n 0, 1) := by decide +kernel
theorem d_2_18_11 : decode prog_2_method_18_code 11 = .ok (.getfield 7, 3) := by decide +kernel
theorem d_2_18_14 : decode prog_2_method_18_code 14 = .ok (.iload_n 1, 1) := by decide +kernel
theorem d_2_18_15 : decode prog_2_method_18_code 15 = .ok (.iaload, 1) := by decide +kernel
theorem d_2_18_16 : decode prog_2_method_18_code 16 = .ok (.ifCond .ne 9, 3) := by decide +kernel
theorem d_2_18_19 : decode prog_2_method_18_code 19 = .ok (.iinc 1 1, 3) := by decide +kernel
theorem d_2_18_22 : decode prog_2_method_18_code 22 = .ok (.goto (-20), 3) := by decide +kernel
set_option maxRecDepth 100000 in
set_option maxHeartbeats 4000000 in
theorem S_Big_lowestLimb (l : Launch) (D : va_G) (g : Nat → ClassId) (sh : List q_Ok) (q : Nat → Nat) (ws : va_W) (k : Nat) (R : Int32) (hB : q_isBig sh g q k R) (hI : q_I sh q ws) : q_mI l y_Big_lowestLimb prog_2_method_18_code 2 (.int) 1 0 0 D g [.ref (q k)] ws (fun r u => (0 ≤ r.toInt ∧ r.toInt ≤ R.toInt) ∧ ws = u) := by
  intro sz
  refine q_into (by decide) (Nat.le_of_ble_eq_true rfl) ?_
  intro p e s m below meth c ls hsz C0 V hl
  have hx := C0.1
  have hb := C0.2.1
  have hR : q_F (0 ≤ R.toInt ∧ R.toInt ≤ 220) := hB.2.2
  have hl : lv_has ls 2 [(0, .ref (q k))] := hl
  refine lv_iconst (v := 0) hx hb d_2_18_0 (by decide) ?_
  refine lv_istore_n (lv' := [(1, .int 0), (0, .ref (q k))]) hx hb d_2_18_1 rfl hl (by decide) rfl (fun ls hl => ?_)
  refine q_loop (X := Int32) (fun z H locs ls _ => q_F (0 ≤ z.toInt) ∧ q_F (0 ≤ R.toInt + (-1 * z.toInt)) ∧ q_Wd D g (va_A ws sz) s ws H locs ∧ lv_has ls 2 [(1, .int z), (0, .ref (q k))]) (fun z => (R.toInt - z.toInt).toNat) ?_ ((0 : Int32)) _ _ _ ws ⟨(show q_F (0 ≤ 0) from (show 0 ≤ 0 from by omega)), (show q_F (0 ≤ R.toInt + (-1 * 0)) from (show 0 ≤ R.toInt + (-1 * 0) from by have t1 : 0 ≤ R.toInt ∧ R.toInt ≤ 220 := hR; omega)), V, hl⟩
  rintro lx1 H locs ls _ ⟨i78, i79, V, hl⟩ ih80
  replace i78 : q_F (0 ≤ lx1.toInt) := i78
  replace i79 : q_F (0 ≤ R.toInt + (-1 * lx1.toInt)) := i79
  replace hl : lv_has ls 2 [(1, .int lx1), (0, .ref (q k))] := hl
  refine lv_iload_n hx hb d_2_18_2 rfl (lv_at hl 0 rfl) ?_
  refine lv_aload_n hx hb d_2_18_3 rfl (lv_at hl 1 rfl) ?_
  obtain ⟨y81, y82, hO83, b84, b85⟩ := q_bigO hI hB
  replace b84 : q_F (0 ≤ y81.toInt ∧ y81.toInt ≤ R.toInt) := b84
  replace b85 : q_F (0 ≤ y82.toInt ∧ y82.toInt ≤ 1) := b85
  refine q_get (ci := 2) (j := 1) (v := .int y81) C0 V i_Big rfl rfl hO83 (by decide) w_85 rfl d_2_18_4 ?_
  refine lv_icmp_ge (tgt := 25) hx hb d_2_18_7 (by decide) (fun c86 => ?_) (fun c86 => ?_)
  ·
    have b87 : q_F (y81.toInt ≤ lx1.toInt) := (q_leI c86)
    refine lv_iload_n hx hb d_2_18_25 rfl (lv_at hl 0 rfl) ?_
    exact q_reti C0 V (⟨show 0 ≤ lx1.toInt ∧ lx1.toInt ≤ R.toInt from (by have t1 : 0 ≤ lx1.toInt := i78; have t2 : 0 ≤ R.toInt + (-1 * lx1.toInt) := i79; omega), rfl⟩) d_2_18_26
  ·
    have b88 : q_F (lx1.toInt < y81.toInt) := (q_nleI c86)
    refine lv_aload_n hx hb d_2_18_10 rfl (lv_at hl 1 rfl) ?_
    refine q_get (ci := 2) (j := 0) (v := .ref (q (k + 1))) C0 V i_Big rfl rfl hO83 (by decide) w_84 rfl d_2_18_11 ?_
    refine lv_iload_n hx hb d_2_18_14 rfl (lv_at hl 0 rfl) ?_
    obtain ⟨f89, hA90, bf91⟩ := q_bigA hI hB
    refine q_iald C0 V hA90 (q_ix (x := lx1.toInt) rfl (by have t1 : 0 ≤ lx1.toInt := i78; omega) (by have t1 : 0 ≤ lx1.toInt := i78; have t2 : 0 ≤ y81.toInt ∧ y81.toInt ≤ R.toInt := b84; have t3 : lx1.toInt < y81.toInt := b88; have e9 := q_clI (i := R) rfl (by have t1 : 0 ≤ R.toInt ∧ R.toInt ≤ 220 := hR; omega); omega)) d_2_18_15 ?_
    obtain ⟨a92, e93⟩ := q_nm (f89 lx1.toNatClampNeg : Int32)
    refine q_ti (v := a92) e93 ?_
    refine lv_if_ne (tgt := 25) hx hb d_2_18_16 (by decide) (fun c94 => ?_) (fun c94 => ?_)
    ·
      have b95 : q_F (a92.toInt ≠ 0) := (q_neI c94)
      refine lv_iload_n hx hb d_2_18_25 rfl (lv_at hl 0 rfl) ?_
      exact q_reti C0 V (⟨show 0 ≤ lx1.toInt ∧ lx1.toInt ≤ R.toInt from (by have t1 : 0 ≤ lx1.toInt := i78; have t2 : 0 ≤ R.toInt + (-1 * lx1.toInt) := i79; omega), rfl⟩) d_2_18_26
    ·
      have b96 : q_F (a92.toInt = 0) := (q_eqI c94)
      obtain ⟨a97, e98⟩ := q_nm (lx1 + 1 : Int32)
      have b99 : q_F (a97.toInt = lx1.toInt + 1) := (by rw [← e98]; exact q_addI (y := 1) rfl (by decide) (by have t1 : 0 ≤ R.toInt ∧ R.toInt ≤ 220 := hR; have t2 : 0 ≤ lx1.toInt := i78; have t3 : 0 ≤ R.toInt + (-1 * lx1.toInt) := i79; omega) (by have t1 : 0 ≤ R.toInt ∧ R.toInt ≤ 220 := hR; have t2 : 0 ≤ lx1.toInt := i78; have t3 : 0 ≤ R.toInt + (-1 * lx1.toInt) := i79; omega))
      refine lv_iinc (v := a97) (lv' := [(1, .int a97), (0, .ref (q k))]) hx hb d_2_18_19 hl (k := 0) rfl (e98) (by decide) rfl (fun ls hl => ?_)
      refine lv_goto (tgt := 2) hx hb d_2_18_22 (by decide) ?_
      exact ih80 ((a97 : Int32)) _ _ _ ws (show (R.toInt - a97.toInt).toNat < (R.toInt - lx1.toInt).toNat from by have t1 : 0 ≤ y81.toInt ∧ y81.toInt ≤ R.toInt := b84; have t2 : lx1.toInt < y81.toInt := b88; have t3 : a97.toInt = lx1.toInt + 1 := b99; omega) ⟨(show q_F (0 ≤ a97.toInt) from (show 0 ≤ a97.toInt from by have t1 : 0 ≤ lx1.toInt := i78; have t2 : a97.toInt = lx1.toInt + 1 := b99; omega)), (show q_F (0 ≤ R.toInt + (-1 * a97.toInt)) from (show 0 ≤ R.toInt + (-1 * a97.toInt) from by have t1 : 0 ≤ y81.toInt ∧ y81.toInt ≤ R.toInt := b84; have t2 : lx1.toInt < y81.toInt := b88; have t3 : a97.toInt = lx1.toInt + 1 := b99; omega)), V, q_lw hl (q_lw1 0 rfl (q_lw1 1 rfl q_lw0))⟩
theorem d_2_23_0 : decode prog_2_method_23_code 0 = .ok (.aload_n 0, 1) := by decide +kernel
theorem d_2_23_1 : decode prog_2_method_23_code 1 = .ok (.getfield 13, 3) := by decide +kernel
theorem d_2_23_4 : decode prog_2_method_23_code 4 = .ok (.aload_n 1, 1) := by decide +kernel
theorem d_2_23_5 : decode prog_2_method_23_code 5 = .ok (.getfield 13, 3) := by decide +kernel
theorem d_2_23_8 : decode prog_2_method_23_code 8 = .ok (.invokestatic 92, 3) := by decide +kernel
set_option maxRecDepth 100000 in
theorem w_1043 : (Cond.methodLink "NumberHouse$Big" (92 : Nat) ({ cls := "java/lang/Math", name := "max", desc := "(II)I" } : MethodName)) ∈ q_tbl := q_of5 83 rfl (by decide +kernel)
set_option maxRecDepth 100000 in
theorem w_803 : (Cond.static ({ cls := "java/lang/Math", name := "max", desc := "(II)I" } : MethodName)) ∈ q_tbl := q_of4 83 rfl (by decide +kernel)
set_option maxRecDepth 100000 in
theorem w_804 : (Cond.code ({ cls := "java/lang/Math", name := "max", desc := "(II)I" } : MethodName) prog_29_method_65_code (2 : Nat) (some .int)) ∈ q_tbl := q_of4 84 rfl (by decide +kernel)
theorem d_2_23_11 : decode prog_2_method_23_code 11 = .ok (.aload_n 0, 1) := by decide +kernel
theorem d_2_23_12 : decode prog_2_method_23_code 12 = .ok (.getfield 7, 3) := by decide +kernel
theorem d_2_23_15 : decode prog_2_method_23_code 15 = .ok (.arraylength, 1) := by decide +kernel
theorem d_2_23_16 : decode prog_2_method_23_code 16 = .ok (.invokestatic 39, 3) := by decide +kernel
set_option maxRecDepth 100000 in
theorem w_773 : (Cond.methodLink "NumberHouse$Big" (39 : Nat) ({ cls := "java/lang/Math", name := "min", desc := "(II)I" } : MethodName)) ∈ q_tbl := q_of4 53 rfl (by decide +kernel)
set_option maxRecDepth 100000 in
theorem w_774 : (Cond.static ({ cls := "java/lang/Math", name := "min", desc := "(II)I" } : MethodName)) ∈ q_tbl := q_of4 54 rfl (by decide +kernel)
set_option maxRecDepth 100000 in
theorem w_775 : (Cond.code ({ cls := "java/lang/Math", name := "min", desc := "(II)I" } : MethodName) prog_29_method_69_code (2 : Nat) (some .int)) ∈ q_tbl := q_of4 55 rfl (by decide +kernel)
theorem d_2_23_19 : decode prog_2_method_23_code 19 = .ok (.istore_n 2, 1) := by decide +kernel
theorem d_2_23_20 : decode prog_2_method_23_code 20 = .ok (.iconst 0, 1) := by decide +kernel
theorem d_2_23_21 : decode prog_2_method_23_code 21 = .ok (.istore_n 3, 1) := by decide +kernel
theorem d_2_23_22 : decode prog_2_method_23_code 22 = .ok (.iconst 0, 1) := by decide +kernel
theorem d_2_23_23 : decode prog_2_method_23_code 23 = .ok (.istore 4, 2) := by decide +kernel
theorem d_2_23_25 : decode prog_2_method_23_code 25 = .ok (.iload 4, 2) := by decide +kernel
theorem d_2_23_27 : decode prog_2_method_23_code 27 = .ok (.iload_n 2, 1) := by decide +kernel
theorem d_2_23_28 : decode prog_2_method_23_code 28 = .ok (.if_icmp .ge 44, 3) := by decide +kernel
theorem d_2_23_72 : decode prog_2_method_23_code 72 = .ok (.aload_n 0, 1) := by decide +kernel
theorem d_2_23_73 : decode prog_2_method_23_code 73 = .ok (.iload_n 2, 1) := by decide +kernel
theorem d_2_23_74 : decode prog_2_method_23_code 74 = .ok (.putfield 13, 3) := by decide +kernel
theorem d_2_23_77 : decode prog_2_method_23_code 77 = .ok (.iload_n 3, 1) := by decide +kernel
theorem d_2_23_78 : decode prog_2_method_23_code 78 = .ok (.ifCond .eq 8, 3) := by decide +kernel
theorem d_2_23_86 : decode prog_2_method_23_code 86 = .ok (.return_, 1) := by decide +kernel
theorem d_2_23_81 : decode prog_2_method_23_code 81 = .ok (.aload_n 0, 1) := by decide +kernel
theorem d_2_23_82 : decode prog_2_method_23_code 82 = .ok (.iload_n 3, 1) := by decide +kernel
theorem d_2_23_83 : decode prog_2_method_23_code 83 = .ok (.invokevirtual 32, 3) := by decide +kernel
theorem d_2_23_31 : decode prog_2_method_23_code 31 = .ok (.aload_n 0, 1) := by decide +kernel
theorem d_2_23_32 : decode prog_2_method_23_code 32 = .ok (.iload 4, 2) := by decide +kernel
theorem d_2_23_34 : decode prog_2_method_23_code 34 = .ok (.invokevirtual 49, 3) := by decide +kernel
theorem d_2_23_37 : decode prog_2_method_23_code 37 = .ok (.aload_n 1, 1) := by decide +kernel
theorem d_2_23_38 : decode prog_2_method_23_code 38 = .ok (.iload 4, 2) := by decide +kernel
theorem d_2_23_40 : decode prog_2_method_23_code 40 = .ok (.invokevirtual 49, 3) := by decide +kernel
theorem d_2_23_43 : decode prog_2_method_23_code 43 = .ok (.iadd, 1) := by decide +kernel
theorem d_2_23_44 : decode prog_2_method_23_code 44 = .ok (.iload_n 3, 1) := by decide +kernel
theorem d_2_23_45 : decode prog_2_method_23_code 45 = .ok (.iadd, 1) := by decide +kernel
theorem d_2_23_46 : decode prog_2_method_23_code 46 = .ok (.istore 5, 2) := by decide +kernel
theorem d_2_23_48 : decode prog_2_method_23_code 48 = .ok (.aload_n 0, 1) := by decide +kernel
theorem d_2_23_49 : decode prog_2_method_23_code 49 = .ok (.getfield 7, 3) := by decide +kernel
theorem d_2_23_52 : decode prog_2_method_23_code 52 = .ok (.iload 4, 2) := by decide +kernel
theorem d_2_23_54 : decode prog_2_method_23_code 54 = .ok (.iload 5, 2) := by decide +kernel
theorem d_2_23_56 : decode prog_2_method_23_code 56 = .ok (.ldc 71, 2) := by decide +kernel
set_option maxRecDepth 100000 in
theorem w_809 : (Cond.constant "NumberHouse$Big" (71 : Nat) (2147483647 : Int32)) ∈ q_tbl := q_of4 89 rfl (by decide +kernel)
theorem d_2_23_58 : decode prog_2_method_23_code 58 = .ok (.iand, 1) := by decide +kernel
theorem d_2_23_59 : decode prog_2_method_23_code 59 = .ok (.iastore, 1) := by decide +kernel
theorem d_2_23_60 : decode prog_2_method_23_code 60 = .ok (.iload 5, 2) := by decide +kernel
theorem d_2_23_62 : decode prog_2_method_23_code 62 = .ok (.bipush 31, 2) := by decide +kernel
theorem d_2_23_64 : decode prog_2_method_23_code 64 = .ok (.iushr, 1) := by decide +kernel
theorem d_2_23_65 : decode prog_2_method_23_code 65 = .ok (.istore_n 3, 1) := by decide +kernel
theorem d_2_23_66 : decode prog_2_method_23_code 66 = .ok (.iinc 4 1, 3) := by decide +kernel
theorem d_2_23_69 : decode prog_2_method_23_code 69 = .ok (.goto (-44), 3) := by decide +kernel
def y_Big_addSize : MethodName := ⟨"NumberHouse$Big", "addSize", "(LNumberHouse$Big;)V"⟩
set_option maxRecDepth 100000 in
set_option maxHeartbeats 4000000 in
theorem S_Big_addSize (l : Launch) (D : va_G) (g : Nat → ClassId) (sh : List q_Ok) (q : Nat → Nat) (ws : va_W) (k : Nat) (R : Int32) (hB : q_isBig sh g q k R) (j : Nat) (Q : Int32) (hJ : q_isBig sh g q j Q) (hI : q_I sh q ws) : q_mV l y_Big_addSize prog_2_method_23_code 6 2 0 0 D g [.ref (q k), .ref (q j)] ws (fun u => (True) ∧ q_I sh q u ∧ q_un ws u [k, k + 1]) := by
  intro sz
  refine q_into (by decide) (Nat.le_of_ble_eq_true rfl) ?_
  intro p e s m below meth c ls hsz C0 V hl
  have hx := C0.1
  have hb := C0.2.1
  have hR : q_F (0 ≤ R.toInt ∧ R.toInt ≤ 220) := hB.2.2
  have hQ : q_F (0 ≤ Q.toInt ∧ Q.toInt ≤ 220) := hJ.2.2
  have hF : q_un ws ws [k, k + 1] := q_u0
  have hl : lv_has ls 6 [(0, .ref (q k)), (1, .ref (q j))] := hl
  refine lv_aload_n hx hb d_2_23_0 rfl (lv_at hl 0 rfl) ?_
  obtain ⟨y1, y2, hO3, b4, b5⟩ := q_bigO hI hB
  replace b4 : q_F (0 ≤ y1.toInt ∧ y1.toInt ≤ R.toInt) := b4
  replace b5 : q_F (0 ≤ y2.toInt ∧ y2.toInt ≤ 1) := b5
  refine q_get (ci := 2) (j := 1) (v := .int y1) C0 V i_Big rfl rfl hO3 (by decide) w_85 rfl d_2_23_1 ?_
  refine lv_aload_n hx hb d_2_23_4 rfl (lv_at hl 1 rfl) ?_
  obtain ⟨y6, y7, hO8, b9, b10⟩ := q_bigO hI hJ
  replace b9 : q_F (0 ≤ y6.toInt ∧ y6.toInt ≤ Q.toInt) := b9
  replace b10 : q_F (0 ≤ y7.toInt ∧ y7.toInt ≤ 1) := b10
  refine q_get (ci := 2) (j := 1) (v := .int y6) C0 V i_Big rfl rfl hO8 (by decide) w_85 rfl d_2_23_5 ?_
  refine q_max C0 hl.1 rfl w_1043 w_803 w_7 w_804 ⟨Nat.le_of_ble_eq_true rfl, Nat.le_of_ble_eq_true rfl⟩ ⟨Nat.le_of_ble_eq_true rfl, Nat.le_of_ble_eq_true rfl⟩ d_2_23_8 ?_
  obtain ⟨a11, e12⟩ := q_nm (if y1 < y6 then y6 else y1 : Int32)
  refine q_ti (v := a11) e12 ?_
  have b13 : q_F (y1.toInt ≤ a11.toInt ∧ y6.toInt ≤ a11.toInt ∧ (a11.toInt = y1.toInt ∨ a11.toInt = y6.toInt)) := (by rw [← e12]; show y1.toInt ≤ (if y1 < y6 then y6 else y1 : Int32).toInt ∧ y6.toInt ≤ (if y1 < y6 then y6 else y1 : Int32).toInt ∧ ((if y1 < y6 then y6 else y1 : Int32).toInt = y1.toInt ∨ (if y1 < y6 then y6 else y1 : Int32).toInt = y6.toInt); exact s_max (a := y1) (b := y6))
  refine lv_aload_n hx hb d_2_23_11 rfl (lv_at hl 0 rfl) ?_
  refine q_get (ci := 2) (j := 0) (v := .ref (q (k + 1))) C0 V i_Big rfl rfl hO3 (by decide) w_84 rfl d_2_23_12 ?_
  obtain ⟨f14, hA15, bf16⟩ := q_bigA hI hB
  refine q_alen (t := 0) (v := R) C0 V hA15 rfl (s_len (by have t1 : 0 ≤ R.toInt ∧ R.toInt ≤ 220 := hR; omega)) d_2_23_15 ?_
  refine q_min C0 hl.1 rfl w_773 w_774 w_7 w_775 ⟨Nat.le_of_ble_eq_true rfl, Nat.le_of_ble_eq_true rfl⟩ ⟨Nat.le_of_ble_eq_true rfl, Nat.le_of_ble_eq_true rfl⟩ d_2_23_16 ?_
  obtain ⟨a17, e18⟩ := q_nm (if R < a11 then R else a11 : Int32)
  refine q_ti (v := a17) e18 ?_
  have b19 : q_F (a17.toInt ≤ a11.toInt ∧ a17.toInt ≤ R.toInt ∧ (a17.toInt = a11.toInt ∨ a17.toInt = R.toInt)) := (by rw [← e18]; show (if R < a11 then R else a11 : Int32).toInt ≤ a11.toInt ∧ (if R < a11 then R else a11 : Int32).toInt ≤ R.toInt ∧ ((if R < a11 then R else a11 : Int32).toInt = a11.toInt ∨ (if R < a11 then R else a11 : Int32).toInt = R.toInt); exact s_min (a := a11) (b := R))
  refine lv_istore_n (lv' := [(2, .int a17), (0, .ref (q k)), (1, .ref (q j))]) hx hb d_2_23_19 rfl hl (by decide) rfl (fun ls hl => ?_)
  refine lv_iconst (v := 0) hx hb d_2_23_20 (by decide) ?_
  refine lv_istore_n (lv' := [(3, .int 0), (2, .int a17), (0, .ref (q k)), (1, .ref (q j))]) hx hb d_2_23_21 rfl hl (by decide) rfl (fun ls hl => ?_)
  refine lv_iconst (v := 0) hx hb d_2_23_22 (by decide) ?_
  refine lv_istore (lv' := [(4, .int 0), (3, .int 0), (2, .int a17), (0, .ref (q k)), (1, .ref (q j))]) hx hb d_2_23_23 hl (by decide) rfl (fun ls hl => ?_)
  refine q_loop (X := Int32 × Int32) (fun z H locs ls w335 => q_F (0 ≤ a17.toInt + (-1 * z.1.toInt)) ∧ q_F (0 ≤ z.2.toInt) ∧ q_F (0 ≤ (-1 * z.2.toInt) + 1) ∧ q_F (0 ≤ z.1.toInt + (-1 * z.2.toInt)) ∧ q_Wd D g (va_A ws sz) s w335 H locs ∧ lv_has ls 6 [(4, .int z.1), (3, .int z.2), (2, .int a17), (0, .ref (q k)), (1, .ref (q j))] ∧ q_I sh q w335 ∧ q_un ws w335 [k, k + 1]) (fun z => (a17.toInt - z.1.toInt).toNat) ?_ ((0 : Int32), (0 : Int32)) _ _ _ ws ⟨(show q_F (0 ≤ a17.toInt + (-1 * 0)) from (show 0 ≤ a17.toInt + (-1 * 0) from by have t1 : 0 ≤ y1.toInt ∧ y1.toInt ≤ R.toInt := b4; have t2 : y1.toInt ≤ a11.toInt ∧ y6.toInt ≤ a11.toInt ∧ (a11.toInt = y1.toInt ∨ a11.toInt = y6.toInt) := b13; have t3 : a17.toInt ≤ a11.toInt ∧ a17.toInt ≤ R.toInt ∧ (a17.toInt = a11.toInt ∨ a17.toInt = R.toInt) := b19; omega)), (show q_F (0 ≤ 0) from (show 0 ≤ 0 from by omega)), (show q_F (0 ≤ (-1 * 0) + 1) from (show 0 ≤ (-1 * 0) + 1 from by omega)), (show q_F (0 ≤ 0 + (-1 * 0)) from (show 0 ≤ 0 + (-1 * 0) from by omega)), V, hl, hI, hF⟩
  rintro ⟨lx20, lx21⟩ H locs ls w335 ⟨i330, i331, i332, i333, V, hl, hI, hF⟩ ih334
  replace i330 : q_F (0 ≤ a17.toInt + (-1 * lx20.toInt)) := i330
  replace i331 : q_F (0 ≤ lx21.toInt) := i331
  replace i332 : q_F (0 ≤ (-1 * lx21.toInt) + 1) := i332
  replace i333 : q_F (0 ≤ lx20.toInt + (-1 * lx21.toInt)) := i333
  replace hl : lv_has ls 6 [(4, .int lx20), (3, .int lx21), (2, .int a17), (0, .ref (q k)), (1, .ref (q j))] := hl
  refine lv_iload hx hb d_2_23_25 (lv_at hl 0 rfl) ?_
  refine lv_iload_n hx hb d_2_23_27 rfl (lv_at hl 2 rfl) ?_
  refine lv_icmp_ge (tgt := 72) hx hb d_2_23_28 (by decide) (fun c336 => ?_) (fun c336 => ?_)
  ·
    have b337 : q_F (a17.toInt ≤ lx20.toInt) := (q_leI c336)
    refine lv_aload_n hx hb d_2_23_72 rfl (lv_at hl 3 rfl) ?_
    refine lv_iload_n hx hb d_2_23_73 rfl (lv_at hl 2 rfl) ?_
    obtain ⟨y338, y339, hO340, b341, b342⟩ := q_bigO hI hB
    replace b341 : q_F (0 ≤ y338.toInt ∧ y338.toInt ≤ R.toInt) := b341
    replace b342 : q_F (0 ≤ y339.toInt ∧ y339.toInt ≤ 1) := b342
    refine q_put (ci := 2) (j := 1) (v := .int a17) (ty := .int) C0 V i_Big o_Big n_Big rfl rfl hO340 (by decide) w_85 rfl rfl rfl rfl (Nat.le_of_ble_eq_true rfl) d_2_23_74 (fun H locs w343 hu344 hO340 V => ?_)
    replace hO340 : w343[k]? = (some (q k, .inr (2, [.ref (q (k + 1)), .int a17, .int y339])) : Option (Nat × va_E)) := hO340
    replace hI := q_bigO' hI hB hu344 hO340 ⟨(by have t1 : 0 ≤ y1.toInt ∧ y1.toInt ≤ R.toInt := b4; have t2 : y1.toInt ≤ a11.toInt ∧ y6.toInt ≤ a11.toInt ∧ (a11.toInt = y1.toInt ∨ a11.toInt = y6.toInt) := b13; have t3 : a17.toInt ≤ a11.toInt ∧ a17.toInt ≤ R.toInt ∧ (a17.toInt = a11.toInt ∨ a17.toInt = R.toInt) := b19; omega), (by have t1 : a17.toInt ≤ a11.toInt ∧ a17.toInt ≤ R.toInt ∧ (a17.toInt = a11.toInt ∨ a17.toInt = R.toInt) := b19; omega)⟩ ⟨(by have t1 : 0 ≤ y339.toInt ∧ y339.toInt ≤ 1 := b342; omega), (by have t1 : 0 ≤ y339.toInt ∧ y339.toInt ≤ 1 := b342; omega)⟩
    replace hF := q_us hF hu344 (by simp)
    refine lv_iload_n hx hb d_2_23_77 rfl (lv_at hl 1 rfl) ?_
    refine lv_if_eq (tgt := 86) hx hb d_2_23_78 (by decide) (fun c345 => ?_) (fun c345 => ?_)
    ·
      have b346 : q_F (lx21.toInt = 0) := (q_eqI c345)
      exact q_retv C0 V (⟨trivial, hI, hF⟩) d_2_23_86
    ·
      have b347 : q_F (lx21.toInt ≠ 0) := (q_neI c345)
      refine lv_aload_n hx hb d_2_23_81 rfl (lv_at hl 3 rfl) ?_
      refine lv_iload_n hx hb d_2_23_82 rfl (lv_at hl 1 rfl) ?_
      refine q_gov V (q_runV (As := [.int lx21]) (rest := []) (d := 1) (mc := 0) (ms := 0) (ci := 2) C0 V rfl LV_Big_32 (S_Big_push l D g sh q w343 k R hB lx21 hI  _) rfl rfl hO340 rfl hl.1 rfl (Nat.le_of_ble_eq_true rfl) ⟨by decide, by decide⟩ ⟨Nat.le_of_ble_eq_true rfl, Nat.le_of_ble_eq_true rfl⟩ d_2_23_83) (fun u348 H locs hp349 V => ?_)
      obtain ⟨_, hI, hu350⟩ := hp349
      replace hF := q_uc hF hu350 (by simp)
      exact q_retv C0 V (⟨trivial, hI, hF⟩) d_2_23_86
  ·
    have b351 : q_F (lx20.toInt < a17.toInt) := (q_nleI c336)
    refine lv_aload_n hx hb d_2_23_31 rfl (lv_at hl 3 rfl) ?_
    refine lv_iload hx hb d_2_23_32 (lv_at hl 0 rfl) ?_
    obtain ⟨y355, y356, hO357, b358, b359⟩ := q_bigO hI hB
    replace b358 : q_F (0 ≤ y355.toInt ∧ y355.toInt ≤ R.toInt) := b358
    replace b359 : q_F (0 ≤ y356.toInt ∧ y356.toInt ≤ 1) := b359
    refine q_goi V (q_runV (As := [.int lx20]) (rest := []) (d := 1) (mc := 0) (ms := 0) (ci := 2) C0 V rfl LV_Big_49 (S_Big_limb l D g sh q w335 k R hB lx20 hI  _) rfl rfl hO357 rfl hl.1 rfl (Nat.le_of_ble_eq_true rfl) ⟨by decide, by decide⟩ ⟨Nat.le_of_ble_eq_true rfl, Nat.le_of_ble_eq_true rfl⟩ d_2_23_34) (fun a354 u352 H locs hp353 V => ?_)
    obtain ⟨b360, rfl⟩ := hp353
    replace b360 : q_F (True) := b360
    refine lv_aload_n hx hb d_2_23_37 rfl (lv_at hl 4 rfl) ?_
    refine lv_iload hx hb d_2_23_38 (lv_at hl 0 rfl) ?_
    obtain ⟨y364, y365, hO366, b367, b368⟩ := q_bigO hI hJ
    replace b367 : q_F (0 ≤ y364.toInt ∧ y364.toInt ≤ Q.toInt) := b367
    replace b368 : q_F (0 ≤ y365.toInt ∧ y365.toInt ≤ 1) := b368
    refine q_goi V (q_runV (As := [.int lx20]) (rest := [.int a354]) (d := 1) (mc := 0) (ms := 0) (ci := 2) C0 V rfl LV_Big_49 (S_Big_limb l D g sh q w335 j Q hJ lx20 hI  _) rfl rfl hO366 rfl hl.1 rfl (Nat.le_of_ble_eq_true rfl) ⟨by decide, by decide⟩ ⟨Nat.le_of_ble_eq_true rfl, Nat.le_of_ble_eq_true rfl⟩ d_2_23_40) (fun a363 u361 H locs hp362 V => ?_)
    obtain ⟨b369, rfl⟩ := hp362
    replace b369 : q_F (True) := b369
    refine lv_iadd hx hb d_2_23_43 ?_
    obtain ⟨a370, e371⟩ := q_nm (a354 + a363 : Int32)
    refine q_ti (v := a370) e371 ?_
    refine lv_iload_n hx hb d_2_23_44 rfl (lv_at hl 1 rfl) ?_
    refine lv_iadd hx hb d_2_23_45 ?_
    obtain ⟨a372, e373⟩ := q_nm (a370 + lx21 : Int32)
    refine q_ti (v := a372) e373 ?_
    refine lv_istore (lv' := [(5, .int a372), (4, .int lx20), (3, .int lx21), (2, .int a17), (0, .ref (q k)), (1, .ref (q j))]) hx hb d_2_23_46 hl (by decide) rfl (fun ls hl => ?_)
    refine lv_aload_n hx hb d_2_23_48 rfl (lv_at hl 4 rfl) ?_
    refine q_get (ci := 2) (j := 0) (v := .ref (q (k + 1))) C0 V i_Big rfl rfl hO357 (by decide) w_84 rfl d_2_23_49 ?_
    refine lv_iload hx hb d_2_23_52 (lv_at hl 1 rfl) ?_
    refine lv_iload hx hb d_2_23_54 (lv_at hl 0 rfl) ?_
    refine q_ldc C0 rfl w_809 d_2_23_56 ?_
    refine lv_iand hx hb d_2_23_58 ?_
    obtain ⟨a374, e375⟩ := q_nm (a372 &&& 2147483647 : Int32)
    refine q_ti (v := a374) e375 ?_
    have b376 : q_F (0 ≤ a374.toInt ∧ a374.toInt ≤ 2147483647) := (by rw [← e375]; show 0 ≤ (a372 &&& 2147483647 : Int32).toInt ∧ (a372 &&& 2147483647 : Int32).toInt ≤ 2147483647; exact s_and (by decide))
    obtain ⟨f377, hA378, bf379⟩ := q_bigA hI hB
    refine q_iast C0 V hA378 (q_ix (x := lx20.toInt) rfl (by have t1 : 0 ≤ lx21.toInt := i331; have t2 : 0 ≤ lx20.toInt + (-1 * lx21.toInt) := i333; omega) (by have t1 : a17.toInt ≤ a11.toInt ∧ a17.toInt ≤ R.toInt ∧ (a17.toInt = a11.toInt ∨ a17.toInt = R.toInt) := b19; have t2 : 0 ≤ lx21.toInt := i331; have t3 : 0 ≤ lx20.toInt + (-1 * lx21.toInt) := i333; have t4 : lx20.toInt < a17.toInt := b351; have e9 := q_clI (i := R) rfl (by have t1 : 0 ≤ R.toInt ∧ R.toInt ≤ 220 := hR; omega); omega)) d_2_23_59 (fun H locs w380 hu381 hA378 V => ?_)
    replace hI := q_bigA' hI hB hu381 hA378 (q_updB bf379 s_bnd)
    replace hO357 := (hu381 _ (by omega)).trans hO357
    replace hF := q_us hF hu381 (by simp)
    refine lv_iload hx hb d_2_23_60 (lv_at hl 0 rfl) ?_
    refine lv_bipush (v := 31) hx hb d_2_23_62 (by decide) ?_
    refine lv_iushr hx hb d_2_23_64 rfl ?_
    obtain ⟨a382, e383⟩ := q_nm ((a372.toUInt32 >>> ((31 : Int32).toUInt32 &&& Int32.toUInt32 31)).toInt32 : Int32)
    refine q_ti (v := a382) e383 ?_
    have b384 : q_F (0 ≤ a382.toInt ∧ a382.toInt ≤ 1) := (by rw [← e383]; show 0 ≤ ((a372.toUInt32 >>> ((31 : Int32).toUInt32 &&& Int32.toUInt32 31)).toInt32 : Int32).toInt ∧ ((a372.toUInt32 >>> ((31 : Int32).toUInt32 &&& Int32.toUInt32 31)).toInt32 : Int32).toInt ≤ 1; exact (by have z := s_ushr (x := a372) (c := 31) 31 (by decide) (by decide); omega))
    refine lv_istore_n (lv' := [(3, .int a382), (5, .int a372), (4, .int lx20), (2, .int a17), (0, .ref (q k)), (1, .ref (q j))]) hx hb d_2_23_65 rfl hl (by decide) rfl (fun ls hl => ?_)
    obtain ⟨a385, e386⟩ := q_nm (lx20 + 1 : Int32)
    have b387 : q_F (a385.toInt = lx20.toInt + 1) := (by rw [← e386]; exact q_addI (y := 1) rfl (by decide) (by have t1 : 0 ≤ R.toInt ∧ R.toInt ≤ 220 := hR; have t2 : a17.toInt ≤ a11.toInt ∧ a17.toInt ≤ R.toInt ∧ (a17.toInt = a11.toInt ∨ a17.toInt = R.toInt) := b19; have t3 : 0 ≤ a17.toInt + (-1 * lx20.toInt) := i330; have t4 : 0 ≤ lx21.toInt := i331; have t5 : 0 ≤ lx20.toInt + (-1 * lx21.toInt) := i333; omega) (by have t1 : 0 ≤ R.toInt ∧ R.toInt ≤ 220 := hR; have t2 : a17.toInt ≤ a11.toInt ∧ a17.toInt ≤ R.toInt ∧ (a17.toInt = a11.toInt ∨ a17.toInt = R.toInt) := b19; have t3 : 0 ≤ a17.toInt + (-1 * lx20.toInt) := i330; have t4 : 0 ≤ lx21.toInt := i331; have t5 : 0 ≤ lx20.toInt + (-1 * lx21.toInt) := i333; omega))
    refine lv_iinc (v := a385) (lv' := [(4, .int a385), (3, .int a382), (5, .int a372), (2, .int a17), (0, .ref (q k)), (1, .ref (q j))]) hx hb d_2_23_66 hl (k := 2) rfl (e386) (by decide) rfl (fun ls hl => ?_)
    refine lv_goto (tgt := 25) hx hb d_2_23_69 (by decide) ?_
    exact ih334 ((a385 : Int32), (a382 : Int32)) _ _ _ _ (show (a17.toInt - a385.toInt).toNat < (a17.toInt - lx20.toInt).toNat from by have t1 : lx20.toInt < a17.toInt := b351; have t2 : a385.toInt = lx20.toInt + 1 := b387; omega) ⟨(show q_F (0 ≤ a17.toInt + (-1 * a385.toInt)) from (show 0 ≤ a17.toInt + (-1 * a385.toInt) from by have t1 : lx20.toInt < a17.toInt := b351; have t2 : a385.toInt = lx20.toInt + 1 := b387; omega)), (show q_F (0 ≤ a382.toInt) from (show 0 ≤ a382.toInt from by have t1 : 0 ≤ a382.toInt ∧ a382.toInt ≤ 1 := b384; omega)), (show q_F (0 ≤ (-1 * a382.toInt) + 1) from (show 0 ≤ (-1 * a382.toInt) + 1 from by have t1 : 0 ≤ a382.toInt ∧ a382.toInt ≤ 1 := b384; omega)), (show q_F (0 ≤ a385.toInt + (-1 * a382.toInt)) from (show 0 ≤ a385.toInt + (-1 * a382.toInt) from by have t1 : 0 ≤ lx21.toInt := i331; have t2 : 0 ≤ lx20.toInt + (-1 * lx21.toInt) := i333; have t3 : 0 ≤ a382.toInt ∧ a382.toInt ≤ 1 := b384; have t4 : a385.toInt = lx20.toInt + 1 := b387; omega)), V, q_lw hl (q_lw1 0 rfl (q_lw1 1 rfl (q_lw1 3 rfl (q_lw1 4 rfl (q_lw1 5 rfl q_lw0))))), hI, hF⟩
theorem d_27_40_0 : decode prog_27_method_40_code 0 = .ok (.iload_n 0, 1) := by decide +kernel
theorem d_27_40_1 : decode prog_27_method_40_code 1 = .ok (.iload_n 1, 1) := by decide +kernel
theorem d_27_40_2 : decode prog_27_method_40_code 2 = .ok (.if_icmp .ge 7, 3) := by decide +kernel
theorem d_27_40_9 : decode prog_27_method_40_code 9 = .ok (.iload_n 0, 1) := by decide +kernel
theorem d_27_40_10 : decode prog_27_method_40_code 10 = .ok (.iload_n 1, 1) := by decide +kernel
theorem d_27_40_11 : decode prog_27_method_40_code 11 = .ok (.if_icmp .ne 7, 3) := by decide +kernel
theorem d_27_40_18 : decode prog_27_method_40_code 18 = .ok (.iconst 1, 1) := by decide +kernel
theorem d_27_40_19 : decode prog_27_method_40_code 19 = .ok (.ireturn, 1) := by decide +kernel
theorem d_27_40_14 : decode prog_27_method_40_code 14 = .ok (.iconst 0, 1) := by decide +kernel
theorem d_27_40_15 : decode prog_27_method_40_code 15 = .ok (.goto 4, 3) := by decide +kernel
theorem d_27_40_5 : decode prog_27_method_40_code 5 = .ok (.iconst (-1), 1) := by decide +kernel
theorem d_27_40_6 : decode prog_27_method_40_code 6 = .ok (.goto 13, 3) := by decide +kernel
def y_jInt_compare : MethodName := ⟨"java/lang/Integer", "compare", "(II)I"⟩
set_option maxRecDepth 100000 in
set_option maxHeartbeats 4000000 in
theorem S_Int_compare (l : Launch) (D : va_G) (g : Nat → ClassId) (sh : List q_Ok) (q : Nat → Nat) (ws : va_W) (x1 : Int32) (x2 : Int32) (hI : q_I sh q ws) : q_mI l y_jInt_compare prog_27_method_40_code 2 (.int) 1 0 0 D g [.int x1, .int x2] ws (fun r u => (-1 ≤ r.toInt ∧ r.toInt ≤ 1) ∧ ws = u) := by
  intro sz
  refine q_into (by decide) (Nat.le_of_ble_eq_true rfl) ?_
  intro p e s m below meth c ls hsz C0 V hl
  have hx := C0.1
  have hb := C0.2.1
  have hl : lv_has ls 2 [(0, .int x1), (1, .int x2)] := hl
  refine lv_iload_n hx hb d_27_40_0 rfl (lv_at hl 0 rfl) ?_
  refine lv_iload_n hx hb d_27_40_1 rfl (lv_at hl 1 rfl) ?_
  refine lv_icmp_ge (tgt := 9) hx hb d_27_40_2 (by decide) (fun c1 => ?_) (fun c1 => ?_)
  ·
    have b2 : q_F (x2.toInt ≤ x1.toInt) := (q_leI c1)
    refine lv_iload_n hx hb d_27_40_9 rfl (lv_at hl 0 rfl) ?_
    refine lv_iload_n hx hb d_27_40_10 rfl (lv_at hl 1 rfl) ?_
    refine lv_icmp_ne (tgt := 18) hx hb d_27_40_11 (by decide) (fun c3 => ?_) (fun c3 => ?_)
    ·
      have b4 : q_F (x1.toInt ≠ x2.toInt) := (q_neI c3)
      refine lv_iconst (v := 1) hx hb d_27_40_18 (by decide) ?_
      exact q_reti C0 V (⟨show -1 ≤ (1 : Int32).toInt ∧ (1 : Int32).toInt ≤ 1 from (by have z9 : (1 : Int32).toInt = 1 := rfl; omega), rfl⟩) d_27_40_19
    ·
      have b5 : q_F (x1.toInt = x2.toInt) := (q_eqI c3)
      refine lv_iconst (v := 0) hx hb d_27_40_14 (by decide) ?_
      refine lv_goto (tgt := 19) hx hb d_27_40_15 (by decide) ?_
      exact q_reti C0 V (⟨show -1 ≤ (0 : Int32).toInt ∧ (0 : Int32).toInt ≤ 1 from (by have z9 : (0 : Int32).toInt = 0 := rfl; omega), rfl⟩) d_27_40_19
  ·
    have b6 : q_F (x1.toInt < x2.toInt) := (q_nleI c1)
    refine lv_iconst (v := (-1)) hx hb d_27_40_5 (by decide) ?_
    refine lv_goto (tgt := 19) hx hb d_27_40_6 (by decide) ?_
    exact q_reti C0 V (⟨show -1 ≤ (-1 : Int32).toInt ∧ (-1 : Int32).toInt ≤ 1 from (by have z9 : (-1 : Int32).toInt = -1 := rfl; omega), rfl⟩) d_27_40_19
theorem d_27_49_0 : decode prog_27_method_49_code 0 = .ok (.iload_n 0, 1) := by decide +kernel
theorem d_27_49_1 : decode prog_27_method_49_code 1 = .ok (.iload_n 0, 1) := by decide +kernel
theorem d_27_49_2 : decode prog_27_method_49_code 2 = .ok (.iconst 1, 1) := by decide +kernel
theorem d_27_49_3 : decode prog_27_method_49_code 3 = .ok (.iushr, 1) := by decide +kernel
theorem d_27_49_4 : decode prog_27_method_49_code 4 = .ok (.ldc_w 265, 3) := by decide +kernel
set_option maxRecDepth 100000 in
theorem w_617 : (Cond.constant "java/lang/Integer" (265 : Nat) (1431655765 : Int32)) ∈ q_tbl := q_of3 137 rfl (by decide +kernel)
theorem d_27_49_7 : decode prog_27_method_49_code 7 = .ok (.iand, 1) := by decide +kernel
theorem d_27_49_8 : decode prog_27_method_49_code 8 = .ok (.isub, 1) := by decide +kernel
theorem d_27_49_9 : decode prog_27_method_49_code 9 = .ok (.istore_n 0, 1) := by decide +kernel
theorem d_27_49_10 : decode prog_27_method_49_code 10 = .ok (.iload_n 0, 1) := by decide +kernel
theorem d_27_49_11 : decode prog_27_method_49_code 11 = .ok (.ldc_w 266, 3) := by decide +kernel
set_option maxRecDepth 100000 in
theorem w_618 : (Cond.constant "java/lang/Integer" (266 : Nat) (858993459 : Int32)) ∈ q_tbl := q_of3 138 rfl (by decide +kernel)
theorem d_27_49_14 : decode prog_27_method_49_code 14 = .ok (.iand, 1) := by decide +kernel
theorem d_27_49_15 : decode prog_27_method_49_code 15 = .ok (.iload_n 0, 1) := by decide +kernel
theorem d_27_49_16 : decode prog_27_method_49_code 16 = .ok (.iconst 2, 1) := by decide +kernel
theorem d_27_49_17 : decode prog_27_method_49_code 17 = .ok (.iushr, 1) := by decide +kernel
theorem d_27_49_18 : decode prog_27_method_49_code 18 = .ok (.ldc_w 266, 3) := by decide +kernel
theorem d_27_49_21 : decode prog_27_method_49_code 21 = .ok (.iand, 1) := by decide +kernel
theorem d_27_49_22 : decode prog_27_method_49_code 22 = .ok (.iadd, 1) := by decide +kernel
theorem d_27_49_23 : decode prog_27_method_49_code 23 = .ok (.istore_n 0, 1) := by decide +kernel
theorem d_27_49_24 : decode prog_27_method_49_code 24 = .ok (.iload_n 0, 1) := by decide +kernel
theorem d_27_49_25 : decode prog_27_method_49_code 25 = .ok (.iload_n 0, 1) := by decide +kernel
theorem d_27_49_26 : decode prog_27_method_49_code 26 = .ok (.iconst 4, 1) := by decide +kernel
theorem d_27_49_27 : decode prog_27_method_49_code 27 = .ok (.iushr, 1) := by decide +kernel
theorem d_27_49_28 : decode prog_27_method_49_code 28 = .ok (.iadd, 1) := by decide +kernel
theorem d_27_49_29 : decode prog_27_method_49_code 29 = .ok (.ldc_w 267, 3) := by decide +kernel
set_option maxRecDepth 100000 in
theorem w_619 : (Cond.constant "java/lang/Integer" (267 : Nat) (252645135 : Int32)) ∈ q_tbl := q_of3 139 rfl (by decide +kernel)
theorem d_27_49_32 : decode prog_27_method_49_code 32 = .ok (.iand, 1) := by decide +kernel
theorem d_27_49_33 : decode prog_27_method_49_code 33 = .ok (.istore_n 0, 1) := by decide +kernel
theorem d_27_49_34 : decode prog_27_method_49_code 34 = .ok (.iload_n 0, 1) := by decide +kernel
theorem d_27_49_35 : decode prog_27_method_49_code 35 = .ok (.iload_n 0, 1) := by decide +kernel
theorem d_27_49_36 : decode prog_27_method_49_code 36 = .ok (.bipush 8, 2) := by decide +kernel
theorem d_27_49_38 : decode prog_27_method_49_code 38 = .ok (.iushr, 1) := by decide +kernel
theorem d_27_49_39 : decode prog_27_method_49_code 39 = .ok (.iadd, 1) := by decide +kernel
theorem d_27_49_40 : decode prog_27_method_49_code 40 = .ok (.istore_n 0, 1) := by decide +kernel
theorem d_27_49_41 : decode prog_27_method_49_code 41 = .ok (.iload_n 0, 1) := by decide +kernel
theorem d_27_49_42 : decode prog_27_method_49_code 42 = .ok (.iload_n 0, 1) := by decide +kernel
theorem d_27_49_43 : decode prog_27_method_49_code 43 = .ok (.bipush 16, 2) := by decide +kernel
theorem d_27_49_45 : decode prog_27_method_49_code 45 = .ok (.iushr, 1) := by decide +kernel
theorem d_27_49_46 : decode prog_27_method_49_code 46 = .ok (.iadd, 1) := by decide +kernel
theorem d_27_49_47 : decode prog_27_method_49_code 47 = .ok (.istore_n 0, 1) := by decide +kernel
theorem d_27_49_48 : decode prog_27_method_49_code 48 = .ok (.iload_n 0, 1) := by decide +kernel
theorem d_27_49_49 : decode prog_27_method_49_code 49 = .ok (.bipush 63, 2) := by decide +kernel
theorem d_27_49_51 : decode prog_27_method_49_code 51 = .ok (.iand, 1) := by decide +kernel
theorem d_27_49_52 : decode prog_27_method_49_code 52 = .ok (.ireturn, 1) := by decide +kernel
def y_jInt_bitCount : MethodName := ⟨"java/lang/Integer", "bitCount", "(I)I"⟩
set_option maxRecDepth 100000 in
set_option maxHeartbeats 4000000 in
theorem S_Int_bitCount (l : Launch) (D : va_G) (g : Nat → ClassId) (sh : List q_Ok) (q : Nat → Nat) (ws : va_W) (x1 : Int32) (hI : q_I sh q ws) : q_mI l y_jInt_bitCount prog_27_method_49_code 1 (.int) 1 0 0 D g [.int x1] ws (fun r u => (0 ≤ r.toInt ∧ r.toInt ≤ 63) ∧ ws = u) := by
  intro sz
  refine q_into (by decide) (Nat.le_of_ble_eq_true rfl) ?_
  intro p e s m below meth c ls hsz C0 V hl
  have hx := C0.1
  have hb := C0.2.1
  have hl : lv_has ls 1 [(0, .int x1)] := hl
  refine lv_iload_n hx hb d_27_49_0 rfl (lv_at hl 0 rfl) ?_
  refine lv_iload_n hx hb d_27_49_1 rfl (lv_at hl 0 rfl) ?_
  refine lv_iconst (v := 1) hx hb d_27_49_2 (by decide) ?_
  refine lv_iushr hx hb d_27_49_3 rfl ?_
  obtain ⟨a1, e2⟩ := q_nm ((x1.toUInt32 >>> ((1 : Int32).toUInt32 &&& Int32.toUInt32 31)).toInt32 : Int32)
  refine q_ti (v := a1) e2 ?_
  have b3 : q_F (0 ≤ a1.toInt ∧ a1.toInt ≤ 2147483647) := (by rw [← e2]; show 0 ≤ ((x1.toUInt32 >>> ((1 : Int32).toUInt32 &&& Int32.toUInt32 31)).toInt32 : Int32).toInt ∧ ((x1.toUInt32 >>> ((1 : Int32).toUInt32 &&& Int32.toUInt32 31)).toInt32 : Int32).toInt ≤ 2147483647; exact (by have z := s_ushr (x := x1) (c := 1) 1 (by decide) (by decide); omega))
  refine q_ldcw C0 rfl w_617 d_27_49_4 ?_
  refine lv_iand hx hb d_27_49_7 ?_
  obtain ⟨a4, e5⟩ := q_nm (a1 &&& 1431655765 : Int32)
  refine q_ti (v := a4) e5 ?_
  have b6 : q_F (0 ≤ a4.toInt ∧ a4.toInt ≤ 1431655765) := (by rw [← e5]; show 0 ≤ (a1 &&& 1431655765 : Int32).toInt ∧ (a1 &&& 1431655765 : Int32).toInt ≤ 1431655765; exact s_and (by decide))
  refine lv_isub hx hb d_27_49_8 ?_
  obtain ⟨a7, e8⟩ := q_nm (x1 - a4 : Int32)
  refine q_ti (v := a7) e8 ?_
  refine lv_istore_n (lv' := [(0, .int a7)]) hx hb d_27_49_9 rfl hl (by decide) rfl (fun ls hl => ?_)
  refine lv_iload_n hx hb d_27_49_10 rfl (lv_at hl 0 rfl) ?_
  refine q_ldcw C0 rfl w_618 d_27_49_11 ?_
  refine lv_iand hx hb d_27_49_14 ?_
  obtain ⟨a9, e10⟩ := q_nm (a7 &&& 858993459 : Int32)
  refine q_ti (v := a9) e10 ?_
  have b11 : q_F (0 ≤ a9.toInt ∧ a9.toInt ≤ 858993459) := (by rw [← e10]; show 0 ≤ (a7 &&& 858993459 : Int32).toInt ∧ (a7 &&& 858993459 : Int32).toInt ≤ 858993459; exact s_and (by decide))
  refine lv_iload_n hx hb d_27_49_15 rfl (lv_at hl 0 rfl) ?_
  refine lv_iconst (v := 2) hx hb d_27_49_16 (by decide) ?_
  refine lv_iushr hx hb d_27_49_17 rfl ?_
  obtain ⟨a12, e13⟩ := q_nm ((a7.toUInt32 >>> ((2 : Int32).toUInt32 &&& Int32.toUInt32 31)).toInt32 : Int32)
  refine q_ti (v := a12) e13 ?_
  have b14 : q_F (0 ≤ a12.toInt ∧ a12.toInt ≤ 1073741823) := (by rw [← e13]; show 0 ≤ ((a7.toUInt32 >>> ((2 : Int32).toUInt32 &&& Int32.toUInt32 31)).toInt32 : Int32).toInt ∧ ((a7.toUInt32 >>> ((2 : Int32).toUInt32 &&& Int32.toUInt32 31)).toInt32 : Int32).toInt ≤ 1073741823; exact (by have z := s_ushr (x := a7) (c := 2) 2 (by decide) (by decide); omega))
  refine q_ldcw C0 rfl w_618 d_27_49_18 ?_
  refine lv_iand hx hb d_27_49_21 ?_
  obtain ⟨a15, e16⟩ := q_nm (a12 &&& 858993459 : Int32)
  refine q_ti (v := a15) e16 ?_
  have b17 : q_F (0 ≤ a15.toInt ∧ a15.toInt ≤ 858993459) := (by rw [← e16]; show 0 ≤ (a12 &&& 858993459 : Int32).toInt ∧ (a12 &&& 858993459 : Int32).toInt ≤ 858993459; exact s_and (by decide))
  refine lv_iadd hx hb d_27_49_22 ?_
  obtain ⟨a18, e19⟩ := q_nm (a9 + a15 : Int32)
  refine q_ti (v := a18) e19 ?_
  have b20 : q_F (a18.toInt = a9.toInt + a15.toInt) := (by rw [← e19]; show (a9 + a15 : Int32).toInt = a9.toInt + a15.toInt; exact q_addI (x := a9.toInt) (y := a15.toInt) rfl rfl (by have t1 : 0 ≤ a9.toInt ∧ a9.toInt ≤ 858993459 := b11; have t2 : 0 ≤ a15.toInt ∧ a15.toInt ≤ 858993459 := b17; omega) (by have t1 : 0 ≤ a9.toInt ∧ a9.toInt ≤ 858993459 := b11; have t2 : 0 ≤ a15.toInt ∧ a15.toInt ≤ 858993459 := b17; omega))
  refine lv_istore_n (lv' := [(0, .int a18)]) hx hb d_27_49_23 rfl hl (by decide) rfl (fun ls hl => ?_)
  refine lv_iload_n hx hb d_27_49_24 rfl (lv_at hl 0 rfl) ?_
  refine lv_iload_n hx hb d_27_49_25 rfl (lv_at hl 0 rfl) ?_
  refine lv_iconst (v := 4) hx hb d_27_49_26 (by decide) ?_
  refine lv_iushr hx hb d_27_49_27 rfl ?_
  obtain ⟨a21, e22⟩ := q_nm ((a18.toUInt32 >>> ((4 : Int32).toUInt32 &&& Int32.toUInt32 31)).toInt32 : Int32)
  refine q_ti (v := a21) e22 ?_
  have b23 : q_F (0 ≤ a21.toInt ∧ a21.toInt ≤ 268435455) := (by rw [← e22]; show 0 ≤ ((a18.toUInt32 >>> ((4 : Int32).toUInt32 &&& Int32.toUInt32 31)).toInt32 : Int32).toInt ∧ ((a18.toUInt32 >>> ((4 : Int32).toUInt32 &&& Int32.toUInt32 31)).toInt32 : Int32).toInt ≤ 268435455; exact (by have z := s_ushr (x := a18) (c := 4) 4 (by decide) (by decide); omega))
  refine lv_iadd hx hb d_27_49_28 ?_
  obtain ⟨a24, e25⟩ := q_nm (a18 + a21 : Int32)
  refine q_ti (v := a24) e25 ?_
  have b26 : q_F (a24.toInt = a18.toInt + a21.toInt) := (by rw [← e25]; show (a18 + a21 : Int32).toInt = a18.toInt + a21.toInt; exact q_addI (x := a18.toInt) (y := a21.toInt) rfl rfl (by have t1 : 0 ≤ a9.toInt ∧ a9.toInt ≤ 858993459 := b11; have t2 : 0 ≤ a15.toInt ∧ a15.toInt ≤ 858993459 := b17; have t3 : a18.toInt = a9.toInt + a15.toInt := b20; have t4 : 0 ≤ a21.toInt ∧ a21.toInt ≤ 268435455 := b23; omega) (by have t1 : 0 ≤ a9.toInt ∧ a9.toInt ≤ 858993459 := b11; have t2 : 0 ≤ a15.toInt ∧ a15.toInt ≤ 858993459 := b17; have t3 : a18.toInt = a9.toInt + a15.toInt := b20; have t4 : 0 ≤ a21.toInt ∧ a21.toInt ≤ 268435455 := b23; omega))
  refine q_ldcw C0 rfl w_619 d_27_49_29 ?_
  refine lv_iand hx hb d_27_49_32 ?_
  obtain ⟨a27, e28⟩ := q_nm (a24 &&& 252645135 : Int32)
  refine q_ti (v := a27) e28 ?_
  have b29 : q_F (0 ≤ a27.toInt ∧ a27.toInt ≤ 252645135) := (by rw [← e28]; show 0 ≤ (a24 &&& 252645135 : Int32).toInt ∧ (a24 &&& 252645135 : Int32).toInt ≤ 252645135; exact s_and (by decide))
  refine lv_istore_n (lv' := [(0, .int a27)]) hx hb d_27_49_33 rfl hl (by decide) rfl (fun ls hl => ?_)
  refine lv_iload_n hx hb d_27_49_34 rfl (lv_at hl 0 rfl) ?_
  refine lv_iload_n hx hb d_27_49_35 rfl (lv_at hl 0 rfl) ?_
  refine lv_bipush (v := 8) hx hb d_27_49_36 (by decide) ?_
  refine lv_iushr hx hb d_27_49_38 rfl ?_
  obtain ⟨a30, e31⟩ := q_nm ((a27.toUInt32 >>> ((8 : Int32).toUInt32 &&& Int32.toUInt32 31)).toInt32 : Int32)
  refine q_ti (v := a30) e31 ?_
  have b32 : q_F (0 ≤ a30.toInt ∧ a30.toInt ≤ 16777215) := (by rw [← e31]; show 0 ≤ ((a27.toUInt32 >>> ((8 : Int32).toUInt32 &&& Int32.toUInt32 31)).toInt32 : Int32).toInt ∧ ((a27.toUInt32 >>> ((8 : Int32).toUInt32 &&& Int32.toUInt32 31)).toInt32 : Int32).toInt ≤ 16777215; exact (by have z := s_ushr (x := a27) (c := 8) 8 (by decide) (by decide); omega))
  refine lv_iadd hx hb d_27_49_39 ?_
  obtain ⟨a33, e34⟩ := q_nm (a27 + a30 : Int32)
  refine q_ti (v := a33) e34 ?_
  have b35 : q_F (a33.toInt = a27.toInt + a30.toInt) := (by rw [← e34]; show (a27 + a30 : Int32).toInt = a27.toInt + a30.toInt; exact q_addI (x := a27.toInt) (y := a30.toInt) rfl rfl (by have t1 : 0 ≤ a27.toInt ∧ a27.toInt ≤ 252645135 := b29; have t2 : 0 ≤ a30.toInt ∧ a30.toInt ≤ 16777215 := b32; omega) (by have t1 : 0 ≤ a27.toInt ∧ a27.toInt ≤ 252645135 := b29; have t2 : 0 ≤ a30.toInt ∧ a30.toInt ≤ 16777215 := b32; omega))
  refine lv_istore_n (lv' := [(0, .int a33)]) hx hb d_27_49_40 rfl hl (by decide) rfl (fun ls hl => ?_)
  refine lv_iload_n hx hb d_27_49_41 rfl (lv_at hl 0 rfl) ?_
  refine lv_iload_n hx hb d_27_49_42 rfl (lv_at hl 0 rfl) ?_
  refine lv_bipush (v := 16) hx hb d_27_49_43 (by decide) ?_
  refine lv_iushr hx hb d_27_49_45 rfl ?_
  obtain ⟨a36, e37⟩ := q_nm ((a33.toUInt32 >>> ((16 : Int32).toUInt32 &&& Int32.toUInt32 31)).toInt32 : Int32)
  refine q_ti (v := a36) e37 ?_
  have b38 : q_F (0 ≤ a36.toInt ∧ a36.toInt ≤ 65535) := (by rw [← e37]; show 0 ≤ ((a33.toUInt32 >>> ((16 : Int32).toUInt32 &&& Int32.toUInt32 31)).toInt32 : Int32).toInt ∧ ((a33.toUInt32 >>> ((16 : Int32).toUInt32 &&& Int32.toUInt32 31)).toInt32 : Int32).toInt ≤ 65535; exact (by have z := s_ushr (x := a33) (c := 16) 16 (by decide) (by decide); omega))
  refine lv_iadd hx hb d_27_49_46 ?_
  obtain ⟨a39, e40⟩ := q_nm (a33 + a36 : Int32)
  refine q_ti (v := a39) e40 ?_
  have b41 : q_F (a39.toInt = a33.toInt + a36.toInt) := (by rw [← e40]; show (a33 + a36 : Int32).toInt = a33.toInt + a36.toInt; exact q_addI (x := a33.toInt) (y := a36.toInt) rfl rfl (by have t1 : 0 ≤ a27.toInt ∧ a27.toInt ≤ 252645135 := b29; have t2 : 0 ≤ a30.toInt ∧ a30.toInt ≤ 16777215 := b32; have t3 : a33.toInt = a27.toInt + a30.toInt := b35; have t4 : 0 ≤ a36.toInt ∧ a36.toInt ≤ 65535 := b38; omega) (by have t1 : 0 ≤ a27.toInt ∧ a27.toInt ≤ 252645135 := b29; have t2 : 0 ≤ a30.toInt ∧ a30.toInt ≤ 16777215 := b32; have t3 : a33.toInt = a27.toInt + a30.toInt := b35; have t4 : 0 ≤ a36.toInt ∧ a36.toInt ≤ 65535 := b38; omega))
  refine lv_istore_n (lv' := [(0, .int a39)]) hx hb d_27_49_47 rfl hl (by decide) rfl (fun ls hl => ?_)
  refine lv_iload_n hx hb d_27_49_48 rfl (lv_at hl 0 rfl) ?_
  refine lv_bipush (v := 63) hx hb d_27_49_49 (by decide) ?_
  refine lv_iand hx hb d_27_49_51 ?_
  obtain ⟨a42, e43⟩ := q_nm (a39 &&& 63 : Int32)
  refine q_ti (v := a42) e43 ?_
  have b44 : q_F (0 ≤ a42.toInt ∧ a42.toInt ≤ 63) := (by rw [← e43]; show 0 ≤ (a39 &&& 63 : Int32).toInt ∧ (a39 &&& 63 : Int32).toInt ≤ 63; exact s_and (by decide))
  exact q_reti C0 V (⟨show 0 ≤ a42.toInt ∧ a42.toInt ≤ 63 from (by have t1 : 0 ≤ a42.toInt ∧ a42.toInt ≤ 63 := b44; omega), rfl⟩) d_27_49_52
theorem d_2_13_0 : decode prog_2_method_13_code 0 = .ok (.iload_n 0, 1) := by decide +kernel
theorem d_2_13_1 : decode prog_2_method_13_code 1 = .ok (.iload_n 0, 1) := by decide +kernel
theorem d_2_13_2 : decode prog_2_method_13_code 2 = .ok (.iconst 1, 1) := by decide +kernel
theorem d_2_13_3 : decode prog_2_method_13_code 3 = .ok (.iushr, 1) := by decide +kernel
theorem d_2_13_4 : decode prog_2_method_13_code 4 = .ok (.ior, 1) := by decide +kernel
theorem d_2_13_5 : decode prog_2_method_13_code 5 = .ok (.istore_n 1, 1) := by decide +kernel
theorem d_2_13_6 : decode prog_2_method_13_code 6 = .ok (.iload_n 1, 1) := by decide +kernel
theorem d_2_13_7 : decode prog_2_method_13_code 7 = .ok (.iload_n 1, 1) := by decide +kernel
theorem d_2_13_8 : decode prog_2_method_13_code 8 = .ok (.iconst 2, 1) := by decide +kernel
theorem d_2_13_9 : decode prog_2_method_13_code 9 = .ok (.iushr, 1) := by decide +kernel
theorem d_2_13_10 : decode prog_2_method_13_code 10 = .ok (.ior, 1) := by decide +kernel
theorem d_2_13_11 : decode prog_2_method_13_code 11 = .ok (.istore_n 1, 1) := by decide +kernel
theorem d_2_13_12 : decode prog_2_method_13_code 12 = .ok (.iload_n 1, 1) := by decide +kernel
theorem d_2_13_13 : decode prog_2_method_13_code 13 = .ok (.iload_n 1, 1) := by decide +kernel
theorem d_2_13_14 : decode prog_2_method_13_code 14 = .ok (.iconst 4, 1) := by decide +kernel
theorem d_2_13_15 : decode prog_2_method_13_code 15 = .ok (.iushr, 1) := by decide +kernel
theorem d_2_13_16 : decode prog_2_method_13_code 16 = .ok (.ior, 1) := by decide +kernel
theorem d_2_13_17 : decode prog_2_method_13_code 17 = .ok (.istore_n 1, 1) := by decide +kernel
theorem d_2_13_18 : decode prog_2_method_13_code 18 = .ok (.iload_n 1, 1) := by decide +kernel
theorem d_2_13_19 : decode prog_2_method_13_code 19 = .ok (.iload_n 1, 1) := by decide +kernel
theorem d_2_13_20 : decode prog_2_method_13_code 20 = .ok (.bipush 8, 2) := by decide +kernel
theorem d_2_13_22 : decode prog_2_method_13_code 22 = .ok (.iushr, 1) := by decide +kernel
theorem d_2_13_23 : decode prog_2_method_13_code 23 = .ok (.ior, 1) := by decide +kernel
theorem d_2_13_24 : decode prog_2_method_13_code 24 = .ok (.istore_n 1, 1) := by decide +kernel
theorem d_2_13_25 : decode prog_2_method_13_code 25 = .ok (.iload_n 1, 1) := by decide +kernel
theorem d_2_13_26 : decode prog_2_method_13_code 26 = .ok (.iload_n 1, 1) := by decide +kernel
theorem d_2_13_27 : decode prog_2_method_13_code 27 = .ok (.bipush 16, 2) := by decide +kernel
theorem d_2_13_29 : decode prog_2_method_13_code 29 = .ok (.iushr, 1) := by decide +kernel
theorem d_2_13_30 : decode prog_2_method_13_code 30 = .ok (.ior, 1) := by decide +kernel
theorem d_2_13_31 : decode prog_2_method_13_code 31 = .ok (.istore_n 1, 1) := by decide +kernel
theorem d_2_13_32 : decode prog_2_method_13_code 32 = .ok (.iload_n 1, 1) := by decide +kernel
theorem d_2_13_33 : decode prog_2_method_13_code 33 = .ok (.invokestatic 60, 3) := by decide +kernel
set_option maxRecDepth 100000 in
theorem w_616 : (Cond.code ({ cls := "java/lang/Integer", name := "bitCount", desc := "(I)I" } : MethodName) prog_27_method_49_code (1 : Nat) (some .int)) ∈ q_tbl := q_of3 136 rfl (by decide +kernel)
set_option maxRecDepth 100000 in
theorem w_24 : (Cond.initialized "java/lang/Integer") ∈ q_tbl := q_of1 24 rfl (by decide +kernel)
set_option maxRecDepth 100000 in
theorem w_614 : (Cond.methodLink "NumberHouse$Big" (60 : Nat) ({ cls := "java/lang/Integer", name := "bitCount", desc := "(I)I" } : MethodName)) ∈ q_tbl := q_of3 134 rfl (by decide +kernel)
set_option maxRecDepth 100000 in
theorem w_615 : (Cond.static ({ cls := "java/lang/Integer", name := "bitCount", desc := "(I)I" } : MethodName)) ∈ q_tbl := q_of3 135 rfl (by decide +kernel)
theorem LS_Big_60 : q_LS "NumberHouse$Big" 60 y_jInt_bitCount prog_27_method_49_code 1 (some .int) 1 := ⟨w_616, w_24, w_614, w_615, ⟨by decide, by decide, by decide +kernel⟩⟩
theorem d_2_13_36 : decode prog_2_method_13_code 36 = .ok (.ireturn, 1) := by decide +kernel
def y_Big_bitsOf : MethodName := ⟨"NumberHouse$Big", "bitsOf", "(I)I"⟩
set_option maxRecDepth 100000 in
set_option maxHeartbeats 4000000 in
theorem S_Big_bitsOf (l : Launch) (D : va_G) (g : Nat → ClassId) (sh : List q_Ok) (q : Nat → Nat) (ws : va_W) (x1 : Int32) (hI : q_I sh q ws) : q_mI l y_Big_bitsOf prog_2_method_13_code 2 (.int) 2 0 0 D g [.int x1] ws (fun r u => (0 ≤ r.toInt ∧ r.toInt ≤ 63) ∧ ws = u) := by
  intro sz
  refine q_into (by decide) (Nat.le_of_ble_eq_true rfl) ?_
  intro p e s m below meth c ls hsz C0 V hl
  have hx := C0.1
  have hb := C0.2.1
  have hl : lv_has ls 2 [(0, .int x1)] := hl
  refine lv_iload_n hx hb d_2_13_0 rfl (lv_at hl 0 rfl) ?_
  refine lv_iload_n hx hb d_2_13_1 rfl (lv_at hl 0 rfl) ?_
  refine lv_iconst (v := 1) hx hb d_2_13_2 (by decide) ?_
  refine lv_iushr hx hb d_2_13_3 rfl ?_
  obtain ⟨a1, e2⟩ := q_nm ((x1.toUInt32 >>> ((1 : Int32).toUInt32 &&& Int32.toUInt32 31)).toInt32 : Int32)
  refine q_ti (v := a1) e2 ?_
  have b3 : q_F (0 ≤ a1.toInt ∧ a1.toInt ≤ 2147483647) := (by rw [← e2]; show 0 ≤ ((x1.toUInt32 >>> ((1 : Int32).toUInt32 &&& Int32.toUInt32 31)).toInt32 : Int32).toInt ∧ ((x1.toUInt32 >>> ((1 : Int32).toUInt32 &&& Int32.toUInt32 31)).toInt32 : Int32).toInt ≤ 2147483647; exact (by have z := s_ushr (x := x1) (c := 1) 1 (by decide) (by decide); omega))
  refine lv_ior hx hb d_2_13_4 ?_
  obtain ⟨a4, e5⟩ := q_nm (x1 ||| a1 : Int32)
  refine q_ti (v := a4) e5 ?_
  refine lv_istore_n (lv' := [(1, .int a4), (0, .int x1)]) hx hb d_2_13_5 rfl hl (by decide) rfl (fun ls hl => ?_)
  refine lv_iload_n hx hb d_2_13_6 rfl (lv_at hl 0 rfl) ?_
  refine lv_iload_n hx hb d_2_13_7 rfl (lv_at hl 0 rfl) ?_
  refine lv_iconst (v := 2) hx hb d_2_13_8 (by decide) ?_
  refine lv_iushr hx hb d_2_13_9 rfl ?_
  obtain ⟨a6, e7⟩ := q_nm ((a4.toUInt32 >>> ((2 : Int32).toUInt32 &&& Int32.toUInt32 31)).toInt32 : Int32)
  refine q_ti (v := a6) e7 ?_
  have b8 : q_F (0 ≤ a6.toInt ∧ a6.toInt ≤ 1073741823) := (by rw [← e7]; show 0 ≤ ((a4.toUInt32 >>> ((2 : Int32).toUInt32 &&& Int32.toUInt32 31)).toInt32 : Int32).toInt ∧ ((a4.toUInt32 >>> ((2 : Int32).toUInt32 &&& Int32.toUInt32 31)).toInt32 : Int32).toInt ≤ 1073741823; exact (by have z := s_ushr (x := a4) (c := 2) 2 (by decide) (by decide); omega))
  refine lv_ior hx hb d_2_13_10 ?_
  obtain ⟨a9, e10⟩ := q_nm (a4 ||| a6 : Int32)
  refine q_ti (v := a9) e10 ?_
  refine lv_istore_n (lv' := [(1, .int a9), (0, .int x1)]) hx hb d_2_13_11 rfl hl (by decide) rfl (fun ls hl => ?_)
  refine lv_iload_n hx hb d_2_13_12 rfl (lv_at hl 0 rfl) ?_
  refine lv_iload_n hx hb d_2_13_13 rfl (lv_at hl 0 rfl) ?_
  refine lv_iconst (v := 4) hx hb d_2_13_14 (by decide) ?_
  refine lv_iushr hx hb d_2_13_15 rfl ?_
  obtain ⟨a11, e12⟩ := q_nm ((a9.toUInt32 >>> ((4 : Int32).toUInt32 &&& Int32.toUInt32 31)).toInt32 : Int32)
  refine q_ti (v := a11) e12 ?_
  have b13 : q_F (0 ≤ a11.toInt ∧ a11.toInt ≤ 268435455) := (by rw [← e12]; show 0 ≤ ((a9.toUInt32 >>> ((4 : Int32).toUInt32 &&& Int32.toUInt32 31)).toInt32 : Int32).toInt ∧ ((a9.toUInt32 >>> ((4 : Int32).toUInt32 &&& Int32.toUInt32 31)).toInt32 : Int32).toInt ≤ 268435455; exact (by have z := s_ushr (x := a9) (c := 4) 4 (by decide) (by decide); omega))
  refine lv_ior hx hb d_2_13_16 ?_
  obtain ⟨a14, e15⟩ := q_nm (a9 ||| a11 : Int32)
  refine q_ti (v := a14) e15 ?_
  refine lv_istore_n (lv' := [(1, .int a14), (0, .int x1)]) hx hb d_2_13_17 rfl hl (by decide) rfl (fun ls hl => ?_)
  refine lv_iload_n hx hb d_2_13_18 rfl (lv_at hl 0 rfl) ?_
  refine lv_iload_n hx hb d_2_13_19 rfl (lv_at hl 0 rfl) ?_
  refine lv_bipush (v := 8) hx hb d_2_13_20 (by decide) ?_
  refine lv_iushr hx hb d_2_13_22 rfl ?_
  obtain ⟨a16, e17⟩ := q_nm ((a14.toUInt32 >>> ((8 : Int32).toUInt32 &&& Int32.toUInt32 31)).toInt32 : Int32)
  refine q_ti (v := a16) e17 ?_
  have b18 : q_F (0 ≤ a16.toInt ∧ a16.toInt ≤ 16777215) := (by rw [← e17]; show 0 ≤ ((a14.toUInt32 >>> ((8 : Int32).toUInt32 &&& Int32.toUInt32 31)).toInt32 : Int32).toInt ∧ ((a14.toUInt32 >>> ((8 : Int32).toUInt32 &&& Int32.toUInt32 31)).toInt32 : Int32).toInt ≤ 16777215; exact (by have z := s_ushr (x := a14) (c := 8) 8 (by decide) (by decide); omega))
  refine lv_ior hx hb d_2_13_23 ?_
  obtain ⟨a19, e20⟩ := q_nm (a14 ||| a16 : Int32)
  refine q_ti (v := a19) e20 ?_
  refine lv_istore_n (lv' := [(1, .int a19), (0, .int x1)]) hx hb d_2_13_24 rfl hl (by decide) rfl (fun ls hl => ?_)
  refine lv_iload_n hx hb d_2_13_25 rfl (lv_at hl 0 rfl) ?_
  refine lv_iload_n hx hb d_2_13_26 rfl (lv_at hl 0 rfl) ?_
  refine lv_bipush (v := 16) hx hb d_2_13_27 (by decide) ?_
  refine lv_iushr hx hb d_2_13_29 rfl ?_
  obtain ⟨a21, e22⟩ := q_nm ((a19.toUInt32 >>> ((16 : Int32).toUInt32 &&& Int32.toUInt32 31)).toInt32 : Int32)
  refine q_ti (v := a21) e22 ?_
  have b23 : q_F (0 ≤ a21.toInt ∧ a21.toInt ≤ 65535) := (by rw [← e22]; show 0 ≤ ((a19.toUInt32 >>> ((16 : Int32).toUInt32 &&& Int32.toUInt32 31)).toInt32 : Int32).toInt ∧ ((a19.toUInt32 >>> ((16 : Int32).toUInt32 &&& Int32.toUInt32 31)).toInt32 : Int32).toInt ≤ 65535; exact (by have z := s_ushr (x := a19) (c := 16) 16 (by decide) (by decide); omega))
  refine lv_ior hx hb d_2_13_30 ?_
  obtain ⟨a24, e25⟩ := q_nm (a19 ||| a21 : Int32)
  refine q_ti (v := a24) e25 ?_
  refine lv_istore_n (lv' := [(1, .int a24), (0, .int x1)]) hx hb d_2_13_31 rfl hl (by decide) rfl (fun ls hl => ?_)
  refine lv_iload_n hx hb d_2_13_32 rfl (lv_at hl 0 rfl) ?_
  refine q_goi V (q_runS (As := [.int a24]) (rest := []) (d := 1) (mc := 0) (ms := 0) C0 V rfl LS_Big_60 (S_Int_bitCount l D g sh q ws a24 hI  _) rfl hl.1 rfl (Nat.le_of_ble_eq_true rfl) ⟨by decide, by decide⟩ ⟨Nat.le_of_ble_eq_true rfl, Nat.le_of_ble_eq_true rfl⟩ d_2_13_33) (fun a28 u26 H locs hp27 V => ?_)
  obtain ⟨b29, rfl⟩ := hp27
  replace b29 : q_F (0 ≤ a28.toInt ∧ a28.toInt ≤ 63) := b29
  exact q_reti C0 V (⟨show 0 ≤ a28.toInt ∧ a28.toInt ≤ 63 from (by have t1 : 0 ≤ a28.toInt ∧ a28.toInt ≤ 63 := b29; omega), rfl⟩) d_2_13_36
theorem d_2_12_11 : decode prog_2_method_12_code 11 = .ok (.aload_n 0, 1) := by decide +kernel
theorem d_2_12_12 : decode prog_2_method_12_code 12 = .ok (.getfield 13, 3) := by decide +kernel
theorem d_2_12_15 : decode prog_2_method_12_code 15 = .ok (.iconst 1, 1) := by decide +kernel
theorem d_2_12_16 : decode prog_2_method_12_code 16 = .ok (.isub, 1) := by decide +kernel
theorem d_2_12_17 : decode prog_2_method_12_code 17 = .ok (.bipush 31, 2) := by decide +kernel
theorem d_2_12_19 : decode prog_2_method_12_code 19 = .ok (.imul, 1) := by decide +kernel
theorem d_2_12_20 : decode prog_2_method_12_code 20 = .ok (.aload_n 0, 1) := by decide +kernel
theorem d_2_12_21 : decode prog_2_method_12_code 21 = .ok (.getfield 7, 3) := by decide +kernel
theorem d_2_12_24 : decode prog_2_method_12_code 24 = .ok (.aload_n 0, 1) := by decide +kernel
theorem d_2_12_25 : decode prog_2_method_12_code 25 = .ok (.getfield 13, 3) := by decide +kernel
theorem d_2_12_28 : decode prog_2_method_12_code 28 = .ok (.iconst 1, 1) := by decide +kernel
theorem d_2_12_29 : decode prog_2_method_12_code 29 = .ok (.isub, 1) := by decide +kernel
theorem d_2_12_30 : decode prog_2_method_12_code 30 = .ok (.iaload, 1) := by decide +kernel
theorem d_2_12_31 : decode prog_2_method_12_code 31 = .ok (.invokestatic 57, 3) := by decide +kernel
set_option maxRecDepth 100000 in
theorem w_613 : (Cond.code ({ cls := "NumberHouse$Big", name := "bitsOf", desc := "(I)I" } : MethodName) prog_2_method_13_code (2 : Nat) (some .int)) ∈ q_tbl := q_of3 133 rfl (by decide +kernel)
set_option maxRecDepth 100000 in
theorem w_611 : (Cond.methodLink "NumberHouse$Big" (57 : Nat) ({ cls := "NumberHouse$Big", name := "bitsOf", desc := "(I)I" } : MethodName)) ∈ q_tbl := q_of3 131 rfl (by decide +kernel)
set_option maxRecDepth 100000 in
theorem w_612 : (Cond.static ({ cls := "NumberHouse$Big", name := "bitsOf", desc := "(I)I" } : MethodName)) ∈ q_tbl := q_of3 132 rfl (by decide +kernel)
theorem LS_Big_57 : q_LS "NumberHouse$Big" 57 y_Big_bitsOf prog_2_method_13_code 2 (some .int) 1 := ⟨w_613, w_4, w_611, w_612, ⟨by decide, by decide, by decide +kernel⟩⟩
theorem d_2_12_34 : decode prog_2_method_12_code 34 = .ok (.iadd, 1) := by decide +kernel
set_option maxRecDepth 100000 in
set_option maxHeartbeats 4000000 in
theorem S_Big_bitLength (l : Launch) (D : va_G) (g : Nat → ClassId) (sh : List q_Ok) (q : Nat → Nat) (ws : va_W) (k : Nat) (R : Int32) (hB : q_isBig sh g q k R) (hI : q_I sh q ws) : q_mI l y_Big_bitLength prog_2_method_12_code 1 (.int) 3 0 0 D g [.ref (q k)] ws (fun r u => (0 ≤ r.toInt ∧ r.toInt ≤ 6852) ∧ ws = u) := by
  intro sz
  refine q_into (by decide) (Nat.le_of_ble_eq_true rfl) ?_
  intro p e s m below meth c ls hsz C0 V hl
  have hx := C0.1
  have hb := C0.2.1
  have hR : q_F (0 ≤ R.toInt ∧ R.toInt ≤ 220) := hB.2.2
  have hl : lv_has ls 1 [(0, .ref (q k))] := hl
  refine lv_aload_n hx hb d_2_12_0 rfl (lv_at hl 0 rfl) ?_
  obtain ⟨y1, y2, hO3, b4, b5⟩ := q_bigO hI hB
  replace b4 : q_F (0 ≤ y1.toInt ∧ y1.toInt ≤ R.toInt) := b4
  replace b5 : q_F (0 ≤ y2.toInt ∧ y2.toInt ≤ 1) := b5
  refine q_get (ci := 2) (j := 1) (v := .int y1) C0 V i_Big rfl rfl hO3 (by decide) w_85 rfl d_2_12_1 ?_
  refine lv_if_ne (tgt := 11) hx hb d_2_12_4 (by decide) (fun c6 => ?_) (fun c6 => ?_)
  ·
    have b7 : q_F (y1.toInt ≠ 0) := (q_neI c6)
    refine lv_aload_n hx hb d_2_12_11 rfl (lv_at hl 0 rfl) ?_
    refine q_get (ci := 2) (j := 1) (v := .int y1) C0 V i_Big rfl rfl hO3 (by decide) w_85 rfl d_2_12_12 ?_
    refine lv_iconst (v := 1) hx hb d_2_12_15 (by decide) ?_
    refine lv_isub hx hb d_2_12_16 ?_
    obtain ⟨a8, e9⟩ := q_nm (y1 - 1 : Int32)
    refine q_ti (v := a8) e9 ?_
    have b10 : q_F (a8.toInt = y1.toInt - 1) := (by rw [← e9]; show (y1 - 1 : Int32).toInt = y1.toInt - 1; exact q_subI (x := y1.toInt) (y := 1) rfl (by decide) (by have t1 : 0 ≤ R.toInt ∧ R.toInt ≤ 220 := hR; have t2 : 0 ≤ y1.toInt ∧ y1.toInt ≤ R.toInt := b4; omega) (by have t1 : 0 ≤ R.toInt ∧ R.toInt ≤ 220 := hR; have t2 : 0 ≤ y1.toInt ∧ y1.toInt ≤ R.toInt := b4; omega))
    refine lv_bipush (v := 31) hx hb d_2_12_17 (by decide) ?_
    refine lv_imul hx hb d_2_12_19 ?_
    obtain ⟨a11, e12⟩ := q_nm (a8 * 31 : Int32)
    refine q_ti (v := a11) e12 ?_
    have b13 : q_F (a11.toInt = a8.toInt * 31) := (by rw [← e12]; show (a8 * 31 : Int32).toInt = a8.toInt * 31; exact q_mulI (x := a8.toInt) (y := 31) rfl (by decide) (by have t1 : 0 ≤ R.toInt ∧ R.toInt ≤ 220 := hR; have t2 : 0 ≤ y1.toInt ∧ y1.toInt ≤ R.toInt := b4; have t3 : a8.toInt = y1.toInt - 1 := b10; omega) (by have t1 : 0 ≤ R.toInt ∧ R.toInt ≤ 220 := hR; have t2 : 0 ≤ y1.toInt ∧ y1.toInt ≤ R.toInt := b4; have t3 : a8.toInt = y1.toInt - 1 := b10; omega))
    refine lv_aload_n hx hb d_2_12_20 rfl (lv_at hl 0 rfl) ?_
    refine q_get (ci := 2) (j := 0) (v := .ref (q (k + 1))) C0 V i_Big rfl rfl hO3 (by decide) w_84 rfl d_2_12_21 ?_
    refine lv_aload_n hx hb d_2_12_24 rfl (lv_at hl 0 rfl) ?_
    refine q_get (ci := 2) (j := 1) (v := .int y1) C0 V i_Big rfl rfl hO3 (by decide) w_85 rfl d_2_12_25 ?_
    refine lv_iconst (v := 1) hx hb d_2_12_28 (by decide) ?_
    refine lv_isub hx hb d_2_12_29 ?_
    obtain ⟨a14, e15⟩ := q_nm (y1 - 1 : Int32)
    refine q_ti (v := a14) e15 ?_
    have b16 : q_F (a14.toInt = y1.toInt - 1) := (by rw [← e15]; show (y1 - 1 : Int32).toInt = y1.toInt - 1; exact q_subI (x := y1.toInt) (y := 1) rfl (by decide) (by have t1 : 0 ≤ R.toInt ∧ R.toInt ≤ 220 := hR; have t2 : 0 ≤ y1.toInt ∧ y1.toInt ≤ R.toInt := b4; omega) (by have t1 : 0 ≤ R.toInt ∧ R.toInt ≤ 220 := hR; have t2 : 0 ≤ y1.toInt ∧ y1.toInt ≤ R.toInt := b4; omega))
    obtain ⟨f17, hA18, bf19⟩ := q_bigA hI hB
    refine q_iald C0 V hA18 (q_ix (x := a14.toInt) rfl (by have t1 : 0 ≤ y1.toInt ∧ y1.toInt ≤ R.toInt := b4; have t2 : y1.toInt ≠ 0 := b7; have t3 : a14.toInt = y1.toInt - 1 := b16; omega) (by have t1 : 0 ≤ y1.toInt ∧ y1.toInt ≤ R.toInt := b4; have t2 : y1.toInt ≠ 0 := b7; have t3 : a14.toInt = y1.toInt - 1 := b16; have e9 := q_clI (i := R) rfl (by have t1 : 0 ≤ R.toInt ∧ R.toInt ≤ 220 := hR; omega); omega)) d_2_12_30 ?_
    obtain ⟨a20, e21⟩ := q_nm (f17 a14.toNatClampNeg : Int32)
    refine q_ti (v := a20) e21 ?_
    refine q_goi V (q_runS (As := [.int a20]) (rest := [.int a11]) (d := 2) (mc := 0) (ms := 0) C0 V rfl LS_Big_57 (S_Big_bitsOf l D g sh q ws a20 hI  _) rfl hl.1 rfl (Nat.le_of_ble_eq_true rfl) ⟨by decide, by decide⟩ ⟨Nat.le_of_ble_eq_true rfl, Nat.le_of_ble_eq_true rfl⟩ d_2_12_31) (fun a24 u22 H locs hp23 V => ?_)
    obtain ⟨b25, rfl⟩ := hp23
    replace b25 : q_F (0 ≤ a24.toInt ∧ a24.toInt ≤ 63) := b25
    refine lv_iadd hx hb d_2_12_34 ?_
    obtain ⟨a26, e27⟩ := q_nm (a11 + a24 : Int32)
    refine q_ti (v := a26) e27 ?_
    have b28 : q_F (a26.toInt = a11.toInt + a24.toInt) := (by rw [← e27]; show (a11 + a24 : Int32).toInt = a11.toInt + a24.toInt; exact q_addI (x := a11.toInt) (y := a24.toInt) rfl rfl (by have t1 : 0 ≤ R.toInt ∧ R.toInt ≤ 220 := hR; have t2 : 0 ≤ y1.toInt ∧ y1.toInt ≤ R.toInt := b4; have t3 : a8.toInt = y1.toInt - 1 := b10; have t4 : a11.toInt = a8.toInt * 31 := b13; have t5 : 0 ≤ a24.toInt ∧ a24.toInt ≤ 63 := b25; omega) (by have t1 : 0 ≤ R.toInt ∧ R.toInt ≤ 220 := hR; have t2 : 0 ≤ y1.toInt ∧ y1.toInt ≤ R.toInt := b4; have t3 : a8.toInt = y1.toInt - 1 := b10; have t4 : a11.toInt = a8.toInt * 31 := b13; have t5 : 0 ≤ a24.toInt ∧ a24.toInt ≤ 63 := b25; omega))
    exact q_reti C0 V (⟨show 0 ≤ a26.toInt ∧ a26.toInt ≤ 6852 from (by have t1 : 0 ≤ R.toInt ∧ R.toInt ≤ 220 := hR; have t2 : 0 ≤ y1.toInt ∧ y1.toInt ≤ R.toInt := b4; have t3 : y1.toInt ≠ 0 := b7; have t4 : a8.toInt = y1.toInt - 1 := b10; have t5 : a11.toInt = a8.toInt * 31 := b13; have t6 : 0 ≤ a24.toInt ∧ a24.toInt ≤ 63 := b25; have t7 : a26.toInt = a11.toInt + a24.toInt := b28; omega), rfl⟩) d_2_12_35
  ·
    have b29 : q_F (y1.toInt = 0) := (q_eqI c6)
    refine lv_iconst (v := 0) hx hb d_2_12_7 (by decide) ?_
    refine lv_goto (tgt := 35) hx hb d_2_12_8 (by decide) ?_
    exact q_reti C0 V (⟨show 0 ≤ (0 : Int32).toInt ∧ (0 : Int32).toInt ≤ 6852 from (by have z9 : (0 : Int32).toInt = 0 := rfl; omega), rfl⟩) d_2_12_35
theorem d_2_15_10 : decode prog_2_method_15_code 10 = .ok (.aload_n 0, 1) := by decide +kernel
theorem d_2_15_11 : decode prog_2_method_15_code 11 = .ok (.getfield 7, 3) := by decide +kernel
theorem d_2_15_14 : decode prog_2_method_15_code 14 = .ok (.iload_n 1, 1) := by decide +kernel
theorem d_2_15_15 : decode prog_2_method_15_code 15 = .ok (.iaload, 1) := by decide +kernel
theorem d_2_15_16 : decode prog_2_method_15_code 16 = .ok (.ifCond .eq 28, 3) := by decide +kernel
theorem d_2_15_44 : decode prog_2_method_15_code 44 = .ok (.iinc 1 1, 3) := by decide +kernel
theorem d_2_15_47 : decode prog_2_method_15_code 47 = .ok (.goto (-45), 3) := by decide +kernel
theorem d_2_15_19 : decode prog_2_method_15_code 19 = .ok (.iload_n 1, 1) := by decide +kernel
theorem d_2_15_20 : decode prog_2_method_15_code 20 = .ok (.bipush 31, 2) := by decide +kernel
theorem d_2_15_22 : decode prog_2_method_15_code 22 = .ok (.imul, 1) := by decide +kernel
theorem d_2_15_23 : decode prog_2_method_15_code 23 = .ok (.aload_n 0, 1) := by decide +kernel
theorem d_2_15_24 : decode prog_2_method_15_code 24 = .ok (.getfield 7, 3) := by decide +kernel
theorem d_2_15_27 : decode prog_2_method_15_code 27 = .ok (.iload_n 1, 1) := by decide +kernel
theorem d_2_15_28 : decode prog_2_method_15_code 28 = .ok (.iaload, 1) := by decide +kernel
theorem d_2_15_29 : decode prog_2_method_15_code 29 = .ok (.aload_n 0, 1) := by decide +kernel
theorem d_2_15_30 : decode prog_2_method_15_code 30 = .ok (.getfield 7, 3) := by decide +kernel
theorem d_2_15_33 : decode prog_2_method_15_code 33 = .ok (.iload_n 1, 1) := by decide +kernel
theorem d_2_15_34 : decode prog_2_method_15_code 34 = .ok (.iaload, 1) := by decide +kernel
theorem d_2_15_35 : decode prog_2_method_15_code 35 = .ok (.ineg, 1) := by decide +kernel
theorem d_2_15_36 : decode prog_2_method_15_code 36 = .ok (.iand, 1) := by decide +kernel
theorem d_2_15_37 : decode prog_2_method_15_code 37 = .ok (.iconst 1, 1) := by decide +kernel
theorem d_2_15_38 : decode prog_2_method_15_code 38 = .ok (.isub, 1) := by decide +kernel
theorem d_2_15_39 : decode prog_2_method_15_code 39 = .ok (.invokestatic 60, 3) := by decide +kernel
theorem d_2_15_42 : decode prog_2_method_15_code 42 = .ok (.iadd, 1) := by decide +kernel
theorem d_2_15_43 : decode prog_2_method_15_code 43 = .ok (.ireturn, 1) := by decide +kernel
set_option maxRecDepth 100000 in
set_option maxHeartbeats 4000000 in
theorem S_Big_lowestOne (l : Launch) (D : va_G) (g : Nat → ClassId) (sh : List q_Ok) (q : Nat → Nat) (ws : va_W) (k : Nat) (R : Int32) (hB : q_isBig sh g q k R) (hI : q_I sh q ws) : q_mI l y_Big_lowestOne prog_2_method_15_code 2 (.int) 2 0 0 D g [.ref (q k)] ws (fun r u => (0 ≤ r.toInt ∧ r.toInt ≤ 6852) ∧ ws = u) := by
  intro sz
  refine q_into (by decide) (Nat.le_of_ble_eq_true rfl) ?_
  intro p e s m below meth c ls hsz C0 V hl
  have hx := C0.1
  have hb := C0.2.1
  have hR : q_F (0 ≤ R.toInt ∧ R.toInt ≤ 220) := hB.2.2
  have hl : lv_has ls 2 [(0, .ref (q k))] := hl
  refine lv_iconst (v := 0) hx hb d_2_15_0 (by decide) ?_
  refine lv_istore_n (lv' := [(1, .int 0), (0, .ref (q k))]) hx hb d_2_15_1 rfl hl (by decide) rfl (fun ls hl => ?_)
  refine q_loop (X := Int32) (fun z H locs ls _ => q_F (0 ≤ z.toInt) ∧ q_F (0 ≤ R.toInt + (-1 * z.toInt)) ∧ q_Wd D g (va_A ws sz) s ws H locs ∧ lv_has ls 2 [(1, .int z), (0, .ref (q k))]) (fun z => (R.toInt - z.toInt).toNat) ?_ ((0 : Int32)) _ _ _ ws ⟨(show q_F (0 ≤ 0) from (show 0 ≤ 0 from by omega)), (show q_F (0 ≤ R.toInt + (-1 * 0)) from (show 0 ≤ R.toInt + (-1 * 0) from by have t1 : 0 ≤ R.toInt ∧ R.toInt ≤ 220 := hR; omega)), V, hl⟩
  rintro lx1 H locs ls _ ⟨i236, i237, V, hl⟩ ih238
  replace i236 : q_F (0 ≤ lx1.toInt) := i236
  replace i237 : q_F (0 ≤ R.toInt + (-1 * lx1.toInt)) := i237
  replace hl : lv_has ls 2 [(1, .int lx1), (0, .ref (q k))] := hl
  refine lv_iload_n hx hb d_2_15_2 rfl (lv_at hl 0 rfl) ?_
  refine lv_aload_n hx hb d_2_15_3 rfl (lv_at hl 1 rfl) ?_
  obtain ⟨y239, y240, hO241, b242, b243⟩ := q_bigO hI hB
  replace b242 : q_F (0 ≤ y239.toInt ∧ y239.toInt ≤ R.toInt) := b242
  replace b243 : q_F (0 ≤ y240.toInt ∧ y240.toInt ≤ 1) := b243
  refine q_get (ci := 2) (j := 1) (v := .int y239) C0 V i_Big rfl rfl hO241 (by decide) w_85 rfl d_2_15_4 ?_
  refine lv_icmp_ge (tgt := 50) hx hb d_2_15_7 (by decide) (fun c244 => ?_) (fun c244 => ?_)
  ·
    have b245 : q_F (y239.toInt ≤ lx1.toInt) := (q_leI c244)
    refine lv_iconst (v := 0) hx hb d_2_15_50 (by decide) ?_
    exact q_reti C0 V (⟨show 0 ≤ (0 : Int32).toInt ∧ (0 : Int32).toInt ≤ 6852 from (by have z9 : (0 : Int32).toInt = 0 := rfl; omega), rfl⟩) d_2_15_51
  ·
    have b246 : q_F (lx1.toInt < y239.toInt) := (q_nleI c244)
    refine lv_aload_n hx hb d_2_15_10 rfl (lv_at hl 1 rfl) ?_
    refine q_get (ci := 2) (j := 0) (v := .ref (q (k + 1))) C0 V i_Big rfl rfl hO241 (by decide) w_84 rfl d_2_15_11 ?_
    refine lv_iload_n hx hb d_2_15_14 rfl (lv_at hl 0 rfl) ?_
    obtain ⟨f247, hA248, bf249⟩ := q_bigA hI hB
    refine q_iald C0 V hA248 (q_ix (x := lx1.toInt) rfl (by have t1 : 0 ≤ lx1.toInt := i236; omega) (by have t1 : 0 ≤ lx1.toInt := i236; have t2 : 0 ≤ y239.toInt ∧ y239.toInt ≤ R.toInt := b242; have t3 : lx1.toInt < y239.toInt := b246; have e9 := q_clI (i := R) rfl (by have t1 : 0 ≤ R.toInt ∧ R.toInt ≤ 220 := hR; omega); omega)) d_2_15_15 ?_
    obtain ⟨a250, e251⟩ := q_nm (f247 lx1.toNatClampNeg : Int32)
    refine q_ti (v := a250) e251 ?_
    refine lv_if_eq (tgt := 44) hx hb d_2_15_16 (by decide) (fun c252 => ?_) (fun c252 => ?_)
    ·
      have b253 : q_F (a250.toInt = 0) := (q_eqI c252)
      obtain ⟨a254, e255⟩ := q_nm (lx1 + 1 : Int32)
      have b256 : q_F (a254.toInt = lx1.toInt + 1) := (by rw [← e255]; exact q_addI (y := 1) rfl (by decide) (by have t1 : 0 ≤ R.toInt ∧ R.toInt ≤ 220 := hR; have t2 : 0 ≤ lx1.toInt := i236; have t3 : 0 ≤ R.toInt + (-1 * lx1.toInt) := i237; omega) (by have t1 : 0 ≤ R.toInt ∧ R.toInt ≤ 220 := hR; have t2 : 0 ≤ lx1.toInt := i236; have t3 : 0 ≤ R.toInt + (-1 * lx1.toInt) := i237; omega))
      refine lv_iinc (v := a254) (lv' := [(1, .int a254), (0, .ref (q k))]) hx hb d_2_15_44 hl (k := 0) rfl (e255) (by decide) rfl (fun ls hl => ?_)
      refine lv_goto (tgt := 2) hx hb d_2_15_47 (by decide) ?_
      exact ih238 ((a254 : Int32)) _ _ _ ws (show (R.toInt - a254.toInt).toNat < (R.toInt - lx1.toInt).toNat from by have t1 : 0 ≤ y239.toInt ∧ y239.toInt ≤ R.toInt := b242; have t2 : lx1.toInt < y239.toInt := b246; have t3 : a254.toInt = lx1.toInt + 1 := b256; omega) ⟨(show q_F (0 ≤ a254.toInt) from (show 0 ≤ a254.toInt from by have t1 : 0 ≤ lx1.toInt := i236; have t2 : a254.toInt = lx1.toInt + 1 := b256; omega)), (show q_F (0 ≤ R.toInt + (-1 * a254.toInt)) from (show 0 ≤ R.toInt + (-1 * a254.toInt) from by have t1 : 0 ≤ y239.toInt ∧ y239.toInt ≤ R.toInt := b242; have t2 : lx1.toInt < y239.toInt := b246; have t3 : a254.toInt = lx1.toInt + 1 := b256; omega)), V, q_lw hl (q_lw1 0 rfl (q_lw1 1 rfl q_lw0))⟩
    ·
      have b257 : q_F (a250.toInt ≠ 0) := (q_neI c252)
      refine lv_iload_n hx hb d_2_15_19 rfl (lv_at hl 0 rfl) ?_
      refine lv_bipush (v := 31) hx hb d_2_15_20 (by decide) ?_
      refine lv_imul hx hb d_2_15_22 ?_
      obtain ⟨a258, e259⟩ := q_nm (lx1 * 31 : Int32)
      refine q_ti (v := a258) e259 ?_
      have b260 : q_F (a258.toInt = lx1.toInt * 31) := (by rw [← e259]; show (lx1 * 31 : Int32).toInt = lx1.toInt * 31; exact q_mulI (x := lx1.toInt) (y := 31) rfl (by decide) (by have t1 : 0 ≤ R.toInt ∧ R.toInt ≤ 220 := hR; have t2 : 0 ≤ lx1.toInt := i236; have t3 : 0 ≤ R.toInt + (-1 * lx1.toInt) := i237; omega) (by have t1 : 0 ≤ R.toInt ∧ R.toInt ≤ 220 := hR; have t2 : 0 ≤ lx1.toInt := i236; have t3 : 0 ≤ R.toInt + (-1 * lx1.toInt) := i237; omega))
      refine lv_aload_n hx hb d_2_15_23 rfl (lv_at hl 1 rfl) ?_
      refine q_get (ci := 2) (j := 0) (v := .ref (q (k + 1))) C0 V i_Big rfl rfl hO241 (by decide) w_84 rfl d_2_15_24 ?_
      refine lv_iload_n hx hb d_2_15_27 rfl (lv_at hl 0 rfl) ?_
      refine q_iald C0 V hA248 (q_ix (x := lx1.toInt) rfl (by have t1 : 0 ≤ lx1.toInt := i236; omega) (by have t1 : 0 ≤ lx1.toInt := i236; have t2 : 0 ≤ y239.toInt ∧ y239.toInt ≤ R.toInt := b242; have t3 : lx1.toInt < y239.toInt := b246; have e9 := q_clI (i := R) rfl (by have t1 : 0 ≤ R.toInt ∧ R.toInt ≤ 220 := hR; omega); omega)) d_2_15_28 ?_
      obtain ⟨a261, e262⟩ := q_nm (f247 lx1.toNatClampNeg : Int32)
      refine q_ti (v := a261) e262 ?_
      refine lv_aload_n hx hb d_2_15_29 rfl (lv_at hl 1 rfl) ?_
      refine q_get (ci := 2) (j := 0) (v := .ref (q (k + 1))) C0 V i_Big rfl rfl hO241 (by decide) w_84 rfl d_2_15_30 ?_
      refine lv_iload_n hx hb d_2_15_33 rfl (lv_at hl 0 rfl) ?_
      refine q_iald C0 V hA248 (q_ix (x := lx1.toInt) rfl (by have t1 : 0 ≤ lx1.toInt := i236; omega) (by have t1 : 0 ≤ lx1.toInt := i236; have t2 : 0 ≤ y239.toInt ∧ y239.toInt ≤ R.toInt := b242; have t3 : lx1.toInt < y239.toInt := b246; have e9 := q_clI (i := R) rfl (by have t1 : 0 ≤ R.toInt ∧ R.toInt ≤ 220 := hR; omega); omega)) d_2_15_34 ?_
      obtain ⟨a263, e264⟩ := q_nm (f247 lx1.toNatClampNeg : Int32)
      refine q_ti (v := a263) e264 ?_
      refine lv_ineg hx hb d_2_15_35 ?_
      obtain ⟨a265, e266⟩ := q_nm (-a263 : Int32)
      refine q_ti (v := a265) e266 ?_
      refine lv_iand hx hb d_2_15_36 ?_
      obtain ⟨a267, e268⟩ := q_nm (a261 &&& a265 : Int32)
      refine q_ti (v := a267) e268 ?_
      refine lv_iconst (v := 1) hx hb d_2_15_37 (by decide) ?_
      refine lv_isub hx hb d_2_15_38 ?_
      obtain ⟨a269, e270⟩ := q_nm (a267 - 1 : Int32)
      refine q_ti (v := a269) e270 ?_
      refine q_goi V (q_runS (As := [.int a269]) (rest := [.int a258]) (d := 1) (mc := 0) (ms := 0) C0 V rfl LS_Big_60 (S_Int_bitCount l D g sh q ws a269 hI  _) rfl hl.1 rfl (Nat.le_of_ble_eq_true rfl) ⟨by decide, by decide⟩ ⟨Nat.le_of_ble_eq_true rfl, Nat.le_of_ble_eq_true rfl⟩ d_2_15_39) (fun a273 u271 H locs hp272 V => ?_)
      obtain ⟨b274, rfl⟩ := hp272
      replace b274 : q_F (0 ≤ a273.toInt ∧ a273.toInt ≤ 63) := b274
      refine lv_iadd hx hb d_2_15_42 ?_
      obtain ⟨a275, e276⟩ := q_nm (a258 + a273 : Int32)
      refine q_ti (v := a275) e276 ?_
      have b277 : q_F (a275.toInt = a258.toInt + a273.toInt) := (by rw [← e276]; show (a258 + a273 : Int32).toInt = a258.toInt + a273.toInt; exact q_addI (x := a258.toInt) (y := a273.toInt) rfl rfl (by have t1 : 0 ≤ R.toInt ∧ R.toInt ≤ 220 := hR; have t2 : 0 ≤ lx1.toInt := i236; have t3 : 0 ≤ R.toInt + (-1 * lx1.toInt) := i237; have t4 : a258.toInt = lx1.toInt * 31 := b260; have t5 : 0 ≤ a273.toInt ∧ a273.toInt ≤ 63 := b274; omega) (by have t1 : 0 ≤ R.toInt ∧ R.toInt ≤ 220 := hR; have t2 : 0 ≤ lx1.toInt := i236; have t3 : 0 ≤ R.toInt + (-1 * lx1.toInt) := i237; have t4 : a258.toInt = lx1.toInt * 31 := b260; have t5 : 0 ≤ a273.toInt ∧ a273.toInt ≤ 63 := b274; omega))
      exact q_reti C0 V (⟨show 0 ≤ a275.toInt ∧ a275.toInt ≤ 6852 from (by have t1 : 0 ≤ R.toInt ∧ R.toInt ≤ 220 := hR; have t2 : 0 ≤ lx1.toInt := i236; have t3 : 0 ≤ y239.toInt ∧ y239.toInt ≤ R.toInt := b242; have t4 : lx1.toInt < y239.toInt := b246; have t5 : a258.toInt = lx1.toInt * 31 := b260; have t6 : 0 ≤ a273.toInt ∧ a273.toInt ≤ 63 := b274; have t7 : a275.toInt = a258.toInt + a273.toInt := b277; omega), rfl⟩) d_2_15_43
theorem d_2_14_12 : decode prog_2_method_14_code 12 = .ok (.aload_n 0, 1) := by decide +kernel
theorem d_2_14_13 : decode prog_2_method_14_code 13 = .ok (.invokevirtual 68, 3) := by decide +kernel
set_option maxRecDepth 100000 in
theorem w_754 : (Cond.code ({ cls := "NumberHouse$Big", name := "lowestOne", desc := "()I" } : MethodName) prog_2_method_15_code (2 : Nat) (some .int)) ∈ q_tbl := q_of4 34 rfl (by decide +kernel)
set_option maxRecDepth 100000 in
theorem w_1063 : (Cond.methodLink "NumberHouse$Big" (68 : Nat) ({ cls := "NumberHouse$Big", name := "lowestOne", desc := "()I" } : MethodName)) ∈ q_tbl := q_of5 103 rfl (by decide +kernel)
set_option maxRecDepth 100000 in
theorem w_752 : (Cond.instanceMethod ({ cls := "NumberHouse$Big", name := "lowestOne", desc := "()I" } : MethodName)) ∈ q_tbl := q_of4 32 rfl (by decide +kernel)
set_option maxRecDepth 100000 in
theorem w_753 : (Cond.selects "NumberHouse$Big" ({ cls := "NumberHouse$Big", name := "lowestOne", desc := "()I" } : MethodName) ({ cls := "NumberHouse$Big", name := "lowestOne", desc := "()I" } : MethodName)) ∈ q_tbl := q_of4 33 rfl (by decide +kernel)
theorem LV_Big_68 : q_LV "NumberHouse$Big" 68 y_Big_lowestOne prog_2_method_15_code 2 (some .int) 0 := ⟨w_754, w_4, w_1063, w_752, w_753, ⟨by decide, by decide, by decide +kernel⟩⟩
theorem d_2_14_16 : decode prog_2_method_14_code 16 = .ok (.iload_n 1, 1) := by decide +kernel
theorem d_2_14_17 : decode prog_2_method_14_code 17 = .ok (.iconst 1, 1) := by decide +kernel
theorem d_2_14_18 : decode prog_2_method_14_code 18 = .ok (.isub, 1) := by decide +kernel
theorem d_2_14_19 : decode prog_2_method_14_code 19 = .ok (.if_icmp .ne 9, 3) := by decide +kernel
theorem d_2_14_22 : decode prog_2_method_14_code 22 = .ok (.iload_n 1, 1) := by decide +kernel
theorem d_2_14_23 : decode prog_2_method_14_code 23 = .ok (.iconst 1, 1) := by decide +kernel
theorem d_2_14_24 : decode prog_2_method_14_code 24 = .ok (.isub, 1) := by decide +kernel
theorem d_2_14_25 : decode prog_2_method_14_code 25 = .ok (.goto 4, 3) := by decide +kernel
set_option maxRecDepth 100000 in
set_option maxHeartbeats 4000000 in
theorem S_Big_lengthInBits (l : Launch) (D : va_G) (g : Nat → ClassId) (sh : List q_Ok) (q : Nat → Nat) (ws : va_W) (k : Nat) (R : Int32) (hB : q_isBig sh g q k R) (hI : q_I sh q ws) : q_mI l y_Big_lengthInBits prog_2_method_14_code 2 (.int) 4 0 0 D g [.ref (q k)] ws (fun r u => (-1 ≤ r.toInt ∧ r.toInt ≤ 6852) ∧ ws = u) := by
  intro sz
  refine q_into (by decide) (Nat.le_of_ble_eq_true rfl) ?_
  intro p e s m below meth c ls hsz C0 V hl
  have hx := C0.1
  have hb := C0.2.1
  have hR : q_F (0 ≤ R.toInt ∧ R.toInt ≤ 220) := hB.2.2
  have hl : lv_has ls 2 [(0, .ref (q k))] := hl
  refine lv_aload_n hx hb d_2_14_0 rfl (lv_at hl 0 rfl) ?_
  obtain ⟨y4, y5, hO6, b7, b8⟩ := q_bigO hI hB
  replace b7 : q_F (0 ≤ y4.toInt ∧ y4.toInt ≤ R.toInt) := b7
  replace b8 : q_F (0 ≤ y5.toInt ∧ y5.toInt ≤ 1) := b8
  refine q_goi V (q_runV (As := []) (rest := []) (d := 3) (mc := 0) (ms := 0) (ci := 2) C0 V rfl LV_Big_65 (S_Big_bitLength l D g sh q ws k R hB hI  _) rfl rfl hO6 rfl hl.1 rfl (Nat.le_of_ble_eq_true rfl) ⟨by decide, by decide⟩ ⟨Nat.le_of_ble_eq_true rfl, Nat.le_of_ble_eq_true rfl⟩ d_2_14_1) (fun a3 u1 H locs hp2 V => ?_)
  obtain ⟨b9, rfl⟩ := hp2
  replace b9 : q_F (0 ≤ a3.toInt ∧ a3.toInt ≤ 6852) := b9
  refine lv_istore_n (lv' := [(1, .int a3), (0, .ref (q k))]) hx hb d_2_14_4 rfl hl (by decide) rfl (fun ls hl => ?_)
  refine lv_aload_n hx hb d_2_14_5 rfl (lv_at hl 1 rfl) ?_
  refine q_get (ci := 2) (j := 2) (v := .int y5) C0 V i_Big rfl rfl hO6 (by decide) w_94 rfl d_2_14_6 ?_
  refine lv_if_eq (tgt := 28) hx hb d_2_14_9 (by decide) (fun c10 => ?_) (fun c10 => ?_)
  ·
    have b11 : q_F (y5.toInt = 0) := (q_eqI c10)
    refine lv_iload_n hx hb d_2_14_28 rfl (lv_at hl 0 rfl) ?_
    exact q_reti C0 V (⟨show -1 ≤ a3.toInt ∧ a3.toInt ≤ 6852 from (by have t1 : 0 ≤ a3.toInt ∧ a3.toInt ≤ 6852 := b9; omega), rfl⟩) d_2_14_29
  ·
    have b12 : q_F (y5.toInt ≠ 0) := (q_neI c10)
    refine lv_aload_n hx hb d_2_14_12 rfl (lv_at hl 1 rfl) ?_
    refine q_goi V (q_runV (As := []) (rest := []) (d := 2) (mc := 0) (ms := 0) (ci := 2) C0 V rfl LV_Big_68 (S_Big_lowestOne l D g sh q ws k R hB hI  _) rfl rfl hO6 rfl hl.1 rfl (Nat.le_of_ble_eq_true rfl) ⟨by decide, by decide⟩ ⟨Nat.le_of_ble_eq_true rfl, Nat.le_of_ble_eq_true rfl⟩ d_2_14_13) (fun a15 u13 H locs hp14 V => ?_)
    obtain ⟨b16, rfl⟩ := hp14
    replace b16 : q_F (0 ≤ a15.toInt ∧ a15.toInt ≤ 6852) := b16
    refine lv_iload_n hx hb d_2_14_16 rfl (lv_at hl 0 rfl) ?_
    refine lv_iconst (v := 1) hx hb d_2_14_17 (by decide) ?_
    refine lv_isub hx hb d_2_14_18 ?_
    obtain ⟨a17, e18⟩ := q_nm (a3 - 1 : Int32)
    refine q_ti (v := a17) e18 ?_
    have b19 : q_F (a17.toInt = a3.toInt - 1) := (by rw [← e18]; show (a3 - 1 : Int32).toInt = a3.toInt - 1; exact q_subI (x := a3.toInt) (y := 1) rfl (by decide) (by have t1 : 0 ≤ a3.toInt ∧ a3.toInt ≤ 6852 := b9; omega) (by have t1 : 0 ≤ a3.toInt ∧ a3.toInt ≤ 6852 := b9; omega))
    refine lv_icmp_ne (tgt := 28) hx hb d_2_14_19 (by decide) (fun c20 => ?_) (fun c20 => ?_)
    ·
      have b21 : q_F (a15.toInt ≠ a17.toInt) := (q_neI c20)
      refine lv_iload_n hx hb d_2_14_28 rfl (lv_at hl 0 rfl) ?_
      exact q_reti C0 V (⟨show -1 ≤ a3.toInt ∧ a3.toInt ≤ 6852 from (by have t1 : 0 ≤ a3.toInt ∧ a3.toInt ≤ 6852 := b9; omega), rfl⟩) d_2_14_29
    ·
      have b22 : q_F (a15.toInt = a17.toInt) := (q_eqI c20)
      refine lv_iload_n hx hb d_2_14_22 rfl (lv_at hl 0 rfl) ?_
      refine lv_iconst (v := 1) hx hb d_2_14_23 (by decide) ?_
      refine lv_isub hx hb d_2_14_24 ?_
      obtain ⟨a23, e24⟩ := q_nm (a3 - 1 : Int32)
      refine q_ti (v := a23) e24 ?_
      have b25 : q_F (a23.toInt = a3.toInt - 1) := (by rw [← e24]; show (a3 - 1 : Int32).toInt = a3.toInt - 1; exact q_subI (x := a3.toInt) (y := 1) rfl (by decide) (by have t1 : 0 ≤ a3.toInt ∧ a3.toInt ≤ 6852 := b9; omega) (by have t1 : 0 ≤ a3.toInt ∧ a3.toInt ≤ 6852 := b9; omega))
      refine lv_goto (tgt := 29) hx hb d_2_14_25 (by decide) ?_
      exact q_reti C0 V (⟨show -1 ≤ a23.toInt ∧ a23.toInt ≤ 6852 from (by have t1 : 0 ≤ a3.toInt ∧ a3.toInt ≤ 6852 := b9; have t2 : a23.toInt = a3.toInt - 1 := b25; omega), rfl⟩) d_2_14_29
theorem d_2_11_13 : decode prog_2_method_11_code 13 = .ok (.iconst 0, 1) := by decide +kernel
set_option maxRecDepth 100000 in
set_option maxHeartbeats 4000000 in
theorem S_Big_fitsLong (l : Launch) (D : va_G) (g : Nat → ClassId) (sh : List q_Ok) (q : Nat → Nat) (ws : va_W) (k : Nat) (R : Int32) (hB : q_isBig sh g q k R) (hI : q_I sh q ws) : q_mI l y_Big_fitsLong prog_2_method_11_code 1 (.boolean) 5 0 0 D g [.ref (q k)] ws (fun r u => (0 ≤ r.toInt ∧ r.toInt ≤ 1) ∧ ws = u) := by
  intro sz
  refine q_into (by decide) (Nat.le_of_ble_eq_true rfl) ?_
  intro p e s m below meth c ls hsz C0 V hl
  have hx := C0.1
  have hb := C0.2.1
  have hR : q_F (0 ≤ R.toInt ∧ R.toInt ≤ 220) := hB.2.2
  have hl : lv_has ls 1 [(0, .ref (q k))] := hl
  refine lv_aload_n hx hb d_2_11_0 rfl (lv_at hl 0 rfl) ?_
  obtain ⟨y4, y5, hO6, b7, b8⟩ := q_bigO hI hB
  replace b7 : q_F (0 ≤ y4.toInt ∧ y4.toInt ≤ R.toInt) := b7
  replace b8 : q_F (0 ≤ y5.toInt ∧ y5.toInt ≤ 1) := b8
  refine q_goi V (q_runV (As := []) (rest := []) (d := 4) (mc := 0) (ms := 0) (ci := 2) C0 V rfl LV_Big_53 (S_Big_lengthInBits l D g sh q ws k R hB hI  _) rfl rfl hO6 rfl hl.1 rfl (Nat.le_of_ble_eq_true rfl) ⟨by decide, by decide⟩ ⟨Nat.le_of_ble_eq_true rfl, Nat.le_of_ble_eq_true rfl⟩ d_2_11_1) (fun a3 u1 H locs hp2 V => ?_)
  obtain ⟨b9, rfl⟩ := hp2
  replace b9 : q_F (-1 ≤ a3.toInt ∧ a3.toInt ≤ 6852) := b9
  refine lv_bipush (v := 63) hx hb d_2_11_4 (by decide) ?_
  refine lv_icmp_gt (tgt := 13) hx hb d_2_11_6 (by decide) (fun c10 => ?_) (fun c10 => ?_)
  ·
    have b11 : q_F (63 < a3.toInt) := (q_ltI c10)
    refine lv_iconst (v := 0) hx hb d_2_11_13 (by decide) ?_
    exact q_retz C0 V (by decide) (⟨show 0 ≤ (0 : Int32).toInt ∧ (0 : Int32).toInt ≤ 1 from (by have z9 : (0 : Int32).toInt = 0 := rfl; omega), rfl⟩) d_2_11_14
  ·
    have b12 : q_F (a3.toInt ≤ 63) := (q_nltI c10)
    refine lv_iconst (v := 1) hx hb d_2_11_9 (by decide) ?_
    refine lv_goto (tgt := 14) hx hb d_2_11_10 (by decide) ?_
    exact q_retz C0 V (by decide) (⟨show 0 ≤ (1 : Int32).toInt ∧ (1 : Int32).toInt ≤ 1 from (by have z9 : (1 : Int32).toInt = 1 := rfl; omega), rfl⟩) d_2_11_14
theorem d_2_17_0 : decode prog_2_method_17_code 0 = .ok (.aload_n 0, 1) := by decide +kernel
theorem d_2_17_1 : decode prog_2_method_17_code 1 = .ok (.iload_n 1, 1) := by decide +kernel
theorem d_2_17_2 : decode prog_2_method_17_code 2 = .ok (.bipush 31, 2) := by decide +kernel
theorem d_2_17_4 : decode prog_2_method_17_code 4 = .ok (.idiv, 1) := by decide +kernel
theorem d_2_17_5 : decode prog_2_method_17_code 5 = .ok (.invokevirtual 49, 3) := by decide +kernel
theorem d_2_17_8 : decode prog_2_method_17_code 8 = .ok (.iload_n 1, 1) := by decide +kernel
theorem d_2_17_9 : decode prog_2_method_17_code 9 = .ok (.bipush 31, 2) := by decide +kernel
theorem d_2_17_11 : decode prog_2_method_17_code 11 = .ok (.irem, 1) := by decide +kernel
theorem d_2_17_12 : decode prog_2_method_17_code 12 = .ok (.iushr, 1) := by decide +kernel
theorem d_2_17_13 : decode prog_2_method_17_code 13 = .ok (.iconst 1, 1) := by decide +kernel
theorem d_2_17_14 : decode prog_2_method_17_code 14 = .ok (.iand, 1) := by decide +kernel
theorem d_2_17_15 : decode prog_2_method_17_code 15 = .ok (.ireturn, 1) := by decide +kernel
def y_Big_bit : MethodName := ⟨"NumberHouse$Big", "bit", "(I)I"⟩
set_option maxRecDepth 100000 in
set_option maxHeartbeats 4000000 in
theorem S_Big_bit (l : Launch) (D : va_G) (g : Nat → ClassId) (sh : List q_Ok) (q : Nat → Nat) (ws : va_W) (k : Nat) (R : Int32) (hB : q_isBig sh g q k R) (x1 : Int32) (hI : q_I sh q ws) : q_mI l y_Big_bit prog_2_method_17_code 2 (.int) 2 0 0 D g [.ref (q k), .int x1] ws (fun r u => (0 ≤ r.toInt ∧ r.toInt ≤ 1) ∧ ws = u) := by
  intro sz
  refine q_into (by decide) (Nat.le_of_ble_eq_true rfl) ?_
  intro p e s m below meth c ls hsz C0 V hl
  have hx := C0.1
  have hb := C0.2.1
  have hR : q_F (0 ≤ R.toInt ∧ R.toInt ≤ 220) := hB.2.2
  have hl : lv_has ls 2 [(0, .ref (q k)), (1, .int x1)] := hl
  refine lv_aload_n hx hb d_2_17_0 rfl (lv_at hl 0 rfl) ?_
  refine lv_iload_n hx hb d_2_17_1 rfl (lv_at hl 1 rfl) ?_
  refine lv_bipush (v := 31) hx hb d_2_17_2 (by decide) ?_
  refine lv_idiv hx hb d_2_17_4 (by decide) ?_
  obtain ⟨a1, e2⟩ := q_nm (x1 / 31 : Int32)
  refine q_ti (v := a1) e2 ?_
  obtain ⟨y6, y7, hO8, b9, b10⟩ := q_bigO hI hB
  replace b9 : q_F (0 ≤ y6.toInt ∧ y6.toInt ≤ R.toInt) := b9
  replace b10 : q_F (0 ≤ y7.toInt ∧ y7.toInt ≤ 1) := b10
  refine q_goi V (q_runV (As := [.int a1]) (rest := []) (d := 1) (mc := 0) (ms := 0) (ci := 2) C0 V rfl LV_Big_49 (S_Big_limb l D g sh q ws k R hB a1 hI  _) rfl rfl hO8 rfl hl.1 rfl (Nat.le_of_ble_eq_true rfl) ⟨by decide, by decide⟩ ⟨Nat.le_of_ble_eq_true rfl, Nat.le_of_ble_eq_true rfl⟩ d_2_17_5) (fun a5 u3 H locs hp4 V => ?_)
  obtain ⟨b11, rfl⟩ := hp4
  replace b11 : q_F (True) := b11
  refine lv_iload_n hx hb d_2_17_8 rfl (lv_at hl 1 rfl) ?_
  refine lv_bipush (v := 31) hx hb d_2_17_9 (by decide) ?_
  refine lv_irem hx hb d_2_17_11 (by decide) ?_
  obtain ⟨a12, e13⟩ := q_nm (x1 - x1 / 31 * 31 : Int32)
  refine q_ti (v := a12) e13 ?_
  refine lv_iushr hx hb d_2_17_12 rfl ?_
  obtain ⟨a14, e15⟩ := q_nm ((a5.toUInt32 >>> (a12.toUInt32 &&& Int32.toUInt32 31)).toInt32 : Int32)
  refine q_ti (v := a14) e15 ?_
  refine lv_iconst (v := 1) hx hb d_2_17_13 (by decide) ?_
  refine lv_iand hx hb d_2_17_14 ?_
  obtain ⟨a16, e17⟩ := q_nm (a14 &&& 1 : Int32)
  refine q_ti (v := a16) e17 ?_
  have b18 : q_F (0 ≤ a16.toInt ∧ a16.toInt ≤ 1) := (by rw [← e17]; show 0 ≤ (a14 &&& 1 : Int32).toInt ∧ (a14 &&& 1 : Int32).toInt ≤ 1; exact s_and (by decide))
  exact q_reti C0 V (⟨show 0 ≤ a16.toInt ∧ a16.toInt ≤ 1 from (by have t1 : 0 ≤ a16.toInt ∧ a16.toInt ≤ 1 := b18; omega), rfl⟩) d_2_17_15
theorem d_2_21_0 : decode prog_2_method_21_code 0 = .ok (.aload_n 0, 1) := by decide +kernel
theorem d_2_21_1 : decode prog_2_method_21_code 1 = .ok (.getfield 13, 3) := by decide +kernel
theorem d_2_21_4 : decode prog_2_method_21_code 4 = .ok (.aload_n 1, 1) := by decide +kernel
theorem d_2_21_5 : decode prog_2_method_21_code 5 = .ok (.getfield 13, 3) := by decide +kernel
theorem d_2_21_8 : decode prog_2_method_21_code 8 = .ok (.if_icmp .eq 15, 3) := by decide +kernel
theorem d_2_21_23 : decode prog_2_method_21_code 23 = .ok (.aload_n 0, 1) := by decide +kernel
theorem d_2_21_24 : decode prog_2_method_21_code 24 = .ok (.getfield 13, 3) := by decide +kernel
theorem d_2_21_27 : decode prog_2_method_21_code 27 = .ok (.iconst 1, 1) := by decide +kernel
theorem d_2_21_28 : decode prog_2_method_21_code 28 = .ok (.isub, 1) := by decide +kernel
theorem d_2_21_29 : decode prog_2_method_21_code 29 = .ok (.istore_n 2, 1) := by decide +kernel
theorem d_2_21_30 : decode prog_2_method_21_code 30 = .ok (.iload_n 2, 1) := by decide +kernel
theorem d_2_21_31 : decode prog_2_method_21_code 31 = .ok (.ifCond .lt 40, 3) := by decide +kernel
theorem d_2_21_71 : decode prog_2_method_21_code 71 = .ok (.iconst 0, 1) := by decide +kernel
theorem d_2_21_72 : decode prog_2_method_21_code 72 = .ok (.ireturn, 1) := by decide +kernel
theorem d_2_21_34 : decode prog_2_method_21_code 34 = .ok (.aload_n 0, 1) := by decide +kernel
theorem d_2_21_35 : decode prog_2_method_21_code 35 = .ok (.getfield 7, 3) := by decide +kernel
theorem d_2_21_38 : decode prog_2_method_21_code 38 = .ok (.iload_n 2, 1) := by decide +kernel
theorem d_2_21_39 : decode prog_2_method_21_code 39 = .ok (.iaload, 1) := by decide +kernel
theorem d_2_21_40 : decode prog_2_method_21_code 40 = .ok (.aload_n 1, 1) := by decide +kernel
theorem d_2_21_41 : decode prog_2_method_21_code 41 = .ok (.getfield 7, 3) := by decide +kernel
theorem d_2_21_44 : decode prog_2_method_21_code 44 = .ok (.iload_n 2, 1) := by decide +kernel
theorem d_2_21_45 : decode prog_2_method_21_code 45 = .ok (.iaload, 1) := by decide +kernel
theorem d_2_21_46 : decode prog_2_method_21_code 46 = .ok (.if_icmp .eq 19, 3) := by decide +kernel
theorem d_2_21_65 : decode prog_2_method_21_code 65 = .ok (.iinc 2 (-1), 3) := by decide +kernel
theorem d_2_21_68 : decode prog_2_method_21_code 68 = .ok (.goto (-38), 3) := by decide +kernel
theorem d_2_21_49 : decode prog_2_method_21_code 49 = .ok (.aload_n 0, 1) := by decide +kernel
theorem d_2_21_50 : decode prog_2_method_21_code 50 = .ok (.getfield 7, 3) := by decide +kernel
theorem d_2_21_53 : decode prog_2_method_21_code 53 = .ok (.iload_n 2, 1) := by decide +kernel
theorem d_2_21_54 : decode prog_2_method_21_code 54 = .ok (.iaload, 1) := by decide +kernel
theorem d_2_21_55 : decode prog_2_method_21_code 55 = .ok (.aload_n 1, 1) := by decide +kernel
theorem d_2_21_56 : decode prog_2_method_21_code 56 = .ok (.getfield 7, 3) := by decide +kernel
theorem d_2_21_59 : decode prog_2_method_21_code 59 = .ok (.iload_n 2, 1) := by decide +kernel
theorem d_2_21_60 : decode prog_2_method_21_code 60 = .ok (.iaload, 1) := by decide +kernel
theorem d_2_21_61 : decode prog_2_method_21_code 61 = .ok (.invokestatic 75, 3) := by decide +kernel
set_option maxRecDepth 100000 in
theorem w_783 : (Cond.code ({ cls := "java/lang/Integer", name := "compare", desc := "(II)I" } : MethodName) prog_27_method_40_code (2 : Nat) (some .int)) ∈ q_tbl := q_of4 63 rfl (by decide +kernel)
set_option maxRecDepth 100000 in
theorem w_781 : (Cond.methodLink "NumberHouse$Big" (75 : Nat) ({ cls := "java/lang/Integer", name := "compare", desc := "(II)I" } : MethodName)) ∈ q_tbl := q_of4 61 rfl (by decide +kernel)
set_option maxRecDepth 100000 in
theorem w_782 : (Cond.static ({ cls := "java/lang/Integer", name := "compare", desc := "(II)I" } : MethodName)) ∈ q_tbl := q_of4 62 rfl (by decide +kernel)
theorem LS_Big_75 : q_LS "NumberHouse$Big" 75 y_jInt_compare prog_27_method_40_code 2 (some .int) 2 := ⟨w_783, w_24, w_781, w_782, ⟨by decide, by decide, by decide +kernel⟩⟩
theorem d_2_21_64 : decode prog_2_method_21_code 64 = .ok (.ireturn, 1) := by decide +kernel
theorem d_2_21_11 : decode prog_2_method_21_code 11 = .ok (.aload_n 0, 1) := by decide +kernel
theorem d_2_21_12 : decode prog_2_method_21_code 12 = .ok (.getfield 13, 3) := by decide +kernel
theorem d_2_21_15 : decode prog_2_method_21_code 15 = .ok (.aload_n 1, 1) := by decide +kernel
theorem d_2_21_16 : decode prog_2_method_21_code 16 = .ok (.getfield 13, 3) := by decide +kernel
theorem d_2_21_19 : decode prog_2_method_21_code 19 = .ok (.invokestatic 75, 3) := by decide +kernel
theorem d_2_21_22 : decode prog_2_method_21_code 22 = .ok (.ireturn, 1) := by decide +kernel
def y_Big_compareSize : MethodName := ⟨"NumberHouse$Big", "compareSize", "(LNumberHouse$Big;)I"⟩
set_option maxRecDepth 100000 in
set_option maxHeartbeats 4000000 in
theorem S_Big_compareSize (l : Launch) (D : va_G) (g : Nat → ClassId) (sh : List q_Ok) (q : Nat → Nat) (ws : va_W) (k : Nat) (R : Int32) (hB : q_isBig sh g q k R) (j : Nat) (Q : Int32) (hJ : q_isBig sh g q j Q) (hI : q_I sh q ws) : q_mI l y_Big_compareSize prog_2_method_21_code 3 (.int) 2 0 0 D g [.ref (q k), .ref (q j)] ws (fun r u => (-1 ≤ r.toInt ∧ r.toInt ≤ 1) ∧ ws = u) := by
  intro sz
  refine q_into (by decide) (Nat.le_of_ble_eq_true rfl) ?_
  intro p e s m below meth c ls hsz C0 V hl
  have hx := C0.1
  have hb := C0.2.1
  have hR : q_F (0 ≤ R.toInt ∧ R.toInt ≤ 220) := hB.2.2
  have hQ : q_F (0 ≤ Q.toInt ∧ Q.toInt ≤ 220) := hJ.2.2
  have hl : lv_has ls 3 [(0, .ref (q k)), (1, .ref (q j))] := hl
  refine lv_aload_n hx hb d_2_21_0 rfl (lv_at hl 0 rfl) ?_
  obtain ⟨y1, y2, hO3, b4, b5⟩ := q_bigO hI hB
  replace b4 : q_F (0 ≤ y1.toInt ∧ y1.toInt ≤ R.toInt) := b4
  replace b5 : q_F (0 ≤ y2.toInt ∧ y2.toInt ≤ 1) := b5
  refine q_get (ci := 2) (j := 1) (v := .int y1) C0 V i_Big rfl rfl hO3 (by decide) w_85 rfl d_2_21_1 ?_
  refine lv_aload_n hx hb d_2_21_4 rfl (lv_at hl 1 rfl) ?_
  obtain ⟨y6, y7, hO8, b9, b10⟩ := q_bigO hI hJ
  replace b9 : q_F (0 ≤ y6.toInt ∧ y6.toInt ≤ Q.toInt) := b9
  replace b10 : q_F (0 ≤ y7.toInt ∧ y7.toInt ≤ 1) := b10
  refine q_get (ci := 2) (j := 1) (v := .int y6) C0 V i_Big rfl rfl hO8 (by decide) w_85 rfl d_2_21_5 ?_
  refine lv_icmp_eq (tgt := 23) hx hb d_2_21_8 (by decide) (fun c11 => ?_) (fun c11 => ?_)
  ·
    have b12 : q_F (y1.toInt = y6.toInt) := (q_eqI c11)
    refine lv_aload_n hx hb d_2_21_23 rfl (lv_at hl 0 rfl) ?_
    refine q_get (ci := 2) (j := 1) (v := .int y1) C0 V i_Big rfl rfl hO3 (by decide) w_85 rfl d_2_21_24 ?_
    refine lv_iconst (v := 1) hx hb d_2_21_27 (by decide) ?_
    refine lv_isub hx hb d_2_21_28 ?_
    obtain ⟨a13, e14⟩ := q_nm (y1 - 1 : Int32)
    refine q_ti (v := a13) e14 ?_
    have b15 : q_F (a13.toInt = y1.toInt - 1) := (by rw [← e14]; show (y1 - 1 : Int32).toInt = y1.toInt - 1; exact q_subI (x := y1.toInt) (y := 1) rfl (by decide) (by have t1 : 0 ≤ R.toInt ∧ R.toInt ≤ 220 := hR; have t2 : 0 ≤ y1.toInt ∧ y1.toInt ≤ R.toInt := b4; omega) (by have t1 : 0 ≤ R.toInt ∧ R.toInt ≤ 220 := hR; have t2 : 0 ≤ y1.toInt ∧ y1.toInt ≤ R.toInt := b4; omega))
    refine lv_istore_n (lv' := [(2, .int a13), (0, .ref (q k)), (1, .ref (q j))]) hx hb d_2_21_29 rfl hl (by decide) rfl (fun ls hl => ?_)
    refine q_loop (X := Int32) (fun z H locs ls _ => q_F (0 ≤ z.toInt + 1) ∧ q_F (0 ≤ a13.toInt + (-1 * z.toInt)) ∧ q_Wd D g (va_A ws sz) s ws H locs ∧ lv_has ls 3 [(2, .int z), (0, .ref (q k)), (1, .ref (q j))]) (fun z => (z.toInt - ((-1))).toNat) ?_ ((a13 : Int32)) _ _ _ ws ⟨(show q_F (0 ≤ a13.toInt + 1) from (show 0 ≤ a13.toInt + 1 from by have t1 : 0 ≤ y1.toInt ∧ y1.toInt ≤ R.toInt := b4; have t2 : a13.toInt = y1.toInt - 1 := b15; omega)), (show q_F (0 ≤ a13.toInt + (-1 * a13.toInt)) from (show 0 ≤ a13.toInt + (-1 * a13.toInt) from by omega)), V, hl⟩
    rintro lx16 H locs ls _ ⟨i128, i129, V, hl⟩ ih130
    replace i128 : q_F (0 ≤ lx16.toInt + 1) := i128
    replace i129 : q_F (0 ≤ a13.toInt + (-1 * lx16.toInt)) := i129
    replace hl : lv_has ls 3 [(2, .int lx16), (0, .ref (q k)), (1, .ref (q j))] := hl
    refine lv_iload_n hx hb d_2_21_30 rfl (lv_at hl 0 rfl) ?_
    refine lv_if_lt (tgt := 71) hx hb d_2_21_31 (by decide) (fun c131 => ?_) (fun c131 => ?_)
    ·
      have b132 : q_F (lx16.toInt < 0) := (q_ltI c131)
      refine lv_iconst (v := 0) hx hb d_2_21_71 (by decide) ?_
      exact q_reti C0 V (⟨show -1 ≤ (0 : Int32).toInt ∧ (0 : Int32).toInt ≤ 1 from (by have z9 : (0 : Int32).toInt = 0 := rfl; omega), rfl⟩) d_2_21_72
    ·
      have b133 : q_F (0 ≤ lx16.toInt) := (q_nltI c131)
      refine lv_aload_n hx hb d_2_21_34 rfl (lv_at hl 1 rfl) ?_
      obtain ⟨y134, y135, hO136, b137, b138⟩ := q_bigO hI hB
      replace b137 : q_F (0 ≤ y134.toInt ∧ y134.toInt ≤ R.toInt) := b137
      replace b138 : q_F (0 ≤ y135.toInt ∧ y135.toInt ≤ 1) := b138
      refine q_get (ci := 2) (j := 0) (v := .ref (q (k + 1))) C0 V i_Big rfl rfl hO136 (by decide) w_84 rfl d_2_21_35 ?_
      refine lv_iload_n hx hb d_2_21_38 rfl (lv_at hl 0 rfl) ?_
      obtain ⟨f139, hA140, bf141⟩ := q_bigA hI hB
      refine q_iald C0 V hA140 (q_ix (x := lx16.toInt) rfl (by have t1 : 0 ≤ lx16.toInt := b133; omega) (by have t1 : 0 ≤ y1.toInt ∧ y1.toInt ≤ R.toInt := b4; have t2 : a13.toInt = y1.toInt - 1 := b15; have t3 : 0 ≤ a13.toInt + (-1 * lx16.toInt) := i129; have t4 : 0 ≤ lx16.toInt := b133; have e9 := q_clI (i := R) rfl (by have t1 : 0 ≤ R.toInt ∧ R.toInt ≤ 220 := hR; omega); omega)) d_2_21_39 ?_
      obtain ⟨a142, e143⟩ := q_nm (f139 lx16.toNatClampNeg : Int32)
      refine q_ti (v := a142) e143 ?_
      refine lv_aload_n hx hb d_2_21_40 rfl (lv_at hl 2 rfl) ?_
      obtain ⟨y144, y145, hO146, b147, b148⟩ := q_bigO hI hJ
      replace b147 : q_F (0 ≤ y144.toInt ∧ y144.toInt ≤ Q.toInt) := b147
      replace b148 : q_F (0 ≤ y145.toInt ∧ y145.toInt ≤ 1) := b148
      refine q_get (ci := 2) (j := 0) (v := .ref (q (j + 1))) C0 V i_Big rfl rfl hO146 (by decide) w_84 rfl d_2_21_41 ?_
      refine lv_iload_n hx hb d_2_21_44 rfl (lv_at hl 0 rfl) ?_
      obtain ⟨f149, hA150, bf151⟩ := q_bigA hI hJ
      refine q_iald C0 V hA150 (q_ix (x := lx16.toInt) rfl (by have t1 : 0 ≤ lx16.toInt := b133; omega) (by have t1 : 0 ≤ y6.toInt ∧ y6.toInt ≤ Q.toInt := b9; have t2 : y1.toInt = y6.toInt := b12; have t3 : a13.toInt = y1.toInt - 1 := b15; have t4 : 0 ≤ a13.toInt + (-1 * lx16.toInt) := i129; have t5 : 0 ≤ lx16.toInt := b133; have e9 := q_clI (i := Q) rfl (by have t1 : 0 ≤ Q.toInt ∧ Q.toInt ≤ 220 := hQ; omega); omega)) d_2_21_45 ?_
      obtain ⟨a152, e153⟩ := q_nm (f149 lx16.toNatClampNeg : Int32)
      refine q_ti (v := a152) e153 ?_
      refine lv_icmp_eq (tgt := 65) hx hb d_2_21_46 (by decide) (fun c154 => ?_) (fun c154 => ?_)
      ·
        have b155 : q_F (a142.toInt = a152.toInt) := (q_eqI c154)
        obtain ⟨a156, e157⟩ := q_nm (lx16 + (-1) : Int32)
        have b158 : q_F (a156.toInt = lx16.toInt + (-1)) := (by rw [← e157]; exact q_addI (y := (-1)) rfl (by decide) (by have t1 : 0 ≤ R.toInt ∧ R.toInt ≤ 220 := hR; have t2 : 0 ≤ y1.toInt ∧ y1.toInt ≤ R.toInt := b4; have t3 : a13.toInt = y1.toInt - 1 := b15; have t4 : 0 ≤ lx16.toInt + 1 := i128; have t5 : 0 ≤ a13.toInt + (-1 * lx16.toInt) := i129; omega) (by have t1 : 0 ≤ R.toInt ∧ R.toInt ≤ 220 := hR; have t2 : 0 ≤ y1.toInt ∧ y1.toInt ≤ R.toInt := b4; have t3 : a13.toInt = y1.toInt - 1 := b15; have t4 : 0 ≤ lx16.toInt + 1 := i128; have t5 : 0 ≤ a13.toInt + (-1 * lx16.toInt) := i129; omega))
        refine lv_iinc (v := a156) (lv' := [(2, .int a156), (0, .ref (q k)), (1, .ref (q j))]) hx hb d_2_21_65 hl (k := 0) rfl (e157) (by decide) rfl (fun ls hl => ?_)
        refine lv_goto (tgt := 30) hx hb d_2_21_68 (by decide) ?_
        exact ih130 ((a156 : Int32)) _ _ _ ws (show (a156.toInt - ((-1))).toNat < (lx16.toInt - ((-1))).toNat from by have t1 : 0 ≤ lx16.toInt := b133; have t2 : a156.toInt = lx16.toInt + (-1) := b158; omega) ⟨(show q_F (0 ≤ a156.toInt + 1) from (show 0 ≤ a156.toInt + 1 from by have t1 : 0 ≤ lx16.toInt := b133; have t2 : a156.toInt = lx16.toInt + (-1) := b158; omega)), (show q_F (0 ≤ a13.toInt + (-1 * a156.toInt)) from (show 0 ≤ a13.toInt + (-1 * a156.toInt) from by have t1 : 0 ≤ a13.toInt + (-1 * lx16.toInt) := i129; have t2 : a156.toInt = lx16.toInt + (-1) := b158; omega)), V, q_lw hl (q_lw1 0 rfl (q_lw1 1 rfl (q_lw1 2 rfl q_lw0)))⟩
      ·
        have b159 : q_F (a142.toInt ≠ a152.toInt) := (q_neI c154)
        refine lv_aload_n hx hb d_2_21_49 rfl (lv_at hl 1 rfl) ?_
        refine q_get (ci := 2) (j := 0) (v := .ref (q (k + 1))) C0 V i_Big rfl rfl hO136 (by decide) w_84 rfl d_2_21_50 ?_
        refine lv_iload_n hx hb d_2_21_53 rfl (lv_at hl 0 rfl) ?_
        refine q_iald C0 V hA140 (q_ix (x := lx16.toInt) rfl (by have t1 : 0 ≤ lx16.toInt := b133; omega) (by have t1 : 0 ≤ y1.toInt ∧ y1.toInt ≤ R.toInt := b4; have t2 : a13.toInt = y1.toInt - 1 := b15; have t3 : 0 ≤ a13.toInt + (-1 * lx16.toInt) := i129; have t4 : 0 ≤ lx16.toInt := b133; have e9 := q_clI (i := R) rfl (by have t1 : 0 ≤ R.toInt ∧ R.toInt ≤ 220 := hR; omega); omega)) d_2_21_54 ?_
        obtain ⟨a160, e161⟩ := q_nm (f139 lx16.toNatClampNeg : Int32)
        refine q_ti (v := a160) e161 ?_
        refine lv_aload_n hx hb d_2_21_55 rfl (lv_at hl 2 rfl) ?_
        refine q_get (ci := 2) (j := 0) (v := .ref (q (j + 1))) C0 V i_Big rfl rfl hO146 (by decide) w_84 rfl d_2_21_56 ?_
        refine lv_iload_n hx hb d_2_21_59 rfl (lv_at hl 0 rfl) ?_
        refine q_iald C0 V hA150 (q_ix (x := lx16.toInt) rfl (by have t1 : 0 ≤ lx16.toInt := b133; omega) (by have t1 : 0 ≤ y6.toInt ∧ y6.toInt ≤ Q.toInt := b9; have t2 : y1.toInt = y6.toInt := b12; have t3 : a13.toInt = y1.toInt - 1 := b15; have t4 : 0 ≤ a13.toInt + (-1 * lx16.toInt) := i129; have t5 : 0 ≤ lx16.toInt := b133; have e9 := q_clI (i := Q) rfl (by have t1 : 0 ≤ Q.toInt ∧ Q.toInt ≤ 220 := hQ; omega); omega)) d_2_21_60 ?_
        obtain ⟨a162, e163⟩ := q_nm (f149 lx16.toNatClampNeg : Int32)
        refine q_ti (v := a162) e163 ?_
        refine q_goi V (q_runS (As := [.int a160, .int a162]) (rest := []) (d := 1) (mc := 0) (ms := 0) C0 V rfl LS_Big_75 (S_Int_compare l D g sh q ws a160 a162 hI  _) rfl hl.1 rfl (Nat.le_of_ble_eq_true rfl) ⟨by decide, by decide⟩ ⟨Nat.le_of_ble_eq_true rfl, Nat.le_of_ble_eq_true rfl⟩ d_2_21_61) (fun a166 u164 H locs hp165 V => ?_)
        obtain ⟨b167, rfl⟩ := hp165
        replace b167 : q_F (-1 ≤ a166.toInt ∧ a166.toInt ≤ 1) := b167
        exact q_reti C0 V (⟨show -1 ≤ a166.toInt ∧ a166.toInt ≤ 1 from (by have t1 : -1 ≤ a166.toInt ∧ a166.toInt ≤ 1 := b167; omega), rfl⟩) d_2_21_64
  ·
    have b168 : q_F (y1.toInt ≠ y6.toInt) := (q_neI c11)
    refine lv_aload_n hx hb d_2_21_11 rfl (lv_at hl 0 rfl) ?_
    refine q_get (ci := 2) (j := 1) (v := .int y1) C0 V i_Big rfl rfl hO3 (by decide) w_85 rfl d_2_21_12 ?_
    refine lv_aload_n hx hb d_2_21_15 rfl (lv_at hl 1 rfl) ?_
    refine q_get (ci := 2) (j := 1) (v := .int y6) C0 V i_Big rfl rfl hO8 (by decide) w_85 rfl d_2_21_16 ?_
    refine q_goi V (q_runS (As := [.int y1, .int y6]) (rest := []) (d := 1) (mc := 0) (ms := 0) C0 V rfl LS_Big_75 (S_Int_compare l D g sh q ws y1 y6 hI  _) rfl hl.1 rfl (Nat.le_of_ble_eq_true rfl) ⟨by decide, by decide⟩ ⟨Nat.le_of_ble_eq_true rfl, Nat.le_of_ble_eq_true rfl⟩ d_2_21_19) (fun a171 u169 H locs hp170 V => ?_)
    obtain ⟨b172, rfl⟩ := hp170
    replace b172 : q_F (-1 ≤ a171.toInt ∧ a171.toInt ≤ 1) := b172
    exact q_reti C0 V (⟨show -1 ≤ a171.toInt ∧ a171.toInt ≤ 1 from (by have t1 : -1 ≤ a171.toInt ∧ a171.toInt ≤ 1 := b172; omega), rfl⟩) d_2_21_22
theorem d_2_20_0 : decode prog_2_method_20_code 0 = .ok (.aload_n 0, 1) := by decide +kernel
theorem d_2_20_1 : decode prog_2_method_20_code 1 = .ok (.invokevirtual 72, 3) := by decide +kernel
set_option maxRecDepth 100000 in
theorem w_1122 : (Cond.code ({ cls := "NumberHouse$Big", name := "sign", desc := "()I" } : MethodName) prog_2_method_8_code (1 : Nat) (some .int)) ∈ q_tbl := q_of5 162 rfl (by decide +kernel)
set_option maxRecDepth 100000 in
theorem w_1222 : (Cond.methodLink "NumberHouse$Big" (72 : Nat) ({ cls := "NumberHouse$Big", name := "sign", desc := "()I" } : MethodName)) ∈ q_tbl := q_of6 22 rfl (by decide +kernel)
set_option maxRecDepth 100000 in
theorem w_1120 : (Cond.instanceMethod ({ cls := "NumberHouse$Big", name := "sign", desc := "()I" } : MethodName)) ∈ q_tbl := q_of5 160 rfl (by decide +kernel)
set_option maxRecDepth 100000 in
theorem w_1121 : (Cond.selects "NumberHouse$Big" ({ cls := "NumberHouse$Big", name := "sign", desc := "()I" } : MethodName) ({ cls := "NumberHouse$Big", name := "sign", desc := "()I" } : MethodName)) ∈ q_tbl := q_of5 161 rfl (by decide +kernel)
theorem LV_Big_72 : q_LV "NumberHouse$Big" 72 y_Big_sign prog_2_method_8_code 1 (some .int) 0 := ⟨w_1122, w_4, w_1222, w_1120, w_1121, ⟨by decide, by decide, by decide +kernel⟩⟩
theorem d_2_20_4 : decode prog_2_method_20_code 4 = .ok (.aload_n 1, 1) := by decide +kernel
theorem d_2_20_5 : decode prog_2_method_20_code 5 = .ok (.invokevirtual 72, 3) := by decide +kernel
theorem d_2_20_8 : decode prog_2_method_20_code 8 = .ok (.if_icmp .eq 15, 3) := by decide +kernel
theorem d_2_20_23 : decode prog_2_method_20_code 23 = .ok (.aload_n 0, 1) := by decide +kernel
theorem d_2_20_24 : decode prog_2_method_20_code 24 = .ok (.aload_n 1, 1) := by decide +kernel
theorem d_2_20_25 : decode prog_2_method_20_code 25 = .ok (.invokevirtual 78, 3) := by decide +kernel
set_option maxRecDepth 100000 in
theorem w_780 : (Cond.code ({ cls := "NumberHouse$Big", name := "compareSize", desc := "(LNumberHouse$Big;)I" } : MethodName) prog_2_method_21_code (3 : Nat) (some .int)) ∈ q_tbl := q_of4 60 rfl (by decide +kernel)
set_option maxRecDepth 100000 in
theorem w_1033 : (Cond.methodLink "NumberHouse$Big" (78 : Nat) ({ cls := "NumberHouse$Big", name := "compareSize", desc := "(LNumberHouse$Big;)I" } : MethodName)) ∈ q_tbl := q_of5 73 rfl (by decide +kernel)
set_option maxRecDepth 100000 in
theorem w_778 : (Cond.instanceMethod ({ cls := "NumberHouse$Big", name := "compareSize", desc := "(LNumberHouse$Big;)I" } : MethodName)) ∈ q_tbl := q_of4 58 rfl (by decide +kernel)
set_option maxRecDepth 100000 in
theorem w_779 : (Cond.selects "NumberHouse$Big" ({ cls := "NumberHouse$Big", name := "compareSize", desc := "(LNumberHouse$Big;)I" } : MethodName) ({ cls := "NumberHouse$Big", name := "compareSize", desc := "(LNumberHouse$Big;)I" } : MethodName)) ∈ q_tbl := q_of4 59 rfl (by decide +kernel)
theorem LV_Big_78 : q_LV "NumberHouse$Big" 78 y_Big_compareSize prog_2_method_21_code 3 (some .int) 1 := ⟨w_780, w_4, w_1033, w_778, w_779, ⟨by decide, by decide, by decide +kernel⟩⟩
theorem d_2_20_28 : decode prog_2_method_20_code 28 = .ok (.istore_n 2, 1) := by decide +kernel
theorem d_2_20_29 : decode prog_2_method_20_code 29 = .ok (.aload_n 0, 1) := by decide +kernel
theorem d_2_20_30 : decode prog_2_method_20_code 30 = .ok (.getfield 17, 3) := by decide +kernel
theorem d_2_20_33 : decode prog_2_method_20_code 33 = .ok (.ifCond .eq 8, 3) := by decide +kernel
theorem d_2_20_41 : decode prog_2_method_20_code 41 = .ok (.iload_n 2, 1) := by decide +kernel
theorem d_2_20_42 : decode prog_2_method_20_code 42 = .ok (.ireturn, 1) := by decide +kernel
theorem d_2_20_36 : decode prog_2_method_20_code 36 = .ok (.iload_n 2, 1) := by decide +kernel
theorem d_2_20_37 : decode prog_2_method_20_code 37 = .ok (.ineg, 1) := by decide +kernel
theorem d_2_20_38 : decode prog_2_method_20_code 38 = .ok (.goto 4, 3) := by decide +kernel
theorem d_2_20_11 : decode prog_2_method_20_code 11 = .ok (.aload_n 0, 1) := by decide +kernel
theorem d_2_20_12 : decode prog_2_method_20_code 12 = .ok (.invokevirtual 72, 3) := by decide +kernel
theorem d_2_20_15 : decode prog_2_method_20_code 15 = .ok (.aload_n 1, 1) := by decide +kernel
theorem d_2_20_16 : decode prog_2_method_20_code 16 = .ok (.invokevirtual 72, 3) := by decide +kernel
theorem d_2_20_19 : decode prog_2_method_20_code 19 = .ok (.invokestatic 75, 3) := by decide +kernel
theorem d_2_20_22 : decode prog_2_method_20_code 22 = .ok (.ireturn, 1) := by decide +kernel
def y_Big_order : MethodName := ⟨"NumberHouse$Big", "order", "(LNumberHouse$Big;)I"⟩
set_option maxRecDepth 100000 in
set_option maxHeartbeats 4000000 in
theorem S_Big_order (l : Launch) (D : va_G) (g : Nat → ClassId) (sh : List q_Ok) (q : Nat → Nat) (ws : va_W) (k : Nat) (R : Int32) (hB : q_isBig sh g q k R) (j : Nat) (Q : Int32) (hJ : q_isBig sh g q j Q) (hI : q_I sh q ws) : q_mI l y_Big_order prog_2_method_20_code 3 (.int) 3 0 0 D g [.ref (q k), .ref (q j)] ws (fun r u => (-1 ≤ r.toInt ∧ r.toInt ≤ 1) ∧ ws = u) := by
  intro sz
  refine q_into (by decide) (Nat.le_of_ble_eq_true rfl) ?_
  intro p e s m below meth c ls hsz C0 V hl
  have hx := C0.1
  have hb := C0.2.1
  have hR : q_F (0 ≤ R.toInt ∧ R.toInt ≤ 220) := hB.2.2
  have hQ : q_F (0 ≤ Q.toInt ∧ Q.toInt ≤ 220) := hJ.2.2
  have hl : lv_has ls 3 [(0, .ref (q k)), (1, .ref (q j))] := hl
  refine lv_aload_n hx hb d_2_20_0 rfl (lv_at hl 0 rfl) ?_
  obtain ⟨y4, y5, hO6, b7, b8⟩ := q_bigO hI hB
  replace b7 : q_F (0 ≤ y4.toInt ∧ y4.toInt ≤ R.toInt) := b7
  replace b8 : q_F (0 ≤ y5.toInt ∧ y5.toInt ≤ 1) := b8
  refine q_goi V (q_runV (As := []) (rest := []) (d := 1) (mc := 0) (ms := 0) (ci := 2) C0 V rfl LV_Big_72 (S_Big_sign l D g sh q ws k R hB hI  _) rfl rfl hO6 rfl hl.1 rfl (Nat.le_of_ble_eq_true rfl) ⟨by decide, by decide⟩ ⟨Nat.le_of_ble_eq_true rfl, Nat.le_of_ble_eq_true rfl⟩ d_2_20_1) (fun a3 u1 H locs hp2 V => ?_)
  obtain ⟨b9, rfl⟩ := hp2
  replace b9 : q_F (-1 ≤ a3.toInt ∧ a3.toInt ≤ 1) := b9
  refine lv_aload_n hx hb d_2_20_4 rfl (lv_at hl 1 rfl) ?_
  obtain ⟨y13, y14, hO15, b16, b17⟩ := q_bigO hI hJ
  replace b16 : q_F (0 ≤ y13.toInt ∧ y13.toInt ≤ Q.toInt) := b16
  replace b17 : q_F (0 ≤ y14.toInt ∧ y14.toInt ≤ 1) := b17
  refine q_goi V (q_runV (As := []) (rest := [.int a3]) (d := 1) (mc := 0) (ms := 0) (ci := 2) C0 V rfl LV_Big_72 (S_Big_sign l D g sh q ws j Q hJ hI  _) rfl rfl hO15 rfl hl.1 rfl (Nat.le_of_ble_eq_true rfl) ⟨by decide, by decide⟩ ⟨Nat.le_of_ble_eq_true rfl, Nat.le_of_ble_eq_true rfl⟩ d_2_20_5) (fun a12 u10 H locs hp11 V => ?_)
  obtain ⟨b18, rfl⟩ := hp11
  replace b18 : q_F (-1 ≤ a12.toInt ∧ a12.toInt ≤ 1) := b18
  refine lv_icmp_eq (tgt := 23) hx hb d_2_20_8 (by decide) (fun c19 => ?_) (fun c19 => ?_)
  ·
    have b20 : q_F (a3.toInt = a12.toInt) := (q_eqI c19)
    refine lv_aload_n hx hb d_2_20_23 rfl (lv_at hl 0 rfl) ?_
    refine lv_aload_n hx hb d_2_20_24 rfl (lv_at hl 1 rfl) ?_
    refine q_goi V (q_runV (As := [.ref (q j)]) (rest := []) (d := 2) (mc := 0) (ms := 0) (ci := 2) C0 V rfl LV_Big_78 (S_Big_compareSize l D g sh q ws k R hB j Q hJ hI  _) rfl rfl hO6 rfl hl.1 rfl (Nat.le_of_ble_eq_true rfl) ⟨by decide, by decide⟩ ⟨Nat.le_of_ble_eq_true rfl, Nat.le_of_ble_eq_true rfl⟩ d_2_20_25) (fun a23 u21 H locs hp22 V => ?_)
    obtain ⟨b24, rfl⟩ := hp22
    replace b24 : q_F (-1 ≤ a23.toInt ∧ a23.toInt ≤ 1) := b24
    refine lv_istore_n (lv' := [(2, .int a23), (0, .ref (q k)), (1, .ref (q j))]) hx hb d_2_20_28 rfl hl (by decide) rfl (fun ls hl => ?_)
    refine lv_aload_n hx hb d_2_20_29 rfl (lv_at hl 1 rfl) ?_
    refine q_get (ci := 2) (j := 2) (v := .int y5) C0 V i_Big rfl rfl hO6 (by decide) w_94 rfl d_2_20_30 ?_
    refine lv_if_eq (tgt := 41) hx hb d_2_20_33 (by decide) (fun c25 => ?_) (fun c25 => ?_)
    ·
      have b26 : q_F (y5.toInt = 0) := (q_eqI c25)
      refine lv_iload_n hx hb d_2_20_41 rfl (lv_at hl 0 rfl) ?_
      exact q_reti C0 V (⟨show -1 ≤ a23.toInt ∧ a23.toInt ≤ 1 from (by have t1 : -1 ≤ a23.toInt ∧ a23.toInt ≤ 1 := b24; omega), rfl⟩) d_2_20_42
    ·
      have b27 : q_F (y5.toInt ≠ 0) := (q_neI c25)
      refine lv_iload_n hx hb d_2_20_36 rfl (lv_at hl 0 rfl) ?_
      refine lv_ineg hx hb d_2_20_37 ?_
      obtain ⟨a28, e29⟩ := q_nm (-a23 : Int32)
      refine q_ti (v := a28) e29 ?_
      have b30 : q_F (a28.toInt = -a23.toInt) := (by rw [← e29]; show (-a23 : Int32).toInt = -a23.toInt; exact q_negI rfl (by have t1 : -1 ≤ a23.toInt ∧ a23.toInt ≤ 1 := b24; omega))
      refine lv_goto (tgt := 42) hx hb d_2_20_38 (by decide) ?_
      exact q_reti C0 V (⟨show -1 ≤ a28.toInt ∧ a28.toInt ≤ 1 from (by have t1 : -1 ≤ a23.toInt ∧ a23.toInt ≤ 1 := b24; have t2 : a28.toInt = -a23.toInt := b30; omega), rfl⟩) d_2_20_42
  ·
    have b31 : q_F (a3.toInt ≠ a12.toInt) := (q_neI c19)
    refine lv_aload_n hx hb d_2_20_11 rfl (lv_at hl 0 rfl) ?_
    refine q_goi V (q_runV (As := []) (rest := []) (d := 1) (mc := 0) (ms := 0) (ci := 2) C0 V rfl LV_Big_72 (S_Big_sign l D g sh q ws k R hB hI  _) rfl rfl hO6 rfl hl.1 rfl (Nat.le_of_ble_eq_true rfl) ⟨by decide, by decide⟩ ⟨Nat.le_of_ble_eq_true rfl, Nat.le_of_ble_eq_true rfl⟩ d_2_20_12) (fun a34 u32 H locs hp33 V => ?_)
    obtain ⟨b35, rfl⟩ := hp33
    replace b35 : q_F (-1 ≤ a34.toInt ∧ a34.toInt ≤ 1) := b35
    refine lv_aload_n hx hb d_2_20_15 rfl (lv_at hl 1 rfl) ?_
    refine q_goi V (q_runV (As := []) (rest := [.int a34]) (d := 1) (mc := 0) (ms := 0) (ci := 2) C0 V rfl LV_Big_72 (S_Big_sign l D g sh q ws j Q hJ hI  _) rfl rfl hO15 rfl hl.1 rfl (Nat.le_of_ble_eq_true rfl) ⟨by decide, by decide⟩ ⟨Nat.le_of_ble_eq_true rfl, Nat.le_of_ble_eq_true rfl⟩ d_2_20_16) (fun a38 u36 H locs hp37 V => ?_)
    obtain ⟨b39, rfl⟩ := hp37
    replace b39 : q_F (-1 ≤ a38.toInt ∧ a38.toInt ≤ 1) := b39
    refine q_goi V (q_runS (As := [.int a34, .int a38]) (rest := []) (d := 1) (mc := 0) (ms := 0) C0 V rfl LS_Big_75 (S_Int_compare l D g sh q ws a34 a38 hI  _) rfl hl.1 rfl (Nat.le_of_ble_eq_true rfl) ⟨by decide, by decide⟩ ⟨Nat.le_of_ble_eq_true rfl, Nat.le_of_ble_eq_true rfl⟩ d_2_20_19) (fun a42 u40 H locs hp41 V => ?_)
    obtain ⟨b43, rfl⟩ := hp41
    replace b43 : q_F (-1 ≤ a42.toInt ∧ a42.toInt ≤ 1) := b43
    exact q_reti C0 V (⟨show -1 ≤ a42.toInt ∧ a42.toInt ≤ 1 from (by have t1 : -1 ≤ a42.toInt ∧ a42.toInt ≤ 1 := b43; omega), rfl⟩) d_2_20_22
theorem d_2_24_0 : decode prog_2_method_24_code 0 = .ok (.iconst 0, 1) := by decide +kernel
theorem d_2_24_1 : decode prog_2_method_24_code 1 = .ok (.istore_n 2, 1) := by decide +kernel
theorem d_2_24_2 : decode prog_2_method_24_code 2 = .ok (.iconst 0, 1) := by decide +kernel
theorem d_2_24_3 : decode prog_2_method_24_code 3 = .ok (.istore_n 3, 1) := by decide +kernel
theorem d_2_24_4 : decode prog_2_method_24_code 4 = .ok (.iload_n 3, 1) := by decide +kernel
theorem d_2_24_5 : decode prog_2_method_24_code 5 = .ok (.aload_n 0, 1) := by decide +kernel
theorem d_2_24_6 : decode prog_2_method_24_code 6 = .ok (.getfield 13, 3) := by decide +kernel
theorem d_2_24_9 : decode prog_2_method_24_code 9 = .ok (.if_icmp .ge 42, 3) := by decide +kernel
theorem d_2_24_51 : decode prog_2_method_24_code 51 = .ok (.aload_n 0, 1) := by decide +kernel
theorem d_2_24_52 : decode prog_2_method_24_code 52 = .ok (.invokevirtual 36, 3) := by decide +kernel
theorem d_2_24_55 : decode prog_2_method_24_code 55 = .ok (.return_, 1) := by decide +kernel
theorem d_2_24_12 : decode prog_2_method_24_code 12 = .ok (.aload_n 0, 1) := by decide +kernel
theorem d_2_24_13 : decode prog_2_method_24_code 13 = .ok (.getfield 7, 3) := by decide +kernel
theorem d_2_24_16 : decode prog_2_method_24_code 16 = .ok (.iload_n 3, 1) := by decide +kernel
theorem d_2_24_17 : decode prog_2_method_24_code 17 = .ok (.iaload, 1) := by decide +kernel
theorem d_2_24_18 : decode prog_2_method_24_code 18 = .ok (.aload_n 1, 1) := by decide +kernel
theorem d_2_24_19 : decode prog_2_method_24_code 19 = .ok (.iload_n 3, 1) := by decide +kernel
theorem d_2_24_20 : decode prog_2_method_24_code 20 = .ok (.invokevirtual 49, 3) := by decide +kernel
theorem d_2_24_23 : decode prog_2_method_24_code 23 = .ok (.isub, 1) := by decide +kernel
theorem d_2_24_24 : decode prog_2_method_24_code 24 = .ok (.iload_n 2, 1) := by decide +kernel
theorem d_2_24_25 : decode prog_2_method_24_code 25 = .ok (.isub, 1) := by decide +kernel
theorem d_2_24_26 : decode prog_2_method_24_code 26 = .ok (.istore 4, 2) := by decide +kernel
theorem d_2_24_28 : decode prog_2_method_24_code 28 = .ok (.aload_n 0, 1) := by decide +kernel
theorem d_2_24_29 : decode prog_2_method_24_code 29 = .ok (.getfield 7, 3) := by decide +kernel
theorem d_2_24_32 : decode prog_2_method_24_code 32 = .ok (.iload_n 3, 1) := by decide +kernel
theorem d_2_24_33 : decode prog_2_method_24_code 33 = .ok (.iload 4, 2) := by decide +kernel
theorem d_2_24_35 : decode prog_2_method_24_code 35 = .ok (.ldc 71, 2) := by decide +kernel
theorem d_2_24_37 : decode prog_2_method_24_code 37 = .ok (.iand, 1) := by decide +kernel
theorem d_2_24_38 : decode prog_2_method_24_code 38 = .ok (.iastore, 1) := by decide +kernel
theorem d_2_24_39 : decode prog_2_method_24_code 39 = .ok (.iload 4, 2) := by decide +kernel
theorem d_2_24_41 : decode prog_2_method_24_code 41 = .ok (.bipush 31, 2) := by decide +kernel
theorem d_2_24_43 : decode prog_2_method_24_code 43 = .ok (.iushr, 1) := by decide +kernel
theorem d_2_24_44 : decode prog_2_method_24_code 44 = .ok (.istore_n 2, 1) := by decide +kernel
theorem d_2_24_45 : decode prog_2_method_24_code 45 = .ok (.iinc 3 1, 3) := by decide +kernel
theorem d_2_24_48 : decode prog_2_method_24_code 48 = .ok (.goto (-44), 3) := by decide +kernel
def y_Big_subtractSize : MethodName := ⟨"NumberHouse$Big", "subtractSize", "(LNumberHouse$Big;)V"⟩
set_option maxRecDepth 100000 in
set_option maxHeartbeats 4000000 in
theorem S_Big_subtractSize (l : Launch) (D : va_G) (g : Nat → ClassId) (sh : List q_Ok) (q : Nat → Nat) (ws : va_W) (k : Nat) (R : Int32) (hB : q_isBig sh g q k R) (j : Nat) (Q : Int32) (hJ : q_isBig sh g q j Q) (hI : q_I sh q ws) : q_mV l y_Big_subtractSize prog_2_method_24_code 5 2 0 0 D g [.ref (q k), .ref (q j)] ws (fun u => (True) ∧ q_I sh q u ∧ q_un ws u [k, k + 1]) := by
  intro sz
  refine q_into (by decide) (Nat.le_of_ble_eq_true rfl) ?_
  intro p e s m below meth c ls hsz C0 V hl
  have hx := C0.1
  have hb := C0.2.1
  have hR : q_F (0 ≤ R.toInt ∧ R.toInt ≤ 220) := hB.2.2
  have hQ : q_F (0 ≤ Q.toInt ∧ Q.toInt ≤ 220) := hJ.2.2
  have hF : q_un ws ws [k, k + 1] := q_u0
  have hl : lv_has ls 5 [(0, .ref (q k)), (1, .ref (q j))] := hl
  refine lv_iconst (v := 0) hx hb d_2_24_0 (by decide) ?_
  refine lv_istore_n (lv' := [(2, .int 0), (0, .ref (q k)), (1, .ref (q j))]) hx hb d_2_24_1 rfl hl (by decide) rfl (fun ls hl => ?_)
  refine lv_iconst (v := 0) hx hb d_2_24_2 (by decide) ?_
  refine lv_istore_n (lv' := [(3, .int 0), (2, .int 0), (0, .ref (q k)), (1, .ref (q j))]) hx hb d_2_24_3 rfl hl (by decide) rfl (fun ls hl => ?_)
  refine q_loop (X := Int32 × Int32) (fun z H locs ls w249 => q_F (0 ≤ R.toInt + (-1 * z.1.toInt)) ∧ q_F (0 ≤ z.2.toInt) ∧ q_F (0 ≤ (-1 * z.2.toInt) + 1) ∧ q_F (0 ≤ z.1.toInt + (-1 * z.2.toInt)) ∧ q_Wd D g (va_A ws sz) s w249 H locs ∧ lv_has ls 5 [(3, .int z.1), (2, .int z.2), (0, .ref (q k)), (1, .ref (q j))] ∧ q_I sh q w249 ∧ q_un ws w249 [k, k + 1]) (fun z => (R.toInt - z.1.toInt).toNat) ?_ ((0 : Int32), (0 : Int32)) _ _ _ ws ⟨(show q_F (0 ≤ R.toInt + (-1 * 0)) from (show 0 ≤ R.toInt + (-1 * 0) from by have t1 : 0 ≤ R.toInt ∧ R.toInt ≤ 220 := hR; omega)), (show q_F (0 ≤ 0) from (show 0 ≤ 0 from by omega)), (show q_F (0 ≤ (-1 * 0) + 1) from (show 0 ≤ (-1 * 0) + 1 from by omega)), (show q_F (0 ≤ 0 + (-1 * 0)) from (show 0 ≤ 0 + (-1 * 0) from by omega)), V, hl, hI, hF⟩
  rintro ⟨lx1, lx2⟩ H locs ls w249 ⟨i244, i245, i246, i247, V, hl, hI, hF⟩ ih248
  replace i244 : q_F (0 ≤ R.toInt + (-1 * lx1.toInt)) := i244
  replace i245 : q_F (0 ≤ lx2.toInt) := i245
  replace i246 : q_F (0 ≤ (-1 * lx2.toInt) + 1) := i246
  replace i247 : q_F (0 ≤ lx1.toInt + (-1 * lx2.toInt)) := i247
  replace hl : lv_has ls 5 [(3, .int lx1), (2, .int lx2), (0, .ref (q k)), (1, .ref (q j))] := hl
  refine lv_iload_n hx hb d_2_24_4 rfl (lv_at hl 0 rfl) ?_
  refine lv_aload_n hx hb d_2_24_5 rfl (lv_at hl 2 rfl) ?_
  obtain ⟨y250, y251, hO252, b253, b254⟩ := q_bigO hI hB
  replace b253 : q_F (0 ≤ y250.toInt ∧ y250.toInt ≤ R.toInt) := b253
  replace b254 : q_F (0 ≤ y251.toInt ∧ y251.toInt ≤ 1) := b254
  refine q_get (ci := 2) (j := 1) (v := .int y250) C0 V i_Big rfl rfl hO252 (by decide) w_85 rfl d_2_24_6 ?_
  refine lv_icmp_ge (tgt := 51) hx hb d_2_24_9 (by decide) (fun c255 => ?_) (fun c255 => ?_)
  ·
    have b256 : q_F (y250.toInt ≤ lx1.toInt) := (q_leI c255)
    refine lv_aload_n hx hb d_2_24_51 rfl (lv_at hl 2 rfl) ?_
    refine q_gov V (q_runV (As := []) (rest := []) (d := 1) (mc := 0) (ms := 0) (ci := 2) C0 V rfl LV_Big_36 (S_Big_trim l D g sh q w249 k R hB hI  _) rfl rfl hO252 rfl hl.1 rfl (Nat.le_of_ble_eq_true rfl) ⟨by decide, by decide⟩ ⟨Nat.le_of_ble_eq_true rfl, Nat.le_of_ble_eq_true rfl⟩ d_2_24_52) (fun u257 H locs hp258 V => ?_)
    obtain ⟨_, hI, hu259⟩ := hp258
    replace hF := q_uc hF hu259 (by simp)
    exact q_retv C0 V (⟨trivial, hI, hF⟩) d_2_24_55
  ·
    have b260 : q_F (lx1.toInt < y250.toInt) := (q_nleI c255)
    refine lv_aload_n hx hb d_2_24_12 rfl (lv_at hl 2 rfl) ?_
    refine q_get (ci := 2) (j := 0) (v := .ref (q (k + 1))) C0 V i_Big rfl rfl hO252 (by decide) w_84 rfl d_2_24_13 ?_
    refine lv_iload_n hx hb d_2_24_16 rfl (lv_at hl 0 rfl) ?_
    obtain ⟨f261, hA262, bf263⟩ := q_bigA hI hB
    refine q_iald C0 V hA262 (q_ix (x := lx1.toInt) rfl (by have t1 : 0 ≤ lx2.toInt := i245; have t2 : 0 ≤ lx1.toInt + (-1 * lx2.toInt) := i247; omega) (by have t1 : 0 ≤ lx2.toInt := i245; have t2 : 0 ≤ lx1.toInt + (-1 * lx2.toInt) := i247; have t3 : 0 ≤ y250.toInt ∧ y250.toInt ≤ R.toInt := b253; have t4 : lx1.toInt < y250.toInt := b260; have e9 := q_clI (i := R) rfl (by have t1 : 0 ≤ R.toInt ∧ R.toInt ≤ 220 := hR; omega); omega)) d_2_24_17 ?_
    obtain ⟨a264, e265⟩ := q_nm (f261 lx1.toNatClampNeg : Int32)
    refine q_ti (v := a264) e265 ?_
    refine lv_aload_n hx hb d_2_24_18 rfl (lv_at hl 3 rfl) ?_
    refine lv_iload_n hx hb d_2_24_19 rfl (lv_at hl 0 rfl) ?_
    obtain ⟨y269, y270, hO271, b272, b273⟩ := q_bigO hI hJ
    replace b272 : q_F (0 ≤ y269.toInt ∧ y269.toInt ≤ Q.toInt) := b272
    replace b273 : q_F (0 ≤ y270.toInt ∧ y270.toInt ≤ 1) := b273
    refine q_goi V (q_runV (As := [.int lx1]) (rest := [.int a264]) (d := 1) (mc := 0) (ms := 0) (ci := 2) C0 V rfl LV_Big_49 (S_Big_limb l D g sh q w249 j Q hJ lx1 hI  _) rfl rfl hO271 rfl hl.1 rfl (Nat.le_of_ble_eq_true rfl) ⟨by decide, by decide⟩ ⟨Nat.le_of_ble_eq_true rfl, Nat.le_of_ble_eq_true rfl⟩ d_2_24_20) (fun a268 u266 H locs hp267 V => ?_)
    obtain ⟨b274, rfl⟩ := hp267
    replace b274 : q_F (True) := b274
    refine lv_isub hx hb d_2_24_23 ?_
    obtain ⟨a275, e276⟩ := q_nm (a264 - a268 : Int32)
    refine q_ti (v := a275) e276 ?_
    refine lv_iload_n hx hb d_2_24_24 rfl (lv_at hl 1 rfl) ?_
    refine lv_isub hx hb d_2_24_25 ?_
    obtain ⟨a277, e278⟩ := q_nm (a275 - lx2 : Int32)
    refine q_ti (v := a277) e278 ?_
    refine lv_istore (lv' := [(4, .int a277), (3, .int lx1), (2, .int lx2), (0, .ref (q k)), (1, .ref (q j))]) hx hb d_2_24_26 hl (by decide) rfl (fun ls hl => ?_)
    refine lv_aload_n hx hb d_2_24_28 rfl (lv_at hl 3 rfl) ?_
    refine q_get (ci := 2) (j := 0) (v := .ref (q (k + 1))) C0 V i_Big rfl rfl hO252 (by decide) w_84 rfl d_2_24_29 ?_
    refine lv_iload_n hx hb d_2_24_32 rfl (lv_at hl 1 rfl) ?_
    refine lv_iload hx hb d_2_24_33 (lv_at hl 0 rfl) ?_
    refine q_ldc C0 rfl w_809 d_2_24_35 ?_
    refine lv_iand hx hb d_2_24_37 ?_
    obtain ⟨a279, e280⟩ := q_nm (a277 &&& 2147483647 : Int32)
    refine q_ti (v := a279) e280 ?_
    have b281 : q_F (0 ≤ a279.toInt ∧ a279.toInt ≤ 2147483647) := (by rw [← e280]; show 0 ≤ (a277 &&& 2147483647 : Int32).toInt ∧ (a277 &&& 2147483647 : Int32).toInt ≤ 2147483647; exact s_and (by decide))
    refine q_iast C0 V hA262 (q_ix (x := lx1.toInt) rfl (by have t1 : 0 ≤ lx2.toInt := i245; have t2 : 0 ≤ lx1.toInt + (-1 * lx2.toInt) := i247; omega) (by have t1 : 0 ≤ lx2.toInt := i245; have t2 : 0 ≤ lx1.toInt + (-1 * lx2.toInt) := i247; have t3 : 0 ≤ y250.toInt ∧ y250.toInt ≤ R.toInt := b253; have t4 : lx1.toInt < y250.toInt := b260; have e9 := q_clI (i := R) rfl (by have t1 : 0 ≤ R.toInt ∧ R.toInt ≤ 220 := hR; omega); omega)) d_2_24_38 (fun H locs w282 hu283 hA262 V => ?_)
    replace hI := q_bigA' hI hB hu283 hA262 (q_updB bf263 s_bnd)
    replace hO252 := (hu283 _ (by omega)).trans hO252
    replace hF := q_us hF hu283 (by simp)
    refine lv_iload hx hb d_2_24_39 (lv_at hl 0 rfl) ?_
    refine lv_bipush (v := 31) hx hb d_2_24_41 (by decide) ?_
    refine lv_iushr hx hb d_2_24_43 rfl ?_
    obtain ⟨a284, e285⟩ := q_nm ((a277.toUInt32 >>> ((31 : Int32).toUInt32 &&& Int32.toUInt32 31)).toInt32 : Int32)
    refine q_ti (v := a284) e285 ?_
    have b286 : q_F (0 ≤ a284.toInt ∧ a284.toInt ≤ 1) := (by rw [← e285]; show 0 ≤ ((a277.toUInt32 >>> ((31 : Int32).toUInt32 &&& Int32.toUInt32 31)).toInt32 : Int32).toInt ∧ ((a277.toUInt32 >>> ((31 : Int32).toUInt32 &&& Int32.toUInt32 31)).toInt32 : Int32).toInt ≤ 1; exact (by have z := s_ushr (x := a277) (c := 31) 31 (by decide) (by decide); omega))
    refine lv_istore_n (lv' := [(2, .int a284), (4, .int a277), (3, .int lx1), (0, .ref (q k)), (1, .ref (q j))]) hx hb d_2_24_44 rfl hl (by decide) rfl (fun ls hl => ?_)
    obtain ⟨a287, e288⟩ := q_nm (lx1 + 1 : Int32)
    have b289 : q_F (a287.toInt = lx1.toInt + 1) := (by rw [← e288]; exact q_addI (y := 1) rfl (by decide) (by have t1 : 0 ≤ R.toInt ∧ R.toInt ≤ 220 := hR; have t2 : 0 ≤ R.toInt + (-1 * lx1.toInt) := i244; have t3 : 0 ≤ lx2.toInt := i245; have t4 : 0 ≤ lx1.toInt + (-1 * lx2.toInt) := i247; omega) (by have t1 : 0 ≤ R.toInt ∧ R.toInt ≤ 220 := hR; have t2 : 0 ≤ R.toInt + (-1 * lx1.toInt) := i244; have t3 : 0 ≤ lx2.toInt := i245; have t4 : 0 ≤ lx1.toInt + (-1 * lx2.toInt) := i247; omega))
    refine lv_iinc (v := a287) (lv' := [(3, .int a287), (2, .int a284), (4, .int a277), (0, .ref (q k)), (1, .ref (q j))]) hx hb d_2_24_45 hl (k := 2) rfl (e288) (by decide) rfl (fun ls hl => ?_)
    refine lv_goto (tgt := 4) hx hb d_2_24_48 (by decide) ?_
    exact ih248 ((a287 : Int32), (a284 : Int32)) _ _ _ _ (show (R.toInt - a287.toInt).toNat < (R.toInt - lx1.toInt).toNat from by have t1 : 0 ≤ y250.toInt ∧ y250.toInt ≤ R.toInt := b253; have t2 : lx1.toInt < y250.toInt := b260; have t3 : a287.toInt = lx1.toInt + 1 := b289; omega) ⟨(show q_F (0 ≤ R.toInt + (-1 * a287.toInt)) from (show 0 ≤ R.toInt + (-1 * a287.toInt) from by have t1 : 0 ≤ y250.toInt ∧ y250.toInt ≤ R.toInt := b253; have t2 : lx1.toInt < y250.toInt := b260; have t3 : a287.toInt = lx1.toInt + 1 := b289; omega)), (show q_F (0 ≤ a284.toInt) from (show 0 ≤ a284.toInt from by have t1 : 0 ≤ a284.toInt ∧ a284.toInt ≤ 1 := b286; omega)), (show q_F (0 ≤ (-1 * a284.toInt) + 1) from (show 0 ≤ (-1 * a284.toInt) + 1 from by have t1 : 0 ≤ a284.toInt ∧ a284.toInt ≤ 1 := b286; omega)), (show q_F (0 ≤ a287.toInt + (-1 * a284.toInt)) from (show 0 ≤ a287.toInt + (-1 * a284.toInt) from by have t1 : 0 ≤ lx2.toInt := i245; have t2 : 0 ≤ lx1.toInt + (-1 * lx2.toInt) := i247; have t3 : 0 ≤ a284.toInt ∧ a284.toInt ≤ 1 := b286; have t4 : a287.toInt = lx1.toInt + 1 := b289; omega)), V, q_lw hl (q_lw1 0 rfl (q_lw1 1 rfl (q_lw1 3 rfl (q_lw1 4 rfl q_lw0)))), hI, hF⟩
theorem d_2_25_0 : decode prog_2_method_25_code 0 = .ok (.aload_n 1, 1) := by decide +kernel
theorem d_2_25_1 : decode prog_2_method_25_code 1 = .ok (.getfield 13, 3) := by decide +kernel
theorem d_2_25_4 : decode prog_2_method_25_code 4 = .ok (.aload_n 0, 1) := by decide +kernel
theorem d_2_25_5 : decode prog_2_method_25_code 5 = .ok (.getfield 7, 3) := by decide +kernel
theorem d_2_25_8 : decode prog_2_method_25_code 8 = .ok (.arraylength, 1) := by decide +kernel
theorem d_2_25_9 : decode prog_2_method_25_code 9 = .ok (.invokestatic 39, 3) := by decide +kernel
theorem d_2_25_12 : decode prog_2_method_25_code 12 = .ok (.istore_n 2, 1) := by decide +kernel
theorem d_2_25_13 : decode prog_2_method_25_code 13 = .ok (.iconst 0, 1) := by decide +kernel
theorem d_2_25_14 : decode prog_2_method_25_code 14 = .ok (.istore_n 3, 1) := by decide +kernel
theorem d_2_25_15 : decode prog_2_method_25_code 15 = .ok (.iconst 0, 1) := by decide +kernel
theorem d_2_25_16 : decode prog_2_method_25_code 16 = .ok (.istore 4, 2) := by decide +kernel
theorem d_2_25_18 : decode prog_2_method_25_code 18 = .ok (.iload 4, 2) := by decide +kernel
theorem d_2_25_20 : decode prog_2_method_25_code 20 = .ok (.iload_n 2, 1) := by decide +kernel
theorem d_2_25_21 : decode prog_2_method_25_code 21 = .ok (.if_icmp .ge 45, 3) := by decide +kernel
theorem d_2_25_66 : decode prog_2_method_25_code 66 = .ok (.aload_n 0, 1) := by decide +kernel
theorem d_2_25_67 : decode prog_2_method_25_code 67 = .ok (.iload_n 2, 1) := by decide +kernel
theorem d_2_25_68 : decode prog_2_method_25_code 68 = .ok (.putfield 13, 3) := by decide +kernel
theorem d_2_25_71 : decode prog_2_method_25_code 71 = .ok (.aload_n 0, 1) := by decide +kernel
theorem d_2_25_72 : decode prog_2_method_25_code 72 = .ok (.invokevirtual 36, 3) := by decide +kernel
theorem d_2_25_75 : decode prog_2_method_25_code 75 = .ok (.return_, 1) := by decide +kernel
theorem d_2_25_24 : decode prog_2_method_25_code 24 = .ok (.aload_n 1, 1) := by decide +kernel
theorem d_2_25_25 : decode prog_2_method_25_code 25 = .ok (.getfield 7, 3) := by decide +kernel
theorem d_2_25_28 : decode prog_2_method_25_code 28 = .ok (.iload 4, 2) := by decide +kernel
theorem d_2_25_30 : decode prog_2_method_25_code 30 = .ok (.iaload, 1) := by decide +kernel
theorem d_2_25_31 : decode prog_2_method_25_code 31 = .ok (.aload_n 0, 1) := by decide +kernel
theorem d_2_25_32 : decode prog_2_method_25_code 32 = .ok (.iload 4, 2) := by decide +kernel
theorem d_2_25_34 : decode prog_2_method_25_code 34 = .ok (.invokevirtual 49, 3) := by decide +kernel
theorem d_2_25_37 : decode prog_2_method_25_code 37 = .ok (.isub, 1) := by decide +kernel
theorem d_2_25_38 : decode prog_2_method_25_code 38 = .ok (.iload_n 3, 1) := by decide +kernel
theorem d_2_25_39 : decode prog_2_method_25_code 39 = .ok (.isub, 1) := by decide +kernel
theorem d_2_25_40 : decode prog_2_method_25_code 40 = .ok (.istore 5, 2) := by decide +kernel
theorem d_2_25_42 : decode prog_2_method_25_code 42 = .ok (.aload_n 0, 1) := by decide +kernel
theorem d_2_25_43 : decode prog_2_method_25_code 43 = .ok (.getfield 7, 3) := by decide +kernel
theorem d_2_25_46 : decode prog_2_method_25_code 46 = .ok (.iload 4, 2) := by decide +kernel
theorem d_2_25_48 : decode prog_2_method_25_code 48 = .ok (.iload 5, 2) := by decide +kernel
theorem d_2_25_50 : decode prog_2_method_25_code 50 = .ok (.ldc 71, 2) := by decide +kernel
theorem d_2_25_52 : decode prog_2_method_25_code 52 = .ok (.iand, 1) := by decide +kernel
theorem d_2_25_53 : decode prog_2_method_25_code 53 = .ok (.iastore, 1) := by decide +kernel
theorem d_2_25_54 : decode prog_2_method_25_code 54 = .ok (.iload 5, 2) := by decide +kernel
theorem d_2_25_56 : decode prog_2_method_25_code 56 = .ok (.bipush 31, 2) := by decide +kernel
theorem d_2_25_58 : decode prog_2_method_25_code 58 = .ok (.iushr, 1) := by decide +kernel
theorem d_2_25_59 : decode prog_2_method_25_code 59 = .ok (.istore_n 3, 1) := by decide +kernel
theorem d_2_25_60 : decode prog_2_method_25_code 60 = .ok (.iinc 4 1, 3) := by decide +kernel
theorem d_2_25_63 : decode prog_2_method_25_code 63 = .ok (.goto (-45), 3) := by decide +kernel
def y_Big_subtractFrom : MethodName := ⟨"NumberHouse$Big", "subtractFrom", "(LNumberHouse$Big;)V"⟩
set_option maxRecDepth 100000 in
set_option maxHeartbeats 4000000 in
theorem S_Big_subtractFrom (l : Launch) (D : va_G) (g : Nat → ClassId) (sh : List q_Ok) (q : Nat → Nat) (ws : va_W) (k : Nat) (R : Int32) (hB : q_isBig sh g q k R) (j : Nat) (Q : Int32) (hJ : q_isBig sh g q j Q) (hI : q_I sh q ws) : q_mV l y_Big_subtractFrom prog_2_method_25_code 6 2 0 0 D g [.ref (q k), .ref (q j)] ws (fun u => (True) ∧ q_I sh q u ∧ q_un ws u [k, k + 1]) := by
  intro sz
  refine q_into (by decide) (Nat.le_of_ble_eq_true rfl) ?_
  intro p e s m below meth c ls hsz C0 V hl
  have hx := C0.1
  have hb := C0.2.1
  have hR : q_F (0 ≤ R.toInt ∧ R.toInt ≤ 220) := hB.2.2
  have hQ : q_F (0 ≤ Q.toInt ∧ Q.toInt ≤ 220) := hJ.2.2
  have hF : q_un ws ws [k, k + 1] := q_u0
  have hl : lv_has ls 6 [(0, .ref (q k)), (1, .ref (q j))] := hl
  refine lv_aload_n hx hb d_2_25_0 rfl (lv_at hl 1 rfl) ?_
  obtain ⟨y1, y2, hO3, b4, b5⟩ := q_bigO hI hJ
  replace b4 : q_F (0 ≤ y1.toInt ∧ y1.toInt ≤ Q.toInt) := b4
  replace b5 : q_F (0 ≤ y2.toInt ∧ y2.toInt ≤ 1) := b5
  refine q_get (ci := 2) (j := 1) (v := .int y1) C0 V i_Big rfl rfl hO3 (by decide) w_85 rfl d_2_25_1 ?_
  refine lv_aload_n hx hb d_2_25_4 rfl (lv_at hl 0 rfl) ?_
  obtain ⟨y6, y7, hO8, b9, b10⟩ := q_bigO hI hB
  replace b9 : q_F (0 ≤ y6.toInt ∧ y6.toInt ≤ R.toInt) := b9
  replace b10 : q_F (0 ≤ y7.toInt ∧ y7.toInt ≤ 1) := b10
  refine q_get (ci := 2) (j := 0) (v := .ref (q (k + 1))) C0 V i_Big rfl rfl hO8 (by decide) w_84 rfl d_2_25_5 ?_
  obtain ⟨f11, hA12, bf13⟩ := q_bigA hI hB
  refine q_alen (t := 0) (v := R) C0 V hA12 rfl (s_len (by have t1 : 0 ≤ R.toInt ∧ R.toInt ≤ 220 := hR; omega)) d_2_25_8 ?_
  refine q_min C0 hl.1 rfl w_773 w_774 w_7 w_775 ⟨Nat.le_of_ble_eq_true rfl, Nat.le_of_ble_eq_true rfl⟩ ⟨Nat.le_of_ble_eq_true rfl, Nat.le_of_ble_eq_true rfl⟩ d_2_25_9 ?_
  obtain ⟨a14, e15⟩ := q_nm (if R < y1 then R else y1 : Int32)
  refine q_ti (v := a14) e15 ?_
  have b16 : q_F (a14.toInt ≤ y1.toInt ∧ a14.toInt ≤ R.toInt ∧ (a14.toInt = y1.toInt ∨ a14.toInt = R.toInt)) := (by rw [← e15]; show (if R < y1 then R else y1 : Int32).toInt ≤ y1.toInt ∧ (if R < y1 then R else y1 : Int32).toInt ≤ R.toInt ∧ ((if R < y1 then R else y1 : Int32).toInt = y1.toInt ∨ (if R < y1 then R else y1 : Int32).toInt = R.toInt); exact s_min (a := y1) (b := R))
  refine lv_istore_n (lv' := [(2, .int a14), (0, .ref (q k)), (1, .ref (q j))]) hx hb d_2_25_12 rfl hl (by decide) rfl (fun ls hl => ?_)
  refine lv_iconst (v := 0) hx hb d_2_25_13 (by decide) ?_
  refine lv_istore_n (lv' := [(3, .int 0), (2, .int a14), (0, .ref (q k)), (1, .ref (q j))]) hx hb d_2_25_14 rfl hl (by decide) rfl (fun ls hl => ?_)
  refine lv_iconst (v := 0) hx hb d_2_25_15 (by decide) ?_
  refine lv_istore (lv' := [(4, .int 0), (3, .int 0), (2, .int a14), (0, .ref (q k)), (1, .ref (q j))]) hx hb d_2_25_16 hl (by decide) rfl (fun ls hl => ?_)
  refine q_loop (X := Int32 × Int32) (fun z H locs ls w325 => q_F (0 ≤ a14.toInt + (-1 * z.1.toInt)) ∧ q_F (0 ≤ z.2.toInt) ∧ q_F (0 ≤ (-1 * z.2.toInt) + 1) ∧ q_F (0 ≤ z.1.toInt + (-1 * z.2.toInt)) ∧ q_Wd D g (va_A ws sz) s w325 H locs ∧ lv_has ls 6 [(4, .int z.1), (3, .int z.2), (2, .int a14), (0, .ref (q k)), (1, .ref (q j))] ∧ q_I sh q w325 ∧ q_un ws w325 [k, k + 1]) (fun z => (a14.toInt - z.1.toInt).toNat) ?_ ((0 : Int32), (0 : Int32)) _ _ _ ws ⟨(show q_F (0 ≤ a14.toInt + (-1 * 0)) from (show 0 ≤ a14.toInt + (-1 * 0) from by have t1 : 0 ≤ R.toInt ∧ R.toInt ≤ 220 := hR; have t2 : 0 ≤ y1.toInt ∧ y1.toInt ≤ Q.toInt := b4; have t3 : a14.toInt ≤ y1.toInt ∧ a14.toInt ≤ R.toInt ∧ (a14.toInt = y1.toInt ∨ a14.toInt = R.toInt) := b16; omega)), (show q_F (0 ≤ 0) from (show 0 ≤ 0 from by omega)), (show q_F (0 ≤ (-1 * 0) + 1) from (show 0 ≤ (-1 * 0) + 1 from by omega)), (show q_F (0 ≤ 0 + (-1 * 0)) from (show 0 ≤ 0 + (-1 * 0) from by omega)), V, hl, hI, hF⟩
  rintro ⟨lx17, lx18⟩ H locs ls w325 ⟨i320, i321, i322, i323, V, hl, hI, hF⟩ ih324
  replace i320 : q_F (0 ≤ a14.toInt + (-1 * lx17.toInt)) := i320
  replace i321 : q_F (0 ≤ lx18.toInt) := i321
  replace i322 : q_F (0 ≤ (-1 * lx18.toInt) + 1) := i322
  replace i323 : q_F (0 ≤ lx17.toInt + (-1 * lx18.toInt)) := i323
  replace hl : lv_has ls 6 [(4, .int lx17), (3, .int lx18), (2, .int a14), (0, .ref (q k)), (1, .ref (q j))] := hl
  refine lv_iload hx hb d_2_25_18 (lv_at hl 0 rfl) ?_
  refine lv_iload_n hx hb d_2_25_20 rfl (lv_at hl 2 rfl) ?_
  refine lv_icmp_ge (tgt := 66) hx hb d_2_25_21 (by decide) (fun c326 => ?_) (fun c326 => ?_)
  ·
    have b327 : q_F (a14.toInt ≤ lx17.toInt) := (q_leI c326)
    refine lv_aload_n hx hb d_2_25_66 rfl (lv_at hl 3 rfl) ?_
    refine lv_iload_n hx hb d_2_25_67 rfl (lv_at hl 2 rfl) ?_
    obtain ⟨y328, y329, hO330, b331, b332⟩ := q_bigO hI hB
    replace b331 : q_F (0 ≤ y328.toInt ∧ y328.toInt ≤ R.toInt) := b331
    replace b332 : q_F (0 ≤ y329.toInt ∧ y329.toInt ≤ 1) := b332
    refine q_put (ci := 2) (j := 1) (v := .int a14) (ty := .int) C0 V i_Big o_Big n_Big rfl rfl hO330 (by decide) w_85 rfl rfl rfl rfl (Nat.le_of_ble_eq_true rfl) d_2_25_68 (fun H locs w333 hu334 hO330 V => ?_)
    replace hO330 : w333[k]? = (some (q k, .inr (2, [.ref (q (k + 1)), .int a14, .int y329])) : Option (Nat × va_E)) := hO330
    replace hI := q_bigO' hI hB hu334 hO330 ⟨(by have t1 : 0 ≤ R.toInt ∧ R.toInt ≤ 220 := hR; have t2 : 0 ≤ y1.toInt ∧ y1.toInt ≤ Q.toInt := b4; have t3 : a14.toInt ≤ y1.toInt ∧ a14.toInt ≤ R.toInt ∧ (a14.toInt = y1.toInt ∨ a14.toInt = R.toInt) := b16; omega), (by have t1 : a14.toInt ≤ y1.toInt ∧ a14.toInt ≤ R.toInt ∧ (a14.toInt = y1.toInt ∨ a14.toInt = R.toInt) := b16; omega)⟩ ⟨(by have t1 : 0 ≤ y329.toInt ∧ y329.toInt ≤ 1 := b332; omega), (by have t1 : 0 ≤ y329.toInt ∧ y329.toInt ≤ 1 := b332; omega)⟩
    replace hF := q_us hF hu334 (by simp)
    refine lv_aload_n hx hb d_2_25_71 rfl (lv_at hl 3 rfl) ?_
    refine q_gov V (q_runV (As := []) (rest := []) (d := 1) (mc := 0) (ms := 0) (ci := 2) C0 V rfl LV_Big_36 (S_Big_trim l D g sh q w333 k R hB hI  _) rfl rfl hO330 rfl hl.1 rfl (Nat.le_of_ble_eq_true rfl) ⟨by decide, by decide⟩ ⟨Nat.le_of_ble_eq_true rfl, Nat.le_of_ble_eq_true rfl⟩ d_2_25_72) (fun u335 H locs hp336 V => ?_)
    obtain ⟨_, hI, hu337⟩ := hp336
    replace hF := q_uc hF hu337 (by simp)
    exact q_retv C0 V (⟨trivial, hI, hF⟩) d_2_25_75
  ·
    have b338 : q_F (lx17.toInt < a14.toInt) := (q_nleI c326)
    refine lv_aload_n hx hb d_2_25_24 rfl (lv_at hl 4 rfl) ?_
    obtain ⟨y339, y340, hO341, b342, b343⟩ := q_bigO hI hJ
    replace b342 : q_F (0 ≤ y339.toInt ∧ y339.toInt ≤ Q.toInt) := b342
    replace b343 : q_F (0 ≤ y340.toInt ∧ y340.toInt ≤ 1) := b343
    refine q_get (ci := 2) (j := 0) (v := .ref (q (j + 1))) C0 V i_Big rfl rfl hO341 (by decide) w_84 rfl d_2_25_25 ?_
    refine lv_iload hx hb d_2_25_28 (lv_at hl 0 rfl) ?_
    obtain ⟨f344, hA345, bf346⟩ := q_bigA hI hJ
    refine q_iald C0 V hA345 (q_ix (x := lx17.toInt) rfl (by have t1 : 0 ≤ lx18.toInt := i321; have t2 : 0 ≤ lx17.toInt + (-1 * lx18.toInt) := i323; omega) (by have t1 : 0 ≤ y1.toInt ∧ y1.toInt ≤ Q.toInt := b4; have t2 : a14.toInt ≤ y1.toInt ∧ a14.toInt ≤ R.toInt ∧ (a14.toInt = y1.toInt ∨ a14.toInt = R.toInt) := b16; have t3 : 0 ≤ lx18.toInt := i321; have t4 : 0 ≤ lx17.toInt + (-1 * lx18.toInt) := i323; have t5 : lx17.toInt < a14.toInt := b338; have e9 := q_clI (i := Q) rfl (by have t1 : 0 ≤ Q.toInt ∧ Q.toInt ≤ 220 := hQ; omega); omega)) d_2_25_30 ?_
    obtain ⟨a347, e348⟩ := q_nm (f344 lx17.toNatClampNeg : Int32)
    refine q_ti (v := a347) e348 ?_
    refine lv_aload_n hx hb d_2_25_31 rfl (lv_at hl 3 rfl) ?_
    refine lv_iload hx hb d_2_25_32 (lv_at hl 0 rfl) ?_
    obtain ⟨y352, y353, hO354, b355, b356⟩ := q_bigO hI hB
    replace b355 : q_F (0 ≤ y352.toInt ∧ y352.toInt ≤ R.toInt) := b355
    replace b356 : q_F (0 ≤ y353.toInt ∧ y353.toInt ≤ 1) := b356
    refine q_goi V (q_runV (As := [.int lx17]) (rest := [.int a347]) (d := 1) (mc := 0) (ms := 0) (ci := 2) C0 V rfl LV_Big_49 (S_Big_limb l D g sh q w325 k R hB lx17 hI  _) rfl rfl hO354 rfl hl.1 rfl (Nat.le_of_ble_eq_true rfl) ⟨by decide, by decide⟩ ⟨Nat.le_of_ble_eq_true rfl, Nat.le_of_ble_eq_true rfl⟩ d_2_25_34) (fun a351 u349 H locs hp350 V => ?_)
    obtain ⟨b357, rfl⟩ := hp350
    replace b357 : q_F (True) := b357
    refine lv_isub hx hb d_2_25_37 ?_
    obtain ⟨a358, e359⟩ := q_nm (a347 - a351 : Int32)
    refine q_ti (v := a358) e359 ?_
    refine lv_iload_n hx hb d_2_25_38 rfl (lv_at hl 1 rfl) ?_
    refine lv_isub hx hb d_2_25_39 ?_
    obtain ⟨a360, e361⟩ := q_nm (a358 - lx18 : Int32)
    refine q_ti (v := a360) e361 ?_
    refine lv_istore (lv' := [(5, .int a360), (4, .int lx17), (3, .int lx18), (2, .int a14), (0, .ref (q k)), (1, .ref (q j))]) hx hb d_2_25_40 hl (by decide) rfl (fun ls hl => ?_)
    refine lv_aload_n hx hb d_2_25_42 rfl (lv_at hl 4 rfl) ?_
    refine q_get (ci := 2) (j := 0) (v := .ref (q (k + 1))) C0 V i_Big rfl rfl hO354 (by decide) w_84 rfl d_2_25_43 ?_
    refine lv_iload hx hb d_2_25_46 (lv_at hl 1 rfl) ?_
    refine lv_iload hx hb d_2_25_48 (lv_at hl 0 rfl) ?_
    refine q_ldc C0 rfl w_809 d_2_25_50 ?_
    refine lv_iand hx hb d_2_25_52 ?_
    obtain ⟨a362, e363⟩ := q_nm (a360 &&& 2147483647 : Int32)
    refine q_ti (v := a362) e363 ?_
    have b364 : q_F (0 ≤ a362.toInt ∧ a362.toInt ≤ 2147483647) := (by rw [← e363]; show 0 ≤ (a360 &&& 2147483647 : Int32).toInt ∧ (a360 &&& 2147483647 : Int32).toInt ≤ 2147483647; exact s_and (by decide))
    obtain ⟨f365, hA366, bf367⟩ := q_bigA hI hB
    refine q_iast C0 V hA366 (q_ix (x := lx17.toInt) rfl (by have t1 : 0 ≤ lx18.toInt := i321; have t2 : 0 ≤ lx17.toInt + (-1 * lx18.toInt) := i323; omega) (by have t1 : a14.toInt ≤ y1.toInt ∧ a14.toInt ≤ R.toInt ∧ (a14.toInt = y1.toInt ∨ a14.toInt = R.toInt) := b16; have t2 : 0 ≤ lx18.toInt := i321; have t3 : 0 ≤ lx17.toInt + (-1 * lx18.toInt) := i323; have t4 : lx17.toInt < a14.toInt := b338; have e9 := q_clI (i := R) rfl (by have t1 : 0 ≤ R.toInt ∧ R.toInt ≤ 220 := hR; omega); omega)) d_2_25_53 (fun H locs w368 hu369 hA366 V => ?_)
    replace hI := q_bigA' hI hB hu369 hA366 (q_updB bf367 s_bnd)
    replace hO354 := (hu369 _ (by omega)).trans hO354
    replace hF := q_us hF hu369 (by simp)
    refine lv_iload hx hb d_2_25_54 (lv_at hl 0 rfl) ?_
    refine lv_bipush (v := 31) hx hb d_2_25_56 (by decide) ?_
    refine lv_iushr hx hb d_2_25_58 rfl ?_
    obtain ⟨a370, e371⟩ := q_nm ((a360.toUInt32 >>> ((31 : Int32).toUInt32 &&& Int32.toUInt32 31)).toInt32 : Int32)
    refine q_ti (v := a370) e371 ?_
    have b372 : q_F (0 ≤ a370.toInt ∧ a370.toInt ≤ 1) := (by rw [← e371]; show 0 ≤ ((a360.toUInt32 >>> ((31 : Int32).toUInt32 &&& Int32.toUInt32 31)).toInt32 : Int32).toInt ∧ ((a360.toUInt32 >>> ((31 : Int32).toUInt32 &&& Int32.toUInt32 31)).toInt32 : Int32).toInt ≤ 1; exact (by have z := s_ushr (x := a360) (c := 31) 31 (by decide) (by decide); omega))
    refine lv_istore_n (lv' := [(3, .int a370), (5, .int a360), (4, .int lx17), (2, .int a14), (0, .ref (q k)), (1, .ref (q j))]) hx hb d_2_25_59 rfl hl (by decide) rfl (fun ls hl => ?_)
    obtain ⟨a373, e374⟩ := q_nm (lx17 + 1 : Int32)
    have b375 : q_F (a373.toInt = lx17.toInt + 1) := (by rw [← e374]; exact q_addI (y := 1) rfl (by decide) (by have t1 : 0 ≤ R.toInt ∧ R.toInt ≤ 220 := hR; have t2 : a14.toInt ≤ y1.toInt ∧ a14.toInt ≤ R.toInt ∧ (a14.toInt = y1.toInt ∨ a14.toInt = R.toInt) := b16; have t3 : 0 ≤ a14.toInt + (-1 * lx17.toInt) := i320; have t4 : 0 ≤ lx18.toInt := i321; have t5 : 0 ≤ lx17.toInt + (-1 * lx18.toInt) := i323; omega) (by have t1 : 0 ≤ R.toInt ∧ R.toInt ≤ 220 := hR; have t2 : a14.toInt ≤ y1.toInt ∧ a14.toInt ≤ R.toInt ∧ (a14.toInt = y1.toInt ∨ a14.toInt = R.toInt) := b16; have t3 : 0 ≤ a14.toInt + (-1 * lx17.toInt) := i320; have t4 : 0 ≤ lx18.toInt := i321; have t5 : 0 ≤ lx17.toInt + (-1 * lx18.toInt) := i323; omega))
    refine lv_iinc (v := a373) (lv' := [(4, .int a373), (3, .int a370), (5, .int a360), (2, .int a14), (0, .ref (q k)), (1, .ref (q j))]) hx hb d_2_25_60 hl (k := 2) rfl (e374) (by decide) rfl (fun ls hl => ?_)
    refine lv_goto (tgt := 18) hx hb d_2_25_63 (by decide) ?_
    exact ih324 ((a373 : Int32), (a370 : Int32)) _ _ _ _ (show (a14.toInt - a373.toInt).toNat < (a14.toInt - lx17.toInt).toNat from by have t1 : lx17.toInt < a14.toInt := b338; have t2 : a373.toInt = lx17.toInt + 1 := b375; omega) ⟨(show q_F (0 ≤ a14.toInt + (-1 * a373.toInt)) from (show 0 ≤ a14.toInt + (-1 * a373.toInt) from by have t1 : lx17.toInt < a14.toInt := b338; have t2 : a373.toInt = lx17.toInt + 1 := b375; omega)), (show q_F (0 ≤ a370.toInt) from (show 0 ≤ a370.toInt from by have t1 : 0 ≤ a370.toInt ∧ a370.toInt ≤ 1 := b372; omega)), (show q_F (0 ≤ (-1 * a370.toInt) + 1) from (show 0 ≤ (-1 * a370.toInt) + 1 from by have t1 : 0 ≤ a370.toInt ∧ a370.toInt ≤ 1 := b372; omega)), (show q_F (0 ≤ a373.toInt + (-1 * a370.toInt)) from (show 0 ≤ a373.toInt + (-1 * a370.toInt) from by have t1 : 0 ≤ lx18.toInt := i321; have t2 : 0 ≤ lx17.toInt + (-1 * lx18.toInt) := i323; have t3 : 0 ≤ a370.toInt ∧ a370.toInt ≤ 1 := b372; have t4 : a373.toInt = lx17.toInt + 1 := b375; omega)), V, q_lw hl (q_lw1 0 rfl (q_lw1 1 rfl (q_lw1 3 rfl (q_lw1 4 rfl (q_lw1 5 rfl q_lw0))))), hI, hF⟩
theorem d_2_22_0 : decode prog_2_method_22_code 0 = .ok (.aload_n 1, 1) := by decide +kernel
theorem d_2_22_1 : decode prog_2_method_22_code 1 = .ok (.getfield 17, 3) := by decide +kernel
theorem d_2_22_4 : decode prog_2_method_22_code 4 = .ok (.iload_n 2, 1) := by decide +kernel
theorem d_2_22_5 : decode prog_2_method_22_code 5 = .ok (.if_icmp .eq 7, 3) := by decide +kernel
theorem d_2_22_12 : decode prog_2_method_22_code 12 = .ok (.iconst 0, 1) := by decide +kernel
theorem d_2_22_13 : decode prog_2_method_22_code 13 = .ok (.istore_n 3, 1) := by decide +kernel
theorem d_2_22_14 : decode prog_2_method_22_code 14 = .ok (.aload_n 1, 1) := by decide +kernel
theorem d_2_22_15 : decode prog_2_method_22_code 15 = .ok (.getfield 13, 3) := by decide +kernel
theorem d_2_22_18 : decode prog_2_method_22_code 18 = .ok (.ifCond .ne 4, 3) := by decide +kernel
theorem d_2_22_22 : decode prog_2_method_22_code 22 = .ok (.aload_n 0, 1) := by decide +kernel
theorem d_2_22_23 : decode prog_2_method_22_code 23 = .ok (.getfield 13, 3) := by decide +kernel
theorem d_2_22_26 : decode prog_2_method_22_code 26 = .ok (.ifCond .eq 11, 3) := by decide +kernel
theorem d_2_22_37 : decode prog_2_method_22_code 37 = .ok (.aload_n 0, 1) := by decide +kernel
theorem d_2_22_38 : decode prog_2_method_22_code 38 = .ok (.aload_n 1, 1) := by decide +kernel
theorem d_2_22_39 : decode prog_2_method_22_code 39 = .ok (.invokevirtual 82, 3) := by decide +kernel
set_option maxRecDepth 100000 in
theorem w_1206 : (Cond.code ({ cls := "NumberHouse$Big", name := "addSize", desc := "(LNumberHouse$Big;)V" } : MethodName) prog_2_method_23_code (6 : Nat) (none : Option ClassFile.FieldType)) ∈ q_tbl := q_of6 6 rfl (by decide +kernel)
set_option maxRecDepth 100000 in
theorem w_1268 : (Cond.methodLink "NumberHouse$Big" (82 : Nat) ({ cls := "NumberHouse$Big", name := "addSize", desc := "(LNumberHouse$Big;)V" } : MethodName)) ∈ q_tbl := q_of6 68 rfl (by decide +kernel)
set_option maxRecDepth 100000 in
theorem w_1204 : (Cond.instanceMethod ({ cls := "NumberHouse$Big", name := "addSize", desc := "(LNumberHouse$Big;)V" } : MethodName)) ∈ q_tbl := q_of6 4 rfl (by decide +kernel)
set_option maxRecDepth 100000 in
theorem w_1205 : (Cond.selects "NumberHouse$Big" ({ cls := "NumberHouse$Big", name := "addSize", desc := "(LNumberHouse$Big;)V" } : MethodName) ({ cls := "NumberHouse$Big", name := "addSize", desc := "(LNumberHouse$Big;)V" } : MethodName)) ∈ q_tbl := q_of6 5 rfl (by decide +kernel)
theorem LV_Big_82 : q_LV "NumberHouse$Big" 82 y_Big_addSize prog_2_method_23_code 6 none 1 := ⟨w_1206, w_4, w_1268, w_1204, w_1205, ⟨by decide, by decide, by decide +kernel⟩⟩
theorem d_2_22_42 : decode prog_2_method_22_code 42 = .ok (.aload_n 0, 1) := by decide +kernel
theorem d_2_22_43 : decode prog_2_method_22_code 43 = .ok (.iload_n 3, 1) := by decide +kernel
theorem d_2_22_44 : decode prog_2_method_22_code 44 = .ok (.putfield 17, 3) := by decide +kernel
theorem d_2_22_47 : decode prog_2_method_22_code 47 = .ok (.goto 29, 3) := by decide +kernel
theorem d_2_22_76 : decode prog_2_method_22_code 76 = .ok (.return_, 1) := by decide +kernel
theorem d_2_22_29 : decode prog_2_method_22_code 29 = .ok (.aload_n 0, 1) := by decide +kernel
theorem d_2_22_30 : decode prog_2_method_22_code 30 = .ok (.getfield 17, 3) := by decide +kernel
theorem d_2_22_33 : decode prog_2_method_22_code 33 = .ok (.iload_n 3, 1) := by decide +kernel
theorem d_2_22_34 : decode prog_2_method_22_code 34 = .ok (.if_icmp .ne 16, 3) := by decide +kernel
theorem d_2_22_50 : decode prog_2_method_22_code 50 = .ok (.aload_n 0, 1) := by decide +kernel
theorem d_2_22_51 : decode prog_2_method_22_code 51 = .ok (.aload_n 1, 1) := by decide +kernel
theorem d_2_22_52 : decode prog_2_method_22_code 52 = .ok (.invokevirtual 78, 3) := by decide +kernel
theorem d_2_22_55 : decode prog_2_method_22_code 55 = .ok (.ifCond .lt 11, 3) := by decide +kernel
theorem d_2_22_66 : decode prog_2_method_22_code 66 = .ok (.aload_n 0, 1) := by decide +kernel
theorem d_2_22_67 : decode prog_2_method_22_code 67 = .ok (.aload_n 1, 1) := by decide +kernel
theorem d_2_22_68 : decode prog_2_method_22_code 68 = .ok (.invokevirtual 89, 3) := by decide +kernel
set_option maxRecDepth 100000 in
theorem w_1273 : (Cond.code ({ cls := "NumberHouse$Big", name := "subtractFrom", desc := "(LNumberHouse$Big;)V" } : MethodName) prog_2_method_25_code (6 : Nat) (none : Option ClassFile.FieldType)) ∈ q_tbl := q_of6 73 rfl (by decide +kernel)
set_option maxRecDepth 100000 in
theorem w_1270 : (Cond.methodLink "NumberHouse$Big" (89 : Nat) ({ cls := "NumberHouse$Big", name := "subtractFrom", desc := "(LNumberHouse$Big;)V" } : MethodName)) ∈ q_tbl := q_of6 70 rfl (by decide +kernel)
set_option maxRecDepth 100000 in
theorem w_1271 : (Cond.instanceMethod ({ cls := "NumberHouse$Big", name := "subtractFrom", desc := "(LNumberHouse$Big;)V" } : MethodName)) ∈ q_tbl := q_of6 71 rfl (by decide +kernel)
set_option maxRecDepth 100000 in
theorem w_1272 : (Cond.selects "NumberHouse$Big" ({ cls := "NumberHouse$Big", name := "subtractFrom", desc := "(LNumberHouse$Big;)V" } : MethodName) ({ cls := "NumberHouse$Big", name := "subtractFrom", desc := "(LNumberHouse$Big;)V" } : MethodName)) ∈ q_tbl := q_of6 72 rfl (by decide +kernel)
theorem LV_Big_89 : q_LV "NumberHouse$Big" 89 y_Big_subtractFrom prog_2_method_25_code 6 none 1 := ⟨w_1273, w_4, w_1270, w_1271, w_1272, ⟨by decide, by decide, by decide +kernel⟩⟩
theorem d_2_22_71 : decode prog_2_method_22_code 71 = .ok (.aload_n 0, 1) := by decide +kernel
theorem d_2_22_72 : decode prog_2_method_22_code 72 = .ok (.iload_n 3, 1) := by decide +kernel
theorem d_2_22_73 : decode prog_2_method_22_code 73 = .ok (.putfield 17, 3) := by decide +kernel
theorem d_2_22_58 : decode prog_2_method_22_code 58 = .ok (.aload_n 0, 1) := by decide +kernel
theorem d_2_22_59 : decode prog_2_method_22_code 59 = .ok (.aload_n 1, 1) := by decide +kernel
theorem d_2_22_60 : decode prog_2_method_22_code 60 = .ok (.invokevirtual 86, 3) := by decide +kernel
set_option maxRecDepth 100000 in
theorem w_1202 : (Cond.code ({ cls := "NumberHouse$Big", name := "subtractSize", desc := "(LNumberHouse$Big;)V" } : MethodName) prog_2_method_24_code (5 : Nat) (none : Option ClassFile.FieldType)) ∈ q_tbl := q_of6 2 rfl (by decide +kernel)
set_option maxRecDepth 100000 in
theorem w_1269 : (Cond.methodLink "NumberHouse$Big" (86 : Nat) ({ cls := "NumberHouse$Big", name := "subtractSize", desc := "(LNumberHouse$Big;)V" } : MethodName)) ∈ q_tbl := q_of6 69 rfl (by decide +kernel)
set_option maxRecDepth 100000 in
theorem w_1200 : (Cond.instanceMethod ({ cls := "NumberHouse$Big", name := "subtractSize", desc := "(LNumberHouse$Big;)V" } : MethodName)) ∈ q_tbl := q_of6 0 rfl (by decide +kernel)
set_option maxRecDepth 100000 in
theorem w_1201 : (Cond.selects "NumberHouse$Big" ({ cls := "NumberHouse$Big", name := "subtractSize", desc := "(LNumberHouse$Big;)V" } : MethodName) ({ cls := "NumberHouse$Big", name := "subtractSize", desc := "(LNumberHouse$Big;)V" } : MethodName)) ∈ q_tbl := q_of6 1 rfl (by decide +kernel)
theorem LV_Big_86 : q_LV "NumberHouse$Big" 86 y_Big_subtractSize prog_2_method_24_code 5 none 1 := ⟨w_1202, w_4, w_1269, w_1200, w_1201, ⟨by decide, by decide, by decide +kernel⟩⟩
theorem d_2_22_63 : decode prog_2_method_22_code 63 = .ok (.goto 13, 3) := by decide +kernel
theorem d_2_22_21 : decode prog_2_method_22_code 21 = .ok (.return_, 1) := by decide +kernel
theorem d_2_22_8 : decode prog_2_method_22_code 8 = .ok (.iconst 1, 1) := by decide +kernel
theorem d_2_22_9 : decode prog_2_method_22_code 9 = .ok (.goto 4, 3) := by decide +kernel
def y_Big_addSigned : MethodName := ⟨"NumberHouse$Big", "addSigned", "(LNumberHouse$Big;Z)V"⟩
set_option maxRecDepth 100000 in
set_option maxHeartbeats 4000000 in
theorem S_Big_addSigned (l : Launch) (D : va_G) (g : Nat → ClassId) (sh : List q_Ok) (q : Nat → Nat) (ws : va_W) (k : Nat) (R : Int32) (hB : q_isBig sh g q k R) (j : Nat) (Q : Int32) (hJ : q_isBig sh g q j Q) (x2 : Int32) (hI : q_I sh q ws) (pre0 : 0 ≤ x2.toInt) (pre1 : 0 ≤ (-1 * x2.toInt) + 1) : q_mV l y_Big_addSigned prog_2_method_22_code 4 3 0 0 D g [.ref (q k), .ref (q j), .int x2] ws (fun u => (True) ∧ q_I sh q u ∧ q_un ws u [k, k + 1]) := by
  intro sz
  refine q_into (by decide) (Nat.le_of_ble_eq_true rfl) ?_
  intro p e s m below meth c ls hsz C0 V hl
  have hx := C0.1
  have hb := C0.2.1
  have hR : q_F (0 ≤ R.toInt ∧ R.toInt ≤ 220) := hB.2.2
  have hQ : q_F (0 ≤ Q.toInt ∧ Q.toInt ≤ 220) := hJ.2.2
  replace pre0 : q_F (0 ≤ x2.toInt) := pre0
  replace pre1 : q_F (0 ≤ (-1 * x2.toInt) + 1) := pre1
  have hF : q_un ws ws [k, k + 1] := q_u0
  have hl : lv_has ls 4 [(0, .ref (q k)), (1, .ref (q j)), (2, .int x2)] := hl
  refine lv_aload_n hx hb d_2_22_0 rfl (lv_at hl 1 rfl) ?_
  obtain ⟨y1, y2, hO3, b4, b5⟩ := q_bigO hI hJ
  replace b4 : q_F (0 ≤ y1.toInt ∧ y1.toInt ≤ Q.toInt) := b4
  replace b5 : q_F (0 ≤ y2.toInt ∧ y2.toInt ≤ 1) := b5
  refine q_get (ci := 2) (j := 2) (v := .int y2) C0 V i_Big rfl rfl hO3 (by decide) w_94 rfl d_2_22_1 ?_
  refine lv_iload_n hx hb d_2_22_4 rfl (lv_at hl 2 rfl) ?_
  refine lv_icmp_eq (tgt := 12) hx hb d_2_22_5 (by decide) (fun c6 => ?_) (fun c6 => ?_)
  ·
    have b7 : q_F (y2.toInt = x2.toInt) := (q_eqI c6)
    refine lv_iconst (v := 0) hx hb d_2_22_12 (by decide) ?_
    refine lv_istore_n (lv' := [(3, .int 0), (0, .ref (q k)), (1, .ref (q j)), (2, .int x2)]) hx hb d_2_22_13 rfl hl (by decide) rfl (fun ls hl => ?_)
    refine lv_aload_n hx hb d_2_22_14 rfl (lv_at hl 2 rfl) ?_
    refine q_get (ci := 2) (j := 1) (v := .int y1) C0 V i_Big rfl rfl hO3 (by decide) w_85 rfl d_2_22_15 ?_
    refine lv_if_ne (tgt := 22) hx hb d_2_22_18 (by decide) (fun c8 => ?_) (fun c8 => ?_)
    ·
      have b9 : q_F (y1.toInt ≠ 0) := (q_neI c8)
      refine lv_aload_n hx hb d_2_22_22 rfl (lv_at hl 1 rfl) ?_
      obtain ⟨y10, y11, hO12, b13, b14⟩ := q_bigO hI hB
      replace b13 : q_F (0 ≤ y10.toInt ∧ y10.toInt ≤ R.toInt) := b13
      replace b14 : q_F (0 ≤ y11.toInt ∧ y11.toInt ≤ 1) := b14
      refine q_get (ci := 2) (j := 1) (v := .int y10) C0 V i_Big rfl rfl hO12 (by decide) w_85 rfl d_2_22_23 ?_
      refine lv_if_eq (tgt := 37) hx hb d_2_22_26 (by decide) (fun c15 => ?_) (fun c15 => ?_)
      ·
        have b16 : q_F (y10.toInt = 0) := (q_eqI c15)
        refine lv_aload_n hx hb d_2_22_37 rfl (lv_at hl 1 rfl) ?_
        refine lv_aload_n hx hb d_2_22_38 rfl (lv_at hl 2 rfl) ?_
        refine q_gov V (q_runV (As := [.ref (q j)]) (rest := []) (d := 2) (mc := 0) (ms := 0) (ci := 2) C0 V rfl LV_Big_82 (S_Big_addSize l D g sh q ws k R hB j Q hJ hI  _) rfl rfl hO12 rfl hl.1 rfl (Nat.le_of_ble_eq_true rfl) ⟨by decide, by decide⟩ ⟨Nat.le_of_ble_eq_true rfl, Nat.le_of_ble_eq_true rfl⟩ d_2_22_39) (fun u17 H locs hp18 V => ?_)
        obtain ⟨_, hI, hu19⟩ := hp18
        replace hF := q_uc hF hu19 (by simp)
        refine lv_aload_n hx hb d_2_22_42 rfl (lv_at hl 1 rfl) ?_
        refine lv_iload_n hx hb d_2_22_43 rfl (lv_at hl 0 rfl) ?_
        obtain ⟨y20, y21, hO22, b23, b24⟩ := q_bigO hI hB
        replace b23 : q_F (0 ≤ y20.toInt ∧ y20.toInt ≤ R.toInt) := b23
        replace b24 : q_F (0 ≤ y21.toInt ∧ y21.toInt ≤ 1) := b24
        refine q_put (ci := 2) (j := 2) (v := .int 0) (ty := .boolean) C0 V i_Big o_Big n_Big rfl rfl hO22 (by decide) w_94 rfl rfl rfl rfl (Nat.le_of_ble_eq_true rfl) d_2_22_44 (fun H locs w25 hu26 hO22 V => ?_)
        replace hO22 : w25[k]? = (some (q k, .inr (2, [.ref (q (k + 1)), .int y20, .int 0])) : Option (Nat × va_E)) := hO22
        replace hI := q_bigO' hI hB hu26 hO22 ⟨(by have t1 : 0 ≤ y20.toInt ∧ y20.toInt ≤ R.toInt := b23; omega), (by have t1 : 0 ≤ y20.toInt ∧ y20.toInt ≤ R.toInt := b23; omega)⟩ ⟨(by have z9 : (0 : Int32).toInt = 0 := rfl; omega), (by have z9 : (0 : Int32).toInt = 0 := rfl; omega)⟩
        replace hF := q_us hF hu26 (by simp)
        refine lv_goto (tgt := 76) hx hb d_2_22_47 (by decide) ?_
        exact q_retv C0 V (⟨trivial, hI, hF⟩) d_2_22_76
      ·
        have b27 : q_F (y10.toInt ≠ 0) := (q_neI c15)
        refine lv_aload_n hx hb d_2_22_29 rfl (lv_at hl 1 rfl) ?_
        refine q_get (ci := 2) (j := 2) (v := .int y11) C0 V i_Big rfl rfl hO12 (by decide) w_94 rfl d_2_22_30 ?_
        refine lv_iload_n hx hb d_2_22_33 rfl (lv_at hl 0 rfl) ?_
        refine lv_icmp_ne (tgt := 50) hx hb d_2_22_34 (by decide) (fun c28 => ?_) (fun c28 => ?_)
        ·
          have b29 : q_F (y11.toInt ≠ 0) := (q_neI c28)
          refine lv_aload_n hx hb d_2_22_50 rfl (lv_at hl 1 rfl) ?_
          refine lv_aload_n hx hb d_2_22_51 rfl (lv_at hl 2 rfl) ?_
          refine q_goi V (q_runV (As := [.ref (q j)]) (rest := []) (d := 2) (mc := 0) (ms := 0) (ci := 2) C0 V rfl LV_Big_78 (S_Big_compareSize l D g sh q ws k R hB j Q hJ hI  _) rfl rfl hO12 rfl hl.1 rfl (Nat.le_of_ble_eq_true rfl) ⟨by decide, by decide⟩ ⟨Nat.le_of_ble_eq_true rfl, Nat.le_of_ble_eq_true rfl⟩ d_2_22_52) (fun a32 u30 H locs hp31 V => ?_)
          obtain ⟨b33, rfl⟩ := hp31
          replace b33 : q_F (-1 ≤ a32.toInt ∧ a32.toInt ≤ 1) := b33
          refine lv_if_lt (tgt := 66) hx hb d_2_22_55 (by decide) (fun c34 => ?_) (fun c34 => ?_)
          ·
            have b35 : q_F (a32.toInt < 0) := (q_ltI c34)
            refine lv_aload_n hx hb d_2_22_66 rfl (lv_at hl 1 rfl) ?_
            refine lv_aload_n hx hb d_2_22_67 rfl (lv_at hl 2 rfl) ?_
            refine q_gov V (q_runV (As := [.ref (q j)]) (rest := []) (d := 2) (mc := 0) (ms := 0) (ci := 2) C0 V rfl LV_Big_89 (S_Big_subtractFrom l D g sh q ws k R hB j Q hJ hI  _) rfl rfl hO12 rfl hl.1 rfl (Nat.le_of_ble_eq_true rfl) ⟨by decide, by decide⟩ ⟨Nat.le_of_ble_eq_true rfl, Nat.le_of_ble_eq_true rfl⟩ d_2_22_68) (fun u36 H locs hp37 V => ?_)
            obtain ⟨_, hI, hu38⟩ := hp37
            replace hF := q_uc hF hu38 (by simp)
            refine lv_aload_n hx hb d_2_22_71 rfl (lv_at hl 1 rfl) ?_
            refine lv_iload_n hx hb d_2_22_72 rfl (lv_at hl 0 rfl) ?_
            obtain ⟨y39, y40, hO41, b42, b43⟩ := q_bigO hI hB
            replace b42 : q_F (0 ≤ y39.toInt ∧ y39.toInt ≤ R.toInt) := b42
            replace b43 : q_F (0 ≤ y40.toInt ∧ y40.toInt ≤ 1) := b43
            refine q_put (ci := 2) (j := 2) (v := .int 0) (ty := .boolean) C0 V i_Big o_Big n_Big rfl rfl hO41 (by decide) w_94 rfl rfl rfl rfl (Nat.le_of_ble_eq_true rfl) d_2_22_73 (fun H locs w44 hu45 hO41 V => ?_)
            replace hO41 : w44[k]? = (some (q k, .inr (2, [.ref (q (k + 1)), .int y39, .int 0])) : Option (Nat × va_E)) := hO41
            replace hI := q_bigO' hI hB hu45 hO41 ⟨(by have t1 : 0 ≤ y39.toInt ∧ y39.toInt ≤ R.toInt := b42; omega), (by have t1 : 0 ≤ y39.toInt ∧ y39.toInt ≤ R.toInt := b42; omega)⟩ ⟨(by have z9 : (0 : Int32).toInt = 0 := rfl; omega), (by have z9 : (0 : Int32).toInt = 0 := rfl; omega)⟩
            replace hF := q_us hF hu45 (by simp)
            exact q_retv C0 V (⟨trivial, hI, hF⟩) d_2_22_76
          ·
            have b46 : q_F (0 ≤ a32.toInt) := (q_nltI c34)
            refine lv_aload_n hx hb d_2_22_58 rfl (lv_at hl 1 rfl) ?_
            refine lv_aload_n hx hb d_2_22_59 rfl (lv_at hl 2 rfl) ?_
            refine q_gov V (q_runV (As := [.ref (q j)]) (rest := []) (d := 2) (mc := 0) (ms := 0) (ci := 2) C0 V rfl LV_Big_86 (S_Big_subtractSize l D g sh q ws k R hB j Q hJ hI  _) rfl rfl hO12 rfl hl.1 rfl (Nat.le_of_ble_eq_true rfl) ⟨by decide, by decide⟩ ⟨Nat.le_of_ble_eq_true rfl, Nat.le_of_ble_eq_true rfl⟩ d_2_22_60) (fun u47 H locs hp48 V => ?_)
            obtain ⟨_, hI, hu49⟩ := hp48
            replace hF := q_uc hF hu49 (by simp)
            refine lv_goto (tgt := 76) hx hb d_2_22_63 (by decide) ?_
            exact q_retv C0 V (⟨trivial, hI, hF⟩) d_2_22_76
        ·
          have b50 : q_F (y11.toInt = 0) := (q_eqI c28)
          refine lv_aload_n hx hb d_2_22_37 rfl (lv_at hl 1 rfl) ?_
          refine lv_aload_n hx hb d_2_22_38 rfl (lv_at hl 2 rfl) ?_
          refine q_gov V (q_runV (As := [.ref (q j)]) (rest := []) (d := 2) (mc := 0) (ms := 0) (ci := 2) C0 V rfl LV_Big_82 (S_Big_addSize l D g sh q ws k R hB j Q hJ hI  _) rfl rfl hO12 rfl hl.1 rfl (Nat.le_of_ble_eq_true rfl) ⟨by decide, by decide⟩ ⟨Nat.le_of_ble_eq_true rfl, Nat.le_of_ble_eq_true rfl⟩ d_2_22_39) (fun u51 H locs hp52 V => ?_)
          obtain ⟨_, hI, hu53⟩ := hp52
          replace hF := q_uc hF hu53 (by simp)
          refine lv_aload_n hx hb d_2_22_42 rfl (lv_at hl 1 rfl) ?_
          refine lv_iload_n hx hb d_2_22_43 rfl (lv_at hl 0 rfl) ?_
          obtain ⟨y54, y55, hO56, b57, b58⟩ := q_bigO hI hB
          replace b57 : q_F (0 ≤ y54.toInt ∧ y54.toInt ≤ R.toInt) := b57
          replace b58 : q_F (0 ≤ y55.toInt ∧ y55.toInt ≤ 1) := b58
          refine q_put (ci := 2) (j := 2) (v := .int 0) (ty := .boolean) C0 V i_Big o_Big n_Big rfl rfl hO56 (by decide) w_94 rfl rfl rfl rfl (Nat.le_of_ble_eq_true rfl) d_2_22_44 (fun H locs w59 hu60 hO56 V => ?_)
          replace hO56 : w59[k]? = (some (q k, .inr (2, [.ref (q (k + 1)), .int y54, .int 0])) : Option (Nat × va_E)) := hO56
          replace hI := q_bigO' hI hB hu60 hO56 ⟨(by have t1 : 0 ≤ y54.toInt ∧ y54.toInt ≤ R.toInt := b57; omega), (by have t1 : 0 ≤ y54.toInt ∧ y54.toInt ≤ R.toInt := b57; omega)⟩ ⟨(by have z9 : (0 : Int32).toInt = 0 := rfl; omega), (by have z9 : (0 : Int32).toInt = 0 := rfl; omega)⟩
          replace hF := q_us hF hu60 (by simp)
          refine lv_goto (tgt := 76) hx hb d_2_22_47 (by decide) ?_
          exact q_retv C0 V (⟨trivial, hI, hF⟩) d_2_22_76
    ·
      have b61 : q_F (y1.toInt = 0) := (q_eqI c8)
      exact q_retv C0 V (⟨trivial, hI, hF⟩) d_2_22_21
  ·
    have b62 : q_F (y2.toInt ≠ x2.toInt) := (q_neI c6)
    refine lv_iconst (v := 1) hx hb d_2_22_8 (by decide) ?_
    refine lv_goto (tgt := 13) hx hb d_2_22_9 (by decide) ?_
    refine lv_istore_n (lv' := [(3, .int 1), (0, .ref (q k)), (1, .ref (q j)), (2, .int x2)]) hx hb d_2_22_13 rfl hl (by decide) rfl (fun ls hl => ?_)
    refine lv_aload_n hx hb d_2_22_14 rfl (lv_at hl 2 rfl) ?_
    refine q_get (ci := 2) (j := 1) (v := .int y1) C0 V i_Big rfl rfl hO3 (by decide) w_85 rfl d_2_22_15 ?_
    refine lv_if_ne (tgt := 22) hx hb d_2_22_18 (by decide) (fun c63 => ?_) (fun c63 => ?_)
    ·
      have b64 : q_F (y1.toInt ≠ 0) := (q_neI c63)
      refine lv_aload_n hx hb d_2_22_22 rfl (lv_at hl 1 rfl) ?_
      obtain ⟨y65, y66, hO67, b68, b69⟩ := q_bigO hI hB
      replace b68 : q_F (0 ≤ y65.toInt ∧ y65.toInt ≤ R.toInt) := b68
      replace b69 : q_F (0 ≤ y66.toInt ∧ y66.toInt ≤ 1) := b69
      refine q_get (ci := 2) (j := 1) (v := .int y65) C0 V i_Big rfl rfl hO67 (by decide) w_85 rfl d_2_22_23 ?_
      refine lv_if_eq (tgt := 37) hx hb d_2_22_26 (by decide) (fun c70 => ?_) (fun c70 => ?_)
      ·
        have b71 : q_F (y65.toInt = 0) := (q_eqI c70)
        refine lv_aload_n hx hb d_2_22_37 rfl (lv_at hl 1 rfl) ?_
        refine lv_aload_n hx hb d_2_22_38 rfl (lv_at hl 2 rfl) ?_
        refine q_gov V (q_runV (As := [.ref (q j)]) (rest := []) (d := 2) (mc := 0) (ms := 0) (ci := 2) C0 V rfl LV_Big_82 (S_Big_addSize l D g sh q ws k R hB j Q hJ hI  _) rfl rfl hO67 rfl hl.1 rfl (Nat.le_of_ble_eq_true rfl) ⟨by decide, by decide⟩ ⟨Nat.le_of_ble_eq_true rfl, Nat.le_of_ble_eq_true rfl⟩ d_2_22_39) (fun u72 H locs hp73 V => ?_)
        obtain ⟨_, hI, hu74⟩ := hp73
        replace hF := q_uc hF hu74 (by simp)
        refine lv_aload_n hx hb d_2_22_42 rfl (lv_at hl 1 rfl) ?_
        refine lv_iload_n hx hb d_2_22_43 rfl (lv_at hl 0 rfl) ?_
        obtain ⟨y75, y76, hO77, b78, b79⟩ := q_bigO hI hB
        replace b78 : q_F (0 ≤ y75.toInt ∧ y75.toInt ≤ R.toInt) := b78
        replace b79 : q_F (0 ≤ y76.toInt ∧ y76.toInt ≤ 1) := b79
        refine q_put (ci := 2) (j := 2) (v := .int 1) (ty := .boolean) C0 V i_Big o_Big n_Big rfl rfl hO77 (by decide) w_94 rfl rfl rfl rfl (Nat.le_of_ble_eq_true rfl) d_2_22_44 (fun H locs w80 hu81 hO77 V => ?_)
        replace hO77 : w80[k]? = (some (q k, .inr (2, [.ref (q (k + 1)), .int y75, .int 1])) : Option (Nat × va_E)) := hO77
        replace hI := q_bigO' hI hB hu81 hO77 ⟨(by have t1 : 0 ≤ y75.toInt ∧ y75.toInt ≤ R.toInt := b78; omega), (by have t1 : 0 ≤ y75.toInt ∧ y75.toInt ≤ R.toInt := b78; omega)⟩ ⟨(by have z9 : (1 : Int32).toInt = 1 := rfl; omega), (by have z9 : (1 : Int32).toInt = 1 := rfl; omega)⟩
        replace hF := q_us hF hu81 (by simp)
        refine lv_goto (tgt := 76) hx hb d_2_22_47 (by decide) ?_
        exact q_retv C0 V (⟨trivial, hI, hF⟩) d_2_22_76
      ·
        have b82 : q_F (y65.toInt ≠ 0) := (q_neI c70)
        refine lv_aload_n hx hb d_2_22_29 rfl (lv_at hl 1 rfl) ?_
        refine q_get (ci := 2) (j := 2) (v := .int y66) C0 V i_Big rfl rfl hO67 (by decide) w_94 rfl d_2_22_30 ?_
        refine lv_iload_n hx hb d_2_22_33 rfl (lv_at hl 0 rfl) ?_
        refine lv_icmp_ne (tgt := 50) hx hb d_2_22_34 (by decide) (fun c83 => ?_) (fun c83 => ?_)
        ·
          have b84 : q_F (y66.toInt ≠ 1) := (q_neI c83)
          refine lv_aload_n hx hb d_2_22_50 rfl (lv_at hl 1 rfl) ?_
          refine lv_aload_n hx hb d_2_22_51 rfl (lv_at hl 2 rfl) ?_
          refine q_goi V (q_runV (As := [.ref (q j)]) (rest := []) (d := 2) (mc := 0) (ms := 0) (ci := 2) C0 V rfl LV_Big_78 (S_Big_compareSize l D g sh q ws k R hB j Q hJ hI  _) rfl rfl hO67 rfl hl.1 rfl (Nat.le_of_ble_eq_true rfl) ⟨by decide, by decide⟩ ⟨Nat.le_of_ble_eq_true rfl, Nat.le_of_ble_eq_true rfl⟩ d_2_22_52) (fun a87 u85 H locs hp86 V => ?_)
          obtain ⟨b88, rfl⟩ := hp86
          replace b88 : q_F (-1 ≤ a87.toInt ∧ a87.toInt ≤ 1) := b88
          refine lv_if_lt (tgt := 66) hx hb d_2_22_55 (by decide) (fun c89 => ?_) (fun c89 => ?_)
          ·
            have b90 : q_F (a87.toInt < 0) := (q_ltI c89)
            refine lv_aload_n hx hb d_2_22_66 rfl (lv_at hl 1 rfl) ?_
            refine lv_aload_n hx hb d_2_22_67 rfl (lv_at hl 2 rfl) ?_
            refine q_gov V (q_runV (As := [.ref (q j)]) (rest := []) (d := 2) (mc := 0) (ms := 0) (ci := 2) C0 V rfl LV_Big_89 (S_Big_subtractFrom l D g sh q ws k R hB j Q hJ hI  _) rfl rfl hO67 rfl hl.1 rfl (Nat.le_of_ble_eq_true rfl) ⟨by decide, by decide⟩ ⟨Nat.le_of_ble_eq_true rfl, Nat.le_of_ble_eq_true rfl⟩ d_2_22_68) (fun u91 H locs hp92 V => ?_)
            obtain ⟨_, hI, hu93⟩ := hp92
            replace hF := q_uc hF hu93 (by simp)
            refine lv_aload_n hx hb d_2_22_71 rfl (lv_at hl 1 rfl) ?_
            refine lv_iload_n hx hb d_2_22_72 rfl (lv_at hl 0 rfl) ?_
            obtain ⟨y94, y95, hO96, b97, b98⟩ := q_bigO hI hB
            replace b97 : q_F (0 ≤ y94.toInt ∧ y94.toInt ≤ R.toInt) := b97
            replace b98 : q_F (0 ≤ y95.toInt ∧ y95.toInt ≤ 1) := b98
            refine q_put (ci := 2) (j := 2) (v := .int 1) (ty := .boolean) C0 V i_Big o_Big n_Big rfl rfl hO96 (by decide) w_94 rfl rfl rfl rfl (Nat.le_of_ble_eq_true rfl) d_2_22_73 (fun H locs w99 hu100 hO96 V => ?_)
            replace hO96 : w99[k]? = (some (q k, .inr (2, [.ref (q (k + 1)), .int y94, .int 1])) : Option (Nat × va_E)) := hO96
            replace hI := q_bigO' hI hB hu100 hO96 ⟨(by have t1 : 0 ≤ y94.toInt ∧ y94.toInt ≤ R.toInt := b97; omega), (by have t1 : 0 ≤ y94.toInt ∧ y94.toInt ≤ R.toInt := b97; omega)⟩ ⟨(by have z9 : (1 : Int32).toInt = 1 := rfl; omega), (by have z9 : (1 : Int32).toInt = 1 := rfl; omega)⟩
            replace hF := q_us hF hu100 (by simp)
            exact q_retv C0 V (⟨trivial, hI, hF⟩) d_2_22_76
          ·
            have b101 : q_F (0 ≤ a87.toInt) := (q_nltI c89)
            refine lv_aload_n hx hb d_2_22_58 rfl (lv_at hl 1 rfl) ?_
            refine lv_aload_n hx hb d_2_22_59 rfl (lv_at hl 2 rfl) ?_
            refine q_gov V (q_runV (As := [.ref (q j)]) (rest := []) (d := 2) (mc := 0) (ms := 0) (ci := 2) C0 V rfl LV_Big_86 (S_Big_subtractSize l D g sh q ws k R hB j Q hJ hI  _) rfl rfl hO67 rfl hl.1 rfl (Nat.le_of_ble_eq_true rfl) ⟨by decide, by decide⟩ ⟨Nat.le_of_ble_eq_true rfl, Nat.le_of_ble_eq_true rfl⟩ d_2_22_60) (fun u102 H locs hp103 V => ?_)
            obtain ⟨_, hI, hu104⟩ := hp103
            replace hF := q_uc hF hu104 (by simp)
            refine lv_goto (tgt := 76) hx hb d_2_22_63 (by decide) ?_
            exact q_retv C0 V (⟨trivial, hI, hF⟩) d_2_22_76
        ·
          have b105 : q_F (y66.toInt = 1) := (q_eqI c83)
          refine lv_aload_n hx hb d_2_22_37 rfl (lv_at hl 1 rfl) ?_
          refine lv_aload_n hx hb d_2_22_38 rfl (lv_at hl 2 rfl) ?_
          refine q_gov V (q_runV (As := [.ref (q j)]) (rest := []) (d := 2) (mc := 0) (ms := 0) (ci := 2) C0 V rfl LV_Big_82 (S_Big_addSize l D g sh q ws k R hB j Q hJ hI  _) rfl rfl hO67 rfl hl.1 rfl (Nat.le_of_ble_eq_true rfl) ⟨by decide, by decide⟩ ⟨Nat.le_of_ble_eq_true rfl, Nat.le_of_ble_eq_true rfl⟩ d_2_22_39) (fun u106 H locs hp107 V => ?_)
          obtain ⟨_, hI, hu108⟩ := hp107
          replace hF := q_uc hF hu108 (by simp)
          refine lv_aload_n hx hb d_2_22_42 rfl (lv_at hl 1 rfl) ?_
          refine lv_iload_n hx hb d_2_22_43 rfl (lv_at hl 0 rfl) ?_
          obtain ⟨y109, y110, hO111, b112, b113⟩ := q_bigO hI hB
          replace b112 : q_F (0 ≤ y109.toInt ∧ y109.toInt ≤ R.toInt) := b112
          replace b113 : q_F (0 ≤ y110.toInt ∧ y110.toInt ≤ 1) := b113
          refine q_put (ci := 2) (j := 2) (v := .int 1) (ty := .boolean) C0 V i_Big o_Big n_Big rfl rfl hO111 (by decide) w_94 rfl rfl rfl rfl (Nat.le_of_ble_eq_true rfl) d_2_22_44 (fun H locs w114 hu115 hO111 V => ?_)
          replace hO111 : w114[k]? = (some (q k, .inr (2, [.ref (q (k + 1)), .int y109, .int 1])) : Option (Nat × va_E)) := hO111
          replace hI := q_bigO' hI hB hu115 hO111 ⟨(by have t1 : 0 ≤ y109.toInt ∧ y109.toInt ≤ R.toInt := b112; omega), (by have t1 : 0 ≤ y109.toInt ∧ y109.toInt ≤ R.toInt := b112; omega)⟩ ⟨(by have z9 : (1 : Int32).toInt = 1 := rfl; omega), (by have z9 : (1 : Int32).toInt = 1 := rfl; omega)⟩
          replace hF := q_us hF hu115 (by simp)
          refine lv_goto (tgt := 76) hx hb d_2_22_47 (by decide) ?_
          exact q_retv C0 V (⟨trivial, hI, hF⟩) d_2_22_76
    ·
      have b116 : q_F (y1.toInt = 0) := (q_eqI c63)
      exact q_retv C0 V (⟨trivial, hI, hF⟩) d_2_22_21
theorem d_2_4_0 : decode prog_2_method_4_code 0 = .ok (.aload_n 0, 1) := by decide +kernel
theorem d_2_4_1 : decode prog_2_method_4_code 1 = .ok (.aload_n 1, 1) := by decide +kernel
theorem d_2_4_2 : decode prog_2_method_4_code 2 = .ok (.getfield 13, 3) := by decide +kernel
theorem d_2_4_5 : decode prog_2_method_4_code 5 = .ok (.aload_n 0, 1) := by decide +kernel
theorem d_2_4_6 : decode prog_2_method_4_code 6 = .ok (.getfield 7, 3) := by decide +kernel
theorem d_2_4_9 : decode prog_2_method_4_code 9 = .ok (.arraylength, 1) := by decide +kernel
theorem d_2_4_10 : decode prog_2_method_4_code 10 = .ok (.invokestatic 39, 3) := by decide +kernel
theorem d_2_4_13 : decode prog_2_method_4_code 13 = .ok (.putfield 13, 3) := by decide +kernel
theorem d_2_4_16 : decode prog_2_method_4_code 16 = .ok (.aload_n 1, 1) := by decide +kernel
theorem d_2_4_17 : decode prog_2_method_4_code 17 = .ok (.getfield 7, 3) := by decide +kernel
theorem d_2_4_20 : decode prog_2_method_4_code 20 = .ok (.iconst 0, 1) := by decide +kernel
theorem d_2_4_21 : decode prog_2_method_4_code 21 = .ok (.aload_n 0, 1) := by decide +kernel
theorem d_2_4_22 : decode prog_2_method_4_code 22 = .ok (.getfield 7, 3) := by decide +kernel
theorem d_2_4_25 : decode prog_2_method_4_code 25 = .ok (.iconst 0, 1) := by decide +kernel
theorem d_2_4_26 : decode prog_2_method_4_code 26 = .ok (.aload_n 0, 1) := by decide +kernel
theorem d_2_4_27 : decode prog_2_method_4_code 27 = .ok (.getfield 13, 3) := by decide +kernel
theorem d_2_4_30 : decode prog_2_method_4_code 30 = .ok (.invokestatic 43, 3) := by decide +kernel
set_option maxRecDepth 100000 in
theorem w_791 : (Cond.methodLink "NumberHouse$Big" (43 : Nat) ({ cls := "java/lang/System", name := "arraycopy", desc := "(Ljava/lang/Object;ILjava/lang/Object;II)V" } : MethodName)) ∈ q_tbl := q_of4 71 rfl (by decide +kernel)
set_option maxRecDepth 100000 in
theorem w_793 : (Cond.native ({ cls := "java/lang/System", name := "arraycopy", desc := "(Ljava/lang/Object;ILjava/lang/Object;II)V" } : MethodName)) ∈ q_tbl := q_of4 73 rfl (by decide +kernel)
set_option maxRecDepth 100000 in
theorem w_792 : (Cond.static ({ cls := "java/lang/System", name := "arraycopy", desc := "(Ljava/lang/Object;ILjava/lang/Object;II)V" } : MethodName)) ∈ q_tbl := q_of4 72 rfl (by decide +kernel)
set_option maxRecDepth 100000 in
theorem w_29 : (Cond.initialized "java/lang/System") ∈ q_tbl := q_of1 29 rfl (by decide +kernel)
theorem d_2_4_33 : decode prog_2_method_4_code 33 = .ok (.aload_n 0, 1) := by decide +kernel
theorem d_2_4_34 : decode prog_2_method_4_code 34 = .ok (.aload_n 1, 1) := by decide +kernel
theorem d_2_4_35 : decode prog_2_method_4_code 35 = .ok (.getfield 17, 3) := by decide +kernel
theorem d_2_4_38 : decode prog_2_method_4_code 38 = .ok (.putfield 17, 3) := by decide +kernel
theorem d_2_4_41 : decode prog_2_method_4_code 41 = .ok (.return_, 1) := by decide +kernel
def y_Big_copy : MethodName := ⟨"NumberHouse$Big", "copy", "(LNumberHouse$Big;)V"⟩
set_option maxRecDepth 100000 in
set_option maxHeartbeats 4000000 in
theorem S_Big_copy (l : Launch) (D : va_G) (g : Nat → ClassId) (sh : List q_Ok) (q : Nat → Nat) (ws : va_W) (k : Nat) (R : Int32) (hB : q_isBig sh g q k R) (j : Nat) (Q : Int32) (hJ : q_isBig sh g q j Q) (hI : q_I sh q ws) : q_mV l y_Big_copy prog_2_method_4_code 2 2 0 0 D g [.ref (q k), .ref (q j)] ws (fun u => (True) ∧ q_I sh q u ∧ q_un ws u [k, k + 1]) := by
  intro sz
  refine q_into (by decide) (Nat.le_of_ble_eq_true rfl) ?_
  intro p e s m below meth c ls hsz C0 V hl
  have hx := C0.1
  have hb := C0.2.1
  have hR : q_F (0 ≤ R.toInt ∧ R.toInt ≤ 220) := hB.2.2
  have hQ : q_F (0 ≤ Q.toInt ∧ Q.toInt ≤ 220) := hJ.2.2
  have hF : q_un ws ws [k, k + 1] := q_u0
  have hl : lv_has ls 2 [(0, .ref (q k)), (1, .ref (q j))] := hl
  refine lv_aload_n hx hb d_2_4_0 rfl (lv_at hl 0 rfl) ?_
  refine lv_aload_n hx hb d_2_4_1 rfl (lv_at hl 1 rfl) ?_
  obtain ⟨y1, y2, hO3, b4, b5⟩ := q_bigO hI hJ
  replace b4 : q_F (0 ≤ y1.toInt ∧ y1.toInt ≤ Q.toInt) := b4
  replace b5 : q_F (0 ≤ y2.toInt ∧ y2.toInt ≤ 1) := b5
  refine q_get (ci := 2) (j := 1) (v := .int y1) C0 V i_Big rfl rfl hO3 (by decide) w_85 rfl d_2_4_2 ?_
  refine lv_aload_n hx hb d_2_4_5 rfl (lv_at hl 0 rfl) ?_
  obtain ⟨y6, y7, hO8, b9, b10⟩ := q_bigO hI hB
  replace b9 : q_F (0 ≤ y6.toInt ∧ y6.toInt ≤ R.toInt) := b9
  replace b10 : q_F (0 ≤ y7.toInt ∧ y7.toInt ≤ 1) := b10
  refine q_get (ci := 2) (j := 0) (v := .ref (q (k + 1))) C0 V i_Big rfl rfl hO8 (by decide) w_84 rfl d_2_4_6 ?_
  obtain ⟨f11, hA12, bf13⟩ := q_bigA hI hB
  refine q_alen (t := 0) (v := R) C0 V hA12 rfl (s_len (by have t1 : 0 ≤ R.toInt ∧ R.toInt ≤ 220 := hR; omega)) d_2_4_9 ?_
  refine q_min C0 hl.1 rfl w_773 w_774 w_7 w_775 ⟨Nat.le_of_ble_eq_true rfl, Nat.le_of_ble_eq_true rfl⟩ ⟨Nat.le_of_ble_eq_true rfl, Nat.le_of_ble_eq_true rfl⟩ d_2_4_10 ?_
  obtain ⟨a14, e15⟩ := q_nm (if R < y1 then R else y1 : Int32)
  refine q_ti (v := a14) e15 ?_
  have b16 : q_F (a14.toInt ≤ y1.toInt ∧ a14.toInt ≤ R.toInt ∧ (a14.toInt = y1.toInt ∨ a14.toInt = R.toInt)) := (by rw [← e15]; show (if R < y1 then R else y1 : Int32).toInt ≤ y1.toInt ∧ (if R < y1 then R else y1 : Int32).toInt ≤ R.toInt ∧ ((if R < y1 then R else y1 : Int32).toInt = y1.toInt ∨ (if R < y1 then R else y1 : Int32).toInt = R.toInt); exact s_min (a := y1) (b := R))
  refine q_put (ci := 2) (j := 1) (v := .int a14) (ty := .int) C0 V i_Big o_Big n_Big rfl rfl hO8 (by decide) w_85 rfl rfl rfl rfl (Nat.le_of_ble_eq_true rfl) d_2_4_13 (fun H locs w17 hu18 hO8 V => ?_)
  replace hO8 : w17[k]? = (some (q k, .inr (2, [.ref (q (k + 1)), .int a14, .int y7])) : Option (Nat × va_E)) := hO8
  replace hI := q_bigO' hI hB hu18 hO8 ⟨(by have t1 : 0 ≤ R.toInt ∧ R.toInt ≤ 220 := hR; have t2 : 0 ≤ y1.toInt ∧ y1.toInt ≤ Q.toInt := b4; have t3 : a14.toInt ≤ y1.toInt ∧ a14.toInt ≤ R.toInt ∧ (a14.toInt = y1.toInt ∨ a14.toInt = R.toInt) := b16; omega), (by have t1 : a14.toInt ≤ y1.toInt ∧ a14.toInt ≤ R.toInt ∧ (a14.toInt = y1.toInt ∨ a14.toInt = R.toInt) := b16; omega)⟩ ⟨(by have t1 : 0 ≤ y7.toInt ∧ y7.toInt ≤ 1 := b10; omega), (by have t1 : 0 ≤ y7.toInt ∧ y7.toInt ≤ 1 := b10; omega)⟩
  replace hA12 := (hu18 _ (by omega)).trans hA12
  replace hF := q_us hF hu18 (by simp)
  refine lv_aload_n hx hb d_2_4_16 rfl (lv_at hl 1 rfl) ?_
  obtain ⟨y19, y20, hO21, b22, b23⟩ := q_bigO hI hJ
  replace b22 : q_F (0 ≤ y19.toInt ∧ y19.toInt ≤ Q.toInt) := b22
  replace b23 : q_F (0 ≤ y20.toInt ∧ y20.toInt ≤ 1) := b23
  refine q_get (ci := 2) (j := 0) (v := .ref (q (j + 1))) C0 V i_Big rfl rfl hO21 (by decide) w_84 rfl d_2_4_17 ?_
  refine lv_iconst (v := 0) hx hb d_2_4_20 (by decide) ?_
  refine lv_aload_n hx hb d_2_4_21 rfl (lv_at hl 0 rfl) ?_
  refine q_get (ci := 2) (j := 0) (v := .ref (q (k + 1))) C0 V i_Big rfl rfl hO8 (by decide) w_84 rfl d_2_4_22 ?_
  refine lv_iconst (v := 0) hx hb d_2_4_25 (by decide) ?_
  refine lv_aload_n hx hb d_2_4_26 rfl (lv_at hl 0 rfl) ?_
  refine q_get (ci := 2) (j := 1) (v := .int a14) C0 V i_Big rfl rfl hO8 (by decide) w_85 rfl d_2_4_27 ?_
  obtain ⟨f24, hA25, bf26⟩ := q_bigA hI hJ
  refine q_copy C0 V hl.1 rfl w_791 w_793 w_792 w_29 hA25 hA12 (by decide) (by decide) (Int32.not_lt.mpr (q_Ile (x := 0) (y := a14.toInt) (by decide) rfl (by have t1 : 0 ≤ R.toInt ∧ R.toInt ≤ 220 := hR; have t2 : 0 ≤ y1.toInt ∧ y1.toInt ≤ Q.toInt := b4; have t3 : a14.toInt ≤ y1.toInt ∧ a14.toInt ≤ R.toInt ∧ (a14.toInt = y1.toInt ∨ a14.toInt = R.toInt) := b16; omega))) (by have e1 : (0 : Int32).toNatClampNeg = 0 := rfl; have _ := q_clI (i := a14) rfl (by have t1 : 0 ≤ R.toInt ∧ R.toInt ≤ 220 := hR; have t2 : 0 ≤ y1.toInt ∧ y1.toInt ≤ Q.toInt := b4; have t3 : a14.toInt ≤ y1.toInt ∧ a14.toInt ≤ R.toInt ∧ (a14.toInt = y1.toInt ∨ a14.toInt = R.toInt) := b16; omega); have _ := q_clI (i := Q) rfl (by have t1 : 0 ≤ Q.toInt ∧ Q.toInt ≤ 220 := hQ; omega); have t1 : 0 ≤ y1.toInt ∧ y1.toInt ≤ Q.toInt := b4; have t2 : a14.toInt ≤ y1.toInt ∧ a14.toInt ≤ R.toInt ∧ (a14.toInt = y1.toInt ∨ a14.toInt = R.toInt) := b16; omega) (by have e1 : (0 : Int32).toNatClampNeg = 0 := rfl; have _ := q_clI (i := a14) rfl (by have t1 : 0 ≤ R.toInt ∧ R.toInt ≤ 220 := hR; have t2 : 0 ≤ y1.toInt ∧ y1.toInt ≤ Q.toInt := b4; have t3 : a14.toInt ≤ y1.toInt ∧ a14.toInt ≤ R.toInt ∧ (a14.toInt = y1.toInt ∨ a14.toInt = R.toInt) := b16; omega); have _ := q_clI (i := R) rfl (by have t1 : 0 ≤ R.toInt ∧ R.toInt ≤ 220 := hR; omega); have t1 : a14.toInt ≤ y1.toInt ∧ a14.toInt ≤ R.toInt ∧ (a14.toInt = y1.toInt ∨ a14.toInt = R.toInt) := b16; omega) ⟨Nat.le_of_ble_eq_true rfl, Nat.le_of_ble_eq_true rfl⟩ d_2_4_30 (fun H locs w27 hu28 hA12 V => ?_)
  replace hI := q_bigA' hI hB hu28 hA12 (s_cpy bf26 bf13)
  replace hO8 := (hu28 _ (by omega)).trans hO8
  replace hF := q_us hF hu28 (by simp)
  refine lv_aload_n hx hb d_2_4_33 rfl (lv_at hl 0 rfl) ?_
  refine lv_aload_n hx hb d_2_4_34 rfl (lv_at hl 1 rfl) ?_
  obtain ⟨y29, y30, hO31, b32, b33⟩ := q_bigO hI hJ
  replace b32 : q_F (0 ≤ y29.toInt ∧ y29.toInt ≤ Q.toInt) := b32
  replace b33 : q_F (0 ≤ y30.toInt ∧ y30.toInt ≤ 1) := b33
  refine q_get (ci := 2) (j := 2) (v := .int y30) C0 V i_Big rfl rfl hO31 (by decide) w_94 rfl d_2_4_35 ?_
  refine q_put (ci := 2) (j := 2) (v := .int y30) (ty := .boolean) C0 V i_Big o_Big n_Big rfl rfl hO8 (by decide) w_94 rfl rfl (q_nz01 (q_Ile (x := 0) (y := y30.toInt) (by decide) rfl (by have t1 : 0 ≤ y30.toInt ∧ y30.toInt ≤ 1 := b33; omega)) (q_Ile (x := y30.toInt) (y := 1) rfl (by decide) (by have t1 : 0 ≤ y30.toInt ∧ y30.toInt ≤ 1 := b33; omega))) (q_fz01 (q_Ile (x := 0) (y := y30.toInt) (by decide) rfl (by have t1 : 0 ≤ y30.toInt ∧ y30.toInt ≤ 1 := b33; omega)) (q_Ile (x := y30.toInt) (y := 1) rfl (by decide) (by have t1 : 0 ≤ y30.toInt ∧ y30.toInt ≤ 1 := b33; omega))) (Nat.le_of_ble_eq_true rfl) d_2_4_38 (fun H locs w34 hu35 hO8 V => ?_)
  replace hO8 : w34[k]? = (some (q k, .inr (2, [.ref (q (k + 1)), .int a14, .int y30])) : Option (Nat × va_E)) := hO8
  replace hI := q_bigO' hI hB hu35 hO8 ⟨(by have t1 : 0 ≤ R.toInt ∧ R.toInt ≤ 220 := hR; have t2 : 0 ≤ y1.toInt ∧ y1.toInt ≤ Q.toInt := b4; have t3 : a14.toInt ≤ y1.toInt ∧ a14.toInt ≤ R.toInt ∧ (a14.toInt = y1.toInt ∨ a14.toInt = R.toInt) := b16; omega), (by have t1 : a14.toInt ≤ y1.toInt ∧ a14.toInt ≤ R.toInt ∧ (a14.toInt = y1.toInt ∨ a14.toInt = R.toInt) := b16; omega)⟩ ⟨(by have t1 : 0 ≤ y30.toInt ∧ y30.toInt ≤ 1 := b33; omega), (by have t1 : 0 ≤ y30.toInt ∧ y30.toInt ≤ 1 := b33; omega)⟩
  replace hF := q_us hF hu35 (by simp)
  exact q_retv C0 V (⟨trivial, hI, hF⟩) d_2_4_41
theorem d_2_3_50 : decode prog_2_method_3_code 50 = .ok (.iconst 1, 1) := by decide +kernel
theorem d_2_3_51 : decode prog_2_method_3_code 51 = .ok (.goto 4, 3) := by decide +kernel
set_option maxRecDepth 100000 in
set_option maxHeartbeats 4000000 in
theorem S_Big_setLong (l : Launch) (D : va_G) (g : Nat → ClassId) (sh : List q_Ok) (q : Nat → Nat) (ws : va_W) (k : Nat) (R : Int32) (hB : q_isBig sh g q k R) (x1 : Int64) (hI : q_I sh q ws) : q_mV l y_Big_setLong prog_2_method_3_code 6 2 0 0 D g [.ref (q k), .long x1] ws (fun u => (True) ∧ q_I sh q u ∧ q_un ws u [k, k + 1]) := by
  intro sz
  refine q_into (by decide) (Nat.le_of_ble_eq_true rfl) ?_
  intro p e s m below meth c ls hsz C0 V hl
  have hx := C0.1
  have hb := C0.2.1
  have hR : q_F (0 ≤ R.toInt ∧ R.toInt ≤ 220) := hB.2.2
  have hF : q_un ws ws [k, k + 1] := q_u0
  have hl : lv_has ls 6 [(0, .ref (q k)), (1, .long x1)] := hl
  refine lv_aload_n hx hb d_2_3_0 rfl (lv_at hl 0 rfl) ?_
  obtain ⟨y3, y4, hO5, b6, b7⟩ := q_bigO hI hB
  replace b6 : q_F (0 ≤ y3.toInt ∧ y3.toInt ≤ R.toInt) := b6
  replace b7 : q_F (0 ≤ y4.toInt ∧ y4.toInt ≤ 1) := b7
  refine q_gov V (q_runV (As := []) (rest := []) (d := 1) (mc := 0) (ms := 0) (ci := 2) C0 V rfl LV_Big_21 (S_Big_clear l D g sh q ws k R hB hI  _) rfl rfl hO5 rfl hl.1 rfl (Nat.le_of_ble_eq_true rfl) ⟨by decide, by decide⟩ ⟨Nat.le_of_ble_eq_true rfl, Nat.le_of_ble_eq_true rfl⟩ d_2_3_1) (fun u1 H locs hp2 V => ?_)
  obtain ⟨_, hI, hu8⟩ := hp2
  replace hF := q_uc hF hu8 (by simp)
  refine lv_lload_n hx hb d_2_3_4 rfl (lv_at hl 1 rfl) ?_
  refine q_absl C0 hl.1 rfl w_198 w_199 w_7 w_200 ⟨Nat.le_of_ble_eq_true rfl, Nat.le_of_ble_eq_true rfl⟩ ⟨Nat.le_of_ble_eq_true rfl, Nat.le_of_ble_eq_true rfl⟩ d_2_3_5 ?_
  obtain ⟨j9, e10⟩ := q_nm (if 0 < x1 then x1 else -x1 : Int64)
  refine q_tl (v := j9) e10 ?_
  refine lv_lstore_n (lv' := [(3, .long j9), (0, .ref (q k)), (1, .long x1)]) hx hb d_2_3_8 rfl hl (by decide) rfl (fun ls hl => ?_)
  refine lv_iconst (v := 0) hx hb d_2_3_9 (by decide) ?_
  refine lv_istore (lv' := [(5, .int 0), (3, .long j9), (0, .ref (q k)), (1, .long x1)]) hx hb d_2_3_10 hl (by decide) rfl (fun ls hl => ?_)
  refine q_loop (X := Int32 × Int64) (fun z H locs ls w130 => q_F (0 ≤ z.1.toInt) ∧ q_F (0 ≤ (-1 * z.1.toInt) + 3) ∧ q_Wd D g (va_A ws sz) s w130 H locs ∧ lv_has ls 6 [(5, .int z.1), (3, .long z.2), (0, .ref (q k)), (1, .long x1)] ∧ q_I sh q w130 ∧ q_un ws w130 [k, k + 1]) (fun z => (3 - z.1.toInt).toNat) ?_ ((0 : Int32), (j9 : Int64)) _ _ _ u1 ⟨(show q_F (0 ≤ 0) from (show 0 ≤ 0 from by omega)), (show q_F (0 ≤ (-1 * 0) + 3) from (show 0 ≤ (-1 * 0) + 3 from by omega)), V, hl, hI, hF⟩
  rintro ⟨lx11, lx12⟩ H locs ls w130 ⟨i127, i128, V, hl, hI, hF⟩ ih129
  replace i127 : q_F (0 ≤ lx11.toInt) := i127
  replace i128 : q_F (0 ≤ (-1 * lx11.toInt) + 3) := i128
  replace hl : lv_has ls 6 [(5, .int lx11), (3, .long lx12), (0, .ref (q k)), (1, .long x1)] := hl
  refine lv_iload hx hb d_2_3_12 (lv_at hl 0 rfl) ?_
  refine lv_iconst (v := 3) hx hb d_2_3_14 (by decide) ?_
  refine lv_icmp_ge (tgt := 39) hx hb d_2_3_15 (by decide) (fun c131 => ?_) (fun c131 => ?_)
  ·
    have b132 : q_F (3 ≤ lx11.toInt) := (q_leI c131)
    refine lv_aload_n hx hb d_2_3_39 rfl (lv_at hl 2 rfl) ?_
    obtain ⟨y135, y136, hO137, b138, b139⟩ := q_bigO hI hB
    replace b138 : q_F (0 ≤ y135.toInt ∧ y135.toInt ≤ R.toInt) := b138
    replace b139 : q_F (0 ≤ y136.toInt ∧ y136.toInt ≤ 1) := b139
    refine q_gov V (q_runV (As := []) (rest := []) (d := 1) (mc := 0) (ms := 0) (ci := 2) C0 V rfl LV_Big_36 (S_Big_trim l D g sh q w130 k R hB hI  _) rfl rfl hO137 rfl hl.1 rfl (Nat.le_of_ble_eq_true rfl) ⟨by decide, by decide⟩ ⟨Nat.le_of_ble_eq_true rfl, Nat.le_of_ble_eq_true rfl⟩ d_2_3_40) (fun u133 H locs hp134 V => ?_)
    obtain ⟨_, hI, hu140⟩ := hp134
    replace hF := q_uc hF hu140 (by simp)
    refine lv_aload_n hx hb d_2_3_43 rfl (lv_at hl 2 rfl) ?_
    refine lv_lload_n hx hb d_2_3_44 rfl (lv_at hl 3 rfl) ?_
    refine lv_lconst (v := 0) hx hb d_2_3_45 (by decide) ?_
    refine W.lcmp hx hb d_2_3_46 ?_
    obtain ⟨a141, e142⟩ := q_nm (lg_cmp x1 0 : Int32)
    refine q_ti (v := a141) e142 ?_
    have b143 : q_F (-1 ≤ a141.toInt ∧ a141.toInt ≤ 1 ∧ ((a141.toInt = -1 ∧ x1.toInt < 0) ∨ (a141.toInt = 0 ∧ x1.toInt = 0) ∨ (a141.toInt = 1 ∧ 0 < x1.toInt))) := (by rw [← e142]; show -1 ≤ (lg_cmp x1 0 : Int32).toInt ∧ (lg_cmp x1 0 : Int32).toInt ≤ 1 ∧ (((lg_cmp x1 0 : Int32).toInt = -1 ∧ x1.toInt < 0) ∨ ((lg_cmp x1 0 : Int32).toInt = 0 ∧ x1.toInt = 0) ∨ ((lg_cmp x1 0 : Int32).toInt = 1 ∧ 0 < x1.toInt)); exact s_lcmp)
    refine lv_if_ge (tgt := 54) hx hb d_2_3_47 (by decide) (fun c144 => ?_) (fun c144 => ?_)
    ·
      have b145 : q_F (0 ≤ a141.toInt) := (q_leI c144)
      refine lv_iconst (v := 0) hx hb d_2_3_54 (by decide) ?_
      obtain ⟨y146, y147, hO148, b149, b150⟩ := q_bigO hI hB
      replace b149 : q_F (0 ≤ y146.toInt ∧ y146.toInt ≤ R.toInt) := b149
      replace b150 : q_F (0 ≤ y147.toInt ∧ y147.toInt ≤ 1) := b150
      refine q_put (ci := 2) (j := 2) (v := .int 0) (ty := .boolean) C0 V i_Big o_Big n_Big rfl rfl hO148 (by decide) w_94 rfl rfl rfl rfl (Nat.le_of_ble_eq_true rfl) d_2_3_55 (fun H locs w151 hu152 hO148 V => ?_)
      replace hO148 : w151[k]? = (some (q k, .inr (2, [.ref (q (k + 1)), .int y146, .int 0])) : Option (Nat × va_E)) := hO148
      replace hI := q_bigO' hI hB hu152 hO148 ⟨(by have t1 : 0 ≤ y146.toInt ∧ y146.toInt ≤ R.toInt := b149; omega), (by have t1 : 0 ≤ y146.toInt ∧ y146.toInt ≤ R.toInt := b149; omega)⟩ ⟨(by have z9 : (0 : Int32).toInt = 0 := rfl; omega), (by have z9 : (0 : Int32).toInt = 0 := rfl; omega)⟩
      replace hF := q_us hF hu152 (by simp)
      exact q_retv C0 V (⟨trivial, hI, hF⟩) d_2_3_58
    ·
      have b153 : q_F (a141.toInt < 0) := (q_nleI c144)
      refine lv_iconst (v := 1) hx hb d_2_3_50 (by decide) ?_
      refine lv_goto (tgt := 55) hx hb d_2_3_51 (by decide) ?_
      obtain ⟨y154, y155, hO156, b157, b158⟩ := q_bigO hI hB
      replace b157 : q_F (0 ≤ y154.toInt ∧ y154.toInt ≤ R.toInt) := b157
      replace b158 : q_F (0 ≤ y155.toInt ∧ y155.toInt ≤ 1) := b158
      refine q_put (ci := 2) (j := 2) (v := .int 1) (ty := .boolean) C0 V i_Big o_Big n_Big rfl rfl hO156 (by decide) w_94 rfl rfl rfl rfl (Nat.le_of_ble_eq_true rfl) d_2_3_55 (fun H locs w159 hu160 hO156 V => ?_)
      replace hO156 : w159[k]? = (some (q k, .inr (2, [.ref (q (k + 1)), .int y154, .int 1])) : Option (Nat × va_E)) := hO156
      replace hI := q_bigO' hI hB hu160 hO156 ⟨(by have t1 : 0 ≤ y154.toInt ∧ y154.toInt ≤ R.toInt := b157; omega), (by have t1 : 0 ≤ y154.toInt ∧ y154.toInt ≤ R.toInt := b157; omega)⟩ ⟨(by have z9 : (1 : Int32).toInt = 1 := rfl; omega), (by have z9 : (1 : Int32).toInt = 1 := rfl; omega)⟩
      replace hF := q_us hF hu160 (by simp)
      exact q_retv C0 V (⟨trivial, hI, hF⟩) d_2_3_58
  ·
    have b161 : q_F (lx11.toInt < 3) := (q_nleI c131)
    refine lv_aload_n hx hb d_2_3_18 rfl (lv_at hl 2 rfl) ?_
    refine lv_lload_n hx hb d_2_3_19 rfl (lv_at hl 1 rfl) ?_
    refine q_ldc2 C0 rfl w_201 d_2_3_20 ?_
    refine lv_land hx hb d_2_3_23 ?_
    obtain ⟨j162, e163⟩ := q_nm (lx12 &&& 2147483647 : Int64)
    refine q_tl (v := j162) e163 ?_
    have b164 : q_F (0 ≤ j162.toInt ∧ j162.toInt ≤ 2147483647) := (by rw [← e163]; show 0 ≤ (lx12 &&& 2147483647 : Int64).toInt ∧ (lx12 &&& 2147483647 : Int64).toInt ≤ 2147483647; exact s_andJ (by decide))
    refine lv_l2i hx hb d_2_3_24 rfl ?_
    obtain ⟨a165, e166⟩ := q_nm (j162.toInt32 : Int32)
    refine q_ti (v := a165) e166 ?_
    have b167 : q_F (a165.toInt = j162.toInt) := (by rw [← e166]; show (j162.toInt32 : Int32).toInt = j162.toInt; exact s_l2i (by have t1 : 0 ≤ j162.toInt ∧ j162.toInt ≤ 2147483647 := b164; omega) (by have t1 : 0 ≤ j162.toInt ∧ j162.toInt ≤ 2147483647 := b164; omega))
    obtain ⟨y170, y171, hO172, b173, b174⟩ := q_bigO hI hB
    replace b173 : q_F (0 ≤ y170.toInt ∧ y170.toInt ≤ R.toInt) := b173
    replace b174 : q_F (0 ≤ y171.toInt ∧ y171.toInt ≤ 1) := b174
    refine q_gov V (q_runV (As := [.int a165]) (rest := []) (d := 1) (mc := 0) (ms := 0) (ci := 2) C0 V rfl LV_Big_32 (S_Big_push l D g sh q w130 k R hB a165 hI  _) rfl rfl hO172 rfl hl.1 rfl (Nat.le_of_ble_eq_true rfl) ⟨by decide, by decide⟩ ⟨Nat.le_of_ble_eq_true rfl, Nat.le_of_ble_eq_true rfl⟩ d_2_3_25) (fun u168 H locs hp169 V => ?_)
    obtain ⟨_, hI, hu175⟩ := hp169
    replace hF := q_uc hF hu175 (by simp)
    refine lv_lload_n hx hb d_2_3_28 rfl (lv_at hl 1 rfl) ?_
    refine lv_bipush (v := 31) hx hb d_2_3_29 (by decide) ?_
    refine lv_lushr hx hb d_2_3_31 rfl ?_
    obtain ⟨j176, e177⟩ := q_nm ((lx12.toUInt64 >>> ((31 : Int32).toInt64.toUInt64 &&& Int64.toUInt64 63)).toInt64 : Int64)
    refine q_tl (v := j176) e177 ?_
    have b178 : q_F (0 ≤ j176.toInt ∧ j176.toInt ≤ 8589934591) := (by rw [← e177]; show 0 ≤ ((lx12.toUInt64 >>> ((31 : Int32).toInt64.toUInt64 &&& Int64.toUInt64 63)).toInt64 : Int64).toInt ∧ ((lx12.toUInt64 >>> ((31 : Int32).toInt64.toUInt64 &&& Int64.toUInt64 63)).toInt64 : Int64).toInt ≤ 8589934591; exact (by have z := s_ushrJ (x := lx12) (c := 31) 31 (by decide) (by decide); omega))
    refine lv_lstore_n (lv' := [(3, .long j176), (5, .int lx11), (0, .ref (q k)), (1, .long x1)]) hx hb d_2_3_32 rfl hl (by decide) rfl (fun ls hl => ?_)
    obtain ⟨a179, e180⟩ := q_nm (lx11 + 1 : Int32)
    have b181 : q_F (a179.toInt = lx11.toInt + 1) := (by rw [← e180]; exact q_addI (y := 1) rfl (by decide) (by have t1 : 0 ≤ lx11.toInt := i127; have t2 : 0 ≤ (-1 * lx11.toInt) + 3 := i128; omega) (by have t1 : 0 ≤ lx11.toInt := i127; have t2 : 0 ≤ (-1 * lx11.toInt) + 3 := i128; omega))
    refine lv_iinc (v := a179) (lv' := [(5, .int a179), (3, .long j176), (0, .ref (q k)), (1, .long x1)]) hx hb d_2_3_33 hl (k := 1) rfl (e180) (by decide) rfl (fun ls hl => ?_)
    refine lv_goto (tgt := 12) hx hb d_2_3_36 (by decide) ?_
    exact ih129 ((a179 : Int32), (j176 : Int64)) _ _ _ _ (show (3 - a179.toInt).toNat < (3 - lx11.toInt).toNat from by have t1 : lx11.toInt < 3 := b161; have t2 : a179.toInt = lx11.toInt + 1 := b181; omega) ⟨(show q_F (0 ≤ a179.toInt) from (show 0 ≤ a179.toInt from by have t1 : 0 ≤ lx11.toInt := i127; have t2 : a179.toInt = lx11.toInt + 1 := b181; omega)), (show q_F (0 ≤ (-1 * a179.toInt) + 3) from (show 0 ≤ (-1 * a179.toInt) + 3 from by have t1 : lx11.toInt < 3 := b161; have t2 : a179.toInt = lx11.toInt + 1 := b181; omega)), V, q_lw hl (q_lw1 0 rfl (q_lw1 1 rfl (q_lw1 2 rfl (q_lw1 3 rfl q_lw0)))), hI, hF⟩
theorem d_2_26_0 : decode prog_2_method_26_code 0 = .ok (.iload_n 2, 1) := by decide +kernel
theorem d_2_26_1 : decode prog_2_method_26_code 1 = .ok (.i2l, 1) := by decide +kernel
theorem d_2_26_2 : decode prog_2_method_26_code 2 = .ok (.lstore_n 3, 1) := by decide +kernel
theorem d_2_26_3 : decode prog_2_method_26_code 3 = .ok (.iconst 0, 1) := by decide +kernel
theorem d_2_26_4 : decode prog_2_method_26_code 4 = .ok (.istore 5, 2) := by decide +kernel
theorem d_2_26_6 : decode prog_2_method_26_code 6 = .ok (.iload 5, 2) := by decide +kernel
theorem d_2_26_8 : decode prog_2_method_26_code 8 = .ok (.aload_n 0, 1) := by decide +kernel
theorem d_2_26_9 : decode prog_2_method_26_code 9 = .ok (.getfield 13, 3) := by decide +kernel
theorem d_2_26_12 : decode prog_2_method_26_code 12 = .ok (.if_icmp .ge 44, 3) := by decide +kernel
theorem d_2_26_56 : decode prog_2_method_26_code 56 = .ok (.lload_n 3, 1) := by decide +kernel
theorem d_2_26_57 : decode prog_2_method_26_code 57 = .ok (.lconst 0, 1) := by decide +kernel
theorem d_2_26_58 : decode prog_2_method_26_code 58 = .ok (.lcmp, 1) := by decide +kernel
theorem d_2_26_59 : decode prog_2_method_26_code 59 = .ok (.ifCond .eq 36, 3) := by decide +kernel
theorem d_2_26_95 : decode prog_2_method_26_code 95 = .ok (.return_, 1) := by decide +kernel
theorem d_2_26_62 : decode prog_2_method_26_code 62 = .ok (.aload_n 0, 1) := by decide +kernel
theorem d_2_26_63 : decode prog_2_method_26_code 63 = .ok (.getfield 13, 3) := by decide +kernel
theorem d_2_26_66 : decode prog_2_method_26_code 66 = .ok (.aload_n 0, 1) := by decide +kernel
theorem d_2_26_67 : decode prog_2_method_26_code 67 = .ok (.getfield 7, 3) := by decide +kernel
theorem d_2_26_70 : decode prog_2_method_26_code 70 = .ok (.arraylength, 1) := by decide +kernel
theorem d_2_26_71 : decode prog_2_method_26_code 71 = .ok (.if_icmp .ge 24, 3) := by decide +kernel
theorem d_2_26_74 : decode prog_2_method_26_code 74 = .ok (.aload_n 0, 1) := by decide +kernel
theorem d_2_26_75 : decode prog_2_method_26_code 75 = .ok (.getfield 7, 3) := by decide +kernel
theorem d_2_26_78 : decode prog_2_method_26_code 78 = .ok (.aload_n 0, 1) := by decide +kernel
theorem d_2_26_79 : decode prog_2_method_26_code 79 = .ok (.getfield 13, 3) := by decide +kernel
theorem d_2_26_82 : decode prog_2_method_26_code 82 = .ok (.lload_n 3, 1) := by decide +kernel
theorem d_2_26_83 : decode prog_2_method_26_code 83 = .ok (.l2i, 1) := by decide +kernel
theorem d_2_26_84 : decode prog_2_method_26_code 84 = .ok (.iastore, 1) := by decide +kernel
theorem d_2_26_85 : decode prog_2_method_26_code 85 = .ok (.aload_n 0, 1) := by decide +kernel
theorem d_2_26_86 : decode prog_2_method_26_code 86 = .ok (.dup, 1) := by decide +kernel
theorem d_2_26_87 : decode prog_2_method_26_code 87 = .ok (.getfield 13, 3) := by decide +kernel
theorem d_2_26_90 : decode prog_2_method_26_code 90 = .ok (.iconst 1, 1) := by decide +kernel
theorem d_2_26_91 : decode prog_2_method_26_code 91 = .ok (.iadd, 1) := by decide +kernel
theorem d_2_26_92 : decode prog_2_method_26_code 92 = .ok (.putfield 13, 3) := by decide +kernel
theorem d_2_26_15 : decode prog_2_method_26_code 15 = .ok (.aload_n 0, 1) := by decide +kernel
theorem d_2_26_16 : decode prog_2_method_26_code 16 = .ok (.getfield 7, 3) := by decide +kernel
theorem d_2_26_19 : decode prog_2_method_26_code 19 = .ok (.iload 5, 2) := by decide +kernel
theorem d_2_26_21 : decode prog_2_method_26_code 21 = .ok (.iaload, 1) := by decide +kernel
theorem d_2_26_22 : decode prog_2_method_26_code 22 = .ok (.i2l, 1) := by decide +kernel
theorem d_2_26_23 : decode prog_2_method_26_code 23 = .ok (.iload_n 1, 1) := by decide +kernel
theorem d_2_26_24 : decode prog_2_method_26_code 24 = .ok (.i2l, 1) := by decide +kernel
theorem d_2_26_25 : decode prog_2_method_26_code 25 = .ok (.lmul, 1) := by decide +kernel
theorem d_2_26_26 : decode prog_2_method_26_code 26 = .ok (.lload_n 3, 1) := by decide +kernel
theorem d_2_26_27 : decode prog_2_method_26_code 27 = .ok (.ladd, 1) := by decide +kernel
theorem d_2_26_28 : decode prog_2_method_26_code 28 = .ok (.lstore 6, 2) := by decide +kernel
theorem d_2_26_30 : decode prog_2_method_26_code 30 = .ok (.aload_n 0, 1) := by decide +kernel
theorem d_2_26_31 : decode prog_2_method_26_code 31 = .ok (.getfield 7, 3) := by decide +kernel
theorem d_2_26_34 : decode prog_2_method_26_code 34 = .ok (.iload 5, 2) := by decide +kernel
theorem d_2_26_36 : decode prog_2_method_26_code 36 = .ok (.lload 6, 2) := by decide +kernel
theorem d_2_26_38 : decode prog_2_method_26_code 38 = .ok (.ldc2_w 30, 3) := by decide +kernel
theorem d_2_26_41 : decode prog_2_method_26_code 41 = .ok (.land, 1) := by decide +kernel
theorem d_2_26_42 : decode prog_2_method_26_code 42 = .ok (.l2i, 1) := by decide +kernel
theorem d_2_26_43 : decode prog_2_method_26_code 43 = .ok (.iastore, 1) := by decide +kernel
theorem d_2_26_44 : decode prog_2_method_26_code 44 = .ok (.lload 6, 2) := by decide +kernel
theorem d_2_26_46 : decode prog_2_method_26_code 46 = .ok (.bipush 31, 2) := by decide +kernel
theorem d_2_26_48 : decode prog_2_method_26_code 48 = .ok (.lushr, 1) := by decide +kernel
theorem d_2_26_49 : decode prog_2_method_26_code 49 = .ok (.lstore_n 3, 1) := by decide +kernel
theorem d_2_26_50 : decode prog_2_method_26_code 50 = .ok (.iinc 5 1, 3) := by decide +kernel
theorem d_2_26_53 : decode prog_2_method_26_code 53 = .ok (.goto (-47), 3) := by decide +kernel
def y_Big_multiplySmall : MethodName := ⟨"NumberHouse$Big", "multiplySmall", "(II)V"⟩
set_option maxRecDepth 100000 in
set_option maxHeartbeats 4000000 in
theorem S_Big_multiplySmall (l : Launch) (D : va_G) (g : Nat → ClassId) (sh : List q_Ok) (q : Nat → Nat) (ws : va_W) (k : Nat) (R : Int32) (hB : q_isBig sh g q k R) (x1 : Int32) (x2 : Int32) (hI : q_I sh q ws) : q_mV l y_Big_multiplySmall prog_2_method_26_code 8 1 0 0 D g [.ref (q k), .int x1, .int x2] ws (fun u => (True) ∧ q_I sh q u ∧ q_un ws u [k, k + 1]) := by
  intro sz
  refine q_into (by decide) (Nat.le_of_ble_eq_true rfl) ?_
  intro p e s m below meth c ls hsz C0 V hl
  have hx := C0.1
  have hb := C0.2.1
  have hR : q_F (0 ≤ R.toInt ∧ R.toInt ≤ 220) := hB.2.2
  have hF : q_un ws ws [k, k + 1] := q_u0
  have hl : lv_has ls 8 [(0, .ref (q k)), (1, .int x1), (2, .int x2)] := hl
  refine lv_iload_n hx hb d_2_26_0 rfl (lv_at hl 2 rfl) ?_
  refine lv_i2l hx hb d_2_26_1 rfl ?_
  obtain ⟨j1, e2⟩ := q_nm (x2.toInt64 : Int64)
  refine q_tl (v := j1) e2 ?_
  have b3 : q_F (j1.toInt = x2.toInt) := (by rw [← e2]; show (x2.toInt64 : Int64).toInt = x2.toInt; exact q_i2l rfl)
  refine lv_lstore_n (lv' := [(3, .long j1), (0, .ref (q k)), (1, .int x1), (2, .int x2)]) hx hb d_2_26_2 rfl hl (by decide) rfl (fun ls hl => ?_)
  refine lv_iconst (v := 0) hx hb d_2_26_3 (by decide) ?_
  refine lv_istore (lv' := [(5, .int 0), (3, .long j1), (0, .ref (q k)), (1, .int x1), (2, .int x2)]) hx hb d_2_26_4 hl (by decide) rfl (fun ls hl => ?_)
  refine q_loop (X := Int32 × Int64) (fun z H locs ls w358 => q_F (0 ≤ z.1.toInt) ∧ q_F (0 ≤ R.toInt + (-1 * z.1.toInt)) ∧ q_Wd D g (va_A ws sz) s w358 H locs ∧ lv_has ls 8 [(5, .int z.1), (3, .long z.2), (0, .ref (q k)), (1, .int x1), (2, .int x2)] ∧ q_I sh q w358 ∧ q_un ws w358 [k, k + 1]) (fun z => (R.toInt - z.1.toInt).toNat) ?_ ((0 : Int32), (j1 : Int64)) _ _ _ ws ⟨(show q_F (0 ≤ 0) from (show 0 ≤ 0 from by omega)), (show q_F (0 ≤ R.toInt + (-1 * 0)) from (show 0 ≤ R.toInt + (-1 * 0) from by have t1 : 0 ≤ R.toInt ∧ R.toInt ≤ 220 := hR; omega)), V, hl, hI, hF⟩
  rintro ⟨lx4, lx5⟩ H locs ls w358 ⟨i355, i356, V, hl, hI, hF⟩ ih357
  replace i355 : q_F (0 ≤ lx4.toInt) := i355
  replace i356 : q_F (0 ≤ R.toInt + (-1 * lx4.toInt)) := i356
  replace hl : lv_has ls 8 [(5, .int lx4), (3, .long lx5), (0, .ref (q k)), (1, .int x1), (2, .int x2)] := hl
  refine lv_iload hx hb d_2_26_6 (lv_at hl 0 rfl) ?_
  refine lv_aload_n hx hb d_2_26_8 rfl (lv_at hl 2 rfl) ?_
  obtain ⟨y359, y360, hO361, b362, b363⟩ := q_bigO hI hB
  replace b362 : q_F (0 ≤ y359.toInt ∧ y359.toInt ≤ R.toInt) := b362
  replace b363 : q_F (0 ≤ y360.toInt ∧ y360.toInt ≤ 1) := b363
  refine q_get (ci := 2) (j := 1) (v := .int y359) C0 V i_Big rfl rfl hO361 (by decide) w_85 rfl d_2_26_9 ?_
  refine lv_icmp_ge (tgt := 56) hx hb d_2_26_12 (by decide) (fun c364 => ?_) (fun c364 => ?_)
  ·
    have b365 : q_F (y359.toInt ≤ lx4.toInt) := (q_leI c364)
    refine lv_lload_n hx hb d_2_26_56 rfl (lv_at hl 1 rfl) ?_
    refine lv_lconst (v := 0) hx hb d_2_26_57 (by decide) ?_
    refine W.lcmp hx hb d_2_26_58 ?_
    obtain ⟨a366, e367⟩ := q_nm (lg_cmp lx5 0 : Int32)
    refine q_ti (v := a366) e367 ?_
    have b368 : q_F (-1 ≤ a366.toInt ∧ a366.toInt ≤ 1 ∧ ((a366.toInt = -1 ∧ lx5.toInt < 0) ∨ (a366.toInt = 0 ∧ lx5.toInt = 0) ∨ (a366.toInt = 1 ∧ 0 < lx5.toInt))) := (by rw [← e367]; show -1 ≤ (lg_cmp lx5 0 : Int32).toInt ∧ (lg_cmp lx5 0 : Int32).toInt ≤ 1 ∧ (((lg_cmp lx5 0 : Int32).toInt = -1 ∧ lx5.toInt < 0) ∨ ((lg_cmp lx5 0 : Int32).toInt = 0 ∧ lx5.toInt = 0) ∨ ((lg_cmp lx5 0 : Int32).toInt = 1 ∧ 0 < lx5.toInt)); exact s_lcmp)
    refine lv_if_eq (tgt := 95) hx hb d_2_26_59 (by decide) (fun c369 => ?_) (fun c369 => ?_)
    ·
      have b370 : q_F (a366.toInt = 0) := (q_eqI c369)
      exact q_retv C0 V (⟨trivial, hI, hF⟩) d_2_26_95
    ·
      have b371 : q_F (a366.toInt ≠ 0) := (q_neI c369)
      refine lv_aload_n hx hb d_2_26_62 rfl (lv_at hl 2 rfl) ?_
      refine q_get (ci := 2) (j := 1) (v := .int y359) C0 V i_Big rfl rfl hO361 (by decide) w_85 rfl d_2_26_63 ?_
      refine lv_aload_n hx hb d_2_26_66 rfl (lv_at hl 2 rfl) ?_
      refine q_get (ci := 2) (j := 0) (v := .ref (q (k + 1))) C0 V i_Big rfl rfl hO361 (by decide) w_84 rfl d_2_26_67 ?_
      obtain ⟨f372, hA373, bf374⟩ := q_bigA hI hB
      refine q_alen (t := 0) (v := R) C0 V hA373 rfl (s_len (by have t1 : 0 ≤ R.toInt ∧ R.toInt ≤ 220 := hR; omega)) d_2_26_70 ?_
      refine lv_icmp_ge (tgt := 95) hx hb d_2_26_71 (by decide) (fun c375 => ?_) (fun c375 => ?_)
      ·
        have b376 : q_F (R.toInt ≤ y359.toInt) := (q_leI c375)
        exact q_retv C0 V (⟨trivial, hI, hF⟩) d_2_26_95
      ·
        have b377 : q_F (y359.toInt < R.toInt) := (q_nleI c375)
        refine lv_aload_n hx hb d_2_26_74 rfl (lv_at hl 2 rfl) ?_
        refine q_get (ci := 2) (j := 0) (v := .ref (q (k + 1))) C0 V i_Big rfl rfl hO361 (by decide) w_84 rfl d_2_26_75 ?_
        refine lv_aload_n hx hb d_2_26_78 rfl (lv_at hl 2 rfl) ?_
        refine q_get (ci := 2) (j := 1) (v := .int y359) C0 V i_Big rfl rfl hO361 (by decide) w_85 rfl d_2_26_79 ?_
        refine lv_lload_n hx hb d_2_26_82 rfl (lv_at hl 1 rfl) ?_
        refine lv_l2i hx hb d_2_26_83 rfl ?_
        obtain ⟨a378, e379⟩ := q_nm (lx5.toInt32 : Int32)
        refine q_ti (v := a378) e379 ?_
        refine q_iast C0 V hA373 (q_ix (x := y359.toInt) rfl (by have t1 : 0 ≤ y359.toInt ∧ y359.toInt ≤ R.toInt := b362; omega) (by have t1 : 0 ≤ y359.toInt ∧ y359.toInt ≤ R.toInt := b362; have t2 : y359.toInt < R.toInt := b377; have e9 := q_clI (i := R) rfl (by have t1 : 0 ≤ R.toInt ∧ R.toInt ≤ 220 := hR; omega); omega)) d_2_26_84 (fun H locs w380 hu381 hA373 V => ?_)
        replace hI := q_bigA' hI hB hu381 hA373 (q_updB bf374 s_bnd)
        replace hO361 := (hu381 _ (by omega)).trans hO361
        replace hF := q_us hF hu381 (by simp)
        refine lv_aload_n hx hb d_2_26_85 rfl (lv_at hl 2 rfl) ?_
        refine lv_dup hx hb d_2_26_86 rfl ?_
        refine q_get (ci := 2) (j := 1) (v := .int y359) C0 V i_Big rfl rfl hO361 (by decide) w_85 rfl d_2_26_87 ?_
        refine lv_iconst (v := 1) hx hb d_2_26_90 (by decide) ?_
        refine lv_iadd hx hb d_2_26_91 ?_
        obtain ⟨a382, e383⟩ := q_nm (y359 + 1 : Int32)
        refine q_ti (v := a382) e383 ?_
        have b384 : q_F (a382.toInt = y359.toInt + 1) := (by rw [← e383]; show (y359 + 1 : Int32).toInt = y359.toInt + 1; exact q_addI (x := y359.toInt) (y := 1) rfl (by decide) (by have t1 : 0 ≤ R.toInt ∧ R.toInt ≤ 220 := hR; have t2 : 0 ≤ y359.toInt ∧ y359.toInt ≤ R.toInt := b362; omega) (by have t1 : 0 ≤ R.toInt ∧ R.toInt ≤ 220 := hR; have t2 : 0 ≤ y359.toInt ∧ y359.toInt ≤ R.toInt := b362; omega))
        refine q_put (ci := 2) (j := 1) (v := .int a382) (ty := .int) C0 V i_Big o_Big n_Big rfl rfl hO361 (by decide) w_85 rfl rfl rfl rfl (Nat.le_of_ble_eq_true rfl) d_2_26_92 (fun H locs w385 hu386 hO361 V => ?_)
        replace hO361 : w385[k]? = (some (q k, .inr (2, [.ref (q (k + 1)), .int a382, .int y360])) : Option (Nat × va_E)) := hO361
        replace hI := q_bigO' hI hB hu386 hO361 ⟨(by have t1 : 0 ≤ y359.toInt ∧ y359.toInt ≤ R.toInt := b362; have t2 : a382.toInt = y359.toInt + 1 := b384; omega), (by have t1 : y359.toInt < R.toInt := b377; have t2 : a382.toInt = y359.toInt + 1 := b384; omega)⟩ ⟨(by have t1 : 0 ≤ y360.toInt ∧ y360.toInt ≤ 1 := b363; omega), (by have t1 : 0 ≤ y360.toInt ∧ y360.toInt ≤ 1 := b363; omega)⟩
        replace hF := q_us hF hu386 (by simp)
        exact q_retv C0 V (⟨trivial, hI, hF⟩) d_2_26_95
  ·
    have b387 : q_F (lx4.toInt < y359.toInt) := (q_nleI c364)
    refine lv_aload_n hx hb d_2_26_15 rfl (lv_at hl 2 rfl) ?_
    refine q_get (ci := 2) (j := 0) (v := .ref (q (k + 1))) C0 V i_Big rfl rfl hO361 (by decide) w_84 rfl d_2_26_16 ?_
    refine lv_iload hx hb d_2_26_19 (lv_at hl 0 rfl) ?_
    obtain ⟨f388, hA389, bf390⟩ := q_bigA hI hB
    refine q_iald C0 V hA389 (q_ix (x := lx4.toInt) rfl (by have t1 : 0 ≤ lx4.toInt := i355; omega) (by have t1 : 0 ≤ lx4.toInt := i355; have t2 : 0 ≤ y359.toInt ∧ y359.toInt ≤ R.toInt := b362; have t3 : lx4.toInt < y359.toInt := b387; have e9 := q_clI (i := R) rfl (by have t1 : 0 ≤ R.toInt ∧ R.toInt ≤ 220 := hR; omega); omega)) d_2_26_21 ?_
    obtain ⟨a391, e392⟩ := q_nm (f388 lx4.toNatClampNeg : Int32)
    refine q_ti (v := a391) e392 ?_
    refine lv_i2l hx hb d_2_26_22 rfl ?_
    obtain ⟨j393, e394⟩ := q_nm (a391.toInt64 : Int64)
    refine q_tl (v := j393) e394 ?_
    have b395 : q_F (j393.toInt = a391.toInt) := (by rw [← e394]; show (a391.toInt64 : Int64).toInt = a391.toInt; exact q_i2l rfl)
    refine lv_iload_n hx hb d_2_26_23 rfl (lv_at hl 3 rfl) ?_
    refine lv_i2l hx hb d_2_26_24 rfl ?_
    obtain ⟨j396, e397⟩ := q_nm (x1.toInt64 : Int64)
    refine q_tl (v := j396) e397 ?_
    have b398 : q_F (j396.toInt = x1.toInt) := (by rw [← e397]; show (x1.toInt64 : Int64).toInt = x1.toInt; exact q_i2l rfl)
    refine lv_lmul hx hb d_2_26_25 ?_
    obtain ⟨j399, e400⟩ := q_nm (j393 * j396 : Int64)
    refine q_tl (v := j399) e400 ?_
    refine lv_lload_n hx hb d_2_26_26 rfl (lv_at hl 1 rfl) ?_
    refine lv_ladd hx hb d_2_26_27 ?_
    obtain ⟨j401, e402⟩ := q_nm (j399 + lx5 : Int64)
    refine q_tl (v := j401) e402 ?_
    refine lv_lstore (lv' := [(6, .long j401), (5, .int lx4), (3, .long lx5), (0, .ref (q k)), (1, .int x1), (2, .int x2)]) hx hb d_2_26_28 hl (by decide) rfl (fun ls hl => ?_)
    refine lv_aload_n hx hb d_2_26_30 rfl (lv_at hl 3 rfl) ?_
    refine q_get (ci := 2) (j := 0) (v := .ref (q (k + 1))) C0 V i_Big rfl rfl hO361 (by decide) w_84 rfl d_2_26_31 ?_
    refine lv_iload hx hb d_2_26_34 (lv_at hl 1 rfl) ?_
    refine lv_lload hx hb d_2_26_36 (lv_at hl 0 rfl) ?_
    refine q_ldc2 C0 rfl w_201 d_2_26_38 ?_
    refine lv_land hx hb d_2_26_41 ?_
    obtain ⟨j403, e404⟩ := q_nm (j401 &&& 2147483647 : Int64)
    refine q_tl (v := j403) e404 ?_
    have b405 : q_F (0 ≤ j403.toInt ∧ j403.toInt ≤ 2147483647) := (by rw [← e404]; show 0 ≤ (j401 &&& 2147483647 : Int64).toInt ∧ (j401 &&& 2147483647 : Int64).toInt ≤ 2147483647; exact s_andJ (by decide))
    refine lv_l2i hx hb d_2_26_42 rfl ?_
    obtain ⟨a406, e407⟩ := q_nm (j403.toInt32 : Int32)
    refine q_ti (v := a406) e407 ?_
    have b408 : q_F (a406.toInt = j403.toInt) := (by rw [← e407]; show (j403.toInt32 : Int32).toInt = j403.toInt; exact s_l2i (by have t1 : 0 ≤ j403.toInt ∧ j403.toInt ≤ 2147483647 := b405; omega) (by have t1 : 0 ≤ j403.toInt ∧ j403.toInt ≤ 2147483647 := b405; omega))
    refine q_iast C0 V hA389 (q_ix (x := lx4.toInt) rfl (by have t1 : 0 ≤ lx4.toInt := i355; omega) (by have t1 : 0 ≤ lx4.toInt := i355; have t2 : 0 ≤ y359.toInt ∧ y359.toInt ≤ R.toInt := b362; have t3 : lx4.toInt < y359.toInt := b387; have e9 := q_clI (i := R) rfl (by have t1 : 0 ≤ R.toInt ∧ R.toInt ≤ 220 := hR; omega); omega)) d_2_26_43 (fun H locs w409 hu410 hA389 V => ?_)
    replace hI := q_bigA' hI hB hu410 hA389 (q_updB bf390 s_bnd)
    replace hO361 := (hu410 _ (by omega)).trans hO361
    replace hF := q_us hF hu410 (by simp)
    refine lv_lload hx hb d_2_26_44 (lv_at hl 0 rfl) ?_
    refine lv_bipush (v := 31) hx hb d_2_26_46 (by decide) ?_
    refine lv_lushr hx hb d_2_26_48 rfl ?_
    obtain ⟨j411, e412⟩ := q_nm ((j401.toUInt64 >>> ((31 : Int32).toInt64.toUInt64 &&& Int64.toUInt64 63)).toInt64 : Int64)
    refine q_tl (v := j411) e412 ?_
    have b413 : q_F (0 ≤ j411.toInt ∧ j411.toInt ≤ 8589934591) := (by rw [← e412]; show 0 ≤ ((j401.toUInt64 >>> ((31 : Int32).toInt64.toUInt64 &&& Int64.toUInt64 63)).toInt64 : Int64).toInt ∧ ((j401.toUInt64 >>> ((31 : Int32).toInt64.toUInt64 &&& Int64.toUInt64 63)).toInt64 : Int64).toInt ≤ 8589934591; exact (by have z := s_ushrJ (x := j401) (c := 31) 31 (by decide) (by decide); omega))
    refine lv_lstore_n (lv' := [(3, .long j411), (6, .long j401), (5, .int lx4), (0, .ref (q k)), (1, .int x1), (2, .int x2)]) hx hb d_2_26_49 rfl hl (by decide) rfl (fun ls hl => ?_)
    obtain ⟨a414, e415⟩ := q_nm (lx4 + 1 : Int32)
    have b416 : q_F (a414.toInt = lx4.toInt + 1) := (by rw [← e415]; exact q_addI (y := 1) rfl (by decide) (by have t1 : 0 ≤ R.toInt ∧ R.toInt ≤ 220 := hR; have t2 : 0 ≤ lx4.toInt := i355; have t3 : 0 ≤ R.toInt + (-1 * lx4.toInt) := i356; omega) (by have t1 : 0 ≤ R.toInt ∧ R.toInt ≤ 220 := hR; have t2 : 0 ≤ lx4.toInt := i355; have t3 : 0 ≤ R.toInt + (-1 * lx4.toInt) := i356; omega))
    refine lv_iinc (v := a414) (lv' := [(5, .int a414), (3, .long j411), (6, .long j401), (0, .ref (q k)), (1, .int x1), (2, .int x2)]) hx hb d_2_26_50 hl (k := 2) rfl (e415) (by decide) rfl (fun ls hl => ?_)
    refine lv_goto (tgt := 6) hx hb d_2_26_53 (by decide) ?_
    exact ih357 ((a414 : Int32), (j411 : Int64)) _ _ _ _ (show (R.toInt - a414.toInt).toNat < (R.toInt - lx4.toInt).toNat from by have t1 : 0 ≤ y359.toInt ∧ y359.toInt ≤ R.toInt := b362; have t2 : lx4.toInt < y359.toInt := b387; have t3 : a414.toInt = lx4.toInt + 1 := b416; omega) ⟨(show q_F (0 ≤ a414.toInt) from (show 0 ≤ a414.toInt from by have t1 : 0 ≤ lx4.toInt := i355; have t2 : a414.toInt = lx4.toInt + 1 := b416; omega)), (show q_F (0 ≤ R.toInt + (-1 * a414.toInt)) from (show 0 ≤ R.toInt + (-1 * a414.toInt) from by have t1 : 0 ≤ y359.toInt ∧ y359.toInt ≤ R.toInt := b362; have t2 : lx4.toInt < y359.toInt := b387; have t3 : a414.toInt = lx4.toInt + 1 := b416; omega)), V, q_lw hl (q_lw1 0 rfl (q_lw1 1 rfl (q_lw1 3 rfl (q_lw1 4 rfl (q_lw1 5 rfl q_lw0))))), hI, hF⟩
theorem d_2_27_0 : decode prog_2_method_27_code 0 = .ok (.iload_n 1, 1) := by decide +kernel
theorem d_2_27_1 : decode prog_2_method_27_code 1 = .ok (.iconst 1, 1) := by decide +kernel
theorem d_2_27_2 : decode prog_2_method_27_code 2 = .ok (.invokestatic 92, 3) := by decide +kernel
theorem d_2_27_5 : decode prog_2_method_27_code 5 = .ok (.istore_n 2, 1) := by decide +kernel
theorem d_2_27_6 : decode prog_2_method_27_code 6 = .ok (.lconst 0, 1) := by decide +kernel
theorem d_2_27_7 : decode prog_2_method_27_code 7 = .ok (.lstore_n 3, 1) := by decide +kernel
theorem d_2_27_8 : decode prog_2_method_27_code 8 = .ok (.aload_n 0, 1) := by decide +kernel
theorem d_2_27_9 : decode prog_2_method_27_code 9 = .ok (.getfield 13, 3) := by decide +kernel
theorem d_2_27_12 : decode prog_2_method_27_code 12 = .ok (.iconst 1, 1) := by decide +kernel
theorem d_2_27_13 : decode prog_2_method_27_code 13 = .ok (.isub, 1) := by decide +kernel
theorem d_2_27_14 : decode prog_2_method_27_code 14 = .ok (.istore 5, 2) := by decide +kernel
theorem d_2_27_16 : decode prog_2_method_27_code 16 = .ok (.iload 5, 2) := by decide +kernel
theorem d_2_27_18 : decode prog_2_method_27_code 18 = .ok (.ifCond .lt 43, 3) := by decide +kernel
theorem d_2_27_61 : decode prog_2_method_27_code 61 = .ok (.aload_n 0, 1) := by decide +kernel
theorem d_2_27_62 : decode prog_2_method_27_code 62 = .ok (.invokevirtual 36, 3) := by decide +kernel
theorem d_2_27_65 : decode prog_2_method_27_code 65 = .ok (.lload_n 3, 1) := by decide +kernel
theorem d_2_27_66 : decode prog_2_method_27_code 66 = .ok (.l2i, 1) := by decide +kernel
theorem d_2_27_67 : decode prog_2_method_27_code 67 = .ok (.ireturn, 1) := by decide +kernel
theorem d_2_27_21 : decode prog_2_method_27_code 21 = .ok (.lload_n 3, 1) := by decide +kernel
theorem d_2_27_22 : decode prog_2_method_27_code 22 = .ok (.bipush 31, 2) := by decide +kernel
theorem d_2_27_24 : decode prog_2_method_27_code 24 = .ok (.lshl, 1) := by decide +kernel
theorem d_2_27_25 : decode prog_2_method_27_code 25 = .ok (.aload_n 0, 1) := by decide +kernel
theorem d_2_27_26 : decode prog_2_method_27_code 26 = .ok (.getfield 7, 3) := by decide +kernel
theorem d_2_27_29 : decode prog_2_method_27_code 29 = .ok (.iload 5, 2) := by decide +kernel
theorem d_2_27_31 : decode prog_2_method_27_code 31 = .ok (.iaload, 1) := by decide +kernel
theorem d_2_27_32 : decode prog_2_method_27_code 32 = .ok (.i2l, 1) := by decide +kernel
theorem d_2_27_33 : decode prog_2_method_27_code 33 = .ok (.lor, 1) := by decide +kernel
theorem d_2_27_34 : decode prog_2_method_27_code 34 = .ok (.lstore 6, 2) := by decide +kernel
theorem d_2_27_36 : decode prog_2_method_27_code 36 = .ok (.aload_n 0, 1) := by decide +kernel
theorem d_2_27_37 : decode prog_2_method_27_code 37 = .ok (.getfield 7, 3) := by decide +kernel
theorem d_2_27_40 : decode prog_2_method_27_code 40 = .ok (.iload 5, 2) := by decide +kernel
theorem d_2_27_42 : decode prog_2_method_27_code 42 = .ok (.lload 6, 2) := by decide +kernel
theorem d_2_27_44 : decode prog_2_method_27_code 44 = .ok (.iload_n 2, 1) := by decide +kernel
theorem d_2_27_45 : decode prog_2_method_27_code 45 = .ok (.i2l, 1) := by decide +kernel
theorem d_2_27_46 : decode prog_2_method_27_code 46 = .ok (.ldiv, 1) := by decide +kernel
theorem d_2_27_47 : decode prog_2_method_27_code 47 = .ok (.l2i, 1) := by decide +kernel
theorem d_2_27_48 : decode prog_2_method_27_code 48 = .ok (.iastore, 1) := by decide +kernel
theorem d_2_27_49 : decode prog_2_method_27_code 49 = .ok (.lload 6, 2) := by decide +kernel
theorem d_2_27_51 : decode prog_2_method_27_code 51 = .ok (.iload_n 2, 1) := by decide +kernel
theorem d_2_27_52 : decode prog_2_method_27_code 52 = .ok (.i2l, 1) := by decide +kernel
theorem d_2_27_53 : decode prog_2_method_27_code 53 = .ok (.lrem, 1) := by decide +kernel
theorem d_2_27_54 : decode prog_2_method_27_code 54 = .ok (.lstore_n 3, 1) := by decide +kernel
theorem d_2_27_55 : decode prog_2_method_27_code 55 = .ok (.iinc 5 (-1), 3) := by decide +kernel
theorem d_2_27_58 : decode prog_2_method_27_code 58 = .ok (.goto (-42), 3) := by decide +kernel
def y_Big_divideSmall : MethodName := ⟨"NumberHouse$Big", "divideSmall", "(I)I"⟩
set_option maxRecDepth 100000 in
set_option maxHeartbeats 4000000 in
theorem S_Big_divideSmall (l : Launch) (D : va_G) (g : Nat → ClassId) (sh : List q_Ok) (q : Nat → Nat) (ws : va_W) (k : Nat) (R : Int32) (hB : q_isBig sh g q k R) (x1 : Int32) (hI : q_I sh q ws) : q_mI l y_Big_divideSmall prog_2_method_27_code 8 (.int) 2 0 0 D g [.ref (q k), .int x1] ws (fun r u => (True) ∧ q_I sh q u ∧ q_un ws u [k, k + 1]) := by
  intro sz
  refine q_into (by decide) (Nat.le_of_ble_eq_true rfl) ?_
  intro p e s m below meth c ls hsz C0 V hl
  have hx := C0.1
  have hb := C0.2.1
  have hR : q_F (0 ≤ R.toInt ∧ R.toInt ≤ 220) := hB.2.2
  have hF : q_un ws ws [k, k + 1] := q_u0
  have hl : lv_has ls 8 [(0, .ref (q k)), (1, .int x1)] := hl
  refine lv_iload_n hx hb d_2_27_0 rfl (lv_at hl 1 rfl) ?_
  refine lv_iconst (v := 1) hx hb d_2_27_1 (by decide) ?_
  refine q_max C0 hl.1 rfl w_1043 w_803 w_7 w_804 ⟨Nat.le_of_ble_eq_true rfl, Nat.le_of_ble_eq_true rfl⟩ ⟨Nat.le_of_ble_eq_true rfl, Nat.le_of_ble_eq_true rfl⟩ d_2_27_2 ?_
  obtain ⟨a1, e2⟩ := q_nm (if x1 < 1 then 1 else x1 : Int32)
  refine q_ti (v := a1) e2 ?_
  have b3 : q_F (x1.toInt ≤ a1.toInt ∧ 1 ≤ a1.toInt ∧ (a1.toInt = x1.toInt ∨ a1.toInt = 1)) := (by rw [← e2]; show x1.toInt ≤ (if x1 < 1 then 1 else x1 : Int32).toInt ∧ 1 ≤ (if x1 < 1 then 1 else x1 : Int32).toInt ∧ ((if x1 < 1 then 1 else x1 : Int32).toInt = x1.toInt ∨ (if x1 < 1 then 1 else x1 : Int32).toInt = 1); exact s_max (a := x1) (b := 1))
  refine lv_istore_n (lv' := [(2, .int a1), (0, .ref (q k)), (1, .int x1)]) hx hb d_2_27_5 rfl hl (by decide) rfl (fun ls hl => ?_)
  refine lv_lconst (v := 0) hx hb d_2_27_6 (by decide) ?_
  refine lv_lstore_n (lv' := [(3, .long 0), (2, .int a1), (0, .ref (q k)), (1, .int x1)]) hx hb d_2_27_7 rfl hl (by decide) rfl (fun ls hl => ?_)
  refine lv_aload_n hx hb d_2_27_8 rfl (lv_at hl 2 rfl) ?_
  obtain ⟨y4, y5, hO6, b7, b8⟩ := q_bigO hI hB
  replace b7 : q_F (0 ≤ y4.toInt ∧ y4.toInt ≤ R.toInt) := b7
  replace b8 : q_F (0 ≤ y5.toInt ∧ y5.toInt ≤ 1) := b8
  refine q_get (ci := 2) (j := 1) (v := .int y4) C0 V i_Big rfl rfl hO6 (by decide) w_85 rfl d_2_27_9 ?_
  refine lv_iconst (v := 1) hx hb d_2_27_12 (by decide) ?_
  refine lv_isub hx hb d_2_27_13 ?_
  obtain ⟨a9, e10⟩ := q_nm (y4 - 1 : Int32)
  refine q_ti (v := a9) e10 ?_
  have b11 : q_F (a9.toInt = y4.toInt - 1) := (by rw [← e10]; show (y4 - 1 : Int32).toInt = y4.toInt - 1; exact q_subI (x := y4.toInt) (y := 1) rfl (by decide) (by have t1 : 0 ≤ R.toInt ∧ R.toInt ≤ 220 := hR; have t2 : 0 ≤ y4.toInt ∧ y4.toInt ≤ R.toInt := b7; omega) (by have t1 : 0 ≤ R.toInt ∧ R.toInt ≤ 220 := hR; have t2 : 0 ≤ y4.toInt ∧ y4.toInt ≤ R.toInt := b7; omega))
  refine lv_istore (lv' := [(5, .int a9), (3, .long 0), (2, .int a1), (0, .ref (q k)), (1, .int x1)]) hx hb d_2_27_14 hl (by decide) rfl (fun ls hl => ?_)
  refine q_loop (X := Int32 × Int64) (fun z H locs ls w159 => q_F (0 ≤ z.1.toInt + 1) ∧ q_F (0 ≤ a9.toInt + (-1 * z.1.toInt)) ∧ q_Wd D g (va_A ws sz) s w159 H locs ∧ lv_has ls 8 [(5, .int z.1), (3, .long z.2), (2, .int a1), (0, .ref (q k)), (1, .int x1)] ∧ q_I sh q w159 ∧ q_un ws w159 [k, k + 1]) (fun z => (z.1.toInt - ((-1))).toNat) ?_ ((a9 : Int32), (0 : Int64)) _ _ _ ws ⟨(show q_F (0 ≤ a9.toInt + 1) from (show 0 ≤ a9.toInt + 1 from by have t1 : 0 ≤ y4.toInt ∧ y4.toInt ≤ R.toInt := b7; have t2 : a9.toInt = y4.toInt - 1 := b11; omega)), (show q_F (0 ≤ a9.toInt + (-1 * a9.toInt)) from (show 0 ≤ a9.toInt + (-1 * a9.toInt) from by omega)), V, hl, hI, hF⟩
  rintro ⟨lx12, lx13⟩ H locs ls w159 ⟨i156, i157, V, hl, hI, hF⟩ ih158
  replace i156 : q_F (0 ≤ lx12.toInt + 1) := i156
  replace i157 : q_F (0 ≤ a9.toInt + (-1 * lx12.toInt)) := i157
  replace hl : lv_has ls 8 [(5, .int lx12), (3, .long lx13), (2, .int a1), (0, .ref (q k)), (1, .int x1)] := hl
  refine lv_iload hx hb d_2_27_16 (lv_at hl 0 rfl) ?_
  refine lv_if_lt (tgt := 61) hx hb d_2_27_18 (by decide) (fun c160 => ?_) (fun c160 => ?_)
  ·
    have b161 : q_F (lx12.toInt < 0) := (q_ltI c160)
    refine lv_aload_n hx hb d_2_27_61 rfl (lv_at hl 3 rfl) ?_
    obtain ⟨y164, y165, hO166, b167, b168⟩ := q_bigO hI hB
    replace b167 : q_F (0 ≤ y164.toInt ∧ y164.toInt ≤ R.toInt) := b167
    replace b168 : q_F (0 ≤ y165.toInt ∧ y165.toInt ≤ 1) := b168
    refine q_gov V (q_runV (As := []) (rest := []) (d := 1) (mc := 0) (ms := 0) (ci := 2) C0 V rfl LV_Big_36 (S_Big_trim l D g sh q w159 k R hB hI  _) rfl rfl hO166 rfl hl.1 rfl (Nat.le_of_ble_eq_true rfl) ⟨by decide, by decide⟩ ⟨Nat.le_of_ble_eq_true rfl, Nat.le_of_ble_eq_true rfl⟩ d_2_27_62) (fun u162 H locs hp163 V => ?_)
    obtain ⟨_, hI, hu169⟩ := hp163
    replace hF := q_uc hF hu169 (by simp)
    refine lv_lload_n hx hb d_2_27_65 rfl (lv_at hl 1 rfl) ?_
    refine lv_l2i hx hb d_2_27_66 rfl ?_
    obtain ⟨a170, e171⟩ := q_nm (lx13.toInt32 : Int32)
    refine q_ti (v := a170) e171 ?_
    exact q_reti C0 V (⟨trivial, hI, hF⟩) d_2_27_67
  ·
    have b172 : q_F (0 ≤ lx12.toInt) := (q_nltI c160)
    refine lv_lload_n hx hb d_2_27_21 rfl (lv_at hl 1 rfl) ?_
    refine lv_bipush (v := 31) hx hb d_2_27_22 (by decide) ?_
    refine lv_lshl hx hb d_2_27_24 rfl ?_
    obtain ⟨j173, e174⟩ := q_nm (lx13 <<< ((31 : Int32).toInt64 &&& 63) : Int64)
    refine q_tl (v := j173) e174 ?_
    refine lv_aload_n hx hb d_2_27_25 rfl (lv_at hl 3 rfl) ?_
    obtain ⟨y175, y176, hO177, b178, b179⟩ := q_bigO hI hB
    replace b178 : q_F (0 ≤ y175.toInt ∧ y175.toInt ≤ R.toInt) := b178
    replace b179 : q_F (0 ≤ y176.toInt ∧ y176.toInt ≤ 1) := b179
    refine q_get (ci := 2) (j := 0) (v := .ref (q (k + 1))) C0 V i_Big rfl rfl hO177 (by decide) w_84 rfl d_2_27_26 ?_
    refine lv_iload hx hb d_2_27_29 (lv_at hl 0 rfl) ?_
    obtain ⟨f180, hA181, bf182⟩ := q_bigA hI hB
    refine q_iald C0 V hA181 (q_ix (x := lx12.toInt) rfl (by have t1 : 0 ≤ lx12.toInt := b172; omega) (by have t1 : 0 ≤ y4.toInt ∧ y4.toInt ≤ R.toInt := b7; have t2 : a9.toInt = y4.toInt - 1 := b11; have t3 : 0 ≤ a9.toInt + (-1 * lx12.toInt) := i157; have t4 : 0 ≤ lx12.toInt := b172; have e9 := q_clI (i := R) rfl (by have t1 : 0 ≤ R.toInt ∧ R.toInt ≤ 220 := hR; omega); omega)) d_2_27_31 ?_
    obtain ⟨a183, e184⟩ := q_nm (f180 lx12.toNatClampNeg : Int32)
    refine q_ti (v := a183) e184 ?_
    refine lv_i2l hx hb d_2_27_32 rfl ?_
    obtain ⟨j185, e186⟩ := q_nm (a183.toInt64 : Int64)
    refine q_tl (v := j185) e186 ?_
    have b187 : q_F (j185.toInt = a183.toInt) := (by rw [← e186]; show (a183.toInt64 : Int64).toInt = a183.toInt; exact q_i2l rfl)
    refine lv_lor hx hb d_2_27_33 ?_
    obtain ⟨j188, e189⟩ := q_nm (j173 ||| j185 : Int64)
    refine q_tl (v := j188) e189 ?_
    refine lv_lstore (lv' := [(6, .long j188), (5, .int lx12), (3, .long lx13), (2, .int a1), (0, .ref (q k)), (1, .int x1)]) hx hb d_2_27_34 hl (by decide) rfl (fun ls hl => ?_)
    refine lv_aload_n hx hb d_2_27_36 rfl (lv_at hl 4 rfl) ?_
    refine q_get (ci := 2) (j := 0) (v := .ref (q (k + 1))) C0 V i_Big rfl rfl hO177 (by decide) w_84 rfl d_2_27_37 ?_
    refine lv_iload hx hb d_2_27_40 (lv_at hl 1 rfl) ?_
    refine lv_lload hx hb d_2_27_42 (lv_at hl 0 rfl) ?_
    refine lv_iload_n hx hb d_2_27_44 rfl (lv_at hl 3 rfl) ?_
    refine lv_i2l hx hb d_2_27_45 rfl ?_
    obtain ⟨j190, e191⟩ := q_nm (a1.toInt64 : Int64)
    refine q_tl (v := j190) e191 ?_
    have b192 : q_F (j190.toInt = a1.toInt) := (by rw [← e191]; show (a1.toInt64 : Int64).toInt = a1.toInt; exact q_i2l rfl)
    refine lv_ldiv hx hb d_2_27_46 (s_nzL (by have t1 : x1.toInt ≤ a1.toInt ∧ 1 ≤ a1.toInt ∧ (a1.toInt = x1.toInt ∨ a1.toInt = 1) := b3; have t2 : j190.toInt = a1.toInt := b192; omega)) ?_
    obtain ⟨j193, e194⟩ := q_nm (j188 / j190 : Int64)
    refine q_tl (v := j193) e194 ?_
    refine lv_l2i hx hb d_2_27_47 rfl ?_
    obtain ⟨a195, e196⟩ := q_nm (j193.toInt32 : Int32)
    refine q_ti (v := a195) e196 ?_
    refine q_iast C0 V hA181 (q_ix (x := lx12.toInt) rfl (by have t1 : 0 ≤ lx12.toInt := b172; omega) (by have t1 : 0 ≤ y4.toInt ∧ y4.toInt ≤ R.toInt := b7; have t2 : a9.toInt = y4.toInt - 1 := b11; have t3 : 0 ≤ a9.toInt + (-1 * lx12.toInt) := i157; have t4 : 0 ≤ lx12.toInt := b172; have e9 := q_clI (i := R) rfl (by have t1 : 0 ≤ R.toInt ∧ R.toInt ≤ 220 := hR; omega); omega)) d_2_27_48 (fun H locs w197 hu198 hA181 V => ?_)
    replace hI := q_bigA' hI hB hu198 hA181 (q_updB bf182 s_bnd)
    replace hO177 := (hu198 _ (by omega)).trans hO177
    replace hF := q_us hF hu198 (by simp)
    refine lv_lload hx hb d_2_27_49 (lv_at hl 0 rfl) ?_
    refine lv_iload_n hx hb d_2_27_51 rfl (lv_at hl 3 rfl) ?_
    refine lv_i2l hx hb d_2_27_52 rfl ?_
    obtain ⟨j199, e200⟩ := q_nm (a1.toInt64 : Int64)
    refine q_tl (v := j199) e200 ?_
    have b201 : q_F (j199.toInt = a1.toInt) := (by rw [← e200]; show (a1.toInt64 : Int64).toInt = a1.toInt; exact q_i2l rfl)
    refine lv_lrem hx hb d_2_27_53 (s_nzL (by have t1 : x1.toInt ≤ a1.toInt ∧ 1 ≤ a1.toInt ∧ (a1.toInt = x1.toInt ∨ a1.toInt = 1) := b3; have t2 : j199.toInt = a1.toInt := b201; omega)) ?_
    obtain ⟨j202, e203⟩ := q_nm (j188 - j188 / j199 * j199 : Int64)
    refine q_tl (v := j202) e203 ?_
    refine lv_lstore_n (lv' := [(3, .long j202), (6, .long j188), (5, .int lx12), (2, .int a1), (0, .ref (q k)), (1, .int x1)]) hx hb d_2_27_54 rfl hl (by decide) rfl (fun ls hl => ?_)
    obtain ⟨a204, e205⟩ := q_nm (lx12 + (-1) : Int32)
    have b206 : q_F (a204.toInt = lx12.toInt + (-1)) := (by rw [← e205]; exact q_addI (y := (-1)) rfl (by decide) (by have t1 : 0 ≤ R.toInt ∧ R.toInt ≤ 220 := hR; have t2 : 0 ≤ y4.toInt ∧ y4.toInt ≤ R.toInt := b7; have t3 : a9.toInt = y4.toInt - 1 := b11; have t4 : 0 ≤ lx12.toInt + 1 := i156; have t5 : 0 ≤ a9.toInt + (-1 * lx12.toInt) := i157; omega) (by have t1 : 0 ≤ R.toInt ∧ R.toInt ≤ 220 := hR; have t2 : 0 ≤ y4.toInt ∧ y4.toInt ≤ R.toInt := b7; have t3 : a9.toInt = y4.toInt - 1 := b11; have t4 : 0 ≤ lx12.toInt + 1 := i156; have t5 : 0 ≤ a9.toInt + (-1 * lx12.toInt) := i157; omega))
    refine lv_iinc (v := a204) (lv' := [(5, .int a204), (3, .long j202), (6, .long j188), (2, .int a1), (0, .ref (q k)), (1, .int x1)]) hx hb d_2_27_55 hl (k := 2) rfl (e205) (by decide) rfl (fun ls hl => ?_)
    refine lv_goto (tgt := 16) hx hb d_2_27_58 (by decide) ?_
    exact ih158 ((a204 : Int32), (j202 : Int64)) _ _ _ _ (show (a204.toInt - ((-1))).toNat < (lx12.toInt - ((-1))).toNat from by have t1 : 0 ≤ lx12.toInt := b172; have t2 : a204.toInt = lx12.toInt + (-1) := b206; omega) ⟨(show q_F (0 ≤ a204.toInt + 1) from (show 0 ≤ a204.toInt + 1 from by have t1 : 0 ≤ lx12.toInt := b172; have t2 : a204.toInt = lx12.toInt + (-1) := b206; omega)), (show q_F (0 ≤ a9.toInt + (-1 * a204.toInt)) from (show 0 ≤ a9.toInt + (-1 * a204.toInt) from by have t1 : 0 ≤ a9.toInt + (-1 * lx12.toInt) := i157; have t2 : a204.toInt = lx12.toInt + (-1) := b206; omega)), V, q_lw hl (q_lw1 0 rfl (q_lw1 1 rfl (q_lw1 3 rfl (q_lw1 4 rfl (q_lw1 5 rfl q_lw0))))), hI, hF⟩
theorem d_2_28_0 : decode prog_2_method_28_code 0 = .ok (.iload_n 1, 1) := by decide +kernel
theorem d_2_28_1 : decode prog_2_method_28_code 1 = .ok (.istore_n 2, 1) := by decide +kernel
theorem d_2_28_2 : decode prog_2_method_28_code 2 = .ok (.iload_n 2, 1) := by decide +kernel
theorem d_2_28_3 : decode prog_2_method_28_code 3 = .ok (.ifCond .le 24, 3) := by decide +kernel
theorem d_2_28_27 : decode prog_2_method_28_code 27 = .ok (.return_, 1) := by decide +kernel
theorem d_2_28_6 : decode prog_2_method_28_code 6 = .ok (.aload_n 0, 1) := by decide +kernel
theorem d_2_28_7 : decode prog_2_method_28_code 7 = .ok (.getstatic 95, 3) := by decide +kernel
set_option maxRecDepth 100000 in
theorem w_771 : (Cond.fieldLink "NumberHouse$Big" (95 : Nat) "NumberHouse$Big" "TENS" "[I") ∈ q_tbl := q_of4 51 rfl (by decide +kernel)
theorem d_2_28_10 : decode prog_2_method_28_code 10 = .ok (.iload_n 2, 1) := by decide +kernel
theorem d_2_28_11 : decode prog_2_method_28_code 11 = .ok (.bipush 9, 2) := by decide +kernel
theorem d_2_28_13 : decode prog_2_method_28_code 13 = .ok (.invokestatic 39, 3) := by decide +kernel
theorem d_2_28_16 : decode prog_2_method_28_code 16 = .ok (.iaload, 1) := by decide +kernel
theorem d_2_28_17 : decode prog_2_method_28_code 17 = .ok (.iconst 0, 1) := by decide +kernel
theorem d_2_28_18 : decode prog_2_method_28_code 18 = .ok (.invokevirtual 98, 3) := by decide +kernel
set_option maxRecDepth 100000 in
theorem w_606 : (Cond.code ({ cls := "NumberHouse$Big", name := "multiplySmall", desc := "(II)V" } : MethodName) prog_2_method_26_code (8 : Nat) (none : Option ClassFile.FieldType)) ∈ q_tbl := q_of3 126 rfl (by decide +kernel)
set_option maxRecDepth 100000 in
theorem w_776 : (Cond.methodLink "NumberHouse$Big" (98 : Nat) ({ cls := "NumberHouse$Big", name := "multiplySmall", desc := "(II)V" } : MethodName)) ∈ q_tbl := q_of4 56 rfl (by decide +kernel)
set_option maxRecDepth 100000 in
theorem w_604 : (Cond.instanceMethod ({ cls := "NumberHouse$Big", name := "multiplySmall", desc := "(II)V" } : MethodName)) ∈ q_tbl := q_of3 124 rfl (by decide +kernel)
set_option maxRecDepth 100000 in
theorem w_605 : (Cond.selects "NumberHouse$Big" ({ cls := "NumberHouse$Big", name := "multiplySmall", desc := "(II)V" } : MethodName) ({ cls := "NumberHouse$Big", name := "multiplySmall", desc := "(II)V" } : MethodName)) ∈ q_tbl := q_of3 125 rfl (by decide +kernel)
theorem LV_Big_98 : q_LV "NumberHouse$Big" 98 y_Big_multiplySmall prog_2_method_26_code 8 none 2 := ⟨w_606, w_4, w_776, w_604, w_605, ⟨by decide, by decide, by decide +kernel⟩⟩
theorem d_2_28_21 : decode prog_2_method_28_code 21 = .ok (.iinc 2 (-9), 3) := by decide +kernel
theorem d_2_28_24 : decode prog_2_method_28_code 24 = .ok (.goto (-22), 3) := by decide +kernel
def y_Big_timesTen : MethodName := ⟨"NumberHouse$Big", "timesTen", "(I)V"⟩
set_option maxRecDepth 100000 in
set_option maxHeartbeats 4000000 in
theorem S_Big_timesTen (l : Launch) (D : va_G) (g : Nat → ClassId) (sh : List q_Ok) (q : Nat → Nat) (ws : va_W) (k : Nat) (R : Int32) (hB : q_isBig sh g q k R) (x1 : Int32) (hI : q_I sh q ws) : q_mV l y_Big_timesTen prog_2_method_28_code 3 2 0 0 D g [.ref (q k), .int x1] ws (fun u => (True) ∧ q_I sh q u ∧ q_un ws u [k, k + 1]) := by
  intro sz
  refine q_into (by decide) (Nat.le_of_ble_eq_true rfl) ?_
  intro p e s m below meth c ls hsz C0 V hl
  have hx := C0.1
  have hb := C0.2.1
  have hR : q_F (0 ≤ R.toInt ∧ R.toInt ≤ 220) := hB.2.2
  have hF : q_un ws ws [k, k + 1] := q_u0
  have hl : lv_has ls 3 [(0, .ref (q k)), (1, .int x1)] := hl
  refine lv_iload_n hx hb d_2_28_0 rfl (lv_at hl 1 rfl) ?_
  refine lv_istore_n (lv' := [(2, .int x1), (0, .ref (q k)), (1, .int x1)]) hx hb d_2_28_1 rfl hl (by decide) rfl (fun ls hl => ?_)
  refine q_loop (X := Int32) (fun z H locs ls w48 => q_F (0 ≤ x1.toInt + (-1 * z.toInt)) ∧ q_Wd D g (va_A ws sz) s w48 H locs ∧ lv_has ls 3 [(2, .int z), (0, .ref (q k)), (1, .int x1)] ∧ q_I sh q w48 ∧ q_un ws w48 [k, k + 1]) (fun z => (z.toInt - ((-1))).toNat) ?_ ((x1 : Int32)) _ _ _ ws ⟨(show q_F (0 ≤ x1.toInt + (-1 * x1.toInt)) from (show 0 ≤ x1.toInt + (-1 * x1.toInt) from by omega)), V, hl, hI, hF⟩
  rintro lx1 H locs ls w48 ⟨i46, V, hl, hI, hF⟩ ih47
  replace i46 : q_F (0 ≤ x1.toInt + (-1 * lx1.toInt)) := i46
  replace hl : lv_has ls 3 [(2, .int lx1), (0, .ref (q k)), (1, .int x1)] := hl
  refine lv_iload_n hx hb d_2_28_2 rfl (lv_at hl 0 rfl) ?_
  refine lv_if_le (tgt := 27) hx hb d_2_28_3 (by decide) (fun c49 => ?_) (fun c49 => ?_)
  ·
    have b50 : q_F (lx1.toInt ≤ 0) := (q_leI c49)
    exact q_retv C0 V (⟨trivial, hI, hF⟩) d_2_28_27
  ·
    have b51 : q_F (0 < lx1.toInt) := (q_nleI c49)
    refine lv_aload_n hx hb d_2_28_6 rfl (lv_at hl 1 rfl) ?_
    refine q_tens C0 V rfl w_771 d_2_28_7 (fun t52 hT53 => ?_)
    refine lv_iload_n hx hb d_2_28_10 rfl (lv_at hl 0 rfl) ?_
    refine lv_bipush (v := 9) hx hb d_2_28_11 (by decide) ?_
    refine q_min C0 hl.1 rfl w_773 w_774 w_7 w_775 ⟨Nat.le_of_ble_eq_true rfl, Nat.le_of_ble_eq_true rfl⟩ ⟨Nat.le_of_ble_eq_true rfl, Nat.le_of_ble_eq_true rfl⟩ d_2_28_13 ?_
    obtain ⟨a54, e55⟩ := q_nm (if 9 < lx1 then 9 else lx1 : Int32)
    refine q_ti (v := a54) e55 ?_
    have b56 : q_F (a54.toInt ≤ lx1.toInt ∧ a54.toInt ≤ 9 ∧ (a54.toInt = lx1.toInt ∨ a54.toInt = 9)) := (by rw [← e55]; show (if 9 < lx1 then 9 else lx1 : Int32).toInt ≤ lx1.toInt ∧ (if 9 < lx1 then 9 else lx1 : Int32).toInt ≤ 9 ∧ ((if 9 < lx1 then 9 else lx1 : Int32).toInt = lx1.toInt ∨ (if 9 < lx1 then 9 else lx1 : Int32).toInt = 9); exact s_min (a := lx1) (b := 9))
    refine q_tald (v := .int (Int32.ofNat (10 ^ a54.toNatClampNeg))) C0 V hT53 (q_ix (x := a54.toInt) rfl (by have t1 : 0 < lx1.toInt := b51; have t2 : a54.toInt ≤ lx1.toInt ∧ a54.toInt ≤ 9 ∧ (a54.toInt = lx1.toInt ∨ a54.toInt = 9) := b56; omega) (by have t1 : 0 < lx1.toInt := b51; have t2 : a54.toInt ≤ lx1.toInt ∧ a54.toInt ≤ 9 ∧ (a54.toInt = lx1.toInt ∨ a54.toInt = 9) := b56; omega)) rfl d_2_28_16 ?_
    obtain ⟨a57, e58⟩ := q_nm (Int32.ofNat (10 ^ a54.toNatClampNeg) : Int32)
    refine q_ti (v := a57) e58 ?_
    have b59 : q_F (1 ≤ a57.toInt ∧ a57.toInt ≤ 1000000000) := (by rw [← e58]; show 1 ≤ (Int32.ofNat (10 ^ a54.toNatClampNeg) : Int32).toInt ∧ (Int32.ofNat (10 ^ a54.toNatClampNeg) : Int32).toInt ≤ 1000000000; exact s_ten (by have z := q_clI (i := a54) (x := a54.toInt) rfl (by have t1 : 0 < lx1.toInt := b51; have t2 : a54.toInt ≤ lx1.toInt ∧ a54.toInt ≤ 9 ∧ (a54.toInt = lx1.toInt ∨ a54.toInt = 9) := b56; omega); have t1 : 0 < lx1.toInt := b51; have t2 : a54.toInt ≤ lx1.toInt ∧ a54.toInt ≤ 9 ∧ (a54.toInt = lx1.toInt ∨ a54.toInt = 9) := b56; omega))
    refine lv_iconst (v := 0) hx hb d_2_28_17 (by decide) ?_
    obtain ⟨y62, y63, hO64, b65, b66⟩ := q_bigO hI hB
    replace b65 : q_F (0 ≤ y62.toInt ∧ y62.toInt ≤ R.toInt) := b65
    replace b66 : q_F (0 ≤ y63.toInt ∧ y63.toInt ≤ 1) := b66
    refine q_gov V (q_runV (As := [.int a57, .int 0]) (rest := []) (d := 1) (mc := 0) (ms := 0) (ci := 2) C0 V rfl LV_Big_98 (S_Big_multiplySmall l D g sh q w48 k R hB a57 0 hI  _) rfl rfl hO64 rfl hl.1 rfl (Nat.le_of_ble_eq_true rfl) ⟨by decide, by decide⟩ ⟨Nat.le_of_ble_eq_true rfl, Nat.le_of_ble_eq_true rfl⟩ d_2_28_18) (fun u60 H locs hp61 V => ?_)
    obtain ⟨_, hI, hu67⟩ := hp61
    replace hF := q_uc hF hu67 (by simp)
    obtain ⟨a68, e69⟩ := q_nm (lx1 + (-9) : Int32)
    have b70 : q_F (a68.toInt = lx1.toInt + (-9)) := (by rw [← e69]; exact q_addI (y := (-9)) rfl (by decide) (by have t1 : 0 ≤ x1.toInt + (-1 * lx1.toInt) := i46; have t2 : 0 < lx1.toInt := b51; have _ := q_lo32 (x := x1); have _ := q_hi32 (x := x1); omega) (by have t1 : 0 ≤ x1.toInt + (-1 * lx1.toInt) := i46; have t2 : 0 < lx1.toInt := b51; have _ := q_lo32 (x := x1); have _ := q_hi32 (x := x1); omega))
    refine lv_iinc (v := a68) (lv' := [(2, .int a68), (0, .ref (q k)), (1, .int x1)]) hx hb d_2_28_21 hl (k := 0) rfl (e69) (by decide) rfl (fun ls hl => ?_)
    refine lv_goto (tgt := 2) hx hb d_2_28_24 (by decide) ?_
    exact ih47 ((a68 : Int32)) _ _ _ _ (show (a68.toInt - ((-1))).toNat < (lx1.toInt - ((-1))).toNat from by have t1 : 0 < lx1.toInt := b51; have t2 : a68.toInt = lx1.toInt + (-9) := b70; omega) ⟨(show q_F (0 ≤ x1.toInt + (-1 * a68.toInt)) from (show 0 ≤ x1.toInt + (-1 * a68.toInt) from by have t1 : 0 ≤ x1.toInt + (-1 * lx1.toInt) := i46; have t2 : a68.toInt = lx1.toInt + (-9) := b70; omega)), V, q_lw hl (q_lw1 0 rfl (q_lw1 1 rfl (q_lw1 2 rfl q_lw0))), hI, hF⟩
theorem d_2_29_0 : decode prog_2_method_29_code 0 = .ok (.iload_n 1, 1) := by decide +kernel
theorem d_2_29_1 : decode prog_2_method_29_code 1 = .ok (.istore_n 2, 1) := by decide +kernel
theorem d_2_29_2 : decode prog_2_method_29_code 2 = .ok (.iload_n 2, 1) := by decide +kernel
theorem d_2_29_3 : decode prog_2_method_29_code 3 = .ok (.ifCond .le 24, 3) := by decide +kernel
theorem d_2_29_27 : decode prog_2_method_29_code 27 = .ok (.return_, 1) := by decide +kernel
theorem d_2_29_6 : decode prog_2_method_29_code 6 = .ok (.aload_n 0, 1) := by decide +kernel
theorem d_2_29_7 : decode prog_2_method_29_code 7 = .ok (.getstatic 102, 3) := by decide +kernel
set_option maxRecDepth 100000 in
theorem w_798 : (Cond.fieldLink "NumberHouse$Big" (102 : Nat) "NumberHouse$Big" "FIVES" "[I") ∈ q_tbl := q_of4 78 rfl (by decide +kernel)
theorem d_2_29_10 : decode prog_2_method_29_code 10 = .ok (.iload_n 2, 1) := by decide +kernel
theorem d_2_29_11 : decode prog_2_method_29_code 11 = .ok (.bipush 13, 2) := by decide +kernel
theorem d_2_29_13 : decode prog_2_method_29_code 13 = .ok (.invokestatic 39, 3) := by decide +kernel
theorem d_2_29_16 : decode prog_2_method_29_code 16 = .ok (.iaload, 1) := by decide +kernel
theorem d_2_29_17 : decode prog_2_method_29_code 17 = .ok (.iconst 0, 1) := by decide +kernel
theorem d_2_29_18 : decode prog_2_method_29_code 18 = .ok (.invokevirtual 98, 3) := by decide +kernel
theorem d_2_29_21 : decode prog_2_method_29_code 21 = .ok (.iinc 2 (-13), 3) := by decide +kernel
theorem d_2_29_24 : decode prog_2_method_29_code 24 = .ok (.goto (-22), 3) := by decide +kernel
def y_Big_timesFive : MethodName := ⟨"NumberHouse$Big", "timesFive", "(I)V"⟩
set_option maxRecDepth 100000 in
set_option maxHeartbeats 4000000 in
theorem S_Big_timesFive (l : Launch) (D : va_G) (g : Nat → ClassId) (sh : List q_Ok) (q : Nat → Nat) (ws : va_W) (k : Nat) (R : Int32) (hB : q_isBig sh g q k R) (x1 : Int32) (hI : q_I sh q ws) : q_mV l y_Big_timesFive prog_2_method_29_code 3 2 0 0 D g [.ref (q k), .int x1] ws (fun u => (True) ∧ q_I sh q u ∧ q_un ws u [k, k + 1]) := by
  intro sz
  refine q_into (by decide) (Nat.le_of_ble_eq_true rfl) ?_
  intro p e s m below meth c ls hsz C0 V hl
  have hx := C0.1
  have hb := C0.2.1
  have hR : q_F (0 ≤ R.toInt ∧ R.toInt ≤ 220) := hB.2.2
  have hF : q_un ws ws [k, k + 1] := q_u0
  have hl : lv_has ls 3 [(0, .ref (q k)), (1, .int x1)] := hl
  refine lv_iload_n hx hb d_2_29_0 rfl (lv_at hl 1 rfl) ?_
  refine lv_istore_n (lv' := [(2, .int x1), (0, .ref (q k)), (1, .int x1)]) hx hb d_2_29_1 rfl hl (by decide) rfl (fun ls hl => ?_)
  refine q_loop (X := Int32) (fun z H locs ls w48 => q_F (0 ≤ x1.toInt + (-1 * z.toInt)) ∧ q_Wd D g (va_A ws sz) s w48 H locs ∧ lv_has ls 3 [(2, .int z), (0, .ref (q k)), (1, .int x1)] ∧ q_I sh q w48 ∧ q_un ws w48 [k, k + 1]) (fun z => (z.toInt - ((-1))).toNat) ?_ ((x1 : Int32)) _ _ _ ws ⟨(show q_F (0 ≤ x1.toInt + (-1 * x1.toInt)) from (show 0 ≤ x1.toInt + (-1 * x1.toInt) from by omega)), V, hl, hI, hF⟩
  rintro lx1 H locs ls w48 ⟨i46, V, hl, hI, hF⟩ ih47
  replace i46 : q_F (0 ≤ x1.toInt + (-1 * lx1.toInt)) := i46
  replace hl : lv_has ls 3 [(2, .int lx1), (0, .ref (q k)), (1, .int x1)] := hl
  refine lv_iload_n hx hb d_2_29_2 rfl (lv_at hl 0 rfl) ?_
  refine lv_if_le (tgt := 27) hx hb d_2_29_3 (by decide) (fun c49 => ?_) (fun c49 => ?_)
  ·
    have b50 : q_F (lx1.toInt ≤ 0) := (q_leI c49)
    exact q_retv C0 V (⟨trivial, hI, hF⟩) d_2_29_27
  ·
    have b51 : q_F (0 < lx1.toInt) := (q_nleI c49)
    refine lv_aload_n hx hb d_2_29_6 rfl (lv_at hl 1 rfl) ?_
    refine q_fives C0 V rfl w_798 d_2_29_7 (fun t52 hT53 => ?_)
    refine lv_iload_n hx hb d_2_29_10 rfl (lv_at hl 0 rfl) ?_
    refine lv_bipush (v := 13) hx hb d_2_29_11 (by decide) ?_
    refine q_min C0 hl.1 rfl w_773 w_774 w_7 w_775 ⟨Nat.le_of_ble_eq_true rfl, Nat.le_of_ble_eq_true rfl⟩ ⟨Nat.le_of_ble_eq_true rfl, Nat.le_of_ble_eq_true rfl⟩ d_2_29_13 ?_
    obtain ⟨a54, e55⟩ := q_nm (if 13 < lx1 then 13 else lx1 : Int32)
    refine q_ti (v := a54) e55 ?_
    have b56 : q_F (a54.toInt ≤ lx1.toInt ∧ a54.toInt ≤ 13 ∧ (a54.toInt = lx1.toInt ∨ a54.toInt = 13)) := (by rw [← e55]; show (if 13 < lx1 then 13 else lx1 : Int32).toInt ≤ lx1.toInt ∧ (if 13 < lx1 then 13 else lx1 : Int32).toInt ≤ 13 ∧ ((if 13 < lx1 then 13 else lx1 : Int32).toInt = lx1.toInt ∨ (if 13 < lx1 then 13 else lx1 : Int32).toInt = 13); exact s_min (a := lx1) (b := 13))
    refine q_tald (v := .int (Int32.ofNat (5 ^ a54.toNatClampNeg))) C0 V hT53 (q_ix (x := a54.toInt) rfl (by have t1 : 0 < lx1.toInt := b51; have t2 : a54.toInt ≤ lx1.toInt ∧ a54.toInt ≤ 13 ∧ (a54.toInt = lx1.toInt ∨ a54.toInt = 13) := b56; omega) (by have t1 : 0 < lx1.toInt := b51; have t2 : a54.toInt ≤ lx1.toInt ∧ a54.toInt ≤ 13 ∧ (a54.toInt = lx1.toInt ∨ a54.toInt = 13) := b56; omega)) rfl d_2_29_16 ?_
    obtain ⟨a57, e58⟩ := q_nm (Int32.ofNat (5 ^ a54.toNatClampNeg) : Int32)
    refine q_ti (v := a57) e58 ?_
    have b59 : q_F (1 ≤ a57.toInt ∧ a57.toInt ≤ 1220703125) := (by rw [← e58]; show 1 ≤ (Int32.ofNat (5 ^ a54.toNatClampNeg) : Int32).toInt ∧ (Int32.ofNat (5 ^ a54.toNatClampNeg) : Int32).toInt ≤ 1220703125; exact s_five (by have z := q_clI (i := a54) (x := a54.toInt) rfl (by have t1 : 0 < lx1.toInt := b51; have t2 : a54.toInt ≤ lx1.toInt ∧ a54.toInt ≤ 13 ∧ (a54.toInt = lx1.toInt ∨ a54.toInt = 13) := b56; omega); have t1 : 0 < lx1.toInt := b51; have t2 : a54.toInt ≤ lx1.toInt ∧ a54.toInt ≤ 13 ∧ (a54.toInt = lx1.toInt ∨ a54.toInt = 13) := b56; omega))
    refine lv_iconst (v := 0) hx hb d_2_29_17 (by decide) ?_
    obtain ⟨y62, y63, hO64, b65, b66⟩ := q_bigO hI hB
    replace b65 : q_F (0 ≤ y62.toInt ∧ y62.toInt ≤ R.toInt) := b65
    replace b66 : q_F (0 ≤ y63.toInt ∧ y63.toInt ≤ 1) := b66
    refine q_gov V (q_runV (As := [.int a57, .int 0]) (rest := []) (d := 1) (mc := 0) (ms := 0) (ci := 2) C0 V rfl LV_Big_98 (S_Big_multiplySmall l D g sh q w48 k R hB a57 0 hI  _) rfl rfl hO64 rfl hl.1 rfl (Nat.le_of_ble_eq_true rfl) ⟨by decide, by decide⟩ ⟨Nat.le_of_ble_eq_true rfl, Nat.le_of_ble_eq_true rfl⟩ d_2_29_18) (fun u60 H locs hp61 V => ?_)
    obtain ⟨_, hI, hu67⟩ := hp61
    replace hF := q_uc hF hu67 (by simp)
    obtain ⟨a68, e69⟩ := q_nm (lx1 + (-13) : Int32)
    have b70 : q_F (a68.toInt = lx1.toInt + (-13)) := (by rw [← e69]; exact q_addI (y := (-13)) rfl (by decide) (by have t1 : 0 ≤ x1.toInt + (-1 * lx1.toInt) := i46; have t2 : 0 < lx1.toInt := b51; have _ := q_lo32 (x := x1); have _ := q_hi32 (x := x1); omega) (by have t1 : 0 ≤ x1.toInt + (-1 * lx1.toInt) := i46; have t2 : 0 < lx1.toInt := b51; have _ := q_lo32 (x := x1); have _ := q_hi32 (x := x1); omega))
    refine lv_iinc (v := a68) (lv' := [(2, .int a68), (0, .ref (q k)), (1, .int x1)]) hx hb d_2_29_21 hl (k := 0) rfl (e69) (by decide) rfl (fun ls hl => ?_)
    refine lv_goto (tgt := 2) hx hb d_2_29_24 (by decide) ?_
    exact ih47 ((a68 : Int32)) _ _ _ _ (show (a68.toInt - ((-1))).toNat < (lx1.toInt - ((-1))).toNat from by have t1 : 0 < lx1.toInt := b51; have t2 : a68.toInt = lx1.toInt + (-13) := b70; omega) ⟨(show q_F (0 ≤ x1.toInt + (-1 * a68.toInt)) from (show 0 ≤ x1.toInt + (-1 * a68.toInt) from by have t1 : 0 ≤ x1.toInt + (-1 * lx1.toInt) := i46; have t2 : a68.toInt = lx1.toInt + (-13) := b70; omega)), V, q_lw hl (q_lw1 0 rfl (q_lw1 1 rfl (q_lw1 2 rfl q_lw0))), hI, hF⟩
theorem d_2_30_0 : decode prog_2_method_30_code 0 = .ok (.iconst 0, 1) := by decide +kernel
theorem d_2_30_1 : decode prog_2_method_30_code 1 = .ok (.istore_n 2, 1) := by decide +kernel
theorem d_2_30_2 : decode prog_2_method_30_code 2 = .ok (.iload_n 1, 1) := by decide +kernel
theorem d_2_30_3 : decode prog_2_method_30_code 3 = .ok (.istore_n 3, 1) := by decide +kernel
theorem d_2_30_4 : decode prog_2_method_30_code 4 = .ok (.iload_n 3, 1) := by decide +kernel
theorem d_2_30_5 : decode prog_2_method_30_code 5 = .ok (.ifCond .le 41, 3) := by decide +kernel
theorem d_2_30_46 : decode prog_2_method_30_code 46 = .ok (.iload_n 2, 1) := by decide +kernel
theorem d_2_30_47 : decode prog_2_method_30_code 47 = .ok (.ireturn, 1) := by decide +kernel
theorem d_2_30_8 : decode prog_2_method_30_code 8 = .ok (.aload_n 0, 1) := by decide +kernel
theorem d_2_30_9 : decode prog_2_method_30_code 9 = .ok (.getfield 13, 3) := by decide +kernel
theorem d_2_30_12 : decode prog_2_method_30_code 12 = .ok (.ifCond .le 34, 3) := by decide +kernel
theorem d_2_30_15 : decode prog_2_method_30_code 15 = .ok (.iload_n 2, 1) := by decide +kernel
theorem d_2_30_16 : decode prog_2_method_30_code 16 = .ok (.aload_n 0, 1) := by decide +kernel
theorem d_2_30_17 : decode prog_2_method_30_code 17 = .ok (.getstatic 95, 3) := by decide +kernel
theorem d_2_30_20 : decode prog_2_method_30_code 20 = .ok (.iload_n 3, 1) := by decide +kernel
theorem d_2_30_21 : decode prog_2_method_30_code 21 = .ok (.bipush 9, 2) := by decide +kernel
theorem d_2_30_23 : decode prog_2_method_30_code 23 = .ok (.invokestatic 39, 3) := by decide +kernel
theorem d_2_30_26 : decode prog_2_method_30_code 26 = .ok (.iaload, 1) := by decide +kernel
theorem d_2_30_27 : decode prog_2_method_30_code 27 = .ok (.invokevirtual 105, 3) := by decide +kernel
set_option maxRecDepth 100000 in
theorem w_1042 : (Cond.code ({ cls := "NumberHouse$Big", name := "divideSmall", desc := "(I)I" } : MethodName) prog_2_method_27_code (8 : Nat) (some .int)) ∈ q_tbl := q_of5 82 rfl (by decide +kernel)
set_option maxRecDepth 100000 in
theorem w_1039 : (Cond.methodLink "NumberHouse$Big" (105 : Nat) ({ cls := "NumberHouse$Big", name := "divideSmall", desc := "(I)I" } : MethodName)) ∈ q_tbl := q_of5 79 rfl (by decide +kernel)
set_option maxRecDepth 100000 in
theorem w_1040 : (Cond.instanceMethod ({ cls := "NumberHouse$Big", name := "divideSmall", desc := "(I)I" } : MethodName)) ∈ q_tbl := q_of5 80 rfl (by decide +kernel)
set_option maxRecDepth 100000 in
theorem w_1041 : (Cond.selects "NumberHouse$Big" ({ cls := "NumberHouse$Big", name := "divideSmall", desc := "(I)I" } : MethodName) ({ cls := "NumberHouse$Big", name := "divideSmall", desc := "(I)I" } : MethodName)) ∈ q_tbl := q_of5 81 rfl (by decide +kernel)
theorem LV_Big_105 : q_LV "NumberHouse$Big" 105 y_Big_divideSmall prog_2_method_27_code 8 (some .int) 1 := ⟨w_1042, w_4, w_1039, w_1040, w_1041, ⟨by decide, by decide, by decide +kernel⟩⟩
theorem d_2_30_30 : decode prog_2_method_30_code 30 = .ok (.ifCond .eq 7, 3) := by decide +kernel
theorem d_2_30_37 : decode prog_2_method_30_code 37 = .ok (.iconst 0, 1) := by decide +kernel
theorem d_2_30_38 : decode prog_2_method_30_code 38 = .ok (.ior, 1) := by decide +kernel
theorem d_2_30_39 : decode prog_2_method_30_code 39 = .ok (.istore_n 2, 1) := by decide +kernel
theorem d_2_30_40 : decode prog_2_method_30_code 40 = .ok (.iinc 3 (-9), 3) := by decide +kernel
theorem d_2_30_43 : decode prog_2_method_30_code 43 = .ok (.goto (-39), 3) := by decide +kernel
theorem d_2_30_33 : decode prog_2_method_30_code 33 = .ok (.iconst 1, 1) := by decide +kernel
theorem d_2_30_34 : decode prog_2_method_30_code 34 = .ok (.goto 4, 3) := by decide +kernel
def y_Big_dropFigures : MethodName := ⟨"NumberHouse$Big", "dropFigures", "(I)Z"⟩
set_option maxRecDepth 100000 in
set_option maxHeartbeats 4000000 in
theorem S_Big_dropFigures (l : Launch) (D : va_G) (g : Nat → ClassId) (sh : List q_Ok) (q : Nat → Nat) (ws : va_W) (k : Nat) (R : Int32) (hB : q_isBig sh g q k R) (x1 : Int32) (hI : q_I sh q ws) : q_mI l y_Big_dropFigures prog_2_method_30_code 4 (.boolean) 3 0 0 D g [.ref (q k), .int x1] ws (fun r u => (0 ≤ r.toInt ∧ r.toInt ≤ 1) ∧ q_I sh q u ∧ q_un ws u [k, k + 1]) := by
  intro sz
  refine q_into (by decide) (Nat.le_of_ble_eq_true rfl) ?_
  intro p e s m below meth c ls hsz C0 V hl
  have hx := C0.1
  have hb := C0.2.1
  have hR : q_F (0 ≤ R.toInt ∧ R.toInt ≤ 220) := hB.2.2
  have hF : q_un ws ws [k, k + 1] := q_u0
  have hl : lv_has ls 4 [(0, .ref (q k)), (1, .int x1)] := hl
  refine lv_iconst (v := 0) hx hb d_2_30_0 (by decide) ?_
  refine lv_istore_n (lv' := [(2, .int 0), (0, .ref (q k)), (1, .int x1)]) hx hb d_2_30_1 rfl hl (by decide) rfl (fun ls hl => ?_)
  refine lv_iload_n hx hb d_2_30_2 rfl (lv_at hl 2 rfl) ?_
  refine lv_istore_n (lv' := [(3, .int x1), (2, .int 0), (0, .ref (q k)), (1, .int x1)]) hx hb d_2_30_3 rfl hl (by decide) rfl (fun ls hl => ?_)
  refine q_loop (X := Int32 × Int32) (fun z H locs ls w86 => q_F (0 ≤ z.2.toInt) ∧ q_F (0 ≤ (-1 * z.2.toInt) + 1) ∧ q_F (0 ≤ R.toInt + (-1 * z.2.toInt)) ∧ q_F (0 ≤ (-1 * z.1.toInt) + (-1 * z.2.toInt) + x1.toInt) ∧ q_Wd D g (va_A ws sz) s w86 H locs ∧ lv_has ls 4 [(3, .int z.1), (2, .int z.2), (0, .ref (q k)), (1, .int x1)] ∧ q_I sh q w86 ∧ q_un ws w86 [k, k + 1]) (fun z => (z.1.toInt - ((-1))).toNat) ?_ ((x1 : Int32), (0 : Int32)) _ _ _ ws ⟨(show q_F (0 ≤ 0) from (show 0 ≤ 0 from by omega)), (show q_F (0 ≤ (-1 * 0) + 1) from (show 0 ≤ (-1 * 0) + 1 from by omega)), (show q_F (0 ≤ R.toInt + (-1 * 0)) from (show 0 ≤ R.toInt + (-1 * 0) from by have t1 : 0 ≤ R.toInt ∧ R.toInt ≤ 220 := hR; omega)), (show q_F (0 ≤ (-1 * x1.toInt) + (-1 * 0) + x1.toInt) from (show 0 ≤ (-1 * x1.toInt) + (-1 * 0) + x1.toInt from by omega)), V, hl, hI, hF⟩
  rintro ⟨lx1, lx2⟩ H locs ls w86 ⟨i81, i82, i83, i84, V, hl, hI, hF⟩ ih85
  replace i81 : q_F (0 ≤ lx2.toInt) := i81
  replace i82 : q_F (0 ≤ (-1 * lx2.toInt) + 1) := i82
  replace i83 : q_F (0 ≤ R.toInt + (-1 * lx2.toInt)) := i83
  replace i84 : q_F (0 ≤ (-1 * lx1.toInt) + (-1 * lx2.toInt) + x1.toInt) := i84
  replace hl : lv_has ls 4 [(3, .int lx1), (2, .int lx2), (0, .ref (q k)), (1, .int x1)] := hl
  refine lv_iload_n hx hb d_2_30_4 rfl (lv_at hl 0 rfl) ?_
  refine lv_if_le (tgt := 46) hx hb d_2_30_5 (by decide) (fun c87 => ?_) (fun c87 => ?_)
  ·
    have b88 : q_F (lx1.toInt ≤ 0) := (q_leI c87)
    refine lv_iload_n hx hb d_2_30_46 rfl (lv_at hl 1 rfl) ?_
    exact q_retz C0 V (q_nz01 (q_Ile (x := 0) (y := lx2.toInt) (by decide) rfl (by have t1 : 0 ≤ lx2.toInt := i81; omega)) (q_Ile (x := lx2.toInt) (y := 1) rfl (by decide) (by have t1 : 0 ≤ (-1 * lx2.toInt) + 1 := i82; omega))) (⟨show 0 ≤ lx2.toInt ∧ lx2.toInt ≤ 1 from (by have t1 : 0 ≤ lx2.toInt := i81; have t2 : 0 ≤ (-1 * lx2.toInt) + 1 := i82; omega), hI, hF⟩) d_2_30_47
  ·
    have b89 : q_F (0 < lx1.toInt) := (q_nleI c87)
    refine lv_aload_n hx hb d_2_30_8 rfl (lv_at hl 2 rfl) ?_
    obtain ⟨y90, y91, hO92, b93, b94⟩ := q_bigO hI hB
    replace b93 : q_F (0 ≤ y90.toInt ∧ y90.toInt ≤ R.toInt) := b93
    replace b94 : q_F (0 ≤ y91.toInt ∧ y91.toInt ≤ 1) := b94
    refine q_get (ci := 2) (j := 1) (v := .int y90) C0 V i_Big rfl rfl hO92 (by decide) w_85 rfl d_2_30_9 ?_
    refine lv_if_le (tgt := 46) hx hb d_2_30_12 (by decide) (fun c95 => ?_) (fun c95 => ?_)
    ·
      have b96 : q_F (y90.toInt ≤ 0) := (q_leI c95)
      refine lv_iload_n hx hb d_2_30_46 rfl (lv_at hl 1 rfl) ?_
      exact q_retz C0 V (q_nz01 (q_Ile (x := 0) (y := lx2.toInt) (by decide) rfl (by have t1 : 0 ≤ lx2.toInt := i81; omega)) (q_Ile (x := lx2.toInt) (y := 1) rfl (by decide) (by have t1 : 0 ≤ (-1 * lx2.toInt) + 1 := i82; omega))) (⟨show 0 ≤ lx2.toInt ∧ lx2.toInt ≤ 1 from (by have t1 : 0 ≤ lx2.toInt := i81; have t2 : 0 ≤ (-1 * lx2.toInt) + 1 := i82; omega), hI, hF⟩) d_2_30_47
    ·
      have b97 : q_F (0 < y90.toInt) := (q_nleI c95)
      refine lv_iload_n hx hb d_2_30_15 rfl (lv_at hl 1 rfl) ?_
      refine lv_aload_n hx hb d_2_30_16 rfl (lv_at hl 2 rfl) ?_
      refine q_tens C0 V rfl w_771 d_2_30_17 (fun t98 hT99 => ?_)
      refine lv_iload_n hx hb d_2_30_20 rfl (lv_at hl 0 rfl) ?_
      refine lv_bipush (v := 9) hx hb d_2_30_21 (by decide) ?_
      refine q_min C0 hl.1 rfl w_773 w_774 w_7 w_775 ⟨Nat.le_of_ble_eq_true rfl, Nat.le_of_ble_eq_true rfl⟩ ⟨Nat.le_of_ble_eq_true rfl, Nat.le_of_ble_eq_true rfl⟩ d_2_30_23 ?_
      obtain ⟨a100, e101⟩ := q_nm (if 9 < lx1 then 9 else lx1 : Int32)
      refine q_ti (v := a100) e101 ?_
      have b102 : q_F (a100.toInt ≤ lx1.toInt ∧ a100.toInt ≤ 9 ∧ (a100.toInt = lx1.toInt ∨ a100.toInt = 9)) := (by rw [← e101]; show (if 9 < lx1 then 9 else lx1 : Int32).toInt ≤ lx1.toInt ∧ (if 9 < lx1 then 9 else lx1 : Int32).toInt ≤ 9 ∧ ((if 9 < lx1 then 9 else lx1 : Int32).toInt = lx1.toInt ∨ (if 9 < lx1 then 9 else lx1 : Int32).toInt = 9); exact s_min (a := lx1) (b := 9))
      refine q_tald (v := .int (Int32.ofNat (10 ^ a100.toNatClampNeg))) C0 V hT99 (q_ix (x := a100.toInt) rfl (by have t1 : 0 < lx1.toInt := b89; have t2 : a100.toInt ≤ lx1.toInt ∧ a100.toInt ≤ 9 ∧ (a100.toInt = lx1.toInt ∨ a100.toInt = 9) := b102; omega) (by have t1 : 0 < lx1.toInt := b89; have t2 : a100.toInt ≤ lx1.toInt ∧ a100.toInt ≤ 9 ∧ (a100.toInt = lx1.toInt ∨ a100.toInt = 9) := b102; omega)) rfl d_2_30_26 ?_
      obtain ⟨a103, e104⟩ := q_nm (Int32.ofNat (10 ^ a100.toNatClampNeg) : Int32)
      refine q_ti (v := a103) e104 ?_
      have b105 : q_F (1 ≤ a103.toInt ∧ a103.toInt ≤ 1000000000) := (by rw [← e104]; show 1 ≤ (Int32.ofNat (10 ^ a100.toNatClampNeg) : Int32).toInt ∧ (Int32.ofNat (10 ^ a100.toNatClampNeg) : Int32).toInt ≤ 1000000000; exact s_ten (by have z := q_clI (i := a100) (x := a100.toInt) rfl (by have t1 : 0 < lx1.toInt := b89; have t2 : a100.toInt ≤ lx1.toInt ∧ a100.toInt ≤ 9 ∧ (a100.toInt = lx1.toInt ∨ a100.toInt = 9) := b102; omega); have t1 : 0 < lx1.toInt := b89; have t2 : a100.toInt ≤ lx1.toInt ∧ a100.toInt ≤ 9 ∧ (a100.toInt = lx1.toInt ∨ a100.toInt = 9) := b102; omega))
      refine q_goi V (q_runV (As := [.int a103]) (rest := [.int lx2]) (d := 2) (mc := 0) (ms := 0) (ci := 2) C0 V rfl LV_Big_105 (S_Big_divideSmall l D g sh q w86 k R hB a103 hI  _) rfl rfl hO92 rfl hl.1 rfl (Nat.le_of_ble_eq_true rfl) ⟨by decide, by decide⟩ ⟨Nat.le_of_ble_eq_true rfl, Nat.le_of_ble_eq_true rfl⟩ d_2_30_27) (fun a108 u106 H locs hp107 V => ?_)
      obtain ⟨b109, hI, hu110⟩ := hp107
      replace b109 : q_F (True) := b109
      replace hF := q_uc hF hu110 (by simp)
      refine lv_if_eq (tgt := 37) hx hb d_2_30_30 (by decide) (fun c111 => ?_) (fun c111 => ?_)
      ·
        have b112 : q_F (a108.toInt = 0) := (q_eqI c111)
        refine lv_iconst (v := 0) hx hb d_2_30_37 (by decide) ?_
        refine lv_ior hx hb d_2_30_38 ?_
        obtain ⟨a113, e114⟩ := q_nm (lx2 ||| 0 : Int32)
        refine q_ti (v := a113) e114 ?_
        have b115 : q_F (0 ≤ a113.toInt ∧ a113.toInt ≤ 1) := (by rw [← e114]; show 0 ≤ (lx2 ||| 0 : Int32).toInt ∧ (lx2 ||| 0 : Int32).toInt ≤ 1; exact s_or' (x := lx2) (y := 0) 1 (by decide) 1 (by decide) ⟨(by have t1 : 0 ≤ lx2.toInt := i81; have t2 : 0 ≤ (-1 * lx2.toInt) + 1 := i82; omega), (by have t1 : 0 ≤ lx2.toInt := i81; have t2 : 0 ≤ (-1 * lx2.toInt) + 1 := i82; omega)⟩ ⟨(by have z7 : (0 : Int32).toInt = 0 := rfl; omega), (by have z7 : (0 : Int32).toInt = 0 := rfl; omega)⟩)
        refine lv_istore_n (lv' := [(2, .int a113), (3, .int lx1), (0, .ref (q k)), (1, .int x1)]) hx hb d_2_30_39 rfl hl (by decide) rfl (fun ls hl => ?_)
        obtain ⟨a116, e117⟩ := q_nm (lx1 + (-9) : Int32)
        have b118 : q_F (a116.toInt = lx1.toInt + (-9)) := (by rw [← e117]; exact q_addI (y := (-9)) rfl (by decide) (by have t1 : 0 < lx1.toInt := b89; have _ := q_lo32 (x := lx1); have _ := q_hi32 (x := lx1); omega) (by have t1 : 0 < lx1.toInt := b89; have _ := q_lo32 (x := lx1); have _ := q_hi32 (x := lx1); omega))
        refine lv_iinc (v := a116) (lv' := [(3, .int a116), (2, .int a113), (0, .ref (q k)), (1, .int x1)]) hx hb d_2_30_40 hl (k := 1) rfl (e117) (by decide) rfl (fun ls hl => ?_)
        refine lv_goto (tgt := 4) hx hb d_2_30_43 (by decide) ?_
        exact ih85 ((a116 : Int32), (a113 : Int32)) _ _ _ _ (show (a116.toInt - ((-1))).toNat < (lx1.toInt - ((-1))).toNat from by have t1 : 0 < lx1.toInt := b89; have t2 : a116.toInt = lx1.toInt + (-9) := b118; omega) ⟨(show q_F (0 ≤ a113.toInt) from (show 0 ≤ a113.toInt from by have t1 : 0 ≤ a113.toInt ∧ a113.toInt ≤ 1 := b115; omega)), (show q_F (0 ≤ (-1 * a113.toInt) + 1) from (show 0 ≤ (-1 * a113.toInt) + 1 from by have t1 : 0 ≤ a113.toInt ∧ a113.toInt ≤ 1 := b115; omega)), (show q_F (0 ≤ R.toInt + (-1 * a113.toInt)) from (show 0 ≤ R.toInt + (-1 * a113.toInt) from by have t1 : 0 ≤ y90.toInt ∧ y90.toInt ≤ R.toInt := b93; have t2 : 0 < y90.toInt := b97; have t3 : 0 ≤ a113.toInt ∧ a113.toInt ≤ 1 := b115; omega)), (show q_F (0 ≤ (-1 * a116.toInt) + (-1 * a113.toInt) + x1.toInt) from (show 0 ≤ (-1 * a116.toInt) + (-1 * a113.toInt) + x1.toInt from by have t1 : 0 ≤ lx2.toInt := i81; have t2 : 0 ≤ (-1 * lx1.toInt) + (-1 * lx2.toInt) + x1.toInt := i84; have t3 : 0 ≤ a113.toInt ∧ a113.toInt ≤ 1 := b115; have t4 : a116.toInt = lx1.toInt + (-9) := b118; omega)), V, q_lw hl (q_lw1 0 rfl (q_lw1 1 rfl (q_lw1 2 rfl (q_lw1 3 rfl q_lw0)))), hI, hF⟩
      ·
        have b119 : q_F (a108.toInt ≠ 0) := (q_neI c111)
        refine lv_iconst (v := 1) hx hb d_2_30_33 (by decide) ?_
        refine lv_goto (tgt := 38) hx hb d_2_30_34 (by decide) ?_
        refine lv_ior hx hb d_2_30_38 ?_
        obtain ⟨a120, e121⟩ := q_nm (lx2 ||| 1 : Int32)
        refine q_ti (v := a120) e121 ?_
        have b122 : q_F (0 ≤ a120.toInt ∧ a120.toInt ≤ 1) := (by rw [← e121]; show 0 ≤ (lx2 ||| 1 : Int32).toInt ∧ (lx2 ||| 1 : Int32).toInt ≤ 1; exact s_or' (x := lx2) (y := 1) 1 (by decide) 1 (by decide) ⟨(by have t1 : 0 ≤ lx2.toInt := i81; have t2 : 0 ≤ (-1 * lx2.toInt) + 1 := i82; omega), (by have t1 : 0 ≤ lx2.toInt := i81; have t2 : 0 ≤ (-1 * lx2.toInt) + 1 := i82; omega)⟩ ⟨(by have z7 : (1 : Int32).toInt = 1 := rfl; omega), (by have z7 : (1 : Int32).toInt = 1 := rfl; omega)⟩)
        refine lv_istore_n (lv' := [(2, .int a120), (3, .int lx1), (0, .ref (q k)), (1, .int x1)]) hx hb d_2_30_39 rfl hl (by decide) rfl (fun ls hl => ?_)
        obtain ⟨a123, e124⟩ := q_nm (lx1 + (-9) : Int32)
        have b125 : q_F (a123.toInt = lx1.toInt + (-9)) := (by rw [← e124]; exact q_addI (y := (-9)) rfl (by decide) (by have t1 : 0 < lx1.toInt := b89; have _ := q_lo32 (x := lx1); have _ := q_hi32 (x := lx1); omega) (by have t1 : 0 < lx1.toInt := b89; have _ := q_lo32 (x := lx1); have _ := q_hi32 (x := lx1); omega))
        refine lv_iinc (v := a123) (lv' := [(3, .int a123), (2, .int a120), (0, .ref (q k)), (1, .int x1)]) hx hb d_2_30_40 hl (k := 1) rfl (e124) (by decide) rfl (fun ls hl => ?_)
        refine lv_goto (tgt := 4) hx hb d_2_30_43 (by decide) ?_
        exact ih85 ((a123 : Int32), (a120 : Int32)) _ _ _ _ (show (a123.toInt - ((-1))).toNat < (lx1.toInt - ((-1))).toNat from by have t1 : 0 < lx1.toInt := b89; have t2 : a123.toInt = lx1.toInt + (-9) := b125; omega) ⟨(show q_F (0 ≤ a120.toInt) from (show 0 ≤ a120.toInt from by have t1 : 0 ≤ a120.toInt ∧ a120.toInt ≤ 1 := b122; omega)), (show q_F (0 ≤ (-1 * a120.toInt) + 1) from (show 0 ≤ (-1 * a120.toInt) + 1 from by have t1 : 0 ≤ a120.toInt ∧ a120.toInt ≤ 1 := b122; omega)), (show q_F (0 ≤ R.toInt + (-1 * a120.toInt)) from (show 0 ≤ R.toInt + (-1 * a120.toInt) from by have t1 : 0 ≤ y90.toInt ∧ y90.toInt ≤ R.toInt := b93; have t2 : 0 < y90.toInt := b97; have t3 : 0 ≤ a120.toInt ∧ a120.toInt ≤ 1 := b122; omega)), (show q_F (0 ≤ (-1 * a123.toInt) + (-1 * a120.toInt) + x1.toInt) from (show 0 ≤ (-1 * a123.toInt) + (-1 * a120.toInt) + x1.toInt from by have t1 : 0 ≤ lx2.toInt := i81; have t2 : 0 ≤ (-1 * lx1.toInt) + (-1 * lx2.toInt) + x1.toInt := i84; have t3 : 0 ≤ a120.toInt ∧ a120.toInt ≤ 1 := b122; have t4 : a123.toInt = lx1.toInt + (-9) := b125; omega)), V, q_lw hl (q_lw1 0 rfl (q_lw1 1 rfl (q_lw1 2 rfl (q_lw1 3 rfl q_lw0)))), hI, hF⟩
theorem d_37_30_0 : decode prog_37_method_30_code 0 = .ok (.iload_n 1, 1) := by decide +kernel
theorem d_37_30_1 : decode prog_37_method_30_code 1 = .ok (.iload_n 2, 1) := by decide +kernel
theorem d_37_30_2 : decode prog_37_method_30_code 2 = .ok (.if_icmp .le 44, 3) := by decide +kernel
theorem d_37_30_46 : decode prog_37_method_30_code 46 = .ok (.iload_n 1, 1) := by decide +kernel
theorem d_37_30_47 : decode prog_37_method_30_code 47 = .ok (.ifCond .ge 12, 3) := by decide +kernel
theorem d_37_30_59 : decode prog_37_method_30_code 59 = .ok (.iload_n 2, 1) := by decide +kernel
theorem d_37_30_60 : decode prog_37_method_30_code 60 = .ok (.iload_n 0, 1) := by decide +kernel
theorem d_37_30_61 : decode prog_37_method_30_code 61 = .ok (.if_icmp .le 12, 3) := by decide +kernel
theorem d_37_30_73 : decode prog_37_method_30_code 73 = .ok (.return_, 1) := by decide +kernel
def y_jArr_rangeCheck : MethodName := ⟨"java/util/Arrays", "rangeCheck", "(III)V"⟩
set_option maxRecDepth 100000 in
set_option maxHeartbeats 4000000 in
theorem S_Arr_rangeCheck (l : Launch) (D : va_G) (g : Nat → ClassId) (sh : List q_Ok) (q : Nat → Nat) (ws : va_W) (x1 : Int32) (x2 : Int32) (x3 : Int32) (hI : q_I sh q ws) (pre0 : 0 ≤ x2.toInt) (pre1 : 0 ≤ x3.toInt + (-1 * x2.toInt)) (pre2 : 0 ≤ x1.toInt + (-1 * x3.toInt)) : q_mV l y_jArr_rangeCheck prog_37_method_30_code 3 1 0 0 D g [.int x1, .int x2, .int x3] ws (fun u => (True) ∧ ws = u) := by
  intro sz
  refine q_into (by decide) (Nat.le_of_ble_eq_true rfl) ?_
  intro p e s m below meth c ls hsz C0 V hl
  have hx := C0.1
  have hb := C0.2.1
  replace pre0 : q_F (0 ≤ x2.toInt) := pre0
  replace pre1 : q_F (0 ≤ x3.toInt + (-1 * x2.toInt)) := pre1
  replace pre2 : q_F (0 ≤ x1.toInt + (-1 * x3.toInt)) := pre2
  have hl : lv_has ls 3 [(0, .int x1), (1, .int x2), (2, .int x3)] := hl
  refine lv_iload_n hx hb d_37_30_0 rfl (lv_at hl 1 rfl) ?_
  refine lv_iload_n hx hb d_37_30_1 rfl (lv_at hl 2 rfl) ?_
  refine lv_icmp_le (tgt := 46) hx hb d_37_30_2 (by decide) (fun c1 => ?_) (fun c1 => absurd (show x3.toInt < x2.toInt from q_nleI c1) (by have t1 : 0 ≤ x3.toInt + (-1 * x2.toInt) := pre1; omega))
  refine lv_iload_n hx hb d_37_30_46 rfl (lv_at hl 1 rfl) ?_
  refine lv_if_ge (tgt := 59) hx hb d_37_30_47 (by decide) (fun c2 => ?_) (fun c2 => absurd (show x2.toInt < 0 from q_nleI c2) (by have t1 : 0 ≤ x2.toInt := pre0; omega))
  refine lv_iload_n hx hb d_37_30_59 rfl (lv_at hl 2 rfl) ?_
  refine lv_iload_n hx hb d_37_30_60 rfl (lv_at hl 0 rfl) ?_
  refine lv_icmp_le (tgt := 73) hx hb d_37_30_61 (by decide) (fun c3 => ?_) (fun c3 => absurd (show x1.toInt < x3.toInt from q_nleI c3) (by have t1 : 0 ≤ x1.toInt + (-1 * x3.toInt) := pre2; omega))
  exact q_retv C0 V (⟨trivial, rfl⟩) d_37_30_73
theorem d_37_104_0 : decode prog_37_method_104_code 0 = .ok (.aload_n 0, 1) := by decide +kernel
theorem d_37_104_1 : decode prog_37_method_104_code 1 = .ok (.arraylength, 1) := by decide +kernel
theorem d_37_104_2 : decode prog_37_method_104_code 2 = .ok (.iload_n 1, 1) := by decide +kernel
theorem d_37_104_3 : decode prog_37_method_104_code 3 = .ok (.iload_n 2, 1) := by decide +kernel
theorem d_37_104_4 : decode prog_37_method_104_code 4 = .ok (.invokestatic 13, 3) := by decide +kernel
set_option maxRecDepth 100000 in
theorem w_815 : (Cond.code ({ cls := "java/util/Arrays", name := "rangeCheck", desc := "(III)V" } : MethodName) prog_37_method_30_code (3 : Nat) (none : Option ClassFile.FieldType)) ∈ q_tbl := q_of4 95 rfl (by decide +kernel)
set_option maxRecDepth 100000 in
theorem w_30 : (Cond.initialized "java/util/Arrays") ∈ q_tbl := q_of1 30 rfl (by decide +kernel)
set_option maxRecDepth 100000 in
theorem w_813 : (Cond.methodLink "java/util/Arrays" (13 : Nat) ({ cls := "java/util/Arrays", name := "rangeCheck", desc := "(III)V" } : MethodName)) ∈ q_tbl := q_of4 93 rfl (by decide +kernel)
set_option maxRecDepth 100000 in
theorem w_814 : (Cond.static ({ cls := "java/util/Arrays", name := "rangeCheck", desc := "(III)V" } : MethodName)) ∈ q_tbl := q_of4 94 rfl (by decide +kernel)
theorem LS_jArr_13 : q_LS "java/util/Arrays" 13 y_jArr_rangeCheck prog_37_method_30_code 3 none 3 := ⟨w_815, w_30, w_813, w_814, ⟨by decide, by decide, by decide +kernel⟩⟩
theorem d_37_104_7 : decode prog_37_method_104_code 7 = .ok (.iload_n 1, 1) := by decide +kernel
theorem d_37_104_8 : decode prog_37_method_104_code 8 = .ok (.istore 4, 2) := by decide +kernel
theorem d_37_104_10 : decode prog_37_method_104_code 10 = .ok (.iload 4, 2) := by decide +kernel
theorem d_37_104_12 : decode prog_37_method_104_code 12 = .ok (.iload_n 2, 1) := by decide +kernel
theorem d_37_104_13 : decode prog_37_method_104_code 13 = .ok (.if_icmp .ge 14, 3) := by decide +kernel
theorem d_37_104_27 : decode prog_37_method_104_code 27 = .ok (.return_, 1) := by decide +kernel
theorem d_37_104_16 : decode prog_37_method_104_code 16 = .ok (.aload_n 0, 1) := by decide +kernel
theorem d_37_104_17 : decode prog_37_method_104_code 17 = .ok (.iload 4, 2) := by decide +kernel
theorem d_37_104_19 : decode prog_37_method_104_code 19 = .ok (.iload_n 3, 1) := by decide +kernel
theorem d_37_104_20 : decode prog_37_method_104_code 20 = .ok (.iastore, 1) := by decide +kernel
theorem d_37_104_21 : decode prog_37_method_104_code 21 = .ok (.iinc 4 1, 3) := by decide +kernel
theorem d_37_104_24 : decode prog_37_method_104_code 24 = .ok (.goto (-14), 3) := by decide +kernel
def y_jArr_fill : MethodName := ⟨"java/util/Arrays", "fill", "([IIII)V"⟩
set_option maxRecDepth 100000 in
set_option maxHeartbeats 4000000 in
theorem S_Arr_fill (l : Launch) (D : va_G) (g : Nat → ClassId) (sh : List q_Ok) (q : Nat → Nat) (ws : va_W) (k : Nat) (R : Int32) (hB : q_isBig sh g q k R) (x1 : Int32) (x2 : Int32) (x3 : Int32) (hI : q_I sh q ws) (pre0 : 0 ≤ x1.toInt) (pre1 : 0 ≤ x2.toInt + (-1 * x1.toInt)) (pre2 : 0 ≤ R.toInt + (-1 * x2.toInt)) : q_mV l y_jArr_fill prog_37_method_104_code 5 2 0 0 D g [.ref (q (k + 1)), .int x1, .int x2, .int x3] ws (fun u => (True) ∧ q_I sh q u ∧ q_un ws u [k + 1]) := by
  intro sz
  refine q_into (by decide) (Nat.le_of_ble_eq_true rfl) ?_
  intro p e s m below meth c ls hsz C0 V hl
  have hx := C0.1
  have hb := C0.2.1
  have hR : q_F (0 ≤ R.toInt ∧ R.toInt ≤ 220) := hB.2.2
  replace pre0 : q_F (0 ≤ x1.toInt) := pre0
  replace pre1 : q_F (0 ≤ x2.toInt + (-1 * x1.toInt)) := pre1
  replace pre2 : q_F (0 ≤ R.toInt + (-1 * x2.toInt)) := pre2
  have hF : q_un ws ws [k + 1] := q_u0
  have hl : lv_has ls 5 [(0, .ref (q (k + 1))), (1, .int x1), (2, .int x2), (3, .int x3)] := hl
  refine lv_aload_n hx hb d_37_104_0 rfl (lv_at hl 0 rfl) ?_
  obtain ⟨f1, hA2, bf3⟩ := q_bigA hI hB
  refine q_alen (t := 0) (v := R) C0 V hA2 rfl (s_len (by have t1 : 0 ≤ R.toInt ∧ R.toInt ≤ 220 := hR; omega)) d_37_104_1 ?_
  refine lv_iload_n hx hb d_37_104_2 rfl (lv_at hl 1 rfl) ?_
  refine lv_iload_n hx hb d_37_104_3 rfl (lv_at hl 2 rfl) ?_
  refine q_gov V (q_runS (As := [.int R, .int x1, .int x2]) (rest := []) (d := 1) (mc := 0) (ms := 0) C0 V rfl LS_jArr_13 (S_Arr_rangeCheck l D g sh q ws R x1 x2 hI (by have t1 : 0 ≤ x1.toInt := pre0; omega) (by have t1 : 0 ≤ x2.toInt + (-1 * x1.toInt) := pre1; omega) (by have t1 : 0 ≤ R.toInt + (-1 * x2.toInt) := pre2; omega) _) rfl hl.1 rfl (Nat.le_of_ble_eq_true rfl) ⟨by decide, by decide⟩ ⟨Nat.le_of_ble_eq_true rfl, Nat.le_of_ble_eq_true rfl⟩ d_37_104_4) (fun u4 H locs hp5 V => ?_)
  obtain ⟨_, rfl⟩ := hp5
  refine lv_iload_n hx hb d_37_104_7 rfl (lv_at hl 1 rfl) ?_
  refine lv_istore (lv' := [(4, .int x1), (0, .ref (q (k + 1))), (1, .int x1), (2, .int x2), (3, .int x3)]) hx hb d_37_104_8 hl (by decide) rfl (fun ls hl => ?_)
  refine q_loop (X := Int32) (fun z H locs ls w43 => q_F (0 ≤ z.toInt + (-1 * x1.toInt)) ∧ q_F (0 ≤ x2.toInt + (-1 * z.toInt)) ∧ q_Wd D g (va_A ws sz) s w43 H locs ∧ lv_has ls 5 [(4, .int z), (0, .ref (q (k + 1))), (1, .int x1), (2, .int x2), (3, .int x3)] ∧ q_I sh q w43 ∧ q_un ws w43 [k + 1]) (fun z => (R.toInt - z.toInt).toNat) ?_ ((x1 : Int32)) _ _ _ ws ⟨(show q_F (0 ≤ x1.toInt + (-1 * x1.toInt)) from (show 0 ≤ x1.toInt + (-1 * x1.toInt) from by omega)), (show q_F (0 ≤ x2.toInt + (-1 * x1.toInt)) from (show 0 ≤ x2.toInt + (-1 * x1.toInt) from by have t1 : 0 ≤ x2.toInt + (-1 * x1.toInt) := pre1; omega)), V, hl, hI, hF⟩
  rintro lx6 H locs ls w43 ⟨i40, i41, V, hl, hI, hF⟩ ih42
  replace i40 : q_F (0 ≤ lx6.toInt + (-1 * x1.toInt)) := i40
  replace i41 : q_F (0 ≤ x2.toInt + (-1 * lx6.toInt)) := i41
  replace hl : lv_has ls 5 [(4, .int lx6), (0, .ref (q (k + 1))), (1, .int x1), (2, .int x2), (3, .int x3)] := hl
  refine lv_iload hx hb d_37_104_10 (lv_at hl 0 rfl) ?_
  refine lv_iload_n hx hb d_37_104_12 rfl (lv_at hl 3 rfl) ?_
  refine lv_icmp_ge (tgt := 27) hx hb d_37_104_13 (by decide) (fun c44 => ?_) (fun c44 => ?_)
  ·
    have b45 : q_F (x2.toInt ≤ lx6.toInt) := (q_leI c44)
    exact q_retv C0 V (⟨trivial, hI, hF⟩) d_37_104_27
  ·
    have b46 : q_F (lx6.toInt < x2.toInt) := (q_nleI c44)
    refine lv_aload_n hx hb d_37_104_16 rfl (lv_at hl 1 rfl) ?_
    refine lv_iload hx hb d_37_104_17 (lv_at hl 0 rfl) ?_
    refine lv_iload_n hx hb d_37_104_19 rfl (lv_at hl 4 rfl) ?_
    obtain ⟨f47, hA48, bf49⟩ := q_bigA hI hB
    refine q_iast C0 V hA48 (q_ix (x := lx6.toInt) rfl (by have t1 : 0 ≤ x1.toInt := pre0; have t2 : 0 ≤ lx6.toInt + (-1 * x1.toInt) := i40; omega) (by have t1 : 0 ≤ x1.toInt := pre0; have t2 : 0 ≤ R.toInt + (-1 * x2.toInt) := pre2; have t3 : 0 ≤ lx6.toInt + (-1 * x1.toInt) := i40; have t4 : lx6.toInt < x2.toInt := b46; have e9 := q_clI (i := R) rfl (by have t1 : 0 ≤ R.toInt ∧ R.toInt ≤ 220 := hR; omega); omega)) d_37_104_20 (fun H locs w50 hu51 hA48 V => ?_)
    replace hI := q_bigA' hI hB hu51 hA48 (q_updB bf49 s_bnd)
    replace hF := q_us hF hu51 (by simp)
    obtain ⟨a52, e53⟩ := q_nm (lx6 + 1 : Int32)
    have b54 : q_F (a52.toInt = lx6.toInt + 1) := (by rw [← e53]; exact q_addI (y := 1) rfl (by decide) (by have t1 : 0 ≤ R.toInt ∧ R.toInt ≤ 220 := hR; have t2 : 0 ≤ x1.toInt := pre0; have t3 : 0 ≤ R.toInt + (-1 * x2.toInt) := pre2; have t4 : 0 ≤ lx6.toInt + (-1 * x1.toInt) := i40; have t5 : 0 ≤ x2.toInt + (-1 * lx6.toInt) := i41; omega) (by have t1 : 0 ≤ R.toInt ∧ R.toInt ≤ 220 := hR; have t2 : 0 ≤ x1.toInt := pre0; have t3 : 0 ≤ R.toInt + (-1 * x2.toInt) := pre2; have t4 : 0 ≤ lx6.toInt + (-1 * x1.toInt) := i40; have t5 : 0 ≤ x2.toInt + (-1 * lx6.toInt) := i41; omega))
    refine lv_iinc (v := a52) (lv' := [(4, .int a52), (0, .ref (q (k + 1))), (1, .int x1), (2, .int x2), (3, .int x3)]) hx hb d_37_104_21 hl (k := 0) rfl (e53) (by decide) rfl (fun ls hl => ?_)
    refine lv_goto (tgt := 10) hx hb d_37_104_24 (by decide) ?_
    exact ih42 ((a52 : Int32)) _ _ _ _ (show (R.toInt - a52.toInt).toNat < (R.toInt - lx6.toInt).toNat from by have t1 : 0 ≤ R.toInt + (-1 * x2.toInt) := pre2; have t2 : lx6.toInt < x2.toInt := b46; have t3 : a52.toInt = lx6.toInt + 1 := b54; omega) ⟨(show q_F (0 ≤ a52.toInt + (-1 * x1.toInt)) from (show 0 ≤ a52.toInt + (-1 * x1.toInt) from by have t1 : 0 ≤ lx6.toInt + (-1 * x1.toInt) := i40; have t2 : a52.toInt = lx6.toInt + 1 := b54; omega)), (show q_F (0 ≤ x2.toInt + (-1 * a52.toInt)) from (show 0 ≤ x2.toInt + (-1 * a52.toInt) from by have t1 : lx6.toInt < x2.toInt := b46; have t2 : a52.toInt = lx6.toInt + 1 := b54; omega)), V, q_lw hl (q_lw1 0 rfl (q_lw1 1 rfl (q_lw1 2 rfl (q_lw1 3 rfl (q_lw1 4 rfl q_lw0))))), hI, hF⟩

