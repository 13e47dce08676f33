/-! Big, any state -/
set_option maxRecDepth 100000 in
set_option maxHeartbeats 4000000 in
theorem S_Big_clear (l : Launch) (D : va_G) (g : Nat → ClassId) (sh : List q_Ok) (q : Nat → Nat) (ws : va_W) (k : Nat) (R : Int32) (hB : q_isBig sh g q k R) (hI : q_I sh q ws) : q_mV l y_Big_clear prog_2_method_2_code 1 1 0 0 D g [.ref (q k)] ws (fun u => (True) ∧ q_I sh q u ∧ q_un ws u [k, k + 1]) := by
  intro sz
  refine q_into (by decide) (Nat.le_of_ble_eq_true rfl) ?_
  intro p e s m below meth c ls hsz C0 V hl
  have hx := C0.1
  have hb := C0.2.1
  have hR : q_F (0 ≤ R.toInt ∧ R.toInt ≤ 220) := hB.2.2
  have hF : q_un ws ws [k, k + 1] := q_u0
  have hl : lv_has ls 1 [(0, .ref (q k))] := hl
  refine lv_aload_n hx hb d_2_2_0 rfl (lv_at hl 0 rfl) ?_
  refine lv_iconst (v := 0) hx hb d_2_2_1 (by decide) ?_
  obtain ⟨y1, y2, hO3, b4, b5⟩ := q_bigO hI hB
  replace b4 : q_F (0 ≤ y1.toInt ∧ y1.toInt ≤ R.toInt) := b4
  replace b5 : q_F (0 ≤ y2.toInt ∧ y2.toInt ≤ 1) := b5
  refine q_put (ci := 2) (j := 1) (v := .int 0) (ty := .int) C0 V i_Big o_Big n_Big rfl rfl hO3 (by decide) w_85 rfl rfl rfl rfl (Nat.le_of_ble_eq_true rfl) d_2_2_2 (fun H locs w6 hu7 hO3 V => ?_)
  replace hO3 : w6[k]? = (some (q k, .inr (2, [.ref (q (k + 1)), .int 0, .int y2])) : Option (Nat × va_E)) := hO3
  replace hI := q_bigO' hI hB hu7 hO3 ⟨(by have z9 : (0 : Int32).toInt = 0 := rfl; omega), (by have z9 : (0 : Int32).toInt = 0 := rfl; have t1 : 0 ≤ R.toInt ∧ R.toInt ≤ 220 := hR; omega)⟩ ⟨(by have t1 : 0 ≤ y2.toInt ∧ y2.toInt ≤ 1 := b5; omega), (by have t1 : 0 ≤ y2.toInt ∧ y2.toInt ≤ 1 := b5; omega)⟩
  replace hF := q_us hF hu7 (by simp)
  refine lv_aload_n hx hb d_2_2_5 rfl (lv_at hl 0 rfl) ?_
  refine lv_iconst (v := 0) hx hb d_2_2_6 (by decide) ?_
  refine q_put (ci := 2) (j := 2) (v := .int 0) (ty := .boolean) C0 V i_Big o_Big n_Big rfl rfl hO3 (by decide) w_94 rfl rfl rfl rfl (Nat.le_of_ble_eq_true rfl) d_2_2_7 (fun H locs w8 hu9 hO3 V => ?_)
  replace hO3 : w8[k]? = (some (q k, .inr (2, [.ref (q (k + 1)), .int 0, .int 0])) : Option (Nat × va_E)) := hO3
  replace hI := q_bigO' hI hB hu9 hO3 ⟨(by have z9 : (0 : Int32).toInt = 0 := rfl; omega), (by have z9 : (0 : Int32).toInt = 0 := rfl; have t1 : 0 ≤ R.toInt ∧ R.toInt ≤ 220 := hR; omega)⟩ ⟨(by have z9 : (0 : Int32).toInt = 0 := rfl; omega), (by have z9 : (0 : Int32).toInt = 0 := rfl; omega)⟩
  replace hF := q_us hF hu9 (by simp)
  exact q_retv C0 V (⟨trivial, hI, hF⟩) d_2_2_10
theorem d_2_5_12 : decode prog_2_method_5_code 12 = .ok (.aload_n 0, 1) := by decide +kernel
theorem d_2_5_13 : decode prog_2_method_5_code 13 = .ok (.getfield 7, 3) := by decide +kernel
theorem d_2_5_16 : decode prog_2_method_5_code 16 = .ok (.iload_n 1, 1) := by decide +kernel
theorem d_2_5_17 : decode prog_2_method_5_code 17 = .ok (.iaload, 1) := by decide +kernel
theorem d_2_5_18 : decode prog_2_method_5_code 18 = .ok (.goto 4, 3) := by decide +kernel
set_option maxRecDepth 100000 in
set_option maxHeartbeats 4000000 in
theorem S_Big_limb (l : Launch) (D : va_G) (g : Nat → ClassId) (sh : List q_Ok) (q : Nat → Nat) (ws : va_W) (k : Nat) (R : Int32) (hB : q_isBig sh g q k R) (x1 : Int32) (hI : q_I sh q ws) : q_mI l y_Big_limb prog_2_method_5_code 2 (.int) 1 0 0 D g [.ref (q k), .int x1] ws (fun r u => (0 ≤ r.toInt ∧ r.toInt ≤ 2147483647) ∧ ws = u) := by
  intro sz
  refine q_into (by decide) (Nat.le_of_ble_eq_true rfl) ?_
  intro p e s m below meth c ls hsz C0 V hl
  have hx := C0.1
  have hb := C0.2.1
  have hR : q_F (0 ≤ R.toInt ∧ R.toInt ≤ 220) := hB.2.2
  have hl : lv_has ls 2 [(0, .ref (q k)), (1, .int x1)] := hl
  refine lv_iload_n hx hb d_2_5_0 rfl (lv_at hl 1 rfl) ?_
  refine lv_if_lt (tgt := 21) hx hb d_2_5_1 (by decide) (fun c1 => ?_) (fun c1 => ?_)
  ·
    have b2 : q_F (x1.toInt < 0) := (q_ltI c1)
    refine lv_iconst (v := 0) hx hb d_2_5_21 (by decide) ?_
    exact q_reti C0 V (⟨show 0 ≤ (0 : Int32).toInt ∧ (0 : Int32).toInt ≤ 2147483647 from (by have z9 : (0 : Int32).toInt = 0 := rfl; omega), rfl⟩) d_2_5_22
  ·
    have b3 : q_F (0 ≤ x1.toInt) := (q_nltI c1)
    refine lv_iload_n hx hb d_2_5_4 rfl (lv_at hl 1 rfl) ?_
    refine lv_aload_n hx hb d_2_5_5 rfl (lv_at hl 0 rfl) ?_
    obtain ⟨y4, y5, hO6, b7, b8⟩ := q_bigO hI hB
    replace b7 : q_F (0 ≤ y4.toInt ∧ y4.toInt ≤ R.toInt) := b7
    replace b8 : q_F (0 ≤ y5.toInt ∧ y5.toInt ≤ 1) := b8
    refine q_get (ci := 2) (j := 1) (v := .int y4) C0 V i_Big rfl rfl hO6 (by decide) w_85 rfl d_2_5_6 ?_
    refine lv_icmp_ge (tgt := 21) hx hb d_2_5_9 (by decide) (fun c9 => ?_) (fun c9 => ?_)
    ·
      have b10 : q_F (y4.toInt ≤ x1.toInt) := (q_leI c9)
      refine lv_iconst (v := 0) hx hb d_2_5_21 (by decide) ?_
      exact q_reti C0 V (⟨show 0 ≤ (0 : Int32).toInt ∧ (0 : Int32).toInt ≤ 2147483647 from (by have z9 : (0 : Int32).toInt = 0 := rfl; omega), rfl⟩) d_2_5_22
    ·
      have b11 : q_F (x1.toInt < y4.toInt) := (q_nleI c9)
      refine lv_aload_n hx hb d_2_5_12 rfl (lv_at hl 0 rfl) ?_
      refine q_get (ci := 2) (j := 0) (v := .ref (q (k + 1))) C0 V i_Big rfl rfl hO6 (by decide) w_84 rfl d_2_5_13 ?_
      refine lv_iload_n hx hb d_2_5_16 rfl (lv_at hl 1 rfl) ?_
      obtain ⟨f12, hA13, bf14⟩ := q_bigA hI hB
      refine q_iald C0 V hA13 (q_ix (x := x1.toInt) rfl (by have t1 : 0 ≤ x1.toInt := b3; omega) (by have t1 : 0 ≤ x1.toInt := b3; have t2 : 0 ≤ y4.toInt ∧ y4.toInt ≤ R.toInt := b7; have t3 : x1.toInt < y4.toInt := b11; have e9 := q_clI (i := R) rfl (by have t1 : 0 ≤ R.toInt ∧ R.toInt ≤ 220 := hR; omega); omega)) d_2_5_17 ?_
      obtain ⟨a15, e16⟩ := q_nm (f12 x1.toNatClampNeg : Int32)
      refine q_ti (v := a15) e16 ?_
      have b17 : q_F (0 ≤ a15.toInt ∧ a15.toInt ≤ 2147483647) := (by rw [← e16]; exact bf14 _)
      refine lv_goto (tgt := 22) hx hb d_2_5_18 (by decide) ?_
      exact q_reti C0 V (⟨show 0 ≤ a15.toInt ∧ a15.toInt ≤ 2147483647 from (by have t1 : 0 ≤ a15.toInt ∧ a15.toInt ≤ 2147483647 := b17; omega), rfl⟩) d_2_5_22
set_option maxRecDepth 100000 in
set_option maxHeartbeats 4000000 in
theorem S_Big_push (l : Launch) (D : va_G) (g : Nat → ClassId) (sh : List q_Ok) (q : Nat → Nat) (ws : va_W) (k : Nat) (R : Int32) (hB : q_isBig sh g q k R) (x1 : Int32) (hI : q_I sh q ws) (pre0 : 0 ≤ x1.toInt) : q_mV l y_Big_push prog_2_method_6_code 2 1 0 0 D g [.ref (q k), .int x1] ws (fun u => (True) ∧ q_I sh q u ∧ q_un ws u [k, k + 1]) := by
  intro sz
  refine q_into (by decide) (Nat.le_of_ble_eq_true rfl) ?_
  intro p e s m below meth c ls hsz C0 V hl
  have hx := C0.1
  have hb := C0.2.1
  have hR : q_F (0 ≤ R.toInt ∧ R.toInt ≤ 220) := hB.2.2
  replace pre0 : q_F (0 ≤ x1.toInt) := pre0
  have hF : q_un ws ws [k, k + 1] := q_u0
  have hl : lv_has ls 2 [(0, .ref (q k)), (1, .int x1)] := hl
  refine lv_aload_n hx hb d_2_6_0 rfl (lv_at hl 0 rfl) ?_
  obtain ⟨y1, y2, hO3, b4, b5⟩ := q_bigO hI hB
  replace b4 : q_F (0 ≤ y1.toInt ∧ y1.toInt ≤ R.toInt) := b4
  replace b5 : q_F (0 ≤ y2.toInt ∧ y2.toInt ≤ 1) := b5
  refine q_get (ci := 2) (j := 1) (v := .int y1) C0 V i_Big rfl rfl hO3 (by decide) w_85 rfl d_2_6_1 ?_
  refine lv_aload_n hx hb d_2_6_4 rfl (lv_at hl 0 rfl) ?_
  refine q_get (ci := 2) (j := 0) (v := .ref (q (k + 1))) C0 V i_Big rfl rfl hO3 (by decide) w_84 rfl d_2_6_5 ?_
  obtain ⟨f6, hA7, bf8⟩ := q_bigA hI hB
  refine q_alen (t := 0) (v := R) C0 V hA7 rfl (s_len (by have t1 : 0 ≤ R.toInt ∧ R.toInt ≤ 220 := hR; omega)) d_2_6_8 ?_
  refine lv_icmp_ge (tgt := 32) hx hb d_2_6_9 (by decide) (fun c9 => ?_) (fun c9 => ?_)
  ·
    have b10 : q_F (R.toInt ≤ y1.toInt) := (q_leI c9)
    exact q_retv C0 V (⟨trivial, hI, hF⟩) d_2_6_32
  ·
    have b11 : q_F (y1.toInt < R.toInt) := (q_nleI c9)
    refine lv_aload_n hx hb d_2_6_12 rfl (lv_at hl 0 rfl) ?_
    refine q_get (ci := 2) (j := 0) (v := .ref (q (k + 1))) C0 V i_Big rfl rfl hO3 (by decide) w_84 rfl d_2_6_13 ?_
    refine lv_aload_n hx hb d_2_6_16 rfl (lv_at hl 0 rfl) ?_
    refine q_get (ci := 2) (j := 1) (v := .int y1) C0 V i_Big rfl rfl hO3 (by decide) w_85 rfl d_2_6_17 ?_
    refine lv_iload_n hx hb d_2_6_20 rfl (lv_at hl 1 rfl) ?_
    refine q_iast C0 V hA7 (q_ix (x := y1.toInt) rfl (by have t1 : 0 ≤ y1.toInt ∧ y1.toInt ≤ R.toInt := b4; omega) (by have t1 : 0 ≤ y1.toInt ∧ y1.toInt ≤ R.toInt := b4; have t2 : y1.toInt < R.toInt := b11; have e9 := q_clI (i := R) rfl (by have t1 : 0 ≤ R.toInt ∧ R.toInt ≤ 220 := hR; omega); omega)) d_2_6_21 (fun H locs w12 hu13 hA7 V => ?_)
    replace hI := q_bigA' hI hB hu13 hA7 (q_updB bf8 ⟨(by have t1 : 0 ≤ x1.toInt := pre0; omega), (by have _ := q_lo32 (x := x1); have _ := q_hi32 (x := x1); omega)⟩)
    replace hO3 := (hu13 _ (by omega)).trans hO3
    replace hF := q_us hF hu13 (by simp)
    refine lv_aload_n hx hb d_2_6_22 rfl (lv_at hl 0 rfl) ?_
    refine lv_dup hx hb d_2_6_23 rfl ?_
    refine q_get (ci := 2) (j := 1) (v := .int y1) C0 V i_Big rfl rfl hO3 (by decide) w_85 rfl d_2_6_24 ?_
    refine lv_iconst (v := 1) hx hb d_2_6_27 (by decide) ?_
    refine lv_iadd hx hb d_2_6_28 ?_
    obtain ⟨a14, e15⟩ := q_nm (y1 + 1 : Int32)
    refine q_ti (v := a14) e15 ?_
    have b16 : q_F (a14.toInt = y1.toInt + 1) := (by rw [← e15]; exact q_addI (x := y1.toInt) (y := 1) rfl (by decide) (by have t1 : 0 ≤ R.toInt ∧ R.toInt ≤ 220 := hR; have t2 : 0 ≤ y1.toInt ∧ y1.toInt ≤ R.toInt := b4; omega) (by have t1 : 0 ≤ R.toInt ∧ R.toInt ≤ 220 := hR; have t2 : 0 ≤ y1.toInt ∧ y1.toInt ≤ R.toInt := b4; omega))
    refine q_put (ci := 2) (j := 1) (v := .int a14) (ty := .int) C0 V i_Big o_Big n_Big rfl rfl hO3 (by decide) w_85 rfl rfl rfl rfl (Nat.le_of_ble_eq_true rfl) d_2_6_29 (fun H locs w17 hu18 hO3 V => ?_)
    replace hO3 : w17[k]? = (some (q k, .inr (2, [.ref (q (k + 1)), .int a14, .int y2])) : Option (Nat × va_E)) := hO3
    replace hI := q_bigO' hI hB hu18 hO3 ⟨(by have t1 : 0 ≤ y1.toInt ∧ y1.toInt ≤ R.toInt := b4; have t2 : a14.toInt = y1.toInt + 1 := b16; omega), (by have t1 : y1.toInt < R.toInt := b11; have t2 : a14.toInt = y1.toInt + 1 := b16; omega)⟩ ⟨(by have t1 : 0 ≤ y2.toInt ∧ y2.toInt ≤ 1 := b5; omega), (by have t1 : 0 ≤ y2.toInt ∧ y2.toInt ≤ 1 := b5; omega)⟩
    replace hF := q_us hF hu18 (by simp)
    exact q_retv C0 V (⟨trivial, hI, hF⟩) d_2_6_32
set_option maxRecDepth 100000 in
set_option maxHeartbeats 4000000 in
theorem S_Big_sign (l : Launch) (D : va_G) (g : Nat → ClassId) (sh : List q_Ok) (q : Nat → Nat) (ws : va_W) (k : Nat) (R : Int32) (hB : q_isBig sh g q k R) (hI : q_I sh q ws) : q_mI l y_Big_sign prog_2_method_8_code 1 (.int) 1 0 0 D g [.ref (q k)] ws (fun r u => (-1 ≤ r.toInt ∧ r.toInt ≤ 1) ∧ ws = u) := by
  intro sz
  refine q_into (by decide) (Nat.le_of_ble_eq_true rfl) ?_
  intro p e s m below meth c ls hsz C0 V hl
  have hx := C0.1
  have hb := C0.2.1
  have hR : q_F (0 ≤ R.toInt ∧ R.toInt ≤ 220) := hB.2.2
  have hl : lv_has ls 1 [(0, .ref (q k))] := hl
  refine lv_aload_n hx hb d_2_8_0 rfl (lv_at hl 0 rfl) ?_
  obtain ⟨y1, y2, hO3, b4, b5⟩ := q_bigO hI hB
  replace b4 : q_F (0 ≤ y1.toInt ∧ y1.toInt ≤ R.toInt) := b4
  replace b5 : q_F (0 ≤ y2.toInt ∧ y2.toInt ≤ 1) := b5
  refine q_get (ci := 2) (j := 1) (v := .int y1) C0 V i_Big rfl rfl hO3 (by decide) w_85 rfl d_2_8_1 ?_
  refine lv_if_ne (tgt := 11) hx hb d_2_8_4 (by decide) (fun c6 => ?_) (fun c6 => ?_)
  ·
    have b7 : q_F (y1.toInt ≠ 0) := (q_neI c6)
    refine lv_aload_n hx hb d_2_8_11 rfl (lv_at hl 0 rfl) ?_
    refine q_get (ci := 2) (j := 2) (v := .int y2) C0 V i_Big rfl rfl hO3 (by decide) w_94 rfl d_2_8_12 ?_
    refine lv_if_eq (tgt := 22) hx hb d_2_8_15 (by decide) (fun c8 => ?_) (fun c8 => ?_)
    ·
      have b9 : q_F (y2.toInt = 0) := (q_eqI c8)
      refine lv_iconst (v := 1) hx hb d_2_8_22 (by decide) ?_
      exact q_reti C0 V (⟨show -1 ≤ (1 : Int32).toInt ∧ (1 : Int32).toInt ≤ 1 from (by have z9 : (1 : Int32).toInt = 1 := rfl; omega), rfl⟩) d_2_8_23
    ·
      have b10 : q_F (y2.toInt ≠ 0) := (q_neI c8)
      refine lv_iconst (v := (-1)) hx hb d_2_8_18 (by decide) ?_
      refine lv_goto (tgt := 23) hx hb d_2_8_19 (by decide) ?_
      exact q_reti C0 V (⟨show -1 ≤ (-1 : Int32).toInt ∧ (-1 : Int32).toInt ≤ 1 from (by have z9 : (-1 : Int32).toInt = -1 := rfl; omega), rfl⟩) d_2_8_23
  ·
    have b11 : q_F (y1.toInt = 0) := (q_eqI c6)
    refine lv_iconst (v := 0) hx hb d_2_8_7 (by decide) ?_
    refine lv_goto (tgt := 23) hx hb d_2_8_8 (by decide) ?_
    exact q_reti C0 V (⟨show -1 ≤ (0 : Int32).toInt ∧ (0 : Int32).toInt ≤ 1 from (by have z9 : (0 : Int32).toInt = 0 := rfl; omega), rfl⟩) d_2_8_23
theorem d_2_9_8 : decode prog_2_method_9_code 8 = .ok (.aload_n 0, 1) := by decide +kernel
theorem d_2_9_9 : decode prog_2_method_9_code 9 = .ok (.getfield 7, 3) := by decide +kernel
theorem d_2_9_12 : decode prog_2_method_9_code 12 = .ok (.iconst 0, 1) := by decide +kernel
theorem d_2_9_13 : decode prog_2_method_9_code 13 = .ok (.iaload, 1) := by decide +kernel
theorem d_2_9_14 : decode prog_2_method_9_code 14 = .ok (.iconst 1, 1) := by decide +kernel
theorem d_2_9_15 : decode prog_2_method_9_code 15 = .ok (.if_icmp .ne 14, 3) := by decide +kernel
theorem d_2_9_18 : decode prog_2_method_9_code 18 = .ok (.aload_n 0, 1) := by decide +kernel
theorem d_2_9_19 : decode prog_2_method_9_code 19 = .ok (.getfield 17, 3) := by decide +kernel
theorem d_2_9_22 : decode prog_2_method_9_code 22 = .ok (.ifCond .ne 7, 3) := by decide +kernel
theorem d_2_9_25 : decode prog_2_method_9_code 25 = .ok (.iconst 1, 1) := by decide +kernel
theorem d_2_9_26 : decode prog_2_method_9_code 26 = .ok (.goto 4, 3) := by decide +kernel
set_option maxRecDepth 100000 in
set_option maxHeartbeats 4000000 in
theorem S_Big_isOne (l : Launch) (D : va_G) (g : Nat → ClassId) (sh : List q_Ok) (q : Nat → Nat) (ws : va_W) (k : Nat) (R : Int32) (hB : q_isBig sh g q k R) (hI : q_I sh q ws) : q_mI l y_Big_isOne prog_2_method_9_code 1 (.boolean) 1 0 0 D g [.ref (q k)] ws (fun r u => (0 ≤ r.toInt ∧ r.toInt ≤ 1) ∧ ws = u) := by
  intro sz
  refine q_into (by decide) (Nat.le_of_ble_eq_true rfl) ?_
  intro p e s m below meth c ls hsz C0 V hl
  have hx := C0.1
  have hb := C0.2.1
  have hR : q_F (0 ≤ R.toInt ∧ R.toInt ≤ 220) := hB.2.2
  have hl : lv_has ls 1 [(0, .ref (q k))] := hl
  refine lv_aload_n hx hb d_2_9_0 rfl (lv_at hl 0 rfl) ?_
  obtain ⟨y1, y2, hO3, b4, b5⟩ := q_bigO hI hB
  replace b4 : q_F (0 ≤ y1.toInt ∧ y1.toInt ≤ R.toInt) := b4
  replace b5 : q_F (0 ≤ y2.toInt ∧ y2.toInt ≤ 1) := b5
  refine q_get (ci := 2) (j := 1) (v := .int y1) C0 V i_Big rfl rfl hO3 (by decide) w_85 rfl d_2_9_1 ?_
  refine lv_iconst (v := 1) hx hb d_2_9_4 (by decide) ?_
  refine lv_icmp_ne (tgt := 29) hx hb d_2_9_5 (by decide) (fun c6 => ?_) (fun c6 => ?_)
  ·
    have b7 : q_F (y1.toInt ≠ 1) := (q_neI c6)
    refine lv_iconst (v := 0) hx hb d_2_9_29 (by decide) ?_
    exact q_retz C0 V (by decide) (⟨show 0 ≤ (0 : Int32).toInt ∧ (0 : Int32).toInt ≤ 1 from (by have z9 : (0 : Int32).toInt = 0 := rfl; omega), rfl⟩) d_2_9_30
  ·
    have b8 : q_F (y1.toInt = 1) := (q_eqI c6)
    refine lv_aload_n hx hb d_2_9_8 rfl (lv_at hl 0 rfl) ?_
    refine q_get (ci := 2) (j := 0) (v := .ref (q (k + 1))) C0 V i_Big rfl rfl hO3 (by decide) w_84 rfl d_2_9_9 ?_
    refine lv_iconst (v := 0) hx hb d_2_9_12 (by decide) ?_
    obtain ⟨f9, hA10, bf11⟩ := q_bigA hI hB
    refine q_iald C0 V hA10 (q_ix (x := 0) (by decide) (by omega) (by have t1 : 0 ≤ y1.toInt ∧ y1.toInt ≤ R.toInt := b4; have t2 : y1.toInt = 1 := b8; have e9 := q_clI (i := R) rfl (by have t1 : 0 ≤ R.toInt ∧ R.toInt ≤ 220 := hR; omega); omega)) d_2_9_13 ?_
    obtain ⟨a12, e13⟩ := q_nm (f9 (0 : Int32).toNatClampNeg : Int32)
    refine q_ti (v := a12) e13 ?_
    have b14 : q_F (0 ≤ a12.toInt ∧ a12.toInt ≤ 2147483647) := (by rw [← e13]; exact bf11 _)
    refine lv_iconst (v := 1) hx hb d_2_9_14 (by decide) ?_
    refine lv_icmp_ne (tgt := 29) hx hb d_2_9_15 (by decide) (fun c15 => ?_) (fun c15 => ?_)
    ·
      have b16 : q_F (a12.toInt ≠ 1) := (q_neI c15)
      refine lv_iconst (v := 0) hx hb d_2_9_29 (by decide) ?_
      exact q_retz C0 V (by decide) (⟨show 0 ≤ (0 : Int32).toInt ∧ (0 : Int32).toInt ≤ 1 from (by have z9 : (0 : Int32).toInt = 0 := rfl; omega), rfl⟩) d_2_9_30
    ·
      have b17 : q_F (a12.toInt = 1) := (q_eqI c15)
      refine lv_aload_n hx hb d_2_9_18 rfl (lv_at hl 0 rfl) ?_
      refine q_get (ci := 2) (j := 2) (v := .int y2) C0 V i_Big rfl rfl hO3 (by decide) w_94 rfl d_2_9_19 ?_
      refine lv_if_ne (tgt := 29) hx hb d_2_9_22 (by decide) (fun c18 => ?_) (fun c18 => ?_)
      ·
        have b19 : q_F (y2.toInt ≠ 0) := (q_neI c18)
        refine lv_iconst (v := 0) hx hb d_2_9_29 (by decide) ?_
        exact q_retz C0 V (by decide) (⟨show 0 ≤ (0 : Int32).toInt ∧ (0 : Int32).toInt ≤ 1 from (by have z9 : (0 : Int32).toInt = 0 := rfl; omega), rfl⟩) d_2_9_30
      ·
        have b20 : q_F (y2.toInt = 0) := (q_eqI c18)
        refine lv_iconst (v := 1) hx hb d_2_9_25 (by decide) ?_
        refine lv_goto (tgt := 30) hx hb d_2_9_26 (by decide) ?_
        exact q_retz C0 V (by decide) (⟨show 0 ≤ (1 : Int32).toInt ∧ (1 : Int32).toInt ≤ 1 from (by have z9 : (1 : Int32).toInt = 1 := rfl; omega), rfl⟩) d_2_9_30
