/-! the reference on a fresh object: paperAt -/
theorem d_14_6_0 : decode prog_14_method_6_code 0 = .ok (.aload_n 0, 1) := by decide +kernel
theorem d_14_6_1 : decode prog_14_method_6_code 1 = .ok (.iconst 0, 1) := by decide +kernel
theorem d_14_6_2 : decode prog_14_method_6_code 2 = .ok (.putfield 58, 3) := by decide +kernel
theorem d_14_6_5 : decode prog_14_method_6_code 5 = .ok (.lconst 0, 1) := by decide +kernel
theorem d_14_6_6 : decode prog_14_method_6_code 6 = .ok (.lstore_n 2, 1) := by decide +kernel
theorem d_14_6_7 : decode prog_14_method_6_code 7 = .ok (.iconst 0, 1) := by decide +kernel
theorem d_14_6_8 : decode prog_14_method_6_code 8 = .ok (.istore 4, 2) := by decide +kernel
theorem d_14_6_10 : decode prog_14_method_6_code 10 = .ok (.iload 4, 2) := by decide +kernel
theorem d_14_6_12 : decode prog_14_method_6_code 12 = .ok (.bipush 8, 2) := by decide +kernel
theorem d_14_6_14 : decode prog_14_method_6_code 14 = .ok (.if_icmp .ge 57, 3) := by decide +kernel
theorem d_14_6_71 : decode prog_14_method_6_code 71 = .ok (.lload_n 2, 1) := by decide +kernel
theorem d_14_6_72 : decode prog_14_method_6_code 72 = .ok (.lreturn, 1) := by decide +kernel
theorem d_14_6_17 : decode prog_14_method_6_code 17 = .ok (.iload_n 1, 1) := by decide +kernel
theorem d_14_6_18 : decode prog_14_method_6_code 18 = .ok (.i2l, 1) := by decide +kernel
theorem d_14_6_19 : decode prog_14_method_6_code 19 = .ok (.iload 4, 2) := by decide +kernel
theorem d_14_6_21 : decode prog_14_method_6_code 21 = .ok (.i2l, 1) := by decide +kernel
theorem d_14_6_22 : decode prog_14_method_6_code 22 = .ok (.ladd, 1) := by decide +kernel
theorem d_14_6_23 : decode prog_14_method_6_code 23 = .ok (.lstore 5, 2) := by decide +kernel
theorem d_14_6_25 : decode prog_14_method_6_code 25 = .ok (.lload 5, 2) := by decide +kernel
theorem d_14_6_27 : decode prog_14_method_6_code 27 = .ok (.lconst 0, 1) := by decide +kernel
theorem d_14_6_28 : decode prog_14_method_6_code 28 = .ok (.lcmp, 1) := by decide +kernel
theorem d_14_6_29 : decode prog_14_method_6_code 29 = .ok (.ifCond .lt 34, 3) := by decide +kernel
theorem d_14_6_63 : decode prog_14_method_6_code 63 = .ok (.lload_n 2, 1) := by decide +kernel
theorem d_14_6_64 : decode prog_14_method_6_code 64 = .ok (.lstore_n 2, 1) := by decide +kernel
theorem d_14_6_65 : decode prog_14_method_6_code 65 = .ok (.iinc 4 1, 3) := by decide +kernel
theorem d_14_6_68 : decode prog_14_method_6_code 68 = .ok (.goto (-58), 3) := by decide +kernel
theorem d_14_6_32 : decode prog_14_method_6_code 32 = .ok (.lload 5, 2) := by decide +kernel
theorem d_14_6_34 : decode prog_14_method_6_code 34 = .ok (.aload_n 0, 1) := by decide +kernel
theorem d_14_6_35 : decode prog_14_method_6_code 35 = .ok (.getfield 67, 3) := by decide +kernel
theorem w_2302 : (Cond.fieldLink "NumberHouseModel" (67 : Nat) "NumberHouseModel" "printed" "I") ∈ q_tbl := q_of 2302 (by decide +kernel) (by decide +kernel)
theorem d_14_6_38 : decode prog_14_method_6_code 38 = .ok (.i2l, 1) := by decide +kernel
theorem d_14_6_39 : decode prog_14_method_6_code 39 = .ok (.lcmp, 1) := by decide +kernel
theorem d_14_6_40 : decode prog_14_method_6_code 40 = .ok (.ifCond .ge 23, 3) := by decide +kernel
def y_NM_paperAt : MethodName := ⟨"NumberHouseModel", "paperAt", "(I)J"⟩
set_option maxRecDepth 100000 in
set_option maxHeartbeats 4000000 in
/-- paperAt on a fresh object -/
theorem c_NM_paperAt (l : Launch) (D : va_G) (g : Nat → ClassId) (ws : va_W) ( qO0 qA1 qA2 qO3 qO4 qO5 qO6 qO7 qA8 qA9 : Nat) (x1 : Int32) (hO0 : ws[116]? = (some (qO0, .inr (12, [.int 0, .ref qA1, .int 0, .ref qA2, .int 0, .ref qO3, .ref qO4, .ref qO5, .ref qO6, .ref qO7, .ref qA8, .ref qA9])) : Option (Nat × va_E))) : q_mL l y_NM_paperAt prog_14_method_6_code 7 1 0 0 D g [.ref qO0, .int x1] ws (fun r u => ∃ (t0 z2 z4 : Int32), u[116]? = (some (qO0, .inr (12, [.int t0, .ref qA1, .int z2, .ref qA2, .int z4, .ref qO3, .ref qO4, .ref qO5, .ref qO6, .ref qO7, .ref qA8, .ref qA9])) : Option (Nat × va_E)) ∧ ((t0.toInt = 0 ∧ r.toInt = 0)) ∧ q_ge 169 ws u) := by
  intro sz
  refine q_into (by decide) (Nat.le_of_ble_eq_true rfl) ?_
  intro p e s m below meth c ls hsz C0 V hl
  have hx := C0.1
  have hb := C0.2.1
  have hl : lv_has ls 7 [(0, .ref qO0), (1, .int x1)] := hl
  have hF : q_ge 169 ws ws := q_g0
  refine lv_aload_n hx hb d_14_6_0 rfl (lv_at hl 0 rfl) ?_
  refine lv_iconst (v := 0) hx hb d_14_6_1 (by decide) ?_
  refine q_put (ci := 12) (j := 0) (v := .int 0) (ty := .int) C0 V i_NM o_NM n_NM rfl rfl hO0 (by decide) w_2298 rfl rfl rfl rfl (Nat.le_of_ble_eq_true rfl) d_14_6_2 (fun H locs w1 hu2 hO0 V => ?_)
  replace hO0 : w1[116]? = (some (qO0, .inr (12, [.int 0, .ref qA1, .int 0, .ref qA2, .int 0, .ref qO3, .ref qO4, .ref qO5, .ref qO6, .ref qO7, .ref qA8, .ref qA9])) : Option (Nat × va_E)) := hO0
  replace hF := q_gs hF hu2 (Nat.le_of_ble_eq_true rfl)
  refine lv_lconst (v := 0) hx hb d_14_6_5 (by decide) ?_
  refine lv_lstore_n (lv' := [(2, .long 0), (0, .ref qO0), (1, .int x1)]) hx hb d_14_6_6 rfl hl (by decide) rfl (fun ls hl => ?_)
  refine lv_iconst (v := 0) hx hb d_14_6_7 (by decide) ?_
  refine lv_istore (lv' := [(4, .int 0), (2, .long 0), (0, .ref qO0), (1, .int x1)]) hx hb d_14_6_8 hl (by decide) rfl (fun ls hl => ?_)
  refine q_loop (X := Int32) (fun z H locs ls w4 => (0 ≤ z.toInt ∧ (z.toInt ≤ 8 ∨ z.toInt = 0)) ∧ q_Wd D g (va_A ws sz) s w4 H locs ∧ lv_has ls 7 [(4, .int z), (2, .long 0), (0, .ref qO0), (1, .int x1)] ∧ q_ge 169 ws w4 ∧ w4[116]? = (some (qO0, .inr (12, [.int 0, .ref qA1, .int 0, .ref qA2, .int 0, .ref qO3, .ref qO4, .ref qO5, .ref qO6, .ref qO7, .ref qA8, .ref qA9])) : Option (Nat × va_E))) (fun z => (8 - z.toInt).toNat) ?_ ((0 : Int32)) _ _ _ w1 ⟨⟨by decide, Or.inr (by decide)⟩, V, hl, hF, hO0⟩
  rintro lx3 H locs ls w4 ⟨i5, V, hl, hF, hO0⟩ ih6
  replace i5 : 0 ≤ lx3.toInt ∧ (lx3.toInt ≤ 8 ∨ lx3.toInt = 0) := i5
  replace hl : lv_has ls 7 [(4, .int lx3), (2, .long 0), (0, .ref qO0), (1, .int x1)] := hl
  replace hO0 : w4[116]? = (some (qO0, .inr (12, [.int 0, .ref qA1, .int 0, .ref qA2, .int 0, .ref qO3, .ref qO4, .ref qO5, .ref qO6, .ref qO7, .ref qA8, .ref qA9])) : Option (Nat × va_E)) := hO0
  refine lv_iload hx hb d_14_6_10 (lv_at hl 0 rfl) ?_
  refine lv_bipush (v := 8) hx hb d_14_6_12 (by decide) ?_
  refine lv_icmp_ge (tgt := 71) hx hb d_14_6_14 (by decide) (fun c7 => ?_) (fun c7 => ?_)
  ·
    refine lv_lload_n hx hb d_14_6_71 rfl (lv_at hl 1 rfl) ?_
    exact q_retl C0 V (⟨0, 0, 0, hO0, (show ((0 : Int32).toInt = 0 ∧ (0 : Int64).toInt = 0) from by have t1 : 8 ≤ lx3.toInt := q_leI c7; have e0 : (0 : Int32).toInt = 0 := (by decide); have e9 : (0 : Int64).toInt = 0 := (by decide); omega), hF⟩) d_14_6_72
  ·
    refine lv_iload_n hx hb d_14_6_17 rfl (lv_at hl 3 rfl) ?_
    refine lv_i2l hx hb d_14_6_18 rfl ?_
    refine lv_iload hx hb d_14_6_19 (lv_at hl 0 rfl) ?_
    refine lv_i2l hx hb d_14_6_21 rfl ?_
    refine lv_ladd hx hb d_14_6_22 ?_
    refine lv_lstore (lv' := [(5, .long (x1.toInt64 + lx3.toInt64)), (4, .int lx3), (2, .long 0), (0, .ref qO0), (1, .int x1)]) hx hb d_14_6_23 hl (by decide) rfl (fun ls hl => ?_)
    refine lv_lload hx hb d_14_6_25 (lv_at hl 0 rfl) ?_
    refine lv_lconst (v := 0) hx hb d_14_6_27 (by decide) ?_
    refine W.lcmp hx hb d_14_6_28 ?_
    by_cases c8 : (x1.toInt + lx3.toInt) < 0
    ·
      refine q_ti (v := (-1)) (q_cmL (x := (x1.toInt + lx3.toInt)) (y := 0) (q_addL (x := x1.toInt) (y := lx3.toInt) (q_i2l (x := x1.toInt) rfl) (q_i2l (x := lx3.toInt) rfl) (by have t1 : lx3.toInt < 8 := q_nleI c7; have y1l := q_lo32 (x := x1); have y1h := q_hi32 (x := x1); have b0l := q_lo32 (x := lx3); have b0h := q_hi32 (x := lx3); have b1l := q_lo32 (x := x1); have b1h := q_hi32 (x := x1); omega) (by have t1 : lx3.toInt < 8 := q_nleI c7; have y1l := q_lo32 (x := x1); have y1h := q_hi32 (x := x1); have b0l := q_lo32 (x := lx3); have b0h := q_hi32 (x := lx3); have b1l := q_lo32 (x := x1); have b1h := q_hi32 (x := x1); omega)) (by decide) (c8)) ?_
      refine lv_if_lt (tgt := 63) hx hb d_14_6_29 (by decide) (fun c9 => ?_) (fun c9 => absurd (by decide) c9)
      refine lv_lload_n hx hb d_14_6_63 rfl (lv_at hl 2 rfl) ?_
      refine lv_lstore_n (lv' := [(2, .long 0), (5, .long (x1.toInt64 + lx3.toInt64)), (4, .int lx3), (0, .ref qO0), (1, .int x1)]) hx hb d_14_6_64 rfl hl (by decide) rfl (fun ls hl => ?_)
      refine lv_iinc (v := lx3 + 1) (lv' := [(4, .int (lx3 + 1)), (2, .long 0), (5, .long (x1.toInt64 + lx3.toInt64)), (0, .ref qO0), (1, .int x1)]) hx hb d_14_6_65 hl (k := 2) rfl (rfl) (by decide) rfl (fun ls hl => ?_)
      refine lv_goto (tgt := 10) hx hb d_14_6_68 (by decide) ?_
      exact ih6 ((lx3 + 1 : Int32)) _ _ _ _ (show (8 - (lx3 + 1).toInt).toNat < (8 - lx3.toInt).toNat from by have t1 : lx3.toInt < 8 := q_nleI c7; have e : (lx3 + 1).toInt = (lx3.toInt + 1) := (q_addI (x := lx3.toInt) (y := 1) rfl (by decide) (by have t1 : lx3.toInt < 8 := q_nleI c7; omega) (by have t1 : lx3.toInt < 8 := q_nleI c7; omega)); omega) ⟨(show 0 ≤ (lx3 + 1).toInt ∧ ((lx3 + 1).toInt ≤ 8 ∨ (lx3 + 1).toInt = 0) from by have t1 : lx3.toInt < 8 := q_nleI c7; have e : (lx3 + 1).toInt = (lx3.toInt + 1) := (q_addI (x := lx3.toInt) (y := 1) rfl (by decide) (by have t1 : lx3.toInt < 8 := q_nleI c7; omega) (by have t1 : lx3.toInt < 8 := q_nleI c7; omega)); omega), V, q_lw hl (q_lw1 0 rfl (q_lw1 1 rfl (q_lw1 3 rfl (q_lw1 4 rfl q_lw0)))), hF, hO0⟩
    by_cases c10 : (x1.toInt + lx3.toInt) = 0
    ·
      refine q_ti (v := 0) (q_cmE (x := (x1.toInt + lx3.toInt)) (y := 0) (q_addL (x := x1.toInt) (y := lx3.toInt) (q_i2l (x := x1.toInt) rfl) (q_i2l (x := lx3.toInt) rfl) (by have t1 : lx3.toInt < 8 := q_nleI c7; have y1l := q_lo32 (x := x1); have y1h := q_hi32 (x := x1); have b0l := q_lo32 (x := lx3); have b0h := q_hi32 (x := lx3); have b1l := q_lo32 (x := x1); have b1h := q_hi32 (x := x1); omega) (by have t1 : lx3.toInt < 8 := q_nleI c7; have y1l := q_lo32 (x := x1); have y1h := q_hi32 (x := x1); have b0l := q_lo32 (x := lx3); have b0h := q_hi32 (x := lx3); have b1l := q_lo32 (x := x1); have b1h := q_hi32 (x := x1); omega)) (by decide) (c10)) ?_
      refine lv_if_lt (tgt := 63) hx hb d_14_6_29 (by decide) (fun c11 => absurd c11 (by decide)) (fun c11 => ?_)
      refine lv_lload hx hb d_14_6_32 (lv_at hl 0 rfl) ?_
      refine lv_aload_n hx hb d_14_6_34 rfl (lv_at hl 3 rfl) ?_
      refine q_get (ci := 12) (j := 4) (v := .int 0) C0 V i_NM rfl rfl hO0 (by decide) w_2302 rfl d_14_6_35 ?_
      refine lv_i2l hx hb d_14_6_38 rfl ?_
      refine q_tl (v := 0) (by decide) ?_
      refine W.lcmp hx hb d_14_6_39 ?_
      refine q_ti (v := 0) (q_cmE (x := (x1.toInt + lx3.toInt)) (y := 0) (q_addL (x := x1.toInt) (y := lx3.toInt) (q_i2l (x := x1.toInt) rfl) (q_i2l (x := lx3.toInt) rfl) (by have t1 : lx3.toInt < 8 := q_nleI c7; have y1l := q_lo32 (x := x1); have y1h := q_hi32 (x := x1); have b0l := q_lo32 (x := lx3); have b0h := q_hi32 (x := lx3); have b1l := q_lo32 (x := x1); have b1h := q_hi32 (x := x1); omega) (by have t1 : lx3.toInt < 8 := q_nleI c7; have y1l := q_lo32 (x := x1); have y1h := q_hi32 (x := x1); have b0l := q_lo32 (x := lx3); have b0h := q_hi32 (x := lx3); have b1l := q_lo32 (x := x1); have b1h := q_hi32 (x := x1); omega)) (by decide) (by have t1 : lx3.toInt < 8 := q_nleI c7; have y1l := q_lo32 (x := x1); have y1h := q_hi32 (x := x1); have b0l := q_lo32 (x := lx3); have b0h := q_hi32 (x := lx3); have b1l := q_lo32 (x := x1); have b1h := q_hi32 (x := x1); omega)) ?_
      refine lv_if_ge (tgt := 63) hx hb d_14_6_40 (by decide) (fun c12 => ?_) (fun c12 => absurd (by decide) c12)
      refine lv_lload_n hx hb d_14_6_63 rfl (lv_at hl 2 rfl) ?_
      refine lv_lstore_n (lv' := [(2, .long 0), (5, .long (x1.toInt64 + lx3.toInt64)), (4, .int lx3), (0, .ref qO0), (1, .int x1)]) hx hb d_14_6_64 rfl hl (by decide) rfl (fun ls hl => ?_)
      refine lv_iinc (v := lx3 + 1) (lv' := [(4, .int (lx3 + 1)), (2, .long 0), (5, .long (x1.toInt64 + lx3.toInt64)), (0, .ref qO0), (1, .int x1)]) hx hb d_14_6_65 hl (k := 2) rfl (rfl) (by decide) rfl (fun ls hl => ?_)
      refine lv_goto (tgt := 10) hx hb d_14_6_68 (by decide) ?_
      exact ih6 ((lx3 + 1 : Int32)) _ _ _ _ (show (8 - (lx3 + 1).toInt).toNat < (8 - lx3.toInt).toNat from by have t1 : lx3.toInt < 8 := q_nleI c7; have e : (lx3 + 1).toInt = (lx3.toInt + 1) := (q_addI (x := lx3.toInt) (y := 1) rfl (by decide) (by have t1 : lx3.toInt < 8 := q_nleI c7; omega) (by have t1 : lx3.toInt < 8 := q_nleI c7; omega)); omega) ⟨(show 0 ≤ (lx3 + 1).toInt ∧ ((lx3 + 1).toInt ≤ 8 ∨ (lx3 + 1).toInt = 0) from by have t1 : lx3.toInt < 8 := q_nleI c7; have e : (lx3 + 1).toInt = (lx3.toInt + 1) := (q_addI (x := lx3.toInt) (y := 1) rfl (by decide) (by have t1 : lx3.toInt < 8 := q_nleI c7; omega) (by have t1 : lx3.toInt < 8 := q_nleI c7; omega)); omega), V, q_lw hl (q_lw1 0 rfl (q_lw1 1 rfl (q_lw1 3 rfl (q_lw1 4 rfl q_lw0)))), hF, hO0⟩
    refine q_ti (v := 1) (q_cmG (x := (x1.toInt + lx3.toInt)) (y := 0) (q_addL (x := x1.toInt) (y := lx3.toInt) (q_i2l (x := x1.toInt) rfl) (q_i2l (x := lx3.toInt) rfl) (by have t1 : lx3.toInt < 8 := q_nleI c7; have y1l := q_lo32 (x := x1); have y1h := q_hi32 (x := x1); have b0l := q_lo32 (x := lx3); have b0h := q_hi32 (x := lx3); have b1l := q_lo32 (x := x1); have b1h := q_hi32 (x := x1); omega) (by have t1 : lx3.toInt < 8 := q_nleI c7; have y1l := q_lo32 (x := x1); have y1h := q_hi32 (x := x1); have b0l := q_lo32 (x := lx3); have b0h := q_hi32 (x := lx3); have b1l := q_lo32 (x := x1); have b1h := q_hi32 (x := x1); omega)) (by decide) (by have t1 : lx3.toInt < 8 := q_nleI c7; have y1l := q_lo32 (x := x1); have y1h := q_hi32 (x := x1); have b0l := q_lo32 (x := lx3); have b0h := q_hi32 (x := lx3); have b1l := q_lo32 (x := x1); have b1h := q_hi32 (x := x1); omega)) ?_
    refine lv_if_lt (tgt := 63) hx hb d_14_6_29 (by decide) (fun c13 => absurd c13 (by decide)) (fun c13 => ?_)
    refine lv_lload hx hb d_14_6_32 (lv_at hl 0 rfl) ?_
    refine lv_aload_n hx hb d_14_6_34 rfl (lv_at hl 3 rfl) ?_
    refine q_get (ci := 12) (j := 4) (v := .int 0) C0 V i_NM rfl rfl hO0 (by decide) w_2302 rfl d_14_6_35 ?_
    refine lv_i2l hx hb d_14_6_38 rfl ?_
    refine q_tl (v := 0) (by decide) ?_
    refine W.lcmp hx hb d_14_6_39 ?_
    refine q_ti (v := 1) (q_cmG (x := (x1.toInt + lx3.toInt)) (y := 0) (q_addL (x := x1.toInt) (y := lx3.toInt) (q_i2l (x := x1.toInt) rfl) (q_i2l (x := lx3.toInt) rfl) (by have t1 : lx3.toInt < 8 := q_nleI c7; have y1l := q_lo32 (x := x1); have y1h := q_hi32 (x := x1); have b0l := q_lo32 (x := lx3); have b0h := q_hi32 (x := lx3); have b1l := q_lo32 (x := x1); have b1h := q_hi32 (x := x1); omega) (by have t1 : lx3.toInt < 8 := q_nleI c7; have y1l := q_lo32 (x := x1); have y1h := q_hi32 (x := x1); have b0l := q_lo32 (x := lx3); have b0h := q_hi32 (x := lx3); have b1l := q_lo32 (x := x1); have b1h := q_hi32 (x := x1); omega)) (by decide) (by have t1 : lx3.toInt < 8 := q_nleI c7; have y1l := q_lo32 (x := x1); have y1h := q_hi32 (x := x1); have b0l := q_lo32 (x := lx3); have b0h := q_hi32 (x := lx3); have b1l := q_lo32 (x := x1); have b1h := q_hi32 (x := x1); omega)) ?_
    refine lv_if_ge (tgt := 63) hx hb d_14_6_40 (by decide) (fun c14 => ?_) (fun c14 => absurd (by decide) c14)
    refine lv_lload_n hx hb d_14_6_63 rfl (lv_at hl 2 rfl) ?_
    refine lv_lstore_n (lv' := [(2, .long 0), (5, .long (x1.toInt64 + lx3.toInt64)), (4, .int lx3), (0, .ref qO0), (1, .int x1)]) hx hb d_14_6_64 rfl hl (by decide) rfl (fun ls hl => ?_)
    refine lv_iinc (v := lx3 + 1) (lv' := [(4, .int (lx3 + 1)), (2, .long 0), (5, .long (x1.toInt64 + lx3.toInt64)), (0, .ref qO0), (1, .int x1)]) hx hb d_14_6_65 hl (k := 2) rfl (rfl) (by decide) rfl (fun ls hl => ?_)
    refine lv_goto (tgt := 10) hx hb d_14_6_68 (by decide) ?_
    exact ih6 ((lx3 + 1 : Int32)) _ _ _ _ (show (8 - (lx3 + 1).toInt).toNat < (8 - lx3.toInt).toNat from by have t1 : lx3.toInt < 8 := q_nleI c7; have e : (lx3 + 1).toInt = (lx3.toInt + 1) := (q_addI (x := lx3.toInt) (y := 1) rfl (by decide) (by have t1 : lx3.toInt < 8 := q_nleI c7; omega) (by have t1 : lx3.toInt < 8 := q_nleI c7; omega)); omega) ⟨(show 0 ≤ (lx3 + 1).toInt ∧ ((lx3 + 1).toInt ≤ 8 ∨ (lx3 + 1).toInt = 0) from by have t1 : lx3.toInt < 8 := q_nleI c7; have e : (lx3 + 1).toInt = (lx3.toInt + 1) := (q_addI (x := lx3.toInt) (y := 1) rfl (by decide) (by have t1 : lx3.toInt < 8 := q_nleI c7; omega) (by have t1 : lx3.toInt < 8 := q_nleI c7; omega)); omega), V, q_lw hl (q_lw1 0 rfl (q_lw1 1 rfl (q_lw1 3 rfl (q_lw1 4 rfl q_lw0)))), hF, hO0⟩
