/-! Big, exactly: products, shifts, division -/
def F_jArr_fill_L10 (R : Int32) (x1 : Int32) (x2 : Int32) (x3 : Int32) (t0_0 : (Nat → Int32)) : Nat → Int32 → (Nat → Int32) → (Nat → Int32)
  | 0, _, _ => default
  | fm + 1, lx7, lx8 => if x2 ≤ lx7 then (lx8) else (F_jArr_fill_L10 R x1 x2 x3 t0_0 fm (lx7 + 1 : Int32) (upd lx8 lx7.toNatClampNeg x3 : (Nat → Int32)))
def F_jArr_fill (R : Int32) (x1 : Int32) (x2 : Int32) (x3 : Int32) (t0_0 : (Nat → Int32)) : (Nat → Int32) := F_jArr_fill_L10 R x1 x2 x3 t0_0 ((220 - x1.toInt).toNat + 1) x1 t0_0
set_option maxRecDepth 100000 in
set_option maxHeartbeats 4000000 in
theorem X_jArr_fill (l : Launch) (D : va_G) (g : Nat → ClassId) (q : Nat → Nat) (ws : va_W) (k : Nat) (R : Int32) (hB : q_isBig (nsh g q) g q k R) (x1 : Int32) (x2 : Int32) (x3 : Int32) (hI : q_I (nsh g q) q ws) (t0_0 : (Nat → Int32)) (hT0 : ws[k + 1]? = (some (q (k + 1), .inl (g 0, R.toNatClampNeg, .inl t0_0)) : Option (Nat × va_E))) (pre0 : 0 ≤ x1.toInt) (pre1 : x1.toInt ≤ x2.toInt) (pre2 : x2.toInt ≤ R.toInt) : q_mV l y_jArr_fill prog_37_method_104_code 5 2 0 0 D g [.ref (q (k + 1)), .int x1, .int x2, .int x3] ws (fun u => q_I (nsh g q) q u ∧ q_un ws u [k + 1] ∧ ∃ (u0_0 : (Nat → Int32)), u[k + 1]? = (some (q (k + 1), .inl (g 0, R.toNatClampNeg, .inl u0_0)) : Option (Nat × va_E)) ∧ u0_0 = (F_jArr_fill R x1 x2 x3 t0_0)) := by
  intro sz
  refine q_into (by decide) (Nat.le_of_ble_eq_true rfl) ?_
  intro p e s m below meth c ls hsz C0 V hl
  have hx := C0.1
  have hb := C0.2.1
  have hfk0 : q_F (0 ≤ R.toInt ∧ R.toInt ≤ 220) := hB.2.2
  replace pre0 : q_F (0 ≤ x1.toInt) := pre0
  replace pre1 : q_F (x1.toInt ≤ x2.toInt) := pre1
  replace pre2 : q_F (x2.toInt ≤ R.toInt) := pre2
  have hF : q_un ws ws [k + 1] := q_u0
  have hl : lv_has ls 5 [(0, .ref (q (k + 1))), (1, .int x1), (2, .int x2), (3, .int x3)] := hl
  refine lv_aload_n hx hb d_37_104_0 rfl (lv_at hl 0 rfl) ?_
  refine q_alen (t := 0) (v := R) C0 V hT0 rfl (s_len (by first | with_reducible exact (q_fe hfk0).2 | with_reducible exact (q_fe hfk0).1 | (have t1 : 0 ≤ R.toInt ∧ R.toInt ≤ 220 := hfk0; omega))) d_37_104_1 ?_
  refine lv_iload_n hx hb d_37_104_2 rfl (lv_at hl 1 rfl) ?_
  refine lv_iload_n hx hb d_37_104_3 rfl (lv_at hl 2 rfl) ?_
  refine q_gov V (q_runS (As := [.int R, .int x1, .int x2]) (rest := []) (d := 1) (mc := 0) (ms := 0) C0 V rfl LS_jArr_13 (S_Arr_rangeCheck l D g (nsh g q) q ws  R x1 x2 hI  (by first | with_reducible exact q_fe pre0 | (have t1 : 0 ≤ x1.toInt := pre0; omega)) (by first | with_reducible exact q_fe pre1 | (have t1 : x1.toInt ≤ x2.toInt := pre1; omega)) (by first | with_reducible exact q_fe pre2 | (have t1 : x2.toInt ≤ R.toInt := pre2; omega)) _) rfl hl.1 rfl (Nat.le_of_ble_eq_true rfl) ⟨by decide, by decide⟩ ⟨Nat.le_of_ble_eq_true rfl, Nat.le_of_ble_eq_true rfl⟩ d_37_104_4) (fun u4 H locs hp5 V => ?_)
  obtain ⟨_, rfl⟩ := hp5
  refine lv_iload_n hx hb d_37_104_7 rfl (lv_at hl 1 rfl) ?_
  refine lv_istore (lv' := [(4, .int x1), (0, .ref (q (k + 1))), (1, .int x1), (2, .int x2), (3, .int x3)]) hx hb d_37_104_8 hl (by decide) rfl (fun ls hl => ?_)
  refine q_loop (X := Int32 × (Nat → Int32)) (fun z H locs ls w12 => q_F (x1.toInt ≤ z.1.toInt) ∧ q_F (z.1.toInt ≤ x2.toInt) ∧ q_Wd D g (va_A ws sz) s w12 H locs ∧ lv_has ls 5 [(4, .int z.1), (0, .ref (q (k + 1))), (2, .int x2), (3, .int x3)] ∧ q_I (nsh g q) q w12 ∧ q_un ws w12 [k + 1] ∧ w12[k + 1]? = (some (q (k + 1), .inl (g 0, R.toNatClampNeg, .inl z.2)) : Option (Nat × va_E)) ∧ (∃ n, (220 - z.1.toInt).toNat < n ∧ F_jArr_fill_L10 R x1 x2 x3 t0_0 n z.1 z.2 = (F_jArr_fill R x1 x2 x3 t0_0))) (fun z => (220 - z.1.toInt).toNat) ?_ ((x1 : Int32), (t0_0 : (Nat → Int32))) _ _ _ ws ⟨(show q_F (x1.toInt ≤ x1.toInt) from (show x1.toInt ≤ x1.toInt from by omega)), (show q_F (x1.toInt ≤ x2.toInt) from (show x1.toInt ≤ x2.toInt from by have t1 : x1.toInt ≤ x2.toInt := pre1; omega)), V, q_lw hl (q_lw1 0 rfl (q_lw1 1 rfl (q_lw1 3 rfl (q_lw1 4 rfl q_lw0)))), hI, hF, hT0, ⟨((220 - x1.toInt).toNat + 1), Nat.lt_succ_self _, (show F_jArr_fill_L10 R x1 x2 x3 t0_0 ((220 - x1.toInt).toNat + 1) x1 t0_0 = (F_jArr_fill R x1 x2 x3 t0_0) from (by rw [F_jArr_fill.eq_1]))⟩⟩
  rintro ⟨lx7, lx8⟩ H locs ls w12 ⟨i9, i10, V, hl, hI, hF, hO13, ⟨fu15, hf16, hR14⟩⟩ ih11
  obtain ⟨fm17, rfl⟩ : ∃ m, fu15 = m + 1 := ⟨fu15 - 1, by omega⟩
  replace i9 : q_F (x1.toInt ≤ lx7.toInt) := i9
  replace i10 : q_F (lx7.toInt ≤ x2.toInt) := i10
  replace hl : lv_has ls 5 [(4, .int lx7), (0, .ref (q (k + 1))), (2, .int x2), (3, .int x3)] := hl
  replace hO13 : w12[k + 1]? = (some (q (k + 1), .inl (g 0, R.toNatClampNeg, .inl lx8)) : Option (Nat × va_E)) := hO13
  refine lv_iload hx hb d_37_104_10 (lv_at hl 0 rfl) ?_
  refine lv_iload_n hx hb d_37_104_12 rfl (lv_at hl 2 rfl) ?_
  refine lv_icmp_ge (tgt := 27) hx hb d_37_104_13 (by decide) (fun c18 => ?_) (fun c18 => ?_)
  ·
    exact q_retv C0 V (⟨hI, hF, lx8, hO13, (show lx8 = (F_jArr_fill R x1 x2 x3 t0_0) from Eq.trans (by rw [F_jArr_fill_L10.eq_2, if_pos c18]) hR14)⟩) d_37_104_27
  ·
    have b20 : q_F (lx7.toInt < x2.toInt) := (q_nleI c18)
    refine lv_aload_n hx hb d_37_104_16 rfl (lv_at hl 1 rfl) ?_
    refine lv_iload hx hb d_37_104_17 (lv_at hl 0 rfl) ?_
    refine lv_iload_n hx hb d_37_104_19 rfl (lv_at hl 3 rfl) ?_
    refine q_iast C0 V hO13 (q_ix (x := lx7.toInt) rfl (by have t1 : 0 ≤ x1.toInt := pre0; have t2 : x1.toInt ≤ lx7.toInt := i9; omega) (by have t1 : 0 ≤ x1.toInt := pre0; have t2 : x1.toInt ≤ lx7.toInt := i9; have t3 : x2.toInt ≤ R.toInt := pre2; have t4 : lx7.toInt < x2.toInt := b20; have e9 := q_clI (i := R) rfl (by first | with_reducible exact (q_fe hfk0).2 | with_reducible exact (q_fe hfk0).1 | (have t1 : 0 ≤ R.toInt ∧ R.toInt ≤ 220 := hfk0; omega)); omega)) d_37_104_20 (fun H locs w21 hu22 hO13 V => ?_)
    replace hI := q_bigA' hI hB hu22 hO13 (q_updB (fun _ => s_bnd) s_bnd)
    replace hF := q_us hF hu22 (by simp)
    obtain ⟨f23, e24⟩ := q_nm (upd lx8 lx7.toNatClampNeg x3 : (Nat → Int32))
    rw [e24] at hO13
    obtain ⟨a25, e26⟩ := q_nm (lx7 + 1 : Int32)
    have b27 : q_F (a25.toInt = lx7.toInt + 1) := (by rw [← e26]; exact q_addI (y := 1) rfl (by decide) (by have _ := q_lo32 (x := lx7); have _ := q_hi32 (x := lx7); have t1 : lx7.toInt < x2.toInt := b20; have _ := q_lo32 (x := x2); have _ := q_hi32 (x := x2); omega) (by have _ := q_lo32 (x := lx7); have _ := q_hi32 (x := lx7); have t1 : lx7.toInt < x2.toInt := b20; have _ := q_lo32 (x := x2); have _ := q_hi32 (x := x2); omega))
    refine lv_iinc (v := a25) (lv' := [(4, .int a25), (0, .ref (q (k + 1))), (2, .int x2), (3, .int x3)]) hx hb d_37_104_21 hl (k := 0) rfl (e26) (by decide) rfl (fun ls hl => ?_)
    refine lv_goto (tgt := 10) hx hb d_37_104_24 (by decide) ?_
    exact ih11 ((a25 : Int32), (f23 : (Nat → Int32))) _ _ _ _ (show (220 - a25.toInt).toNat < (220 - lx7.toInt).toNat from by have t1 : a25.toInt = lx7.toInt + 1 := b27; have t2 : 0 ≤ R.toInt ∧ R.toInt ≤ 220 := hfk0; have t3 : x2.toInt ≤ R.toInt := pre2; have t4 : lx7.toInt ≤ x2.toInt := i10; have t5 : lx7.toInt < x2.toInt := b20; omega) ⟨(show q_F (x1.toInt ≤ a25.toInt) from (show x1.toInt ≤ a25.toInt from by have t1 : x1.toInt ≤ lx7.toInt := i9; have t2 : a25.toInt = lx7.toInt + 1 := b27; omega)), (show q_F (a25.toInt ≤ x2.toInt) from (show a25.toInt ≤ x2.toInt from by have t1 : lx7.toInt < x2.toInt := b20; have t2 : a25.toInt = lx7.toInt + 1 := b27; omega)), V, q_lw hl (q_lw1 0 rfl (q_lw1 1 rfl (q_lw1 2 rfl (q_lw1 3 rfl q_lw0)))), hI, hF, hO13, ⟨fm17, Nat.lt_of_lt_of_le (show (220 - a25.toInt).toNat < (220 - lx7.toInt).toNat from by have t1 : a25.toInt = lx7.toInt + 1 := b27; have t2 : 0 ≤ R.toInt ∧ R.toInt ≤ 220 := hfk0; have t3 : x2.toInt ≤ R.toInt := pre2; have t4 : lx7.toInt ≤ x2.toInt := i10; have t5 : lx7.toInt < x2.toInt := b20; omega) (Nat.le_of_lt_succ hf16), (show F_jArr_fill_L10 R x1 x2 x3 t0_0 fm17 a25 f23 = (F_jArr_fill R x1 x2 x3 t0_0) from Eq.trans (by subst e24; subst e26; rw [F_jArr_fill_L10.eq_2, if_neg c18]) hR14)⟩⟩
def F_jMath_max_JJJ (x1 : Int64) (x2 : Int64) : Int64 := if (lg_cmp x1 x2 : Int32) < (0 : Int32) then (x2) else (x1)
set_option maxRecDepth 100000 in
set_option maxHeartbeats 4000000 in
theorem X_jMath_max_JJJ (l : Launch) (D : va_G) (g : Nat → ClassId) (q : Nat → Nat) (ws : va_W) (x1 : Int64) (x2 : Int64) (hI : q_I (nsh g q) q ws) : q_mL l y_jMath_max_JJJ prog_29_method_66_code 4 1 0 0 D g [.long x1, .long x2] ws (fun r u => ws = u ∧ (x1.toInt ≤ r.toInt) ∧ (x2.toInt ≤ r.toInt) ∧ r = (F_jMath_max_JJJ x1 x2)) := by
  intro sz
  refine q_intoF (by decide +kernel) (Nat.le_of_ble_eq_true rfl) ?_
  intro p e s m below meth c ls hsz C0 V hl
  have hx := C0.1
  have hb := C0.2.1
  have hl : lv_has ls 4 [(0, .long x1), (2, .long x2)] := hl
  refine lv_lload_n hx hb d_29_66_0 rfl (lv_at hl 0 rfl) ?_
  refine lv_lload_n hx hb d_29_66_1 rfl (lv_at hl 1 rfl) ?_
  refine W.lcmp hx hb d_29_66_2 ?_
  obtain ⟨a1, e2⟩ := q_nm (lg_cmp x1 x2 : Int32)
  refine q_ti (v := a1) e2 ?_
  have b3 : q_F (-1 ≤ a1.toInt ∧ a1.toInt ≤ 1 ∧ ((a1.toInt = -1 ∧ x1.toInt < x2.toInt) ∨ (a1.toInt = 0 ∧ x1.toInt = x2.toInt) ∨ (a1.toInt = 1 ∧ x2.toInt < x1.toInt))) := (by rw [← e2]; show -1 ≤ (lg_cmp x1 x2 : Int32).toInt ∧ (lg_cmp x1 x2 : Int32).toInt ≤ 1 ∧ (((lg_cmp x1 x2 : Int32).toInt = -1 ∧ x1.toInt < x2.toInt) ∨ ((lg_cmp x1 x2 : Int32).toInt = 0 ∧ x1.toInt = x2.toInt) ∨ ((lg_cmp x1 x2 : Int32).toInt = 1 ∧ x2.toInt < x1.toInt)); exact s_lcmp)
  refine lv_if_lt (tgt := 10) hx hb d_29_66_3 (by decide) (fun c4 => ?_) (fun c4 => ?_)
  ·
    have b5 : q_F (a1.toInt < 0) := (q_ltI c4)
    refine lv_lload_n hx hb d_29_66_10 rfl (lv_at hl 1 rfl) ?_
    exact q_retl C0 V (⟨rfl, (show x1.toInt ≤ x2.toInt from (by have t1 : -1 ≤ a1.toInt ∧ a1.toInt ≤ 1 ∧ ((a1.toInt = -1 ∧ x1.toInt < x2.toInt) ∨ (a1.toInt = 0 ∧ x1.toInt = x2.toInt) ∨ (a1.toInt = 1 ∧ x2.toInt < x1.toInt)) := b3; have t2 : a1.toInt < 0 := b5; omega)), (show x2.toInt ≤ x2.toInt from (by omega)), (show x2 = (F_jMath_max_JJJ x1 x2) from (by subst e2; rw [F_jMath_max_JJJ.eq_1, if_pos c4]))⟩) d_29_66_11
  ·
    have b6 : q_F (0 ≤ a1.toInt) := (q_nltI c4)
    refine lv_lload_n hx hb d_29_66_6 rfl (lv_at hl 0 rfl) ?_
    refine lv_goto (tgt := 11) hx hb d_29_66_7 (by decide) ?_
    exact q_retl C0 V (⟨rfl, (show x1.toInt ≤ x1.toInt from (by omega)), (show x2.toInt ≤ x1.toInt from (by have t1 : -1 ≤ a1.toInt ∧ a1.toInt ≤ 1 ∧ ((a1.toInt = -1 ∧ x1.toInt < x2.toInt) ∨ (a1.toInt = 0 ∧ x1.toInt = x2.toInt) ∨ (a1.toInt = 1 ∧ x2.toInt < x1.toInt)) := b3; have t2 : 0 ≤ a1.toInt := b6; omega)), (show x1 = (F_jMath_max_JJJ x1 x2) from (by subst e2; rw [F_jMath_max_JJJ.eq_1, if_neg c4]))⟩) d_29_66_11
def F_Big_toLong (R : Int32) (t0_0 : Int32) (t0_1 : Int32) (t1_0 : (Nat → Int32)) : Int64 := if t0_1 = (0 : Int32) then ((((((F_Big_limb R (0 : Int32) t0_0 t0_1 t1_0) : Int32).toInt64 : Int64) ||| ((((F_Big_limb R (1 : Int32) t0_0 t0_1 t1_0) : Int32).toInt64 : Int64) <<< ((31 : Int32).toInt64 &&& 63) : Int64) : Int64) ||| ((((F_Big_limb R (2 : Int32) t0_0 t0_1 t1_0) : Int32).toInt64 : Int64) <<< ((62 : Int32).toInt64 &&& 63) : Int64) : Int64)) else ((-(((((F_Big_limb R (0 : Int32) t0_0 t0_1 t1_0) : Int32).toInt64 : Int64) ||| ((((F_Big_limb R (1 : Int32) t0_0 t0_1 t1_0) : Int32).toInt64 : Int64) <<< ((31 : Int32).toInt64 &&& 63) : Int64) : Int64) ||| ((((F_Big_limb R (2 : Int32) t0_0 t0_1 t1_0) : Int32).toInt64 : Int64) <<< ((62 : Int32).toInt64 &&& 63) : Int64) : Int64) : Int64))
set_option maxRecDepth 100000 in
set_option maxHeartbeats 4000000 in
theorem X_Big_toLong (l : Launch) (D : va_G) (g : Nat → ClassId) (q : Nat → Nat) (ws : va_W) (k1 : Nat) (R : Int32) (hB1 : q_isBig (nsh g q) g q k1 R) (zk1 : (10 ≤ k1 ∧ k1 ≤ 32) ∨ 66 ≤ k1) (hI : q_I (nsh g q) q ws) (t0_0 : Int32) (t0_1 : Int32) (hT0 : ws[k1]? = (some (q k1, .inr (2, [.ref (q (k1 + 1)), .int t0_0, .int t0_1])) : Option (Nat × va_E))) (t1_0 : (Nat → Int32)) (hT1 : ws[k1 + 1]? = (some (q (k1 + 1), .inl (g 0, R.toNatClampNeg, .inl t1_0)) : Option (Nat × va_E))) : q_mL l y_Big_toLong prog_2_method_10_code 3 2 0 0 D g [.ref (q k1)] ws (fun r u => ws = u ∧ r = (F_Big_toLong R t0_0 t0_1 t1_0)) := by
  intro sz
  refine q_into (by decide) (Nat.le_of_ble_eq_true rfl) ?_
  intro p e s m below meth c ls hsz C0 V hl
  have hx := C0.1
  have hb := C0.2.1
  have btt0_1 := (q_bigW hI hB1 hT0).2
  clear btt0_1
  have hl : lv_has ls 3 [(0, .ref (q k1))] := hl
  refine lv_aload_n hx hb d_2_10_0 rfl (lv_at hl 0 rfl) ?_
  refine lv_iconst (v := 0) hx hb d_2_10_1 (by decide) ?_
  refine q_goi V (q_runV (As := [.int 0]) (rest := []) (d := 1) (mc := 0) (ms := 0) (ci := 2) C0 V rfl LV_Big_49 (X_Big_limb l D g q ws k1 R hB1 zk1 0 hI t0_0 t0_1 hT0 t1_0 hT1  _) rfl rfl hT0 rfl hl.1 rfl (Nat.le_of_ble_eq_true rfl) ⟨by decide, by decide⟩ ⟨Nat.le_of_ble_eq_true rfl, Nat.le_of_ble_eq_true rfl⟩ d_2_10_2) (fun a11 u9 H locs hp10 V => ?_)
  obtain ⟨rfl, hE12⟩ := hp10
  have e13 : a11 = (F_Big_limb R (0 : Int32) t0_0 t0_1 t1_0) := hE12
  refine lv_i2l hx hb d_2_10_5 rfl ?_
  obtain ⟨j14, e15⟩ := q_nm (a11.toInt64 : Int64)
  refine q_tl (v := j14) e15 ?_
  refine lv_aload_n hx hb d_2_10_6 rfl (lv_at hl 0 rfl) ?_
  refine lv_iconst (v := 1) hx hb d_2_10_7 (by decide) ?_
  refine q_goi V (q_runV (As := [.int 1]) (rest := [.long j14]) (d := 1) (mc := 0) (ms := 0) (ci := 2) C0 V rfl LV_Big_49 (X_Big_limb l D g q ws k1 R hB1 zk1 1 hI t0_0 t0_1 hT0 t1_0 hT1  _) rfl rfl hT0 rfl hl.1 rfl (Nat.le_of_ble_eq_true rfl) ⟨by decide, by decide⟩ ⟨Nat.le_of_ble_eq_true rfl, Nat.le_of_ble_eq_true rfl⟩ d_2_10_8) (fun a19 u17 H locs hp18 V => ?_)
  obtain ⟨rfl, hE20⟩ := hp18
  have e21 : a19 = (F_Big_limb R (1 : Int32) t0_0 t0_1 t1_0) := hE20
  refine lv_i2l hx hb d_2_10_11 rfl ?_
  obtain ⟨j22, e23⟩ := q_nm (a19.toInt64 : Int64)
  refine q_tl (v := j22) e23 ?_
  refine lv_bipush (v := 31) hx hb d_2_10_12 (by decide) ?_
  refine lv_lshl hx hb d_2_10_14 rfl ?_
  obtain ⟨j25, e26⟩ := q_nm (j22 <<< ((31 : Int32).toInt64 &&& 63) : Int64)
  refine q_tl (v := j25) e26 ?_
  refine lv_lor hx hb d_2_10_15 ?_
  obtain ⟨j27, e28⟩ := q_nm (j14 ||| j25 : Int64)
  refine q_tl (v := j27) e28 ?_
  refine lv_aload_n hx hb d_2_10_16 rfl (lv_at hl 0 rfl) ?_
  refine lv_iconst (v := 2) hx hb d_2_10_17 (by decide) ?_
  refine q_goi V (q_runV (As := [.int 2]) (rest := [.long j27]) (d := 1) (mc := 0) (ms := 0) (ci := 2) C0 V rfl LV_Big_49 (X_Big_limb l D g q ws k1 R hB1 zk1 2 hI t0_0 t0_1 hT0 t1_0 hT1  _) rfl rfl hT0 rfl hl.1 rfl (Nat.le_of_ble_eq_true rfl) ⟨by decide, by decide⟩ ⟨Nat.le_of_ble_eq_true rfl, Nat.le_of_ble_eq_true rfl⟩ d_2_10_18) (fun a31 u29 H locs hp30 V => ?_)
  obtain ⟨rfl, hE32⟩ := hp30
  have e33 : a31 = (F_Big_limb R (2 : Int32) t0_0 t0_1 t1_0) := hE32
  refine lv_i2l hx hb d_2_10_21 rfl ?_
  obtain ⟨j34, e35⟩ := q_nm (a31.toInt64 : Int64)
  refine q_tl (v := j34) e35 ?_
  refine lv_bipush (v := 62) hx hb d_2_10_22 (by decide) ?_
  refine lv_lshl hx hb d_2_10_24 rfl ?_
  obtain ⟨j37, e38⟩ := q_nm (j34 <<< ((62 : Int32).toInt64 &&& 63) : Int64)
  refine q_tl (v := j37) e38 ?_
  refine lv_lor hx hb d_2_10_25 ?_
  obtain ⟨j39, e40⟩ := q_nm (j27 ||| j37 : Int64)
  refine q_tl (v := j39) e40 ?_
  refine lv_lstore_n (lv' := [(1, .long j39), (0, .ref (q k1))]) hx hb d_2_10_26 rfl hl (by decide) rfl (fun ls hl => ?_)
  refine lv_aload_n hx hb d_2_10_27 rfl (lv_at hl 1 rfl) ?_
  refine q_get (ci := 2) (j := 2) (v := .int t0_1) C0 V i_Big rfl rfl hT0 (by decide) w_94 rfl d_2_10_28 ?_
  refine lv_if_eq (tgt := 39) hx hb d_2_10_31 (by decide) (fun c41 => ?_) (fun c41 => ?_)
  ·
    refine lv_lload_n hx hb d_2_10_39 rfl (lv_at hl 0 rfl) ?_
    exact q_retl C0 V (⟨rfl, (show j39 = (F_Big_toLong R t0_0 t0_1 t1_0) from (by subst e13; subst e15; subst e21; subst e23; subst e26; subst e28; subst e33; subst e35; subst e38; subst e40; rw [F_Big_toLong.eq_1, if_pos c41]))⟩) d_2_10_40
  ·
    refine lv_lload_n hx hb d_2_10_34 rfl (lv_at hl 0 rfl) ?_
    refine lv_lneg hx hb d_2_10_35 ?_
    obtain ⟨j44, e45⟩ := q_nm (-j39 : Int64)
    refine q_tl (v := j44) e45 ?_
    refine lv_goto (tgt := 40) hx hb d_2_10_36 (by decide) ?_
    exact q_retl C0 V (⟨rfl, (show j44 = (F_Big_toLong R t0_0 t0_1 t1_0) from (by subst e13; subst e15; subst e21; subst e23; subst e26; subst e28; subst e33; subst e35; subst e38; subst e40; subst e45; rw [F_Big_toLong.eq_1, if_neg c41]))⟩) d_2_10_40
def F_Big_otherBits_L4 (R : Int32) (t0_0 : Int32) (t0_1 : Int32) (t1_0 : (Nat → Int32)) : Nat → Int32 → Int32 → Int32
  | 0, _, _ => default
  | fm + 1, lx13, lx14 => if t0_0 ≤ lx13 then (if t0_1 = (0 : Int32) then (lx14) else (((lx14 - 1 : Int32) + ((F_Big_lowestOne R t0_0 t0_1 t1_0) : Int32) : Int32))) else (F_Big_otherBits_L4 R t0_0 t0_1 t1_0 fm (lx13 + 1 : Int32) (lx14 + ((F_jInt_bitCount (t1_0 lx13.toNatClampNeg : Int32)) : Int32) : Int32))
def F_Big_otherBits (R : Int32) (t0_0 : Int32) (t0_1 : Int32) (t1_0 : (Nat → Int32)) : Int32 := F_Big_otherBits_L4 R t0_0 t0_1 t1_0 ((220 - (0 : Int32).toInt).toNat + 1) 0 0
set_option maxRecDepth 100000 in
set_option maxHeartbeats 4000000 in
theorem X_Big_otherBits (l : Launch) (D : va_G) (g : Nat → ClassId) (q : Nat → Nat) (ws : va_W) (k1 : Nat) (R : Int32) (hB1 : q_isBig (nsh g q) g q k1 R) (zk1 : (10 ≤ k1 ∧ k1 ≤ 32) ∨ 66 ≤ k1) (hI : q_I (nsh g q) q ws) (t0_0 : Int32) (t0_1 : Int32) (hT0 : ws[k1]? = (some (q k1, .inr (2, [.ref (q (k1 + 1)), .int t0_0, .int t0_1])) : Option (Nat × va_E))) (t1_0 : (Nat → Int32)) (hT1 : ws[k1 + 1]? = (some (q (k1 + 1), .inl (g 0, R.toNatClampNeg, .inl t1_0)) : Option (Nat × va_E))) : q_mI l y_Big_otherBits prog_2_method_16_code 3 (.int) 3 0 0 D g [.ref (q k1)] ws (fun r u => ws = u ∧ (0 ≤ r.toInt + 1) ∧ (r.toInt ≤ t0_0.toInt + 20491) ∧ (r.toInt ≤ t0_1.toInt + 20710) ∧ r = (F_Big_otherBits R t0_0 t0_1 t1_0)) := by
  intro sz
  refine q_into (by decide) (Nat.le_of_ble_eq_true rfl) ?_
  intro p e s m below meth c ls hsz C0 V hl
  have hx := C0.1
  have hb := C0.2.1
  have hfk10 : q_F (0 ≤ R.toInt ∧ R.toInt ≤ 220) := hB1.2.2
  obtain ⟨btt0_0, btt0_1⟩ := q_bigW hI hB1 hT0
  replace btt0_0 : q_F (0 ≤ t0_0.toInt ∧ t0_0.toInt ≤ R.toInt) := btt0_0
  replace btt0_1 : q_F (0 ≤ t0_1.toInt ∧ t0_1.toInt ≤ 1) := btt0_1
  have hl : lv_has ls 3 [(0, .ref (q k1))] := hl
  refine lv_iconst (v := 0) hx hb d_2_16_0 (by decide) ?_
  refine lv_istore_n (lv' := [(1, .int 0), (0, .ref (q k1))]) hx hb d_2_16_1 rfl hl (by decide) rfl (fun ls hl => ?_)
  refine lv_iconst (v := 0) hx hb d_2_16_2 (by decide) ?_
  refine lv_istore_n (lv' := [(2, .int 0), (1, .int 0), (0, .ref (q k1))]) hx hb d_2_16_3 rfl hl (by decide) rfl (fun ls hl => ?_)
  refine q_loop (X := Int32 × Int32) (fun z H locs ls _ => q_F (0 ≤ z.2.toInt) ∧ q_F (z.1.toInt ≤ t0_0.toInt) ∧ q_F (z.2.toInt ≤ 63 * z.1.toInt) ∧ q_Wd D g (va_A ws sz) s ws H locs ∧ lv_has ls 3 [(2, .int z.1), (1, .int z.2), (0, .ref (q k1))] ∧ (∃ n, (220 - z.1.toInt).toNat < n ∧ F_Big_otherBits_L4 R t0_0 t0_1 t1_0 n z.1 z.2 = (F_Big_otherBits R t0_0 t0_1 t1_0))) (fun z => (220 - z.1.toInt).toNat) ?_ ((0 : Int32), (0 : Int32)) _ _ _ ws ⟨(show q_F (0 ≤ 0) from (show 0 ≤ 0 from by omega)), (show q_F (0 ≤ t0_0.toInt) from (show 0 ≤ t0_0.toInt from by have t1 : 0 ≤ t0_0.toInt ∧ t0_0.toInt ≤ R.toInt := btt0_0; omega)), (show q_F (0 ≤ 63 * 0) from (show 0 ≤ 63 * 0 from by omega)), V, q_lw hl (q_lw1 0 rfl (q_lw1 1 rfl (q_lw1 2 rfl q_lw0))), ⟨((220 - (0 : Int32).toInt).toNat + 1), Nat.lt_succ_self _, (show F_Big_otherBits_L4 R t0_0 t0_1 t1_0 ((220 - (0 : Int32).toInt).toNat + 1) 0 0 = (F_Big_otherBits R t0_0 t0_1 t1_0) from (by rw [F_Big_otherBits.eq_1]))⟩⟩
  rintro ⟨lx13, lx14⟩ H locs ls _ ⟨i15, i16, i17, V, hl, ⟨fu20, hf21, hR19⟩⟩ ih18
  obtain ⟨fm22, rfl⟩ : ∃ m, fu20 = m + 1 := ⟨fu20 - 1, by omega⟩
  replace i15 : q_F (0 ≤ lx14.toInt) := i15
  replace i16 : q_F (lx13.toInt ≤ t0_0.toInt) := i16
  replace i17 : q_F (lx14.toInt ≤ 63 * lx13.toInt) := i17
  replace hl : lv_has ls 3 [(2, .int lx13), (1, .int lx14), (0, .ref (q k1))] := hl
  refine lv_iload_n hx hb d_2_16_4 rfl (lv_at hl 0 rfl) ?_
  refine lv_aload_n hx hb d_2_16_5 rfl (lv_at hl 2 rfl) ?_
  refine q_get (ci := 2) (j := 1) (v := .int t0_0) C0 V i_Big rfl rfl hT0 (by decide) w_85 rfl d_2_16_6 ?_
  refine lv_icmp_ge (tgt := 30) hx hb d_2_16_9 (by decide) (fun c23 => ?_) (fun c23 => ?_)
  ·
    refine lv_aload_n hx hb d_2_16_30 rfl (lv_at hl 2 rfl) ?_
    refine q_get (ci := 2) (j := 2) (v := .int t0_1) C0 V i_Big rfl rfl hT0 (by decide) w_94 rfl d_2_16_31 ?_
    refine lv_if_eq (tgt := 48) hx hb d_2_16_34 (by decide) (fun c25 => ?_) (fun c25 => ?_)
    ·
      refine lv_iload_n hx hb d_2_16_48 rfl (lv_at hl 1 rfl) ?_
      exact q_reti C0 V (⟨rfl, (show 0 ≤ lx14.toInt + 1 from (by first | with_reducible exact q_fe i15 | (have t1 : 0 ≤ lx14.toInt := i15; omega))), (show lx14.toInt ≤ t0_0.toInt + 20491 from (by have t1 : 0 ≤ R.toInt ∧ R.toInt ≤ 220 := hfk10; have t2 : 0 ≤ t0_0.toInt ∧ t0_0.toInt ≤ R.toInt := btt0_0; have t3 : lx13.toInt ≤ t0_0.toInt := i16; have t4 : lx14.toInt ≤ 63 * lx13.toInt := i17; omega)), (show lx14.toInt ≤ t0_1.toInt + 20710 from (by have t1 : 0 ≤ R.toInt ∧ R.toInt ≤ 220 := hfk10; have t2 : 0 ≤ t0_0.toInt ∧ t0_0.toInt ≤ R.toInt := btt0_0; have t3 : 0 ≤ t0_1.toInt ∧ t0_1.toInt ≤ 1 := btt0_1; have t4 : lx13.toInt ≤ t0_0.toInt := i16; have t5 : lx14.toInt ≤ 63 * lx13.toInt := i17; omega)), (show lx14 = (F_Big_otherBits R t0_0 t0_1 t1_0) from Eq.trans (by rw [F_Big_otherBits_L4.eq_2, if_pos c23, if_pos c25]) hR19)⟩) d_2_16_49
    ·
      have b27 : q_F (t0_1.toInt ≠ 0) := (q_neI c25)
      refine lv_iload_n hx hb d_2_16_37 rfl (lv_at hl 1 rfl) ?_
      refine lv_iconst (v := 1) hx hb d_2_16_38 (by decide) ?_
      refine lv_isub hx hb d_2_16_39 ?_
      obtain ⟨a28, e29⟩ := q_nm (lx14 - 1 : Int32)
      refine q_ti (v := a28) e29 ?_
      have b30 : q_F (a28.toInt = lx14.toInt - 1) := (by rw [← e29]; show (lx14 - 1 : Int32).toInt = lx14.toInt - 1; exact q_subI (x := lx14.toInt) (y := 1) rfl (by decide) (by have t1 : 0 ≤ lx14.toInt := i15; have _ := q_lo32 (x := lx14); have _ := q_hi32 (x := lx14); omega) (by have t1 : 0 ≤ lx14.toInt := i15; have _ := q_lo32 (x := lx14); have _ := q_hi32 (x := lx14); omega))
      refine lv_aload_n hx hb d_2_16_40 rfl (lv_at hl 2 rfl) ?_
      refine q_goi V (q_runV (As := []) (rest := [.int a28]) (d := 2) (mc := 0) (ms := 0) (ci := 2) C0 V rfl LV_Big_68 (X_Big_lowestOne l D g q ws k1 R hB1 zk1  hI t0_0 t0_1 hT0 t1_0 hT1  _) rfl rfl hT0 rfl hl.1 rfl (Nat.le_of_ble_eq_true rfl) ⟨by decide, by decide⟩ ⟨Nat.le_of_ble_eq_true rfl, Nat.le_of_ble_eq_true rfl⟩ d_2_16_41) (fun a33 u31 H locs hp32 V => ?_)
      obtain ⟨rfl, b34, b35, hE36⟩ := hp32
      have e37 : a33 = (F_Big_lowestOne R t0_0 t0_1 t1_0) := hE36
      replace b34 : q_F (0 ≤ a33.toInt) := b34
      replace b35 : q_F (a33.toInt ≤ t0_0.toInt + 6632) := b35
      refine lv_iadd hx hb d_2_16_44 ?_
      obtain ⟨a38, e39⟩ := q_nm (a28 + a33 : Int32)
      refine q_ti (v := a38) e39 ?_
      have b40 : q_F (a38.toInt = a28.toInt + a33.toInt) := (by rw [← e39]; show (a28 + a33 : Int32).toInt = a28.toInt + a33.toInt; exact q_addI (x := a28.toInt) (y := a33.toInt) rfl rfl (by have t1 : 0 ≤ a33.toInt := b34; have _ := q_lo32 (x := a28); have _ := q_hi32 (x := a28); have t2 : 0 ≤ R.toInt ∧ R.toInt ≤ 220 := hfk10; have t3 : 0 ≤ t0_0.toInt ∧ t0_0.toInt ≤ R.toInt := btt0_0; have t4 : lx13.toInt ≤ t0_0.toInt := i16; have t5 : lx14.toInt ≤ 63 * lx13.toInt := i17; have t6 : a28.toInt = lx14.toInt - 1 := b30; have t7 : a33.toInt ≤ t0_0.toInt + 6632 := b35; omega) (by have t1 : 0 ≤ a33.toInt := b34; have _ := q_lo32 (x := a28); have _ := q_hi32 (x := a28); have t2 : 0 ≤ R.toInt ∧ R.toInt ≤ 220 := hfk10; have t3 : 0 ≤ t0_0.toInt ∧ t0_0.toInt ≤ R.toInt := btt0_0; have t4 : lx13.toInt ≤ t0_0.toInt := i16; have t5 : lx14.toInt ≤ 63 * lx13.toInt := i17; have t6 : a28.toInt = lx14.toInt - 1 := b30; have t7 : a33.toInt ≤ t0_0.toInt + 6632 := b35; omega))
      refine lv_goto (tgt := 49) hx hb d_2_16_45 (by decide) ?_
      exact q_reti C0 V (⟨rfl, (show 0 ≤ a38.toInt + 1 from (by have t1 : 0 ≤ lx14.toInt := i15; have t2 : a28.toInt = lx14.toInt - 1 := b30; have t3 : 0 ≤ a33.toInt := b34; have t4 : a38.toInt = a28.toInt + a33.toInt := b40; omega)), (show a38.toInt ≤ t0_0.toInt + 20491 from (by have t1 : 0 ≤ R.toInt ∧ R.toInt ≤ 220 := hfk10; have t2 : 0 ≤ t0_0.toInt ∧ t0_0.toInt ≤ R.toInt := btt0_0; have t3 : lx13.toInt ≤ t0_0.toInt := i16; have t4 : lx14.toInt ≤ 63 * lx13.toInt := i17; have t5 : a28.toInt = lx14.toInt - 1 := b30; have t6 : a33.toInt ≤ t0_0.toInt + 6632 := b35; have t7 : a38.toInt = a28.toInt + a33.toInt := b40; omega)), (show a38.toInt ≤ t0_1.toInt + 20710 from (by have t1 : 0 ≤ R.toInt ∧ R.toInt ≤ 220 := hfk10; have t2 : 0 ≤ t0_0.toInt ∧ t0_0.toInt ≤ R.toInt := btt0_0; have t3 : 0 ≤ t0_1.toInt ∧ t0_1.toInt ≤ 1 := btt0_1; have t4 : lx13.toInt ≤ t0_0.toInt := i16; have t5 : lx14.toInt ≤ 63 * lx13.toInt := i17; have t6 : t0_1.toInt ≠ 0 := b27; have t7 : a28.toInt = lx14.toInt - 1 := b30; have t8 : a33.toInt ≤ t0_0.toInt + 6632 := b35; have t9 : a38.toInt = a28.toInt + a33.toInt := b40; omega)), (show a38 = (F_Big_otherBits R t0_0 t0_1 t1_0) from Eq.trans (by subst e29; subst e37; subst e39; rw [F_Big_otherBits_L4.eq_2, if_pos c23, if_neg c25]) hR19)⟩) d_2_16_49
  ·
    have b41 : q_F (lx13.toInt < t0_0.toInt) := (q_nleI c23)
    refine lv_iload_n hx hb d_2_16_12 rfl (lv_at hl 1 rfl) ?_
    refine lv_aload_n hx hb d_2_16_13 rfl (lv_at hl 2 rfl) ?_
    refine q_get (ci := 2) (j := 0) (v := .ref (q (k1 + 1))) C0 V i_Big rfl rfl hT0 (by decide) w_84 rfl d_2_16_14 ?_
    refine lv_iload_n hx hb d_2_16_17 rfl (lv_at hl 0 rfl) ?_
    refine q_iald C0 V hT1 (q_ix (x := lx13.toInt) rfl (by have t1 : 0 ≤ lx14.toInt := i15; have t2 : lx14.toInt ≤ 63 * lx13.toInt := i17; omega) (by have t1 : 0 ≤ lx14.toInt := i15; have t2 : lx14.toInt ≤ 63 * lx13.toInt := i17; have t3 : 0 ≤ t0_0.toInt ∧ t0_0.toInt ≤ R.toInt := btt0_0; have t4 : lx13.toInt < t0_0.toInt := b41; have e9 := q_clI (i := R) rfl (by first | with_reducible exact (q_fe hfk10).2 | with_reducible exact (q_fe hfk10).1 | (have t1 : 0 ≤ R.toInt ∧ R.toInt ≤ 220 := hfk10; omega)); omega)) d_2_16_18 ?_
    obtain ⟨a42, e43⟩ := q_nm (t1_0 lx13.toNatClampNeg : Int32)
    refine q_ti (v := a42) e43 ?_
    refine q_goi V (q_runS (As := [.int a42]) (rest := [.int lx14]) (d := 1) (mc := 0) (ms := 0) C0 V rfl LS_Big_60 (X_jInt_bitCount l D g q ws  a42 hI   _) rfl hl.1 rfl (Nat.le_of_ble_eq_true rfl) ⟨by decide, by decide⟩ ⟨Nat.le_of_ble_eq_true rfl, Nat.le_of_ble_eq_true rfl⟩ d_2_16_19) (fun a46 u44 H locs hp45 V => ?_)
    obtain ⟨rfl, b47, b48, hE49⟩ := hp45
    have e50 : a46 = (F_jInt_bitCount a42) := hE49
    replace b47 : q_F (0 ≤ a46.toInt) := b47
    replace b48 : q_F (a46.toInt ≤ 63) := b48
    refine lv_iadd hx hb d_2_16_22 ?_
    obtain ⟨a51, e52⟩ := q_nm (lx14 + a46 : Int32)
    refine q_ti (v := a51) e52 ?_
    have b53 : q_F (a51.toInt = lx14.toInt + a46.toInt) := (by rw [← e52]; show (lx14 + a46 : Int32).toInt = lx14.toInt + a46.toInt; exact q_addI (x := lx14.toInt) (y := a46.toInt) rfl rfl (by have t1 : 0 ≤ lx14.toInt := i15; have t2 : 0 ≤ a46.toInt := b47; have t3 : 0 ≤ R.toInt ∧ R.toInt ≤ 220 := hfk10; have t4 : 0 ≤ t0_0.toInt ∧ t0_0.toInt ≤ R.toInt := btt0_0; have t5 : lx13.toInt ≤ t0_0.toInt := i16; have t6 : lx14.toInt ≤ 63 * lx13.toInt := i17; have t7 : a46.toInt ≤ 63 := b48; omega) (by have t1 : 0 ≤ lx14.toInt := i15; have t2 : 0 ≤ a46.toInt := b47; have t3 : 0 ≤ R.toInt ∧ R.toInt ≤ 220 := hfk10; have t4 : 0 ≤ t0_0.toInt ∧ t0_0.toInt ≤ R.toInt := btt0_0; have t5 : lx13.toInt ≤ t0_0.toInt := i16; have t6 : lx14.toInt ≤ 63 * lx13.toInt := i17; have t7 : a46.toInt ≤ 63 := b48; omega))
    refine lv_istore_n (lv' := [(1, .int a51), (2, .int lx13), (0, .ref (q k1))]) hx hb d_2_16_23 rfl hl (by decide) rfl (fun ls hl => ?_)
    obtain ⟨a54, e55⟩ := q_nm (lx13 + 1 : Int32)
    have b56 : q_F (a54.toInt = lx13.toInt + 1) := (by rw [← e55]; exact q_addI (y := 1) rfl (by decide) (by have _ := q_lo32 (x := lx13); have _ := q_hi32 (x := lx13); have t1 : lx13.toInt < t0_0.toInt := b41; have _ := q_lo32 (x := t0_0); have _ := q_hi32 (x := t0_0); omega) (by have _ := q_lo32 (x := lx13); have _ := q_hi32 (x := lx13); have t1 : lx13.toInt < t0_0.toInt := b41; have _ := q_lo32 (x := t0_0); have _ := q_hi32 (x := t0_0); omega))
    refine lv_iinc (v := a54) (lv' := [(2, .int a54), (1, .int a51), (0, .ref (q k1))]) hx hb d_2_16_24 hl (k := 1) rfl (e55) (by decide) rfl (fun ls hl => ?_)
    refine lv_goto (tgt := 4) hx hb d_2_16_27 (by decide) ?_
    exact ih18 ((a54 : Int32), (a51 : Int32)) _ _ _ ws (show (220 - a54.toInt).toNat < (220 - lx13.toInt).toNat from by have t1 : a54.toInt = lx13.toInt + 1 := b56; have t2 : 0 ≤ R.toInt ∧ R.toInt ≤ 220 := hfk10; have t3 : 0 ≤ t0_0.toInt ∧ t0_0.toInt ≤ R.toInt := btt0_0; have t4 : lx13.toInt ≤ t0_0.toInt := i16; have t5 : lx13.toInt < t0_0.toInt := b41; omega) ⟨(show q_F (0 ≤ a51.toInt) from (show 0 ≤ a51.toInt from by have t1 : 0 ≤ lx14.toInt := i15; have t2 : 0 ≤ a46.toInt := b47; have t3 : a51.toInt = lx14.toInt + a46.toInt := b53; omega)), (show q_F (a54.toInt ≤ t0_0.toInt) from (show a54.toInt ≤ t0_0.toInt from by have t1 : lx13.toInt < t0_0.toInt := b41; have t2 : a54.toInt = lx13.toInt + 1 := b56; omega)), (show q_F (a51.toInt ≤ 63 * a54.toInt) from (show a51.toInt ≤ 63 * a54.toInt from by have t1 : lx14.toInt ≤ 63 * lx13.toInt := i17; have t2 : a46.toInt ≤ 63 := b48; have t3 : a51.toInt = lx14.toInt + a46.toInt := b53; have t4 : a54.toInt = lx13.toInt + 1 := b56; omega)), V, q_lw hl (q_lw1 0 rfl (q_lw1 1 rfl (q_lw1 2 rfl q_lw0))), ⟨fm22, Nat.lt_of_lt_of_le (show (220 - a54.toInt).toNat < (220 - lx13.toInt).toNat from by have t1 : a54.toInt = lx13.toInt + 1 := b56; have t2 : 0 ≤ R.toInt ∧ R.toInt ≤ 220 := hfk10; have t3 : 0 ≤ t0_0.toInt ∧ t0_0.toInt ≤ R.toInt := btt0_0; have t4 : lx13.toInt ≤ t0_0.toInt := i16; have t5 : lx13.toInt < t0_0.toInt := b41; omega) (Nat.le_of_lt_succ hf21), (show F_Big_otherBits_L4 R t0_0 t0_1 t1_0 fm22 a54 a51 = (F_Big_otherBits R t0_0 t0_1 t1_0) from Eq.trans (by subst e43; subst e50; subst e52; subst e55; rw [F_Big_otherBits_L4.eq_2, if_neg c23]) hR19)⟩⟩
def F_Big_endlessLimb (R : Int32) (x2 : Int32) (x3 : Int32) (t0_0 : Int32) (t0_1 : Int32) (t1_0 : (Nat → Int32)) : Int32 := if t0_1 = (0 : Int32) then (((F_Big_limb R x2 t0_0 t0_1 t1_0) : Int32)) else (if x3 ≤ x2 then (if x2 = x3 then (((-((F_Big_limb R x2 t0_0 t0_1 t1_0) : Int32) : Int32) &&& 2147483647 : Int32)) else (((((F_Big_limb R x2 t0_0 t0_1 t1_0) : Int32) ^^^ (-1) : Int32) &&& 2147483647 : Int32))) else ((0 : Int32)))
set_option maxRecDepth 100000 in
set_option maxHeartbeats 4000000 in
theorem X_Big_endlessLimb (l : Launch) (D : va_G) (g : Nat → ClassId) (q : Nat → Nat) (ws : va_W) (k1 : Nat) (R : Int32) (hB1 : q_isBig (nsh g q) g q k1 R) (zk1 : (10 ≤ k1 ∧ k1 ≤ 32) ∨ 66 ≤ k1) (x2 : Int32) (x3 : Int32) (hI : q_I (nsh g q) q ws) (t0_0 : Int32) (t0_1 : Int32) (hT0 : ws[k1]? = (some (q k1, .inr (2, [.ref (q (k1 + 1)), .int t0_0, .int t0_1])) : Option (Nat × va_E))) (t1_0 : (Nat → Int32)) (hT1 : ws[k1 + 1]? = (some (q (k1 + 1), .inl (g 0, R.toNatClampNeg, .inl t1_0)) : Option (Nat × va_E))) : q_mI l y_Big_endlessLimb prog_2_method_19_code 3 (.int) 2 0 0 D g [.ref (q k1), .int x2, .int x3] ws (fun r u => ws = u ∧ r = (F_Big_endlessLimb R x2 x3 t0_0 t0_1 t1_0)) := by
  intro sz
  refine q_into (by decide) (Nat.le_of_ble_eq_true rfl) ?_
  intro p e s m below meth c ls hsz C0 V hl
  have hx := C0.1
  have hb := C0.2.1
  have btt0_1 := (q_bigW hI hB1 hT0).2
  clear btt0_1
  have hl : lv_has ls 3 [(0, .ref (q k1)), (1, .int x2), (2, .int x3)] := hl
  refine lv_aload_n hx hb d_2_19_0 rfl (lv_at hl 0 rfl) ?_
  refine q_get (ci := 2) (j := 2) (v := .int t0_1) C0 V i_Big rfl rfl hT0 (by decide) w_94 rfl d_2_19_1 ?_
  refine lv_if_ne (tgt := 13) hx hb d_2_19_4 (by decide) (fun c9 => ?_) (fun c9 => ?_)
  ·
    refine lv_iload_n hx hb d_2_19_13 rfl (lv_at hl 1 rfl) ?_
    refine lv_iload_n hx hb d_2_19_14 rfl (lv_at hl 2 rfl) ?_
    refine lv_icmp_ge (tgt := 20) hx hb d_2_19_15 (by decide) (fun c11 => ?_) (fun c11 => ?_)
    ·
      refine lv_iload_n hx hb d_2_19_20 rfl (lv_at hl 1 rfl) ?_
      refine lv_iload_n hx hb d_2_19_21 rfl (lv_at hl 2 rfl) ?_
      refine lv_icmp_ne (tgt := 34) hx hb d_2_19_22 (by decide) (fun c13 => ?_) (fun c13 => ?_)
      ·
        refine lv_aload_n hx hb d_2_19_34 rfl (lv_at hl 0 rfl) ?_
        refine lv_iload_n hx hb d_2_19_35 rfl (lv_at hl 1 rfl) ?_
        refine q_goi V (q_runV (As := [.int x2]) (rest := []) (d := 1) (mc := 0) (ms := 0) (ci := 2) C0 V rfl LV_Big_49 (X_Big_limb l D g q ws k1 R hB1 zk1 x2 hI t0_0 t0_1 hT0 t1_0 hT1  _) rfl rfl hT0 rfl hl.1 rfl (Nat.le_of_ble_eq_true rfl) ⟨by decide, by decide⟩ ⟨Nat.le_of_ble_eq_true rfl, Nat.le_of_ble_eq_true rfl⟩ d_2_19_36) (fun a17 u15 H locs hp16 V => ?_)
        obtain ⟨rfl, hE18⟩ := hp16
        have e19 : a17 = (F_Big_limb R x2 t0_0 t0_1 t1_0) := hE18
        refine lv_iconst (v := (-1)) hx hb d_2_19_39 (by decide) ?_
        refine lv_ixor hx hb d_2_19_40 ?_
        obtain ⟨a20, e21⟩ := q_nm (a17 ^^^ (-1) : Int32)
        refine q_ti (v := a20) e21 ?_
        refine q_ldc C0 rfl w_809 d_2_19_41 ?_
        refine lv_iand hx hb d_2_19_43 ?_
        obtain ⟨a22, e23⟩ := q_nm (a20 &&& 2147483647 : Int32)
        refine q_ti (v := a22) e23 ?_
        exact q_reti C0 V (⟨rfl, (show a22 = (F_Big_endlessLimb R x2 x3 t0_0 t0_1 t1_0) from (by subst e19; subst e21; subst e23; rw [F_Big_endlessLimb.eq_1, if_neg c9, if_pos c11, if_neg c13]))⟩) d_2_19_44
      ·
        refine lv_aload_n hx hb d_2_19_25 rfl (lv_at hl 0 rfl) ?_
        refine lv_iload_n hx hb d_2_19_26 rfl (lv_at hl 1 rfl) ?_
        refine q_goi V (q_runV (As := [.int x2]) (rest := []) (d := 1) (mc := 0) (ms := 0) (ci := 2) C0 V rfl LV_Big_49 (X_Big_limb l D g q ws k1 R hB1 zk1 x2 hI t0_0 t0_1 hT0 t1_0 hT1  _) rfl rfl hT0 rfl hl.1 rfl (Nat.le_of_ble_eq_true rfl) ⟨by decide, by decide⟩ ⟨Nat.le_of_ble_eq_true rfl, Nat.le_of_ble_eq_true rfl⟩ d_2_19_27) (fun a28 u26 H locs hp27 V => ?_)
        obtain ⟨rfl, hE29⟩ := hp27
        have e30 : a28 = (F_Big_limb R x2 t0_0 t0_1 t1_0) := hE29
        refine lv_ineg hx hb d_2_19_30 ?_
        obtain ⟨a31, e32⟩ := q_nm (-a28 : Int32)
        refine q_ti (v := a31) e32 ?_
        refine lv_goto (tgt := 41) hx hb d_2_19_31 (by decide) ?_
        refine q_ldc C0 rfl w_809 d_2_19_41 ?_
        refine lv_iand hx hb d_2_19_43 ?_
        obtain ⟨a33, e34⟩ := q_nm (a31 &&& 2147483647 : Int32)
        refine q_ti (v := a33) e34 ?_
        exact q_reti C0 V (⟨rfl, (show a33 = (F_Big_endlessLimb R x2 x3 t0_0 t0_1 t1_0) from (by subst e30; subst e32; subst e34; rw [F_Big_endlessLimb.eq_1, if_neg c9, if_pos c11, if_pos c13]))⟩) d_2_19_44
    ·
      refine lv_iconst (v := 0) hx hb d_2_19_18 (by decide) ?_
      exact q_reti C0 V (⟨rfl, (show (0 : Int32) = (F_Big_endlessLimb R x2 x3 t0_0 t0_1 t1_0) from (by rw [F_Big_endlessLimb.eq_1, if_neg c9, if_neg c11]))⟩) d_2_19_19
  ·
    refine lv_aload_n hx hb d_2_19_7 rfl (lv_at hl 0 rfl) ?_
    refine lv_iload_n hx hb d_2_19_8 rfl (lv_at hl 1 rfl) ?_
    refine q_goi V (q_runV (As := [.int x2]) (rest := []) (d := 1) (mc := 0) (ms := 0) (ci := 2) C0 V rfl LV_Big_49 (X_Big_limb l D g q ws k1 R hB1 zk1 x2 hI t0_0 t0_1 hT0 t1_0 hT1  _) rfl rfl hT0 rfl hl.1 rfl (Nat.le_of_ble_eq_true rfl) ⟨by decide, by decide⟩ ⟨Nat.le_of_ble_eq_true rfl, Nat.le_of_ble_eq_true rfl⟩ d_2_19_9) (fun a40 u38 H locs hp39 V => ?_)
    obtain ⟨rfl, hE41⟩ := hp39
    have e42 : a40 = (F_Big_limb R x2 t0_0 t0_1 t1_0) := hE41
    exact q_reti C0 V (⟨rfl, (show a40 = (F_Big_endlessLimb R x2 x3 t0_0 t0_1 t1_0) from (by subst e42; rw [F_Big_endlessLimb.eq_1, if_pos c9]))⟩) d_2_19_12
def F_Big_shiftLeft_L55 (R : Int32) (x2 : Int32) (t0_0 : Int32) (t0_1 : Int32) (t1_0 : (Nat → Int32)) (a28 : Int32) (a12 : Int32) (a9 : Int32) : Nat → Int32 → (Nat → Int32) → (Int32 × Int32 × (Nat → Int32))
  | 0, _, _ => default
  | fm + 1, lx35, lx36 => if lx35 < a9 then ((((F_Big_trim R a28 t0_1 ((F_jArr_fill R (0 : Int32) a9 (0 : Int32) lx36) : (Nat → Int32))).1 : Int32), ((F_Big_trim R a28 t0_1 ((F_jArr_fill R (0 : Int32) a9 (0 : Int32) lx36) : (Nat → Int32))).2 : Int32), ((F_jArr_fill R (0 : Int32) a9 (0 : Int32) lx36) : (Nat → Int32)))) else (F_Big_shiftLeft_L55 R x2 t0_0 t0_1 t1_0 a28 a12 a9 fm (lx35 + (-1) : Int32) (upd lx36 lx35.toNatClampNeg (((((F_Big_limb R (lx35 - a9 : Int32) t0_0 t0_1 lx36) : Int32) <<< (a12 &&& 31) : Int32) ||| ((((F_Big_limb R ((lx35 - a9 : Int32) - 1 : Int32) t0_0 t0_1 lx36) : Int32).toUInt32 >>> ((31 - a12 : Int32).toUInt32 &&& Int32.toUInt32 31)).toInt32 : Int32) : Int32) &&& 2147483647 : Int32) : (Nat → Int32)))
def F_Big_shiftLeft (R : Int32) (x2 : Int32) (t0_0 : Int32) (t0_1 : Int32) (t1_0 : (Nat → Int32)) : Int32 × Int32 × (Nat → Int32) := if x2 ≤ (0 : Int32) then ((t0_0, t0_1, t1_0)) else (if t0_0 = (0 : Int32) then ((t0_0, t0_1, t1_0)) else (if (x2 / 31 : Int32) < R then (F_Big_shiftLeft_L55 R x2 t0_0 t0_1 t1_0 (if ((t0_0 + (x2 / 31 : Int32) : Int32) + 1 : Int32) < R then ((t0_0 + (x2 / 31 : Int32) : Int32) + 1 : Int32) else R : Int32) (x2 - x2 / 31 * 31 : Int32) (x2 / 31 : Int32) ((((if ((t0_0 + (x2 / 31 : Int32) : Int32) + 1 : Int32) < R then ((t0_0 + (x2 / 31 : Int32) : Int32) + 1 : Int32) else R : Int32) - 1 : Int32).toInt - ((-1))).toNat + 1) ((if ((t0_0 + (x2 / 31 : Int32) : Int32) + 1 : Int32) < R then ((t0_0 + (x2 / 31 : Int32) : Int32) + 1 : Int32) else R : Int32) - 1 : Int32) t1_0) else ((t0_0, t0_1, t1_0))))
set_option maxRecDepth 100000 in
set_option maxHeartbeats 4000000 in
theorem X_Big_shiftLeft (l : Launch) (D : va_G) (g : Nat → ClassId) (q : Nat → Nat) (ws : va_W) (k1 : Nat) (R : Int32) (hB1 : q_isBig (nsh g q) g q k1 R) (zk1 : (10 ≤ k1 ∧ k1 ≤ 32) ∨ 66 ≤ k1) (x2 : Int32) (hI : q_I (nsh g q) q ws) (t0_0 : Int32) (t0_1 : Int32) (hT0 : ws[k1]? = (some (q k1, .inr (2, [.ref (q (k1 + 1)), .int t0_0, .int t0_1])) : Option (Nat × va_E))) (t1_0 : (Nat → Int32)) (hT1 : ws[k1 + 1]? = (some (q (k1 + 1), .inl (g 0, R.toNatClampNeg, .inl t1_0)) : Option (Nat × va_E))) : q_mV l y_Big_shiftLeft prog_2_method_32_code 6 3 0 0 D g [.ref (q k1), .int x2] ws (fun u => q_I (nsh g q) q u ∧ q_un ws u [k1, k1 + 1] ∧ ∃ (u0_0 : Int32) (u0_1 : Int32) (u1_0 : (Nat → Int32)), u[k1]? = (some (q k1, .inr (2, [.ref (q (k1 + 1)), .int u0_0, .int u0_1])) : Option (Nat × va_E)) ∧ u[k1 + 1]? = (some (q (k1 + 1), .inl (g 0, R.toNatClampNeg, .inl u1_0)) : Option (Nat × va_E)) ∧ (0 ≤ u0_0.toInt) ∧ (0 ≤ u0_1.toInt) ∧ (u0_0.toInt ≤ t0_0.toInt + 219) ∧ (u0_0.toInt ≤ R.toInt) ∧ (u0_1.toInt ≤ t0_1.toInt) ∧ (u0_0, u0_1, u1_0) = (F_Big_shiftLeft R x2 t0_0 t0_1 t1_0)) := by
  intro sz
  refine q_into (by decide) (Nat.le_of_ble_eq_true rfl) ?_
  intro p e s m below meth c ls hsz C0 V hl
  have hx := C0.1
  have hb := C0.2.1
  have hfk10 : q_F (0 ≤ R.toInt ∧ R.toInt ≤ 220) := hB1.2.2
  obtain ⟨btt0_0, btt0_1⟩ := q_bigW hI hB1 hT0
  replace btt0_0 : q_F (0 ≤ t0_0.toInt ∧ t0_0.toInt ≤ R.toInt) := btt0_0
  replace btt0_1 : q_F (0 ≤ t0_1.toInt ∧ t0_1.toInt ≤ 1) := btt0_1
  have hF : q_un ws ws [k1, k1 + 1] := q_u0
  have hl : lv_has ls 6 [(0, .ref (q k1)), (1, .int x2)] := hl
  refine lv_iload_n hx hb d_2_32_0 rfl (lv_at hl 1 rfl) ?_
  refine lv_bipush (v := 31) hx hb d_2_32_1 (by decide) ?_
  refine lv_idiv hx hb d_2_32_3 (by decide) ?_
  obtain ⟨a9, e10⟩ := q_nm (x2 / 31 : Int32)
  refine q_ti (v := a9) e10 ?_
  have b11 : q_F ((0 ≤ x2.toInt ∧ 31 * a9.toInt ≤ x2.toInt ∧ x2.toInt ≤ 31 * a9.toInt + (31 - 1)) ∨ (x2.toInt < 0 ∧ x2.toInt ≤ 31 * a9.toInt ∧ 31 * a9.toInt ≤ x2.toInt + (31 - 1))) := (by rw [← e10]; show (0 ≤ x2.toInt ∧ 31 * (x2 / 31 : Int32).toInt ≤ x2.toInt ∧ x2.toInt ≤ 31 * (x2 / 31 : Int32).toInt + (31 - 1)) ∨ (x2.toInt < 0 ∧ x2.toInt ≤ 31 * (x2 / 31 : Int32).toInt ∧ 31 * (x2 / 31 : Int32).toInt ≤ x2.toInt + (31 - 1)); exact n_divI (a := x2) (b := 31) (n := 31) (by decide) (by decide))
  refine lv_istore_n (lv' := [(2, .int a9), (0, .ref (q k1)), (1, .int x2)]) hx hb d_2_32_4 rfl hl (by decide) rfl (fun ls hl => ?_)
  refine lv_iload_n hx hb d_2_32_5 rfl (lv_at hl 2 rfl) ?_
  refine lv_bipush (v := 31) hx hb d_2_32_6 (by decide) ?_
  refine lv_irem hx hb d_2_32_8 (by decide) ?_
  obtain ⟨a12, e13⟩ := q_nm (x2 - x2 / 31 * 31 : Int32)
  refine q_ti (v := a12) e13 ?_
  refine lv_istore_n (lv' := [(3, .int a12), (2, .int a9), (0, .ref (q k1)), (1, .int x2)]) hx hb d_2_32_9 rfl hl (by decide) rfl (fun ls hl => ?_)
  refine lv_iload_n hx hb d_2_32_10 rfl (lv_at hl 3 rfl) ?_
  refine lv_if_le (tgt := 30) hx hb d_2_32_11 (by decide) (fun c14 => ?_) (fun c14 => ?_)
  ·
    exact q_retv C0 V (⟨hI, hF, t0_0, t0_1, t1_0, hT0, hT1, (show 0 ≤ t0_0.toInt from (by first | with_reducible exact (q_fe btt0_0).2 | with_reducible exact (q_fe btt0_0).1 | (have t1 : 0 ≤ t0_0.toInt ∧ t0_0.toInt ≤ R.toInt := btt0_0; omega))), (show 0 ≤ t0_1.toInt from (by first | with_reducible exact (q_fe btt0_1).2 | with_reducible exact (q_fe btt0_1).1 | (have t1 : 0 ≤ t0_1.toInt ∧ t0_1.toInt ≤ 1 := btt0_1; omega))), (show t0_0.toInt ≤ t0_0.toInt + 219 from (by omega)), (show t0_0.toInt ≤ R.toInt from (by first | with_reducible exact (q_fe btt0_0).2 | with_reducible exact (q_fe btt0_0).1 | (have t1 : 0 ≤ t0_0.toInt ∧ t0_0.toInt ≤ R.toInt := btt0_0; omega))), (show t0_1.toInt ≤ t0_1.toInt from (by omega)), (show (t0_0, t0_1, t1_0) = (F_Big_shiftLeft R x2 t0_0 t0_1 t1_0) from (by subst e10; subst e13; rw [F_Big_shiftLeft.eq_1, if_pos c14]))⟩) d_2_32_30
  ·
    have b16 : q_F (0 < x2.toInt) := (q_nleI c14)
    refine lv_aload_n hx hb d_2_32_14 rfl (lv_at hl 2 rfl) ?_
    refine q_get (ci := 2) (j := 1) (v := .int t0_0) C0 V i_Big rfl rfl hT0 (by decide) w_85 rfl d_2_32_15 ?_
    refine lv_if_eq (tgt := 30) hx hb d_2_32_18 (by decide) (fun c17 => ?_) (fun c17 => ?_)
    ·
      exact q_retv C0 V (⟨hI, hF, t0_0, t0_1, t1_0, hT0, hT1, (show 0 ≤ t0_0.toInt from (by first | with_reducible exact (q_fe btt0_0).2 | with_reducible exact (q_fe btt0_0).1 | (have t1 : 0 ≤ t0_0.toInt ∧ t0_0.toInt ≤ R.toInt := btt0_0; omega))), (show 0 ≤ t0_1.toInt from (by first | with_reducible exact (q_fe btt0_1).2 | with_reducible exact (q_fe btt0_1).1 | (have t1 : 0 ≤ t0_1.toInt ∧ t0_1.toInt ≤ 1 := btt0_1; omega))), (show t0_0.toInt ≤ t0_0.toInt + 219 from (by omega)), (show t0_0.toInt ≤ R.toInt from (by first | with_reducible exact (q_fe btt0_0).2 | with_reducible exact (q_fe btt0_0).1 | (have t1 : 0 ≤ t0_0.toInt ∧ t0_0.toInt ≤ R.toInt := btt0_0; omega))), (show t0_1.toInt ≤ t0_1.toInt from (by omega)), (show (t0_0, t0_1, t1_0) = (F_Big_shiftLeft R x2 t0_0 t0_1 t1_0) from (by subst e10; subst e13; rw [F_Big_shiftLeft.eq_1, if_neg c14, if_pos c17]))⟩) d_2_32_30
    ·
      have b19 : q_F (t0_0.toInt ≠ 0) := (q_neI c17)
      refine lv_iload_n hx hb d_2_32_21 rfl (lv_at hl 1 rfl) ?_
      refine lv_aload_n hx hb d_2_32_22 rfl (lv_at hl 2 rfl) ?_
      refine q_get (ci := 2) (j := 0) (v := .ref (q (k1 + 1))) C0 V i_Big rfl rfl hT0 (by decide) w_84 rfl d_2_32_23 ?_
      refine q_alen (t := 0) (v := R) C0 V hT1 rfl (s_len (by first | with_reducible exact (q_fe hfk10).2 | with_reducible exact (q_fe hfk10).1 | (have t1 : 0 ≤ R.toInt ∧ R.toInt ≤ 220 := hfk10; omega))) d_2_32_26 ?_
      refine lv_icmp_lt (tgt := 31) hx hb d_2_32_27 (by decide) (fun c20 => ?_) (fun c20 => ?_)
      ·
        have b21 : q_F (a9.toInt < R.toInt) := (q_ltI c20)
        refine lv_aload_n hx hb d_2_32_31 rfl (lv_at hl 2 rfl) ?_
        refine q_get (ci := 2) (j := 0) (v := .ref (q (k1 + 1))) C0 V i_Big rfl rfl hT0 (by decide) w_84 rfl d_2_32_32 ?_
        refine q_alen (t := 0) (v := R) C0 V hT1 rfl (s_len (by first | with_reducible exact (q_fe hfk10).2 | with_reducible exact (q_fe hfk10).1 | (have t1 : 0 ≤ R.toInt ∧ R.toInt ≤ 220 := hfk10; omega))) d_2_32_35 ?_
        refine lv_aload_n hx hb d_2_32_36 rfl (lv_at hl 2 rfl) ?_
        refine q_get (ci := 2) (j := 1) (v := .int t0_0) C0 V i_Big rfl rfl hT0 (by decide) w_85 rfl d_2_32_37 ?_
        refine lv_iload_n hx hb d_2_32_40 rfl (lv_at hl 1 rfl) ?_
        refine lv_iadd hx hb d_2_32_41 ?_
        obtain ⟨a22, e23⟩ := q_nm (t0_0 + a9 : Int32)
        refine q_ti (v := a22) e23 ?_
        have b24 : q_F (a22.toInt = t0_0.toInt + a9.toInt) := (by rw [← e23]; show (t0_0 + a9 : Int32).toInt = t0_0.toInt + a9.toInt; exact q_addI (x := t0_0.toInt) (y := a9.toInt) rfl rfl (by have t1 : 0 ≤ t0_0.toInt ∧ t0_0.toInt ≤ R.toInt := btt0_0; have _ := q_lo32 (x := a9); have _ := q_hi32 (x := a9); have t2 : 0 ≤ R.toInt ∧ R.toInt ≤ 220 := hfk10; have t3 : a9.toInt < R.toInt := b21; omega) (by have t1 : 0 ≤ t0_0.toInt ∧ t0_0.toInt ≤ R.toInt := btt0_0; have _ := q_lo32 (x := a9); have _ := q_hi32 (x := a9); have t2 : 0 ≤ R.toInt ∧ R.toInt ≤ 220 := hfk10; have t3 : a9.toInt < R.toInt := b21; omega))
        refine lv_iconst (v := 1) hx hb d_2_32_42 (by decide) ?_
        refine lv_iadd hx hb d_2_32_43 ?_
        obtain ⟨a25, e26⟩ := q_nm (a22 + 1 : Int32)
        refine q_ti (v := a25) e26 ?_
        have b27 : q_F (a25.toInt = a22.toInt + 1) := (by rw [← e26]; show (a22 + 1 : Int32).toInt = a22.toInt + 1; exact q_addI (x := a22.toInt) (y := 1) rfl (by decide) (by have _ := q_lo32 (x := a22); have _ := q_hi32 (x := a22); have t1 : 0 ≤ R.toInt ∧ R.toInt ≤ 220 := hfk10; have t2 : 0 ≤ t0_0.toInt ∧ t0_0.toInt ≤ R.toInt := btt0_0; have t3 : a9.toInt < R.toInt := b21; have t4 : a22.toInt = t0_0.toInt + a9.toInt := b24; omega) (by have _ := q_lo32 (x := a22); have _ := q_hi32 (x := a22); have t1 : 0 ≤ R.toInt ∧ R.toInt ≤ 220 := hfk10; have t2 : 0 ≤ t0_0.toInt ∧ t0_0.toInt ≤ R.toInt := btt0_0; have t3 : a9.toInt < R.toInt := b21; have t4 : a22.toInt = t0_0.toInt + a9.toInt := b24; omega))
        refine q_min C0 hl.1 rfl w_773 w_774 w_7 w_775 ⟨Nat.le_of_ble_eq_true rfl, Nat.le_of_ble_eq_true rfl⟩ ⟨Nat.le_of_ble_eq_true rfl, Nat.le_of_ble_eq_true rfl⟩ d_2_32_44 ?_
        obtain ⟨a28, e29⟩ := q_nm (if a25 < R then a25 else R : Int32)
        refine q_ti (v := a28) e29 ?_
        have b30 : q_F (a28.toInt ≤ R.toInt ∧ a28.toInt ≤ a25.toInt ∧ (a28.toInt = R.toInt ∨ a28.toInt = a25.toInt)) := (by rw [← e29]; show (if a25 < R then a25 else R : Int32).toInt ≤ R.toInt ∧ (if a25 < R then a25 else R : Int32).toInt ≤ a25.toInt ∧ ((if a25 < R then a25 else R : Int32).toInt = R.toInt ∨ (if a25 < R then a25 else R : Int32).toInt = a25.toInt); exact s_min (a := R) (b := a25))
        refine lv_istore (lv' := [(4, .int a28), (3, .int a12), (2, .int a9), (0, .ref (q k1)), (1, .int x2)]) hx hb d_2_32_47 hl (by decide) rfl (fun ls hl => ?_)
        refine lv_iload hx hb d_2_32_49 (lv_at hl 0 rfl) ?_
        refine lv_iconst (v := 1) hx hb d_2_32_51 (by decide) ?_
        refine lv_isub hx hb d_2_32_52 ?_
        obtain ⟨a31, e32⟩ := q_nm (a28 - 1 : Int32)
        refine q_ti (v := a31) e32 ?_
        have b33 : q_F (a31.toInt = a28.toInt - 1) := (by rw [← e32]; show (a28 - 1 : Int32).toInt = a28.toInt - 1; exact q_subI (x := a28.toInt) (y := 1) rfl (by decide) (by have t1 : 0 ≤ R.toInt ∧ R.toInt ≤ 220 := hfk10; have t2 : a25.toInt = a22.toInt + 1 := b27; have t3 : a28.toInt ≤ R.toInt ∧ a28.toInt ≤ a25.toInt ∧ (a28.toInt = R.toInt ∨ a28.toInt = a25.toInt) := b30; have _ := q_lo32 (x := a22); have _ := q_hi32 (x := a22); have _ := q_lo32 (x := R); have _ := q_hi32 (x := R); omega) (by have t1 : 0 ≤ R.toInt ∧ R.toInt ≤ 220 := hfk10; have t2 : a25.toInt = a22.toInt + 1 := b27; have t3 : a28.toInt ≤ R.toInt ∧ a28.toInt ≤ a25.toInt ∧ (a28.toInt = R.toInt ∨ a28.toInt = a25.toInt) := b30; have _ := q_lo32 (x := a22); have _ := q_hi32 (x := a22); have _ := q_lo32 (x := R); have _ := q_hi32 (x := R); omega))
        refine lv_istore (lv' := [(5, .int a31), (4, .int a28), (3, .int a12), (2, .int a9), (0, .ref (q k1)), (1, .int x2)]) hx hb d_2_32_53 hl (by decide) rfl (fun ls hl => ?_)
        refine q_loop (X := Int32 × (Nat → Int32)) (fun z H locs ls w40 => q_F (0 ≤ z.1.toInt + 1) ∧ q_F (z.1.toInt + 1 ≤ a28.toInt) ∧ q_Wd D g (va_A ws sz) s w40 H locs ∧ lv_has ls 6 [(5, .int z.1), (4, .int a28), (3, .int a12), (2, .int a9), (0, .ref (q k1))] ∧ q_I (nsh g q) q w40 ∧ q_un ws w40 [k1, k1 + 1] ∧ w40[k1]? = (some (q k1, .inr (2, [.ref (q (k1 + 1)), .int t0_0, .int t0_1])) : Option (Nat × va_E)) ∧ w40[k1 + 1]? = (some (q (k1 + 1), .inl (g 0, R.toNatClampNeg, .inl z.2)) : Option (Nat × va_E)) ∧ (∃ n, (z.1.toInt - ((-1))).toNat < n ∧ F_Big_shiftLeft_L55 R x2 t0_0 t0_1 t1_0 a28 a12 a9 n z.1 z.2 = (F_Big_shiftLeft R x2 t0_0 t0_1 t1_0))) (fun z => (z.1.toInt - ((-1))).toNat) ?_ ((a31 : Int32), (t1_0 : (Nat → Int32))) _ _ _ ws ⟨(show q_F (0 ≤ a31.toInt + 1) from (show 0 ≤ a31.toInt + 1 from by have t1 : 0 ≤ t0_0.toInt ∧ t0_0.toInt ≤ R.toInt := btt0_0; have t2 : (0 ≤ x2.toInt ∧ 31 * a9.toInt ≤ x2.toInt ∧ x2.toInt ≤ 31 * a9.toInt + (31 - 1)) ∨ (x2.toInt < 0 ∧ x2.toInt ≤ 31 * a9.toInt ∧ 31 * a9.toInt ≤ x2.toInt + (31 - 1)) := b11; have t3 : 0 < x2.toInt := b16; have t4 : a22.toInt = t0_0.toInt + a9.toInt := b24; have t5 : a25.toInt = a22.toInt + 1 := b27; have t6 : a28.toInt ≤ R.toInt ∧ a28.toInt ≤ a25.toInt ∧ (a28.toInt = R.toInt ∨ a28.toInt = a25.toInt) := b30; have t7 : a31.toInt = a28.toInt - 1 := b33; omega)), (show q_F (a31.toInt + 1 ≤ a28.toInt) from (show a31.toInt + 1 ≤ a28.toInt from by have t1 : a31.toInt = a28.toInt - 1 := b33; omega)), V, q_lw hl (q_lw1 0 rfl (q_lw1 1 rfl (q_lw1 2 rfl (q_lw1 3 rfl (q_lw1 4 rfl q_lw0))))), hI, hF, hT0, hT1, ⟨((a31.toInt - ((-1))).toNat + 1), Nat.lt_succ_self _, (show F_Big_shiftLeft_L55 R x2 t0_0 t0_1 t1_0 a28 a12 a9 ((a31.toInt - ((-1))).toNat + 1) a31 t1_0 = (F_Big_shiftLeft R x2 t0_0 t0_1 t1_0) from (by subst e10; subst e13; subst e23; subst e26; subst e29; subst e32; rw [F_Big_shiftLeft.eq_1, if_neg c14, if_neg c17, if_pos c20]))⟩⟩
        rintro ⟨lx35, lx36⟩ H locs ls w40 ⟨i37, i38, V, hl, hI, hF, hO41, hO42, ⟨fu44, hf45, hR43⟩⟩ ih39
        obtain ⟨fm46, rfl⟩ : ∃ m, fu44 = m + 1 := ⟨fu44 - 1, by omega⟩
        replace i37 : q_F (0 ≤ lx35.toInt + 1) := i37
        replace i38 : q_F (lx35.toInt + 1 ≤ a28.toInt) := i38
        replace hl : lv_has ls 6 [(5, .int lx35), (4, .int a28), (3, .int a12), (2, .int a9), (0, .ref (q k1))] := hl
        replace hO41 : w40[k1]? = (some (q k1, .inr (2, [.ref (q (k1 + 1)), .int t0_0, .int t0_1])) : Option (Nat × va_E)) := hO41
        replace hO42 : w40[k1 + 1]? = (some (q (k1 + 1), .inl (g 0, R.toNatClampNeg, .inl lx36)) : Option (Nat × va_E)) := hO42
        refine lv_iload hx hb d_2_32_55 (lv_at hl 0 rfl) ?_
        refine lv_iload_n hx hb d_2_32_57 rfl (lv_at hl 3 rfl) ?_
        refine lv_icmp_lt (tgt := 103) hx hb d_2_32_58 (by decide) (fun c47 => ?_) (fun c47 => ?_)
        ·
          refine lv_aload_n hx hb d_2_32_103 rfl (lv_at hl 4 rfl) ?_
          refine q_get (ci := 2) (j := 0) (v := .ref (q (k1 + 1))) C0 V i_Big rfl rfl hO41 (by decide) w_84 rfl d_2_32_104 ?_
          refine lv_iconst (v := 0) hx hb d_2_32_107 (by decide) ?_
          refine lv_iload_n hx hb d_2_32_108 rfl (lv_at hl 3 rfl) ?_
          refine lv_iconst (v := 0) hx hb d_2_32_109 (by decide) ?_
          refine q_gov V (q_runS (As := [.ref (q (k1 + 1)), .int 0, .int a9, .int 0]) (rest := []) (d := 2) (mc := 0) (ms := 0) C0 V rfl LS_Big_108 (X_jArr_fill l D g q w40 k1 R hB1 0 a9 0 hI lx36 hO42 (by have y0 : (0 : Int32).toInt = 0 := rfl; have y1 : (0 : Int32).toInt = 0 := rfl; omega) (by have y0 : (0 : Int32).toInt = 0 := rfl; have y1 : (0 : Int32).toInt = 0 := rfl; have t1 : (0 ≤ x2.toInt ∧ 31 * a9.toInt ≤ x2.toInt ∧ x2.toInt ≤ 31 * a9.toInt + (31 - 1)) ∨ (x2.toInt < 0 ∧ x2.toInt ≤ 31 * a9.toInt ∧ 31 * a9.toInt ≤ x2.toInt + (31 - 1)) := b11; have t2 : 0 < x2.toInt := b16; omega) (by have y0 : (0 : Int32).toInt = 0 := rfl; have y1 : (0 : Int32).toInt = 0 := rfl; have t1 : a9.toInt < R.toInt := b21; omega) _) rfl hl.1 rfl (Nat.le_of_ble_eq_true rfl) ⟨by decide, by decide⟩ ⟨Nat.le_of_ble_eq_true rfl, Nat.le_of_ble_eq_true rfl⟩ d_2_32_110) (fun u49 H locs hp50 V => ?_)
          obtain ⟨hI, hu54, f51, hA52, hE53⟩ := hp50
          replace hA52 : u49[k1 + 1]? = (some (q (k1 + 1), .inl (g 0, R.toNatClampNeg, .inl f51)) : Option (Nat × va_E)) := hA52
          have e55 : f51 = (F_jArr_fill R (0 : Int32) a9 (0 : Int32) lx36) := hE53
          replace hO41 := (hu54 _ (by have z0 := zk1; simp only [List.mem_cons, List.not_mem_nil, or_false, not_or]; omega)).trans hO41
          replace hF := q_uc hF hu54 (by simp)
          refine lv_aload_n hx hb d_2_32_113 rfl (lv_at hl 4 rfl) ?_
          refine lv_iload hx hb d_2_32_114 (lv_at hl 1 rfl) ?_
          refine q_put (ci := 2) (j := 1) (v := .int a28) (ty := .int) C0 V i_Big o_Big n_Big rfl rfl hO41 (by decide) w_85 rfl rfl rfl rfl (Nat.le_of_ble_eq_true rfl) d_2_32_116 (fun H locs w56 hu57 hO41 V => ?_)
          replace hO41 : w56[k1]? = (some (q k1, .inr (2, [.ref (q (k1 + 1)), .int a28, .int t0_1])) : Option (Nat × va_E)) := hO41
          replace hI := q_bigO' hI hB1 hu57 hO41 ⟨(by have t1 : 0 ≤ lx35.toInt + 1 := i37; have t2 : lx35.toInt + 1 ≤ a28.toInt := i38; omega), (by have t1 : a28.toInt ≤ R.toInt ∧ a28.toInt ≤ a25.toInt ∧ (a28.toInt = R.toInt ∨ a28.toInt = a25.toInt) := b30; omega)⟩ (by first | with_reducible exact q_fe btt0_1 | exact ⟨(by have t1 : 0 ≤ t0_1.toInt ∧ t0_1.toInt ≤ 1 := btt0_1; omega), (by have t1 : 0 ≤ t0_1.toInt ∧ t0_1.toInt ≤ 1 := btt0_1; omega)⟩)
          replace hA52 := (hu57 _ (by omega)).trans hA52
          replace hF := q_us hF hu57 (by simp)
          refine lv_aload_n hx hb d_2_32_119 rfl (lv_at hl 4 rfl) ?_
          refine q_gov V (q_runV (As := []) (rest := []) (d := 1) (mc := 0) (ms := 0) (ci := 2) C0 V rfl LV_Big_36 (X_Big_trim l D g q w56 k1 R hB1 zk1  hI a28 t0_1 hO41 f51 hA52  _) rfl rfl hO41 rfl hl.1 rfl (Nat.le_of_ble_eq_true rfl) ⟨by decide, by decide⟩ ⟨Nat.le_of_ble_eq_true rfl, Nat.le_of_ble_eq_true rfl⟩ d_2_32_120) (fun u58 H locs hp59 V => ?_)
          obtain ⟨hI, hZ9⟩ := hp59
          obtain ⟨hu68, hZ9⟩ := hZ9
          obtain ⟨y61, hZ9⟩ := hZ9
          obtain ⟨y62, hZ9⟩ := hZ9
          obtain ⟨hO60, hZ9⟩ := hZ9
          obtain ⟨b63, hZ9⟩ := hZ9
          obtain ⟨b64, hZ9⟩ := hZ9
          obtain ⟨b65, hZ9⟩ := hZ9
          obtain ⟨b66, hE67⟩ := hZ9
          replace hO60 : u58[k1]? = (some (q k1, .inr (2, [.ref (q (k1 + 1)), .int y61, .int y62])) : Option (Nat × va_E)) := hO60
          have e69 : y61 = (F_Big_trim R a28 t0_1 f51).1 := congrArg (fun z => z.1) hE67
          have e70 : y62 = (F_Big_trim R a28 t0_1 f51).2 := congrArg (fun z => z.2) hE67
          replace b63 : q_F (0 ≤ y62.toInt) := b63
          replace b64 : q_F (y61.toInt ≤ a28.toInt) := b64
          replace b65 : q_F (y62.toInt ≤ t0_1.toInt) := b65
          replace b66 : q_F (y62.toInt ≤ y61.toInt) := b66
          replace hA52 := (hu68 _ (by have z0 := zk1; simp only [List.mem_cons, List.not_mem_nil, or_false, not_or]; omega)).trans hA52
          replace hF := q_uc hF hu68 (by simp)
          exact q_retv C0 V (⟨hI, hF, y61, y62, f51, hO60, hA52, (show 0 ≤ y61.toInt from (by have t1 : 0 ≤ y62.toInt := b63; have t2 : y62.toInt ≤ y61.toInt := b66; omega)), (show 0 ≤ y62.toInt from (by first | with_reducible exact q_fe b63 | (have t1 : 0 ≤ y62.toInt := b63; omega))), (show y61.toInt ≤ t0_0.toInt + 219 from (by have t1 : 0 ≤ R.toInt ∧ R.toInt ≤ 220 := hfk10; have t2 : 0 ≤ t0_0.toInt ∧ t0_0.toInt ≤ R.toInt := btt0_0; have t3 : t0_0.toInt ≠ 0 := b19; have t4 : a28.toInt ≤ R.toInt ∧ a28.toInt ≤ a25.toInt ∧ (a28.toInt = R.toInt ∨ a28.toInt = a25.toInt) := b30; have t5 : y61.toInt ≤ a28.toInt := b64; omega)), (show y61.toInt ≤ R.toInt from (by have t1 : a28.toInt ≤ R.toInt ∧ a28.toInt ≤ a25.toInt ∧ (a28.toInt = R.toInt ∨ a28.toInt = a25.toInt) := b30; have t2 : y61.toInt ≤ a28.toInt := b64; omega)), (show y62.toInt ≤ t0_1.toInt from (by first | with_reducible exact q_fe b65 | (have t1 : y62.toInt ≤ t0_1.toInt := b65; omega))), (show (y61, y62, f51) = (F_Big_shiftLeft R x2 t0_0 t0_1 t1_0) from Eq.trans (by subst e10; subst e13; subst e23; subst e26; subst e29; subst e32; subst e55; subst e69; subst e70; rw [F_Big_shiftLeft_L55.eq_2, if_pos c47]) hR43)⟩) d_2_32_123
        ·
          have b71 : q_F (a9.toInt ≤ lx35.toInt) := (q_nltI c47)
          refine lv_aload_n hx hb d_2_32_61 rfl (lv_at hl 4 rfl) ?_
          refine q_get (ci := 2) (j := 0) (v := .ref (q (k1 + 1))) C0 V i_Big rfl rfl hO41 (by decide) w_84 rfl d_2_32_62 ?_
          refine lv_iload hx hb d_2_32_65 (lv_at hl 0 rfl) ?_
          refine lv_aload_n hx hb d_2_32_67 rfl (lv_at hl 4 rfl) ?_
          refine lv_iload hx hb d_2_32_68 (lv_at hl 0 rfl) ?_
          refine lv_iload_n hx hb d_2_32_70 rfl (lv_at hl 3 rfl) ?_
          refine lv_isub hx hb d_2_32_71 ?_
          obtain ⟨a72, e73⟩ := q_nm (lx35 - a9 : Int32)
          refine q_ti (v := a72) e73 ?_
          refine q_goi V (q_runV (As := [.int a72]) (rest := [.int lx35, .ref (q (k1 + 1))]) (d := 1) (mc := 0) (ms := 0) (ci := 2) C0 V rfl LV_Big_49 (X_Big_limb l D g q w40 k1 R hB1 zk1 a72 hI t0_0 t0_1 hO41 lx36 hO42  _) rfl rfl hO41 rfl hl.1 rfl (Nat.le_of_ble_eq_true rfl) ⟨by decide, by decide⟩ ⟨Nat.le_of_ble_eq_true rfl, Nat.le_of_ble_eq_true rfl⟩ d_2_32_72) (fun a77 u75 H locs hp76 V => ?_)
          obtain ⟨rfl, hE78⟩ := hp76
          have e79 : a77 = (F_Big_limb R a72 t0_0 t0_1 lx36) := hE78
          refine lv_iload_n hx hb d_2_32_75 rfl (lv_at hl 2 rfl) ?_
          refine lv_ishl hx hb d_2_32_76 ?_
          obtain ⟨a80, e81⟩ := q_nm (a77 <<< (a12 &&& 31) : Int32)
          refine q_ti (v := a80) e81 ?_
          refine lv_aload_n hx hb d_2_32_77 rfl (lv_at hl 4 rfl) ?_
          refine lv_iload hx hb d_2_32_78 (lv_at hl 0 rfl) ?_
          refine lv_iload_n hx hb d_2_32_80 rfl (lv_at hl 3 rfl) ?_
          refine lv_isub hx hb d_2_32_81 ?_
          obtain ⟨a82, e83⟩ := q_nm (lx35 - a9 : Int32)
          refine q_ti (v := a82) e83 ?_
          refine lv_iconst (v := 1) hx hb d_2_32_82 (by decide) ?_
          refine lv_isub hx hb d_2_32_83 ?_
          obtain ⟨a85, e86⟩ := q_nm (a82 - 1 : Int32)
          refine q_ti (v := a85) e86 ?_
          refine q_goi V (q_runV (As := [.int a85]) (rest := [.int a80, .int lx35, .ref (q (k1 + 1))]) (d := 1) (mc := 0) (ms := 0) (ci := 2) C0 V rfl LV_Big_49 (X_Big_limb l D g q w40 k1 R hB1 zk1 a85 hI t0_0 t0_1 hO41 lx36 hO42  _) rfl rfl hO41 rfl hl.1 rfl (Nat.le_of_ble_eq_true rfl) ⟨by decide, by decide⟩ ⟨Nat.le_of_ble_eq_true rfl, Nat.le_of_ble_eq_true rfl⟩ d_2_32_84) (fun a90 u88 H locs hp89 V => ?_)
          obtain ⟨rfl, hE91⟩ := hp89
          have e92 : a90 = (F_Big_limb R a85 t0_0 t0_1 lx36) := hE91
          refine lv_bipush (v := 31) hx hb d_2_32_87 (by decide) ?_
          refine lv_iload_n hx hb d_2_32_89 rfl (lv_at hl 2 rfl) ?_
          refine lv_isub hx hb d_2_32_90 ?_
          obtain ⟨a93, e94⟩ := q_nm (31 - a12 : Int32)
          refine q_ti (v := a93) e94 ?_
          refine lv_iushr hx hb d_2_32_91 rfl ?_
          obtain ⟨a95, e96⟩ := q_nm ((a90.toUInt32 >>> (a93.toUInt32 &&& Int32.toUInt32 31)).toInt32 : Int32)
          refine q_ti (v := a95) e96 ?_
          refine lv_ior hx hb d_2_32_92 ?_
          obtain ⟨a97, e98⟩ := q_nm (a80 ||| a95 : Int32)
          refine q_ti (v := a97) e98 ?_
          refine q_ldc C0 rfl w_809 d_2_32_93 ?_
          refine lv_iand hx hb d_2_32_95 ?_
          obtain ⟨a99, e100⟩ := q_nm (a97 &&& 2147483647 : Int32)
          refine q_ti (v := a99) e100 ?_
          refine q_iast C0 V hO42 (q_ix (x := lx35.toInt) rfl (by have t1 : (0 ≤ x2.toInt ∧ 31 * a9.toInt ≤ x2.toInt ∧ x2.toInt ≤ 31 * a9.toInt + (31 - 1)) ∨ (x2.toInt < 0 ∧ x2.toInt ≤ 31 * a9.toInt ∧ 31 * a9.toInt ≤ x2.toInt + (31 - 1)) := b11; have t2 : 0 < x2.toInt := b16; have t3 : a9.toInt ≤ lx35.toInt := b71; omega) (by have t1 : (0 ≤ x2.toInt ∧ 31 * a9.toInt ≤ x2.toInt ∧ x2.toInt ≤ 31 * a9.toInt + (31 - 1)) ∨ (x2.toInt < 0 ∧ x2.toInt ≤ 31 * a9.toInt ∧ 31 * a9.toInt ≤ x2.toInt + (31 - 1)) := b11; have t2 : 0 < x2.toInt := b16; have t3 : a9.toInt ≤ lx35.toInt := b71; have t4 : a28.toInt ≤ R.toInt ∧ a28.toInt ≤ a25.toInt ∧ (a28.toInt = R.toInt ∨ a28.toInt = a25.toInt) := b30; have t5 : lx35.toInt + 1 ≤ a28.toInt := i38; have e9 := q_clI (i := R) rfl (by first | with_reducible exact (q_fe hfk10).2 | with_reducible exact (q_fe hfk10).1 | (have t1 : 0 ≤ R.toInt ∧ R.toInt ≤ 220 := hfk10; omega)); omega)) d_2_32_96 (fun H locs w102 hu103 hO42 V => ?_)
          replace hI := q_bigA' hI hB1 hu103 hO42 (q_updB (fun _ => s_bnd) s_bnd)
          replace hO41 := (hu103 _ (by omega)).trans hO41
          replace hF := q_us hF hu103 (by simp)
          obtain ⟨f104, e105⟩ := q_nm (upd lx36 lx35.toNatClampNeg a99 : (Nat → Int32))
          rw [e105] at hO42
          obtain ⟨a106, e107⟩ := q_nm (lx35 + (-1) : Int32)
          have b108 : q_F (a106.toInt = lx35.toInt + (-1)) := (by rw [← e107]; exact q_addI (y := (-1)) rfl (by decide) (by have t1 : 0 ≤ lx35.toInt + 1 := i37; have t2 : lx35.toInt + 1 ≤ a28.toInt := i38; have _ := q_lo32 (x := a28); have _ := q_hi32 (x := a28); omega) (by have t1 : 0 ≤ lx35.toInt + 1 := i37; have t2 : lx35.toInt + 1 ≤ a28.toInt := i38; have _ := q_lo32 (x := a28); have _ := q_hi32 (x := a28); omega))
          refine lv_iinc (v := a106) (lv' := [(5, .int a106), (4, .int a28), (3, .int a12), (2, .int a9), (0, .ref (q k1))]) hx hb d_2_32_97 hl (k := 0) rfl (e107) (by decide) rfl (fun ls hl => ?_)
          refine lv_goto (tgt := 55) hx hb d_2_32_100 (by decide) ?_
          exact ih39 ((a106 : Int32), (f104 : (Nat → Int32))) _ _ _ _ (show (a106.toInt - ((-1))).toNat < (lx35.toInt - ((-1))).toNat from by have t1 : a106.toInt = lx35.toInt + (-1) := b108; have t2 : 0 ≤ lx35.toInt + 1 := i37; have t3 : (0 ≤ x2.toInt ∧ 31 * a9.toInt ≤ x2.toInt ∧ x2.toInt ≤ 31 * a9.toInt + (31 - 1)) ∨ (x2.toInt < 0 ∧ x2.toInt ≤ 31 * a9.toInt ∧ 31 * a9.toInt ≤ x2.toInt + (31 - 1)) := b11; have t4 : 0 < x2.toInt := b16; have t5 : a9.toInt ≤ lx35.toInt := b71; omega) ⟨(show q_F (0 ≤ a106.toInt + 1) from (show 0 ≤ a106.toInt + 1 from by have t1 : (0 ≤ x2.toInt ∧ 31 * a9.toInt ≤ x2.toInt ∧ x2.toInt ≤ 31 * a9.toInt + (31 - 1)) ∨ (x2.toInt < 0 ∧ x2.toInt ≤ 31 * a9.toInt ∧ 31 * a9.toInt ≤ x2.toInt + (31 - 1)) := b11; have t2 : 0 < x2.toInt := b16; have t3 : a9.toInt ≤ lx35.toInt := b71; have t4 : a106.toInt = lx35.toInt + (-1) := b108; omega)), (show q_F (a106.toInt + 1 ≤ a28.toInt) from (show a106.toInt + 1 ≤ a28.toInt from by have t1 : lx35.toInt + 1 ≤ a28.toInt := i38; have t2 : a106.toInt = lx35.toInt + (-1) := b108; omega)), V, q_lw hl (q_lw1 0 rfl (q_lw1 1 rfl (q_lw1 2 rfl (q_lw1 3 rfl (q_lw1 4 rfl q_lw0))))), hI, hF, hO41, hO42, ⟨fm46, Nat.lt_of_lt_of_le (show (a106.toInt - ((-1))).toNat < (lx35.toInt - ((-1))).toNat from by have t1 : a106.toInt = lx35.toInt + (-1) := b108; have t2 : 0 ≤ lx35.toInt + 1 := i37; have t3 : (0 ≤ x2.toInt ∧ 31 * a9.toInt ≤ x2.toInt ∧ x2.toInt ≤ 31 * a9.toInt + (31 - 1)) ∨ (x2.toInt < 0 ∧ x2.toInt ≤ 31 * a9.toInt ∧ 31 * a9.toInt ≤ x2.toInt + (31 - 1)) := b11; have t4 : 0 < x2.toInt := b16; have t5 : a9.toInt ≤ lx35.toInt := b71; omega) (Nat.le_of_lt_succ hf45), (show F_Big_shiftLeft_L55 R x2 t0_0 t0_1 t1_0 a28 a12 a9 fm46 a106 f104 = (F_Big_shiftLeft R x2 t0_0 t0_1 t1_0) from Eq.trans (by subst e10; subst e13; subst e23; subst e26; subst e29; subst e32; subst e73; subst e79; subst e81; subst e83; subst e86; subst e92; subst e94; subst e96; subst e98; subst e100; subst e105; subst e107; rw [F_Big_shiftLeft_L55.eq_2, if_neg c47]) hR43)⟩⟩
      ·
        exact q_retv C0 V (⟨hI, hF, t0_0, t0_1, t1_0, hT0, hT1, (show 0 ≤ t0_0.toInt from (by first | with_reducible exact (q_fe btt0_0).2 | with_reducible exact (q_fe btt0_0).1 | (have t1 : 0 ≤ t0_0.toInt ∧ t0_0.toInt ≤ R.toInt := btt0_0; omega))), (show 0 ≤ t0_1.toInt from (by first | with_reducible exact (q_fe btt0_1).2 | with_reducible exact (q_fe btt0_1).1 | (have t1 : 0 ≤ t0_1.toInt ∧ t0_1.toInt ≤ 1 := btt0_1; omega))), (show t0_0.toInt ≤ t0_0.toInt + 219 from (by omega)), (show t0_0.toInt ≤ R.toInt from (by first | with_reducible exact (q_fe btt0_0).2 | with_reducible exact (q_fe btt0_0).1 | (have t1 : 0 ≤ t0_0.toInt ∧ t0_0.toInt ≤ R.toInt := btt0_0; omega))), (show t0_1.toInt ≤ t0_1.toInt from (by omega)), (show (t0_0, t0_1, t1_0) = (F_Big_shiftLeft R x2 t0_0 t0_1 t1_0) from (by subst e10; subst e13; rw [F_Big_shiftLeft.eq_1, if_neg c14, if_neg c17, if_neg c20]))⟩) d_2_32_30
def F_Big_shiftRight_L53 (R : Int32) (x2 : Int32) (t0_0 : Int32) (t0_1 : Int32) (t1_0 : (Nat → Int32)) (lx21 : Int32) (a40 : Int32) (a34 : Int32) (a31 : Int32) : Nat → Int32 → (Nat → Int32) → (Int32 × Int32 × Int32 × (Nat → Int32))
  | 0, _, _ => default
  | fm + 1, lx44, lx45 => if a40 ≤ lx44 then ((lx21, ((F_Big_trim R a40 t0_1 lx45).1 : Int32), ((F_Big_trim R a40 t0_1 lx45).2 : Int32), lx45)) else (F_Big_shiftRight_L53 R x2 t0_0 t0_1 t1_0 lx21 a40 a34 a31 fm (lx44 + 1 : Int32) (upd lx45 lx44.toNatClampNeg ((((((F_Big_limb R (lx44 + a31 : Int32) t0_0 t0_1 lx45) : Int32).toUInt32 >>> (a34.toUInt32 &&& Int32.toUInt32 31)).toInt32 : Int32) ||| (((F_Big_limb R ((lx44 + a31 : Int32) + 1 : Int32) t0_0 t0_1 lx45) : Int32) <<< ((31 - a34 : Int32) &&& 31) : Int32) : Int32) &&& 2147483647 : Int32) : (Nat → Int32)))
def F_Big_shiftRight_J26 (R : Int32) (x2 : Int32) (t0_0 : Int32) (t0_1 : Int32) (t1_0 : (Nat → Int32)) (lx21 : Int32) : Int32 × Int32 × Int32 × (Nat → Int32) := F_Big_shiftRight_L53 R x2 t0_0 t0_1 t1_0 lx21 (if 0 < (t0_0 - (x2 / 31 : Int32) : Int32) then (t0_0 - (x2 / 31 : Int32) : Int32) else 0 : Int32) (x2 - x2 / 31 * 31 : Int32) (x2 / 31 : Int32) ((220 - (0 : Int32).toInt).toNat + 1) 0 t1_0
def F_Big_shiftRight (R : Int32) (x2 : Int32) (t0_0 : Int32) (t0_1 : Int32) (t1_0 : (Nat → Int32)) : Int32 × Int32 × Int32 × (Nat → Int32) := if x2 ≤ (0 : Int32) then (((0 : Int32), t0_0, t0_1, t1_0)) else (if t0_0 = (0 : Int32) then (((0 : Int32), t0_0, t0_1, t1_0)) else (if x2 ≤ ((F_Big_lowestOne R t0_0 t0_1 t1_0) : Int32) then (F_Big_shiftRight_J26 R x2 t0_0 t0_1 t1_0 0) else (F_Big_shiftRight_J26 R x2 t0_0 t0_1 t1_0 1)))
set_option maxRecDepth 100000 in
set_option maxHeartbeats 4000000 in
theorem X_Big_shiftRight (l : Launch) (D : va_G) (g : Nat → ClassId) (q : Nat → Nat) (ws : va_W) (k1 : Nat) (R : Int32) (hB1 : q_isBig (nsh g q) g q k1 R) (zk1 : (10 ≤ k1 ∧ k1 ≤ 32) ∨ 66 ≤ k1) (x2 : Int32) (hI : q_I (nsh g q) q ws) (t0_0 : Int32) (t0_1 : Int32) (hT0 : ws[k1]? = (some (q k1, .inr (2, [.ref (q (k1 + 1)), .int t0_0, .int t0_1])) : Option (Nat × va_E))) (t1_0 : (Nat → Int32)) (hT1 : ws[k1 + 1]? = (some (q (k1 + 1), .inl (g 0, R.toNatClampNeg, .inl t1_0)) : Option (Nat × va_E))) : q_mI l y_Big_shiftRight prog_2_method_33_code 7 (.boolean) 3 0 0 D g [.ref (q k1), .int x2] ws (fun r u => q_I (nsh g q) q u ∧ q_un ws u [k1, k1 + 1] ∧ ∃ (u0_0 : Int32) (u0_1 : Int32) (u1_0 : (Nat → Int32)), u[k1]? = (some (q k1, .inr (2, [.ref (q (k1 + 1)), .int u0_0, .int u0_1])) : Option (Nat × va_E)) ∧ u[k1 + 1]? = (some (q (k1 + 1), .inl (g 0, R.toNatClampNeg, .inl u1_0)) : Option (Nat × va_E)) ∧ (0 ≤ r.toInt) ∧ (r.toInt ≤ 1) ∧ (0 ≤ u0_0.toInt) ∧ (0 ≤ u0_1.toInt) ∧ (r.toInt ≤ t0_0.toInt) ∧ (u0_0.toInt ≤ t0_0.toInt) ∧ (u0_1.toInt ≤ t0_1.toInt) ∧ (r, u0_0, u0_1, u1_0) = (F_Big_shiftRight R x2 t0_0 t0_1 t1_0)) := by
  intro sz
  refine q_into (by decide) (Nat.le_of_ble_eq_true rfl) ?_
  intro p e s m below meth c ls hsz C0 V hl
  have hx := C0.1
  have hb := C0.2.1
  have hfk10 : q_F (0 ≤ R.toInt ∧ R.toInt ≤ 220) := hB1.2.2
  obtain ⟨btt0_0, btt0_1⟩ := q_bigW hI hB1 hT0
  replace btt0_0 : q_F (0 ≤ t0_0.toInt ∧ t0_0.toInt ≤ R.toInt) := btt0_0
  replace btt0_1 : q_F (0 ≤ t0_1.toInt ∧ t0_1.toInt ≤ 1) := btt0_1
  have hF : q_un ws ws [k1, k1 + 1] := q_u0
  have hl : lv_has ls 7 [(0, .ref (q k1)), (1, .int x2)] := hl
  refine lv_iload_n hx hb d_2_33_0 rfl (lv_at hl 1 rfl) ?_
  refine lv_if_le (tgt := 11) hx hb d_2_33_1 (by decide) (fun c9 => ?_) (fun c9 => ?_)
  ·
    refine lv_iconst (v := 0) hx hb d_2_33_11 (by decide) ?_
    exact q_retz C0 V (by decide) (⟨hI, hF, t0_0, t0_1, t1_0, hT0, hT1, (show 0 ≤ (0 : Int32).toInt from (by have z5 : (0 : Int32).toInt = 0 := rfl; omega)), (show (0 : Int32).toInt ≤ 1 from (by have z5 : (0 : Int32).toInt = 0 := rfl; omega)), (show 0 ≤ t0_0.toInt from (by have z5 : (0 : Int32).toInt = 0 := rfl; have t1 : 0 ≤ t0_0.toInt ∧ t0_0.toInt ≤ R.toInt := btt0_0; omega)), (show 0 ≤ t0_1.toInt from (by have z5 : (0 : Int32).toInt = 0 := rfl; have t1 : 0 ≤ t0_1.toInt ∧ t0_1.toInt ≤ 1 := btt0_1; omega)), (show (0 : Int32).toInt ≤ t0_0.toInt from (by have z5 : (0 : Int32).toInt = 0 := rfl; have t1 : 0 ≤ t0_0.toInt ∧ t0_0.toInt ≤ R.toInt := btt0_0; omega)), (show t0_0.toInt ≤ t0_0.toInt from (by have z5 : (0 : Int32).toInt = 0 := rfl; omega)), (show t0_1.toInt ≤ t0_1.toInt from (by have z5 : (0 : Int32).toInt = 0 := rfl; omega)), (show ((0 : Int32), t0_0, t0_1, t1_0) = (F_Big_shiftRight R x2 t0_0 t0_1 t1_0) from (by rw [F_Big_shiftRight.eq_1, if_pos c9]))⟩) d_2_33_12
  ·
    have b11 : q_F (0 < x2.toInt) := (q_nleI c9)
    refine lv_aload_n hx hb d_2_33_4 rfl (lv_at hl 0 rfl) ?_
    refine q_get (ci := 2) (j := 1) (v := .int t0_0) C0 V i_Big rfl rfl hT0 (by decide) w_85 rfl d_2_33_5 ?_
    refine lv_if_ne (tgt := 13) hx hb d_2_33_8 (by decide) (fun c12 => ?_) (fun c12 => ?_)
    ·
      have b13 : q_F (t0_0.toInt ≠ 0) := (q_neI c12)
      refine lv_aload_n hx hb d_2_33_13 rfl (lv_at hl 0 rfl) ?_
      refine q_goi V (q_runV (As := []) (rest := []) (d := 2) (mc := 0) (ms := 0) (ci := 2) C0 V rfl LV_Big_68 (X_Big_lowestOne l D g q ws k1 R hB1 zk1  hI t0_0 t0_1 hT0 t1_0 hT1  _) rfl rfl hT0 rfl hl.1 rfl (Nat.le_of_ble_eq_true rfl) ⟨by decide, by decide⟩ ⟨Nat.le_of_ble_eq_true rfl, Nat.le_of_ble_eq_true rfl⟩ d_2_33_14) (fun a16 u14 H locs hp15 V => ?_)
      obtain ⟨rfl, b17, b18, hE19⟩ := hp15
      have e20 : a16 = (F_Big_lowestOne R t0_0 t0_1 t1_0) := hE19
      clear b17
      clear b18
      refine lv_iload_n hx hb d_2_33_17 rfl (lv_at hl 1 rfl) ?_
      refine q_join (X := Int32) (fun z H locs ls _ => q_F (0 ≤ z.toInt) ∧ q_F (z.toInt ≤ 1) ∧ q_Wd D g (va_A ws sz) s ws H locs ∧ lv_has ls 7 [(0, .ref (q k1)), (1, .int x2)] ∧ F_Big_shiftRight_J26 R x2 t0_0 t0_1 t1_0 z = (F_Big_shiftRight R x2 t0_0 t0_1 t1_0)) (fun z => [.int z]) 26 0 0 ?_ ?_
      ·
        rintro lx21 H locs ls _ ⟨i25, i26, V, hl, hR27⟩
        replace i25 : q_F (0 ≤ lx21.toInt) := i25
        replace i26 : q_F (lx21.toInt ≤ 1) := i26
        replace hl : lv_has ls 7 [(0, .ref (q k1)), (1, .int x2)] := hl
        refine lv_istore_n (lv' := [(2, .int lx21), (0, .ref (q k1)), (1, .int x2)]) hx hb d_2_33_26 rfl hl (by decide) rfl (fun ls hl => ?_)
        refine lv_iload_n hx hb d_2_33_27 rfl (lv_at hl 2 rfl) ?_
        refine lv_bipush (v := 31) hx hb d_2_33_28 (by decide) ?_
        refine lv_idiv hx hb d_2_33_30 (by decide) ?_
        obtain ⟨a31, e32⟩ := q_nm (x2 / 31 : Int32)
        refine q_ti (v := a31) e32 ?_
        have b33 : q_F (31 * a31.toInt ≤ x2.toInt ∧ x2.toInt ≤ 31 * a31.toInt + 30) := (by rw [← e32]; show 31 * (x2 / 31 : Int32).toInt ≤ x2.toInt ∧ x2.toInt ≤ 31 * (x2 / 31 : Int32).toInt + 30; exact (by have z := q_divI (y := 31) (rfl : x2.toInt = _) (by decide : (31 : Int32).toInt = 31) (by first | with_reducible exact q_fe b11 | (have t1 : 0 < x2.toInt := b11; omega)) (by decide); omega))
        refine lv_istore_n (lv' := [(3, .int a31), (2, .int lx21), (0, .ref (q k1)), (1, .int x2)]) hx hb d_2_33_31 rfl hl (by decide) rfl (fun ls hl => ?_)
        refine lv_iload_n hx hb d_2_33_32 rfl (lv_at hl 3 rfl) ?_
        refine lv_bipush (v := 31) hx hb d_2_33_33 (by decide) ?_
        refine lv_irem hx hb d_2_33_35 (by decide) ?_
        obtain ⟨a34, e35⟩ := q_nm (x2 - x2 / 31 * 31 : Int32)
        refine q_ti (v := a34) e35 ?_
        refine lv_istore (lv' := [(4, .int a34), (3, .int a31), (2, .int lx21), (0, .ref (q k1)), (1, .int x2)]) hx hb d_2_33_36 hl (by decide) rfl (fun ls hl => ?_)
        refine lv_iconst (v := 0) hx hb d_2_33_38 (by decide) ?_
        refine lv_aload_n hx hb d_2_33_39 rfl (lv_at hl 3 rfl) ?_
        refine q_get (ci := 2) (j := 1) (v := .int t0_0) C0 V i_Big rfl rfl hT0 (by decide) w_85 rfl d_2_33_40 ?_
        refine lv_iload_n hx hb d_2_33_43 rfl (lv_at hl 1 rfl) ?_
        refine lv_isub hx hb d_2_33_44 ?_
        obtain ⟨a37, e38⟩ := q_nm (t0_0 - a31 : Int32)
        refine q_ti (v := a37) e38 ?_
        have b39 : q_F (a37.toInt = t0_0.toInt - a31.toInt) := (by rw [← e38]; show (t0_0 - a31 : Int32).toInt = t0_0.toInt - a31.toInt; exact q_subI (x := t0_0.toInt) (y := a31.toInt) rfl rfl (by have t1 : 0 ≤ t0_0.toInt ∧ t0_0.toInt ≤ R.toInt := btt0_0; have _ := q_lo32 (x := a31); have _ := q_hi32 (x := a31); have t2 : 0 ≤ R.toInt ∧ R.toInt ≤ 220 := hfk10; have t3 : 0 < x2.toInt := b11; have t4 : 31 * a31.toInt ≤ x2.toInt ∧ x2.toInt ≤ 31 * a31.toInt + 30 := b33; omega) (by have t1 : 0 ≤ t0_0.toInt ∧ t0_0.toInt ≤ R.toInt := btt0_0; have _ := q_lo32 (x := a31); have _ := q_hi32 (x := a31); have t2 : 0 ≤ R.toInt ∧ R.toInt ≤ 220 := hfk10; have t3 : 0 < x2.toInt := b11; have t4 : 31 * a31.toInt ≤ x2.toInt ∧ x2.toInt ≤ 31 * a31.toInt + 30 := b33; omega))
        refine q_max C0 hl.1 rfl w_1043 w_803 w_7 w_804 ⟨Nat.le_of_ble_eq_true rfl, Nat.le_of_ble_eq_true rfl⟩ ⟨Nat.le_of_ble_eq_true rfl, Nat.le_of_ble_eq_true rfl⟩ d_2_33_45 ?_
        obtain ⟨a40, e41⟩ := q_nm (if 0 < a37 then a37 else 0 : Int32)
        refine q_ti (v := a40) e41 ?_
        have b42 : q_F (0 ≤ a40.toInt ∧ a37.toInt ≤ a40.toInt ∧ (a40.toInt = 0 ∨ a40.toInt = a37.toInt)) := (by rw [← e41]; show 0 ≤ (if 0 < a37 then a37 else 0 : Int32).toInt ∧ a37.toInt ≤ (if 0 < a37 then a37 else 0 : Int32).toInt ∧ ((if 0 < a37 then a37 else 0 : Int32).toInt = 0 ∨ (if 0 < a37 then a37 else 0 : Int32).toInt = a37.toInt); exact (by have y0 : (0 : Int32).toInt = 0 := rfl; have z := s_max (a := 0) (b := a37); omega))
        refine lv_istore (lv' := [(5, .int a40), (4, .int a34), (3, .int a31), (2, .int lx21), (0, .ref (q k1)), (1, .int x2)]) hx hb d_2_33_48 hl (by decide) rfl (fun ls hl => ?_)
        refine lv_iconst (v := 0) hx hb d_2_33_50 (by decide) ?_
        refine lv_istore (lv' := [(6, .int 0), (5, .int a40), (4, .int a34), (3, .int a31), (2, .int lx21), (0, .ref (q k1)), (1, .int x2)]) hx hb d_2_33_51 hl (by decide) rfl (fun ls hl => ?_)
        refine q_loop (X := Int32 × (Nat → Int32)) (fun z H locs ls w49 => q_F (0 ≤ z.1.toInt) ∧ q_F (z.1.toInt ≤ a40.toInt) ∧ q_Wd D g (va_A ws sz) s w49 H locs ∧ lv_has ls 7 [(6, .int z.1), (5, .int a40), (4, .int a34), (3, .int a31), (2, .int lx21), (0, .ref (q k1))] ∧ q_I (nsh g q) q w49 ∧ q_un ws w49 [k1, k1 + 1] ∧ w49[k1]? = (some (q k1, .inr (2, [.ref (q (k1 + 1)), .int t0_0, .int t0_1])) : Option (Nat × va_E)) ∧ w49[k1 + 1]? = (some (q (k1 + 1), .inl (g 0, R.toNatClampNeg, .inl z.2)) : Option (Nat × va_E)) ∧ (∃ n, (220 - z.1.toInt).toNat < n ∧ F_Big_shiftRight_L53 R x2 t0_0 t0_1 t1_0 lx21 a40 a34 a31 n z.1 z.2 = (F_Big_shiftRight R x2 t0_0 t0_1 t1_0))) (fun z => (220 - z.1.toInt).toNat) ?_ ((0 : Int32), (t1_0 : (Nat → Int32))) _ _ _ ws ⟨(show q_F (0 ≤ 0) from (show 0 ≤ 0 from by omega)), (show q_F (0 ≤ a40.toInt) from (show 0 ≤ a40.toInt from by have t1 : 0 ≤ a40.toInt ∧ a37.toInt ≤ a40.toInt ∧ (a40.toInt = 0 ∨ a40.toInt = a37.toInt) := b42; omega)), V, q_lw hl (q_lw1 0 rfl (q_lw1 1 rfl (q_lw1 2 rfl (q_lw1 3 rfl (q_lw1 4 rfl (q_lw1 5 rfl q_lw0)))))), hI, hF, hT0, hT1, ⟨((220 - (0 : Int32).toInt).toNat + 1), Nat.lt_succ_self _, (show F_Big_shiftRight_L53 R x2 t0_0 t0_1 t1_0 lx21 a40 a34 a31 ((220 - (0 : Int32).toInt).toNat + 1) 0 t1_0 = (F_Big_shiftRight R x2 t0_0 t0_1 t1_0) from Eq.trans (by subst e20; subst e32; subst e35; subst e38; subst e41; rw [F_Big_shiftRight_J26.eq_1]) hR27)⟩⟩
        rintro ⟨lx44, lx45⟩ H locs ls w49 ⟨i46, i47, V, hl, hI, hF, hO50, hO51, ⟨fu53, hf54, hR52⟩⟩ ih48
        obtain ⟨fm55, rfl⟩ : ∃ m, fu53 = m + 1 := ⟨fu53 - 1, by omega⟩
        replace i46 : q_F (0 ≤ lx44.toInt) := i46
        replace i47 : q_F (lx44.toInt ≤ a40.toInt) := i47
        replace hl : lv_has ls 7 [(6, .int lx44), (5, .int a40), (4, .int a34), (3, .int a31), (2, .int lx21), (0, .ref (q k1))] := hl
        replace hO50 : w49[k1]? = (some (q k1, .inr (2, [.ref (q (k1 + 1)), .int t0_0, .int t0_1])) : Option (Nat × va_E)) := hO50
        replace hO51 : w49[k1 + 1]? = (some (q (k1 + 1), .inl (g 0, R.toNatClampNeg, .inl lx45)) : Option (Nat × va_E)) := hO51
        refine lv_iload hx hb d_2_33_53 (lv_at hl 0 rfl) ?_
        refine lv_iload hx hb d_2_33_55 (lv_at hl 1 rfl) ?_
        refine lv_icmp_ge (tgt := 104) hx hb d_2_33_57 (by decide) (fun c56 => ?_) (fun c56 => ?_)
        ·
          refine lv_aload_n hx hb d_2_33_104 rfl (lv_at hl 5 rfl) ?_
          refine lv_iload hx hb d_2_33_105 (lv_at hl 1 rfl) ?_
          refine q_put (ci := 2) (j := 1) (v := .int a40) (ty := .int) C0 V i_Big o_Big n_Big rfl rfl hO50 (by decide) w_85 rfl rfl rfl rfl (Nat.le_of_ble_eq_true rfl) d_2_33_107 (fun H locs w58 hu59 hO50 V => ?_)
          replace hO50 : w58[k1]? = (some (q k1, .inr (2, [.ref (q (k1 + 1)), .int a40, .int t0_1])) : Option (Nat × va_E)) := hO50
          replace hI := q_bigO' hI hB1 hu59 hO50 ⟨(by have t1 : 0 ≤ a40.toInt ∧ a37.toInt ≤ a40.toInt ∧ (a40.toInt = 0 ∨ a40.toInt = a37.toInt) := b42; omega), (by have t1 : 0 ≤ t0_0.toInt ∧ t0_0.toInt ≤ R.toInt := btt0_0; have t2 : 0 < x2.toInt := b11; have t3 : 31 * a31.toInt ≤ x2.toInt ∧ x2.toInt ≤ 31 * a31.toInt + 30 := b33; have t4 : a37.toInt = t0_0.toInt - a31.toInt := b39; have t5 : 0 ≤ a40.toInt ∧ a37.toInt ≤ a40.toInt ∧ (a40.toInt = 0 ∨ a40.toInt = a37.toInt) := b42; omega)⟩ (by first | with_reducible exact q_fe btt0_1 | exact ⟨(by have t1 : 0 ≤ t0_1.toInt ∧ t0_1.toInt ≤ 1 := btt0_1; omega), (by have t1 : 0 ≤ t0_1.toInt ∧ t0_1.toInt ≤ 1 := btt0_1; omega)⟩)
          replace hO51 := (hu59 _ (by omega)).trans hO51
          replace hF := q_us hF hu59 (by simp)
          refine lv_aload_n hx hb d_2_33_110 rfl (lv_at hl 5 rfl) ?_
          refine q_gov V (q_runV (As := []) (rest := []) (d := 1) (mc := 0) (ms := 0) (ci := 2) C0 V rfl LV_Big_36 (X_Big_trim l D g q w58 k1 R hB1 zk1  hI a40 t0_1 hO50 lx45 hO51  _) rfl rfl hO50 rfl hl.1 rfl (Nat.le_of_ble_eq_true rfl) ⟨by decide, by decide⟩ ⟨Nat.le_of_ble_eq_true rfl, Nat.le_of_ble_eq_true rfl⟩ d_2_33_111) (fun u60 H locs hp61 V => ?_)
          obtain ⟨hI, hZ9⟩ := hp61
          obtain ⟨hu70, hZ9⟩ := hZ9
          obtain ⟨y63, hZ9⟩ := hZ9
          obtain ⟨y64, hZ9⟩ := hZ9
          obtain ⟨hO62, hZ9⟩ := hZ9
          obtain ⟨b65, hZ9⟩ := hZ9
          obtain ⟨b66, hZ9⟩ := hZ9
          obtain ⟨b67, hZ9⟩ := hZ9
          obtain ⟨b68, hE69⟩ := hZ9
          replace hO62 : u60[k1]? = (some (q k1, .inr (2, [.ref (q (k1 + 1)), .int y63, .int y64])) : Option (Nat × va_E)) := hO62
          have e71 : y63 = (F_Big_trim R a40 t0_1 lx45).1 := congrArg (fun z => z.1) hE69
          have e72 : y64 = (F_Big_trim R a40 t0_1 lx45).2 := congrArg (fun z => z.2) hE69
          replace b65 : q_F (0 ≤ y64.toInt) := b65
          replace b66 : q_F (y63.toInt ≤ a40.toInt) := b66
          replace b67 : q_F (y64.toInt ≤ t0_1.toInt) := b67
          replace b68 : q_F (y64.toInt ≤ y63.toInt) := b68
          replace hO51 := (hu70 _ (by have z0 := zk1; simp only [List.mem_cons, List.not_mem_nil, or_false, not_or]; omega)).trans hO51
          replace hF := q_uc hF hu70 (by simp)
          refine lv_iload_n hx hb d_2_33_114 rfl (lv_at hl 4 rfl) ?_
          exact q_retz C0 V (q_nz01 (q_Ile (x := 0) (y := lx21.toInt) (by decide) rfl (by first | with_reducible exact q_fe i25 | (have t1 : 0 ≤ lx21.toInt := i25; omega))) (q_Ile (x := lx21.toInt) (y := 1) rfl (by decide) (by first | with_reducible exact q_fe i26 | (have t1 : lx21.toInt ≤ 1 := i26; omega)))) (⟨hI, hF, y63, y64, lx45, hO62, hO51, (show 0 ≤ lx21.toInt from (by first | with_reducible exact q_fe i25 | (have t1 : 0 ≤ lx21.toInt := i25; omega))), (show lx21.toInt ≤ 1 from (by first | with_reducible exact q_fe i26 | (have t1 : lx21.toInt ≤ 1 := i26; omega))), (show 0 ≤ y63.toInt from (by have t1 : 0 ≤ y64.toInt := b65; have t2 : y64.toInt ≤ y63.toInt := b68; omega)), (show 0 ≤ y64.toInt from (by first | with_reducible exact q_fe b65 | (have t1 : 0 ≤ y64.toInt := b65; omega))), (show lx21.toInt ≤ t0_0.toInt from (by have t1 : 0 ≤ t0_0.toInt ∧ t0_0.toInt ≤ R.toInt := btt0_0; have t2 : t0_0.toInt ≠ 0 := b13; have t3 : lx21.toInt ≤ 1 := i26; omega)), (show y63.toInt ≤ t0_0.toInt from (by have t1 : 0 ≤ t0_0.toInt ∧ t0_0.toInt ≤ R.toInt := btt0_0; have t2 : 0 < x2.toInt := b11; have t3 : 31 * a31.toInt ≤ x2.toInt ∧ x2.toInt ≤ 31 * a31.toInt + 30 := b33; have t4 : a37.toInt = t0_0.toInt - a31.toInt := b39; have t5 : 0 ≤ a40.toInt ∧ a37.toInt ≤ a40.toInt ∧ (a40.toInt = 0 ∨ a40.toInt = a37.toInt) := b42; have t6 : y63.toInt ≤ a40.toInt := b66; omega)), (show y64.toInt ≤ t0_1.toInt from (by first | with_reducible exact q_fe b67 | (have t1 : y64.toInt ≤ t0_1.toInt := b67; omega))), (show (lx21, y63, y64, lx45) = (F_Big_shiftRight R x2 t0_0 t0_1 t1_0) from Eq.trans (by subst e20; subst e32; subst e35; subst e38; subst e41; subst e71; subst e72; rw [F_Big_shiftRight_L53.eq_2, if_pos c56]) hR52)⟩) d_2_33_115
        ·
          have b73 : q_F (lx44.toInt < a40.toInt) := (q_nleI c56)
          refine lv_aload_n hx hb d_2_33_60 rfl (lv_at hl 5 rfl) ?_
          refine q_get (ci := 2) (j := 0) (v := .ref (q (k1 + 1))) C0 V i_Big rfl rfl hO50 (by decide) w_84 rfl d_2_33_61 ?_
          refine lv_iload hx hb d_2_33_64 (lv_at hl 0 rfl) ?_
          refine lv_aload_n hx hb d_2_33_66 rfl (lv_at hl 5 rfl) ?_
          refine lv_iload hx hb d_2_33_67 (lv_at hl 0 rfl) ?_
          refine lv_iload_n hx hb d_2_33_69 rfl (lv_at hl 3 rfl) ?_
          refine lv_iadd hx hb d_2_33_70 ?_
          obtain ⟨a74, e75⟩ := q_nm (lx44 + a31 : Int32)
          refine q_ti (v := a74) e75 ?_
          refine q_goi V (q_runV (As := [.int a74]) (rest := [.int lx44, .ref (q (k1 + 1))]) (d := 1) (mc := 0) (ms := 0) (ci := 2) C0 V rfl LV_Big_49 (X_Big_limb l D g q w49 k1 R hB1 zk1 a74 hI t0_0 t0_1 hO50 lx45 hO51  _) rfl rfl hO50 rfl hl.1 rfl (Nat.le_of_ble_eq_true rfl) ⟨by decide, by decide⟩ ⟨Nat.le_of_ble_eq_true rfl, Nat.le_of_ble_eq_true rfl⟩ d_2_33_71) (fun a79 u77 H locs hp78 V => ?_)
          obtain ⟨rfl, hE80⟩ := hp78
          have e81 : a79 = (F_Big_limb R a74 t0_0 t0_1 lx45) := hE80
          refine lv_iload hx hb d_2_33_74 (lv_at hl 2 rfl) ?_
          refine lv_iushr hx hb d_2_33_76 rfl ?_
          obtain ⟨a82, e83⟩ := q_nm ((a79.toUInt32 >>> (a34.toUInt32 &&& Int32.toUInt32 31)).toInt32 : Int32)
          refine q_ti (v := a82) e83 ?_
          refine lv_aload_n hx hb d_2_33_77 rfl (lv_at hl 5 rfl) ?_
          refine lv_iload hx hb d_2_33_78 (lv_at hl 0 rfl) ?_
          refine lv_iload_n hx hb d_2_33_80 rfl (lv_at hl 3 rfl) ?_
          refine lv_iadd hx hb d_2_33_81 ?_
          obtain ⟨a84, e85⟩ := q_nm (lx44 + a31 : Int32)
          refine q_ti (v := a84) e85 ?_
          refine lv_iconst (v := 1) hx hb d_2_33_82 (by decide) ?_
          refine lv_iadd hx hb d_2_33_83 ?_
          obtain ⟨a87, e88⟩ := q_nm (a84 + 1 : Int32)
          refine q_ti (v := a87) e88 ?_
          refine q_goi V (q_runV (As := [.int a87]) (rest := [.int a82, .int lx44, .ref (q (k1 + 1))]) (d := 1) (mc := 0) (ms := 0) (ci := 2) C0 V rfl LV_Big_49 (X_Big_limb l D g q w49 k1 R hB1 zk1 a87 hI t0_0 t0_1 hO50 lx45 hO51  _) rfl rfl hO50 rfl hl.1 rfl (Nat.le_of_ble_eq_true rfl) ⟨by decide, by decide⟩ ⟨Nat.le_of_ble_eq_true rfl, Nat.le_of_ble_eq_true rfl⟩ d_2_33_84) (fun a92 u90 H locs hp91 V => ?_)
          obtain ⟨rfl, hE93⟩ := hp91
          have e94 : a92 = (F_Big_limb R a87 t0_0 t0_1 lx45) := hE93
          refine lv_bipush (v := 31) hx hb d_2_33_87 (by decide) ?_
          refine lv_iload hx hb d_2_33_89 (lv_at hl 2 rfl) ?_
          refine lv_isub hx hb d_2_33_91 ?_
          obtain ⟨a95, e96⟩ := q_nm (31 - a34 : Int32)
          refine q_ti (v := a95) e96 ?_
          refine lv_ishl hx hb d_2_33_92 ?_
          obtain ⟨a98, e99⟩ := q_nm (a92 <<< (a95 &&& 31) : Int32)
          refine q_ti (v := a98) e99 ?_
          refine lv_ior hx hb d_2_33_93 ?_
          obtain ⟨a100, e101⟩ := q_nm (a82 ||| a98 : Int32)
          refine q_ti (v := a100) e101 ?_
          refine q_ldc C0 rfl w_809 d_2_33_94 ?_
          refine lv_iand hx hb d_2_33_96 ?_
          obtain ⟨a102, e103⟩ := q_nm (a100 &&& 2147483647 : Int32)
          refine q_ti (v := a102) e103 ?_
          refine q_iast C0 V hO51 (q_ix (x := lx44.toInt) rfl (by first | with_reducible exact q_fe i46 | (have t1 : 0 ≤ lx44.toInt := i46; omega)) (by have t1 : 0 ≤ lx44.toInt := i46; have t2 : 0 ≤ t0_0.toInt ∧ t0_0.toInt ≤ R.toInt := btt0_0; have t3 : 0 < x2.toInt := b11; have t4 : 31 * a31.toInt ≤ x2.toInt ∧ x2.toInt ≤ 31 * a31.toInt + 30 := b33; have t5 : a37.toInt = t0_0.toInt - a31.toInt := b39; have t6 : 0 ≤ a40.toInt ∧ a37.toInt ≤ a40.toInt ∧ (a40.toInt = 0 ∨ a40.toInt = a37.toInt) := b42; have t7 : lx44.toInt < a40.toInt := b73; have e9 := q_clI (i := R) rfl (by first | with_reducible exact (q_fe hfk10).2 | with_reducible exact (q_fe hfk10).1 | (have t1 : 0 ≤ R.toInt ∧ R.toInt ≤ 220 := hfk10; omega)); omega)) d_2_33_97 (fun H locs w105 hu106 hO51 V => ?_)
          replace hI := q_bigA' hI hB1 hu106 hO51 (q_updB (fun _ => s_bnd) s_bnd)
          replace hO50 := (hu106 _ (by omega)).trans hO50
          replace hF := q_us hF hu106 (by simp)
          obtain ⟨f107, e108⟩ := q_nm (upd lx45 lx44.toNatClampNeg a102 : (Nat → Int32))
          rw [e108] at hO51
          obtain ⟨a109, e110⟩ := q_nm (lx44 + 1 : Int32)
          have b111 : q_F (a109.toInt = lx44.toInt + 1) := (by rw [← e110]; exact q_addI (y := 1) rfl (by decide) (by have t1 : 0 ≤ lx44.toInt := i46; have t2 : lx44.toInt < a40.toInt := b73; have _ := q_lo32 (x := a40); have _ := q_hi32 (x := a40); omega) (by have t1 : 0 ≤ lx44.toInt := i46; have t2 : lx44.toInt < a40.toInt := b73; have _ := q_lo32 (x := a40); have _ := q_hi32 (x := a40); omega))
          refine lv_iinc (v := a109) (lv' := [(6, .int a109), (5, .int a40), (4, .int a34), (3, .int a31), (2, .int lx21), (0, .ref (q k1))]) hx hb d_2_33_98 hl (k := 0) rfl (e110) (by decide) rfl (fun ls hl => ?_)
          refine lv_goto (tgt := 53) hx hb d_2_33_101 (by decide) ?_
          exact ih48 ((a109 : Int32), (f107 : (Nat → Int32))) _ _ _ _ (show (220 - a109.toInt).toNat < (220 - lx44.toInt).toNat from by have t1 : a109.toInt = lx44.toInt + 1 := b111; have t2 : 0 ≤ R.toInt ∧ R.toInt ≤ 220 := hfk10; have t3 : 0 ≤ t0_0.toInt ∧ t0_0.toInt ≤ R.toInt := btt0_0; have t4 : 0 < x2.toInt := b11; have t5 : 31 * a31.toInt ≤ x2.toInt ∧ x2.toInt ≤ 31 * a31.toInt + 30 := b33; have t6 : a37.toInt = t0_0.toInt - a31.toInt := b39; have t7 : 0 ≤ a40.toInt ∧ a37.toInt ≤ a40.toInt ∧ (a40.toInt = 0 ∨ a40.toInt = a37.toInt) := b42; have t8 : lx44.toInt ≤ a40.toInt := i47; have t9 : lx44.toInt < a40.toInt := b73; omega) ⟨(show q_F (0 ≤ a109.toInt) from (show 0 ≤ a109.toInt from by have t1 : 0 ≤ lx44.toInt := i46; have t2 : a109.toInt = lx44.toInt + 1 := b111; omega)), (show q_F (a109.toInt ≤ a40.toInt) from (show a109.toInt ≤ a40.toInt from by have t1 : lx44.toInt < a40.toInt := b73; have t2 : a109.toInt = lx44.toInt + 1 := b111; omega)), V, q_lw hl (q_lw1 0 rfl (q_lw1 1 rfl (q_lw1 2 rfl (q_lw1 3 rfl (q_lw1 4 rfl (q_lw1 5 rfl q_lw0)))))), hI, hF, hO50, hO51, ⟨fm55, Nat.lt_of_lt_of_le (show (220 - a109.toInt).toNat < (220 - lx44.toInt).toNat from by have t1 : a109.toInt = lx44.toInt + 1 := b111; have t2 : 0 ≤ R.toInt ∧ R.toInt ≤ 220 := hfk10; have t3 : 0 ≤ t0_0.toInt ∧ t0_0.toInt ≤ R.toInt := btt0_0; have t4 : 0 < x2.toInt := b11; have t5 : 31 * a31.toInt ≤ x2.toInt ∧ x2.toInt ≤ 31 * a31.toInt + 30 := b33; have t6 : a37.toInt = t0_0.toInt - a31.toInt := b39; have t7 : 0 ≤ a40.toInt ∧ a37.toInt ≤ a40.toInt ∧ (a40.toInt = 0 ∨ a40.toInt = a37.toInt) := b42; have t8 : lx44.toInt ≤ a40.toInt := i47; have t9 : lx44.toInt < a40.toInt := b73; omega) (Nat.le_of_lt_succ hf54), (show F_Big_shiftRight_L53 R x2 t0_0 t0_1 t1_0 lx21 a40 a34 a31 fm55 a109 f107 = (F_Big_shiftRight R x2 t0_0 t0_1 t1_0) from Eq.trans (by subst e20; subst e32; subst e35; subst e38; subst e41; subst e75; subst e81; subst e83; subst e85; subst e88; subst e94; subst e96; subst e99; subst e101; subst e103; subst e108; subst e110; rw [F_Big_shiftRight_L53.eq_2, if_neg c56]) hR52)⟩⟩
      ·
        intro J24
        refine lv_icmp_ge (tgt := 25) hx hb d_2_33_18 (by decide) (fun c112 => ?_) (fun c112 => ?_)
        ·
          refine lv_iconst (v := 0) hx hb d_2_33_25 (by decide) ?_
          exact J24 ((0 : Int32)) _ _ _ ws ⟨(show q_F (0 ≤ 0) from (show 0 ≤ 0 from by omega)), (show q_F (0 ≤ 1) from (show 0 ≤ 1 from by omega)), V, q_lw hl (q_lw1 0 rfl (q_lw1 1 rfl q_lw0)), (show F_Big_shiftRight_J26 R x2 t0_0 t0_1 t1_0 0 = (F_Big_shiftRight R x2 t0_0 t0_1 t1_0) from (by subst e20; rw [F_Big_shiftRight.eq_1, if_neg c9, if_neg c12, if_pos c112]))⟩
        ·
          refine lv_iconst (v := 1) hx hb d_2_33_21 (by decide) ?_
          refine lv_goto (tgt := 26) hx hb d_2_33_22 (by decide) ?_
          exact J24 ((1 : Int32)) _ _ _ ws ⟨(show q_F (0 ≤ 1) from (show 0 ≤ 1 from by omega)), (show q_F (1 ≤ 1) from (show 1 ≤ 1 from by omega)), V, q_lw hl (q_lw1 0 rfl (q_lw1 1 rfl q_lw0)), (show F_Big_shiftRight_J26 R x2 t0_0 t0_1 t1_0 1 = (F_Big_shiftRight R x2 t0_0 t0_1 t1_0) from (by subst e20; rw [F_Big_shiftRight.eq_1, if_neg c9, if_neg c12, if_neg c112]))⟩
    ·
      refine lv_iconst (v := 0) hx hb d_2_33_11 (by decide) ?_
      exact q_retz C0 V (by decide) (⟨hI, hF, t0_0, t0_1, t1_0, hT0, hT1, (show 0 ≤ (0 : Int32).toInt from (by have z5 : (0 : Int32).toInt = 0 := rfl; omega)), (show (0 : Int32).toInt ≤ 1 from (by have z5 : (0 : Int32).toInt = 0 := rfl; omega)), (show 0 ≤ t0_0.toInt from (by have z5 : (0 : Int32).toInt = 0 := rfl; have t1 : 0 ≤ t0_0.toInt ∧ t0_0.toInt ≤ R.toInt := btt0_0; omega)), (show 0 ≤ t0_1.toInt from (by have z5 : (0 : Int32).toInt = 0 := rfl; have t1 : 0 ≤ t0_1.toInt ∧ t0_1.toInt ≤ 1 := btt0_1; omega)), (show (0 : Int32).toInt ≤ t0_0.toInt from (by have z5 : (0 : Int32).toInt = 0 := rfl; have t1 : 0 ≤ t0_0.toInt ∧ t0_0.toInt ≤ R.toInt := btt0_0; omega)), (show t0_0.toInt ≤ t0_0.toInt from (by have z5 : (0 : Int32).toInt = 0 := rfl; omega)), (show t0_1.toInt ≤ t0_1.toInt from (by have z5 : (0 : Int32).toInt = 0 := rfl; omega)), (show ((0 : Int32), t0_0, t0_1, t1_0) = (F_Big_shiftRight R x2 t0_0 t0_1 t1_0) from (by rw [F_Big_shiftRight.eq_1, if_neg c9, if_pos c12]))⟩) d_2_33_12
def F_Big_product_L69 (K_F_Big_product_L31 : Int32 → (Nat → Int32) → (Int32 × Int32 × (Nat → Int32))) (R : Int32) (R2 : Int32) (R3 : Int32) (t0_0 : Int32) (t0_1 : Int32) (t1_0 : (Nat → Int32)) (t2_0 : Int32) (t2_1 : Int32) (t3_0 : (Nat → Int32)) (t4_0 : Int32) (t4_1 : Int32) (t5_0 : (Nat → Int32)) (a28 : Int32) (lx41 : Int32) (lx42 : (Nat → Int32)) (j113 : Int64) (a108 : Int32) : Nat → Int32 → Int64 → (Nat → Int32) → (Int32 × Int32 × (Nat → Int32))
  | 0, _, _, _ => default
  | fm + 1, lx118, lx119, lx120 => if a108 ≤ lx118 then (if a28 ≤ (lx41 + a108 : Int32) then (K_F_Big_product_L31 (lx41 + 1 : Int32) lx120) else (K_F_Big_product_L31 (lx41 + 1 : Int32) (upd lx120 (lx41 + a108 : Int32).toNatClampNeg (lx119.toInt32 : Int32) : (Nat → Int32)))) else (F_Big_product_L69 K_F_Big_product_L31 R R2 R3 t0_0 t0_1 t1_0 t2_0 t2_1 t3_0 t4_0 t4_1 t5_0 a28 lx41 lx42 j113 a108 fm (lx118 + 1 : Int32) (((((j113 * ((t5_0 lx118.toNatClampNeg : Int32).toInt64 : Int64) : Int64) + ((lx120 (lx41 + lx118 : Int32).toNatClampNeg : Int32).toInt64 : Int64) : Int64) + lx119 : Int64).toUInt64 >>> ((31 : Int32).toInt64.toUInt64 &&& Int64.toUInt64 63)).toInt64 : Int64) (upd lx120 (lx41 + lx118 : Int32).toNatClampNeg (((((j113 * ((t5_0 lx118.toNatClampNeg : Int32).toInt64 : Int64) : Int64) + ((lx120 (lx41 + lx118 : Int32).toNatClampNeg : Int32).toInt64 : Int64) : Int64) + lx119 : Int64) &&& 2147483647 : Int64).toInt32 : Int32) : (Nat → Int32)))
def F_Big_product_L31 (R : Int32) (R2 : Int32) (R3 : Int32) (t0_0 : Int32) (t0_1 : Int32) (t1_0 : (Nat → Int32)) (t2_0 : Int32) (t2_1 : Int32) (t3_0 : (Nat → Int32)) (t4_0 : Int32) (t4_1 : Int32) (t5_0 : (Nat → Int32)) (a28 : Int32) : Nat → Int32 → (Nat → Int32) → (Int32 × Int32 × (Nat → Int32))
  | 0, _, _ => default
  | fm + 1, lx41, lx42 => if t2_0 ≤ lx41 then (if t2_1 = t4_1 then ((((F_Big_trim R a28 (0 : Int32) lx42).1 : Int32), ((F_Big_trim R a28 (0 : Int32) lx42).2 : Int32), lx42)) else ((((F_Big_trim R a28 (1 : Int32) lx42).1 : Int32), ((F_Big_trim R a28 (1 : Int32) lx42).2 : Int32), lx42))) else (F_Big_product_L69 (F_Big_product_L31 R R2 R3 t0_0 t0_1 t1_0 t2_0 t2_1 t3_0 t4_0 t4_1 t5_0 a28 fm) R R2 R3 t0_0 t0_1 t1_0 t2_0 t2_1 t3_0 t4_0 t4_1 t5_0 a28 lx41 lx42 ((t3_0 lx41.toNatClampNeg : Int32).toInt64 : Int64) (if (a28 - lx41 : Int32) < t4_0 then (a28 - lx41 : Int32) else t4_0 : Int32) ((220 - (0 : Int32).toInt).toNat + 1) 0 0 lx42)
def F_Big_product (R : Int32) (R2 : Int32) (R3 : Int32) (t0_0 : Int32) (t0_1 : Int32) (t1_0 : (Nat → Int32)) (t2_0 : Int32) (t2_1 : Int32) (t3_0 : (Nat → Int32)) (t4_0 : Int32) (t4_1 : Int32) (t5_0 : (Nat → Int32)) : Int32 × Int32 × (Nat → Int32) := F_Big_product_L31 R R2 R3 t0_0 t0_1 t1_0 t2_0 t2_1 t3_0 t4_0 t4_1 t5_0 (if R < (t2_0 + t4_0 : Int32) then R else (t2_0 + t4_0 : Int32) : Int32) ((220 - (0 : Int32).toInt).toNat + 1) 0 ((F_jArr_fill R (0 : Int32) (if R < (t2_0 + t4_0 : Int32) then R else (t2_0 + t4_0 : Int32) : Int32) (0 : Int32) t1_0) : (Nat → Int32))
set_option maxRecDepth 100000 in
set_option maxHeartbeats 4000000 in
theorem X_Big_product (l : Launch) (D : va_G) (g : Nat → ClassId) (q : Nat → Nat) (ws : va_W) (k1 : Nat) (R : Int32) (hB1 : q_isBig (nsh g q) g q k1 R) (zk1 : (10 ≤ k1 ∧ k1 ≤ 32) ∨ 66 ≤ k1) (k2 : Nat) (R2 : Int32) (hB2 : q_isBig (nsh g q) g q k2 R2) (zk2 : (10 ≤ k2 ∧ k2 ≤ 32) ∨ 66 ≤ k2) (k3 : Nat) (R3 : Int32) (hB3 : q_isBig (nsh g q) g q k3 R3) (zk3 : (10 ≤ k3 ∧ k3 ≤ 32) ∨ 66 ≤ k3) (ne_k1_k2 : k1 ≠ k2) (ne_k1_k3 : k1 ≠ k3) (hI : q_I (nsh g q) q ws) (t0_0 : Int32) (t0_1 : Int32) (hT0 : ws[k1]? = (some (q k1, .inr (2, [.ref (q (k1 + 1)), .int t0_0, .int t0_1])) : Option (Nat × va_E))) (t1_0 : (Nat → Int32)) (hT1 : ws[k1 + 1]? = (some (q (k1 + 1), .inl (g 0, R.toNatClampNeg, .inl t1_0)) : Option (Nat × va_E))) (t2_0 : Int32) (t2_1 : Int32) (hT2 : ws[k2]? = (some (q k2, .inr (2, [.ref (q (k2 + 1)), .int t2_0, .int t2_1])) : Option (Nat × va_E))) (t3_0 : (Nat → Int32)) (hT3 : ws[k2 + 1]? = (some (q (k2 + 1), .inl (g 0, R2.toNatClampNeg, .inl t3_0)) : Option (Nat × va_E))) (t4_0 : Int32) (t4_1 : Int32) (hT4 : ws[k3]? = (some (q k3, .inr (2, [.ref (q (k3 + 1)), .int t4_0, .int t4_1])) : Option (Nat × va_E))) (t5_0 : (Nat → Int32)) (hT5 : ws[k3 + 1]? = (some (q (k3 + 1), .inl (g 0, R3.toNatClampNeg, .inl t5_0)) : Option (Nat × va_E))) : q_mV l y_Big_product prog_2_method_31_code 13 3 0 0 D g [.ref (q k1), .ref (q k2), .ref (q k3)] ws (fun u => q_I (nsh g q) q u ∧ q_un ws u [k1, k1 + 1] ∧ ∃ (u0_0 : Int32) (u0_1 : Int32) (u1_0 : (Nat → Int32)), u[k1]? = (some (q k1, .inr (2, [.ref (q (k1 + 1)), .int u0_0, .int u0_1])) : Option (Nat × va_E)) ∧ u[k1 + 1]? = (some (q (k1 + 1), .inl (g 0, R.toNatClampNeg, .inl u1_0)) : Option (Nat × va_E)) ∧ (0 ≤ u0_1.toInt) ∧ (u0_1.toInt ≤ 1) ∧ (u0_0.toInt ≤ R.toInt) ∧ (u0_1.toInt ≤ u0_0.toInt) ∧ (u0_0, u0_1, u1_0) = (F_Big_product R R2 R3 t0_0 t0_1 t1_0 t2_0 t2_1 t3_0 t4_0 t4_1 t5_0)) := by
  intro sz
  refine q_into (by decide) (Nat.le_of_ble_eq_true rfl) ?_
  intro p e s m below meth c ls hsz C0 V hl
  have hx := C0.1
  have hb := C0.2.1
  have hfk10 : q_F (0 ≤ R.toInt ∧ R.toInt ≤ 220) := hB1.2.2
  have hfk20 : q_F (0 ≤ R2.toInt ∧ R2.toInt ≤ 220) := hB2.2.2
  have hfk30 : q_F (0 ≤ R3.toInt ∧ R3.toInt ≤ 220) := hB3.2.2
  have btt0_1 := (q_bigW hI hB1 hT0).2
  replace btt0_1 : q_F (0 ≤ t0_1.toInt ∧ t0_1.toInt ≤ 1) := btt0_1
  have btt2_0 := (q_bigW hI hB2 hT2).1
  replace btt2_0 : q_F (0 ≤ t2_0.toInt ∧ t2_0.toInt ≤ R2.toInt) := btt2_0
  have btt4_0 := (q_bigW hI hB3 hT4).1
  replace btt4_0 : q_F (0 ≤ t4_0.toInt ∧ t4_0.toInt ≤ R3.toInt) := btt4_0
  have hF : q_un ws ws [k1, k1 + 1] := q_u0
  have hl : lv_has ls 13 [(0, .ref (q k1)), (1, .ref (q k2)), (2, .ref (q k3))] := hl
  refine lv_aload_n hx hb d_2_31_0 rfl (lv_at hl 1 rfl) ?_
  refine q_get (ci := 2) (j := 1) (v := .int t2_0) C0 V i_Big rfl rfl hT2 (by decide) w_85 rfl d_2_31_1 ?_
  refine lv_aload_n hx hb d_2_31_4 rfl (lv_at hl 2 rfl) ?_
  refine q_get (ci := 2) (j := 1) (v := .int t4_0) C0 V i_Big rfl rfl hT4 (by decide) w_85 rfl d_2_31_5 ?_
  refine lv_iadd hx hb d_2_31_8 ?_
  obtain ⟨a25, e26⟩ := q_nm (t2_0 + t4_0 : Int32)
  refine q_ti (v := a25) e26 ?_
  have b27 : q_F (a25.toInt = t2_0.toInt + t4_0.toInt) := (by rw [← e26]; show (t2_0 + t4_0 : Int32).toInt = t2_0.toInt + t4_0.toInt; exact q_addI (x := t2_0.toInt) (y := t4_0.toInt) rfl rfl (by have t1 : 0 ≤ t2_0.toInt ∧ t2_0.toInt ≤ R2.toInt := btt2_0; have t2 : 0 ≤ t4_0.toInt ∧ t4_0.toInt ≤ R3.toInt := btt4_0; have t3 : 0 ≤ R2.toInt ∧ R2.toInt ≤ 220 := hfk20; have t4 : 0 ≤ R3.toInt ∧ R3.toInt ≤ 220 := hfk30; omega) (by have t1 : 0 ≤ t2_0.toInt ∧ t2_0.toInt ≤ R2.toInt := btt2_0; have t2 : 0 ≤ t4_0.toInt ∧ t4_0.toInt ≤ R3.toInt := btt4_0; have t3 : 0 ≤ R2.toInt ∧ R2.toInt ≤ 220 := hfk20; have t4 : 0 ≤ R3.toInt ∧ R3.toInt ≤ 220 := hfk30; omega))
  refine lv_aload_n hx hb d_2_31_9 rfl (lv_at hl 0 rfl) ?_
  refine q_get (ci := 2) (j := 0) (v := .ref (q (k1 + 1))) C0 V i_Big rfl rfl hT0 (by decide) w_84 rfl d_2_31_10 ?_
  refine q_alen (t := 0) (v := R) C0 V hT1 rfl (s_len (by first | with_reducible exact (q_fe hfk10).2 | with_reducible exact (q_fe hfk10).1 | (have t1 : 0 ≤ R.toInt ∧ R.toInt ≤ 220 := hfk10; omega))) d_2_31_13 ?_
  refine q_min C0 hl.1 rfl w_773 w_774 w_7 w_775 ⟨Nat.le_of_ble_eq_true rfl, Nat.le_of_ble_eq_true rfl⟩ ⟨Nat.le_of_ble_eq_true rfl, Nat.le_of_ble_eq_true rfl⟩ d_2_31_14 ?_
  obtain ⟨a28, e29⟩ := q_nm (if R < a25 then R else a25 : Int32)
  refine q_ti (v := a28) e29 ?_
  have b30 : q_F (a28.toInt ≤ a25.toInt ∧ a28.toInt ≤ R.toInt ∧ (a28.toInt = a25.toInt ∨ a28.toInt = R.toInt)) := (by rw [← e29]; show (if R < a25 then R else a25 : Int32).toInt ≤ a25.toInt ∧ (if R < a25 then R else a25 : Int32).toInt ≤ R.toInt ∧ ((if R < a25 then R else a25 : Int32).toInt = a25.toInt ∨ (if R < a25 then R else a25 : Int32).toInt = R.toInt); exact s_min (a := a25) (b := R))
  refine lv_istore_n (lv' := [(3, .int a28), (0, .ref (q k1)), (1, .ref (q k2)), (2, .ref (q k3))]) hx hb d_2_31_17 rfl hl (by decide) rfl (fun ls hl => ?_)
  refine lv_aload_n hx hb d_2_31_18 rfl (lv_at hl 1 rfl) ?_
  refine q_get (ci := 2) (j := 0) (v := .ref (q (k1 + 1))) C0 V i_Big rfl rfl hT0 (by decide) w_84 rfl d_2_31_19 ?_
  refine lv_iconst (v := 0) hx hb d_2_31_22 (by decide) ?_
  refine lv_iload_n hx hb d_2_31_23 rfl (lv_at hl 0 rfl) ?_
  refine lv_iconst (v := 0) hx hb d_2_31_24 (by decide) ?_
  have ne31 := q_df hT1 hT2
  have ne32 := q_df hT1 hT4
  refine q_gov V (q_runS (As := [.ref (q (k1 + 1)), .int 0, .int a28, .int 0]) (rest := []) (d := 2) (mc := 0) (ms := 0) C0 V rfl LS_Big_108 (X_jArr_fill l D g q ws k1 R hB1 0 a28 0 hI t1_0 hT1 (by have y0 : (0 : Int32).toInt = 0 := rfl; have y1 : (0 : Int32).toInt = 0 := rfl; omega) (by have y0 : (0 : Int32).toInt = 0 := rfl; have y1 : (0 : Int32).toInt = 0 := rfl; have t1 : 0 ≤ R.toInt ∧ R.toInt ≤ 220 := hfk10; have t2 : 0 ≤ t2_0.toInt ∧ t2_0.toInt ≤ R2.toInt := btt2_0; have t3 : 0 ≤ t4_0.toInt ∧ t4_0.toInt ≤ R3.toInt := btt4_0; have t4 : a25.toInt = t2_0.toInt + t4_0.toInt := b27; have t5 : a28.toInt ≤ a25.toInt ∧ a28.toInt ≤ R.toInt ∧ (a28.toInt = a25.toInt ∨ a28.toInt = R.toInt) := b30; omega) (by have y0 : (0 : Int32).toInt = 0 := rfl; have y1 : (0 : Int32).toInt = 0 := rfl; have t1 : a28.toInt ≤ a25.toInt ∧ a28.toInt ≤ R.toInt ∧ (a28.toInt = a25.toInt ∨ a28.toInt = R.toInt) := b30; omega) _) rfl hl.1 rfl (Nat.le_of_ble_eq_true rfl) ⟨by decide, by decide⟩ ⟨Nat.le_of_ble_eq_true rfl, Nat.le_of_ble_eq_true rfl⟩ d_2_31_25) (fun u33 H locs hp34 V => ?_)
  obtain ⟨hI, hu38, f35, hA36, hE37⟩ := hp34
  replace hA36 : u33[k1 + 1]? = (some (q (k1 + 1), .inl (g 0, R.toNatClampNeg, .inl f35)) : Option (Nat × va_E)) := hA36
  have e39 : f35 = (F_jArr_fill R (0 : Int32) a28 (0 : Int32) t1_0) := hE37
  replace hT0 := (hu38 _ (by have z0 := zk1; simp only [List.mem_cons, List.not_mem_nil, or_false, not_or]; omega)).trans hT0
  replace hT2 := (hu38 _ (q_nc (Ne.symm ne31) List.not_mem_nil)).trans hT2
  replace hT3 := (hu38 _ (q_nc (by have z := ne_k1_k2; omega) List.not_mem_nil)).trans hT3
  replace hT4 := (hu38 _ (q_nc (Ne.symm ne32) List.not_mem_nil)).trans hT4
  replace hT5 := (hu38 _ (q_nc (by have z := ne_k1_k3; omega) List.not_mem_nil)).trans hT5
  replace hF := q_uc hF hu38 (by simp)
  refine lv_iconst (v := 0) hx hb d_2_31_28 (by decide) ?_
  refine lv_istore (lv' := [(4, .int 0), (3, .int a28), (0, .ref (q k1)), (1, .ref (q k2)), (2, .ref (q k3))]) hx hb d_2_31_29 hl (by decide) rfl (fun ls hl => ?_)
  refine q_loop (X := Int32 × (Nat → Int32)) (fun z H locs ls w46 => q_F (0 ≤ z.1.toInt) ∧ q_F (z.1.toInt ≤ t2_0.toInt) ∧ q_Wd D g (va_A ws sz) s w46 H locs ∧ lv_has ls 13 [(4, .int z.1), (3, .int a28), (0, .ref (q k1)), (1, .ref (q k2)), (2, .ref (q k3))] ∧ q_I (nsh g q) q w46 ∧ q_un ws w46 [k1, k1 + 1] ∧ w46[k1]? = (some (q k1, .inr (2, [.ref (q (k1 + 1)), .int t0_0, .int t0_1])) : Option (Nat × va_E)) ∧ w46[k1 + 1]? = (some (q (k1 + 1), .inl (g 0, R.toNatClampNeg, .inl z.2)) : Option (Nat × va_E)) ∧ w46[k2]? = (some (q k2, .inr (2, [.ref (q (k2 + 1)), .int t2_0, .int t2_1])) : Option (Nat × va_E)) ∧ w46[k2 + 1]? = (some (q (k2 + 1), .inl (g 0, R2.toNatClampNeg, .inl t3_0)) : Option (Nat × va_E)) ∧ w46[k3]? = (some (q k3, .inr (2, [.ref (q (k3 + 1)), .int t4_0, .int t4_1])) : Option (Nat × va_E)) ∧ w46[k3 + 1]? = (some (q (k3 + 1), .inl (g 0, R3.toNatClampNeg, .inl t5_0)) : Option (Nat × va_E)) ∧ (∃ n, (220 - z.1.toInt).toNat < n ∧ F_Big_product_L31 R R2 R3 t0_0 t0_1 t1_0 t2_0 t2_1 t3_0 t4_0 t4_1 t5_0 a28 n z.1 z.2 = (F_Big_product R R2 R3 t0_0 t0_1 t1_0 t2_0 t2_1 t3_0 t4_0 t4_1 t5_0))) (fun z => (220 - z.1.toInt).toNat) ?_ ((0 : Int32), (f35 : (Nat → Int32))) _ _ _ u33 ⟨(show q_F (0 ≤ 0) from (show 0 ≤ 0 from by omega)), (show q_F (0 ≤ t2_0.toInt) from (show 0 ≤ t2_0.toInt from by have t1 : 0 ≤ t2_0.toInt ∧ t2_0.toInt ≤ R2.toInt := btt2_0; omega)), V, q_lw hl (q_lw1 0 rfl (q_lw1 1 rfl (q_lw1 2 rfl (q_lw1 3 rfl (q_lw1 4 rfl q_lw0))))), hI, hF, hT0, hA36, hT2, hT3, hT4, hT5, ⟨((220 - (0 : Int32).toInt).toNat + 1), Nat.lt_succ_self _, (show F_Big_product_L31 R R2 R3 t0_0 t0_1 t1_0 t2_0 t2_1 t3_0 t4_0 t4_1 t5_0 a28 ((220 - (0 : Int32).toInt).toNat + 1) 0 f35 = (F_Big_product R R2 R3 t0_0 t0_1 t1_0 t2_0 t2_1 t3_0 t4_0 t4_1 t5_0) from (by subst e26; subst e29; subst e39; rw [F_Big_product.eq_1]))⟩⟩
  rintro ⟨lx41, lx42⟩ H locs ls w46 ⟨i43, i44, V, hl, hI, hF, hO47, hO48, hO49, hO50, hO51, hO52, ⟨fu54, hf55, hR53⟩⟩ ih45
  obtain ⟨fm56, rfl⟩ : ∃ m, fu54 = m + 1 := ⟨fu54 - 1, by omega⟩
  replace i43 : q_F (0 ≤ lx41.toInt) := i43
  replace i44 : q_F (lx41.toInt ≤ t2_0.toInt) := i44
  replace hl : lv_has ls 13 [(4, .int lx41), (3, .int a28), (0, .ref (q k1)), (1, .ref (q k2)), (2, .ref (q k3))] := hl
  replace hO47 : w46[k1]? = (some (q k1, .inr (2, [.ref (q (k1 + 1)), .int t0_0, .int t0_1])) : Option (Nat × va_E)) := hO47
  replace hO48 : w46[k1 + 1]? = (some (q (k1 + 1), .inl (g 0, R.toNatClampNeg, .inl lx42)) : Option (Nat × va_E)) := hO48
  replace hO49 : w46[k2]? = (some (q k2, .inr (2, [.ref (q (k2 + 1)), .int t2_0, .int t2_1])) : Option (Nat × va_E)) := hO49
  replace hO50 : w46[k2 + 1]? = (some (q (k2 + 1), .inl (g 0, R2.toNatClampNeg, .inl t3_0)) : Option (Nat × va_E)) := hO50
  replace hO51 : w46[k3]? = (some (q k3, .inr (2, [.ref (q (k3 + 1)), .int t4_0, .int t4_1])) : Option (Nat × va_E)) := hO51
  replace hO52 : w46[k3 + 1]? = (some (q (k3 + 1), .inl (g 0, R3.toNatClampNeg, .inl t5_0)) : Option (Nat × va_E)) := hO52
  refine lv_iload hx hb d_2_31_31 (lv_at hl 0 rfl) ?_
  refine lv_aload_n hx hb d_2_31_33 rfl (lv_at hl 3 rfl) ?_
  refine q_get (ci := 2) (j := 1) (v := .int t2_0) C0 V i_Big rfl rfl hO49 (by decide) w_85 rfl d_2_31_34 ?_
  refine lv_icmp_ge (tgt := 162) hx hb d_2_31_37 (by decide) (fun c57 => ?_) (fun c57 => ?_)
  ·
    refine lv_aload_n hx hb d_2_31_162 rfl (lv_at hl 2 rfl) ?_
    refine lv_iload_n hx hb d_2_31_163 rfl (lv_at hl 1 rfl) ?_
    have ne61 := q_df hO50 hO47
    have ne62 := q_df hO52 hO47
    refine q_put (ci := 2) (j := 1) (v := .int a28) (ty := .int) C0 V i_Big o_Big n_Big rfl rfl hO47 (by decide) w_85 rfl rfl rfl rfl (Nat.le_of_ble_eq_true rfl) d_2_31_164 (fun H locs w59 hu60 hO47 V => ?_)
    replace hO47 : w59[k1]? = (some (q k1, .inr (2, [.ref (q (k1 + 1)), .int a28, .int t0_1])) : Option (Nat × va_E)) := hO47
    replace hI := q_bigO' hI hB1 hu60 hO47 ⟨(by have t1 : 0 ≤ R.toInt ∧ R.toInt ≤ 220 := hfk10; have t2 : 0 ≤ t2_0.toInt ∧ t2_0.toInt ≤ R2.toInt := btt2_0; have t3 : 0 ≤ t4_0.toInt ∧ t4_0.toInt ≤ R3.toInt := btt4_0; have t4 : a25.toInt = t2_0.toInt + t4_0.toInt := b27; have t5 : a28.toInt ≤ a25.toInt ∧ a28.toInt ≤ R.toInt ∧ (a28.toInt = a25.toInt ∨ a28.toInt = R.toInt) := b30; omega), (by have t1 : a28.toInt ≤ a25.toInt ∧ a28.toInt ≤ R.toInt ∧ (a28.toInt = a25.toInt ∨ a28.toInt = R.toInt) := b30; omega)⟩ (by first | with_reducible exact q_fe btt0_1 | exact ⟨(by have t1 : 0 ≤ t0_1.toInt ∧ t0_1.toInt ≤ 1 := btt0_1; omega), (by have t1 : 0 ≤ t0_1.toInt ∧ t0_1.toInt ≤ 1 := btt0_1; omega)⟩)
    replace hO48 := (hu60 _ (by omega)).trans hO48
    replace hO49 := (hu60 _ (by have z := ne_k1_k2; omega)).trans hO49
    replace hO50 := (hu60 _ ne61).trans hO50
    replace hO51 := (hu60 _ (by have z := ne_k1_k3; omega)).trans hO51
    replace hO52 := (hu60 _ ne62).trans hO52
    replace hF := q_us hF hu60 (by simp)
    refine lv_aload_n hx hb d_2_31_167 rfl (lv_at hl 2 rfl) ?_
    refine lv_aload_n hx hb d_2_31_168 rfl (lv_at hl 3 rfl) ?_
    refine q_get (ci := 2) (j := 2) (v := .int t2_1) C0 V i_Big rfl rfl hO49 (by decide) w_94 rfl d_2_31_169 ?_
    refine lv_aload_n hx hb d_2_31_172 rfl (lv_at hl 4 rfl) ?_
    refine q_get (ci := 2) (j := 2) (v := .int t4_1) C0 V i_Big rfl rfl hO51 (by decide) w_94 rfl d_2_31_173 ?_
    refine lv_icmp_eq (tgt := 183) hx hb d_2_31_176 (by decide) (fun c63 => ?_) (fun c63 => ?_)
    ·
      refine lv_iconst (v := 0) hx hb d_2_31_183 (by decide) ?_
      have ne67 := q_df hO50 hO47
      have ne68 := q_df hO52 hO47
      refine q_put (ci := 2) (j := 2) (v := .int 0) (ty := .boolean) C0 V i_Big o_Big n_Big rfl rfl hO47 (by decide) w_94 rfl rfl rfl rfl (Nat.le_of_ble_eq_true rfl) d_2_31_184 (fun H locs w65 hu66 hO47 V => ?_)
      replace hO47 : w65[k1]? = (some (q k1, .inr (2, [.ref (q (k1 + 1)), .int a28, .int 0])) : Option (Nat × va_E)) := hO47
      replace hI := q_bigO' hI hB1 hu66 hO47 ⟨(by have t1 : 0 ≤ R.toInt ∧ R.toInt ≤ 220 := hfk10; have t2 : 0 ≤ t2_0.toInt ∧ t2_0.toInt ≤ R2.toInt := btt2_0; have t3 : 0 ≤ t4_0.toInt ∧ t4_0.toInt ≤ R3.toInt := btt4_0; have t4 : a25.toInt = t2_0.toInt + t4_0.toInt := b27; have t5 : a28.toInt ≤ a25.toInt ∧ a28.toInt ≤ R.toInt ∧ (a28.toInt = a25.toInt ∨ a28.toInt = R.toInt) := b30; omega), (by have t1 : a28.toInt ≤ a25.toInt ∧ a28.toInt ≤ R.toInt ∧ (a28.toInt = a25.toInt ∨ a28.toInt = R.toInt) := b30; omega)⟩ ⟨(by have z9 : (0 : Int32).toInt = 0 := rfl; omega), (by have z9 : (0 : Int32).toInt = 0 := rfl; omega)⟩
      replace hO48 := (hu66 _ (by omega)).trans hO48
      replace hO50 := (hu66 _ ne67).trans hO50
      replace hO52 := (hu66 _ ne68).trans hO52
      replace hF := q_us hF hu66 (by simp)
      refine lv_aload_n hx hb d_2_31_187 rfl (lv_at hl 2 rfl) ?_
      have ne69 := q_df hO50 hO47
      have ne70 := q_df hO52 hO47
      refine q_gov V (q_runV (As := []) (rest := []) (d := 1) (mc := 0) (ms := 0) (ci := 2) C0 V rfl LV_Big_36 (X_Big_trim l D g q w65 k1 R hB1 zk1  hI a28 0 hO47 lx42 hO48  _) rfl rfl hO47 rfl hl.1 rfl (Nat.le_of_ble_eq_true rfl) ⟨by decide, by decide⟩ ⟨Nat.le_of_ble_eq_true rfl, Nat.le_of_ble_eq_true rfl⟩ d_2_31_188) (fun u71 H locs hp72 V => ?_)
      obtain ⟨hI, hZ9⟩ := hp72
      obtain ⟨hu81, hZ9⟩ := hZ9
      obtain ⟨y74, hZ9⟩ := hZ9
      obtain ⟨y75, hZ9⟩ := hZ9
      obtain ⟨hO73, hZ9⟩ := hZ9
      obtain ⟨b76, hZ9⟩ := hZ9
      obtain ⟨b77, hZ9⟩ := hZ9
      obtain ⟨b78, hZ9⟩ := hZ9
      obtain ⟨b79, hE80⟩ := hZ9
      replace hO73 : u71[k1]? = (some (q k1, .inr (2, [.ref (q (k1 + 1)), .int y74, .int y75])) : Option (Nat × va_E)) := hO73
      have e82 : y74 = (F_Big_trim R a28 (0 : Int32) lx42).1 := congrArg (fun z => z.1) hE80
      have e83 : y75 = (F_Big_trim R a28 (0 : Int32) lx42).2 := congrArg (fun z => z.2) hE80
      replace b76 : q_F (0 ≤ y75.toInt) := b76
      replace b77 : q_F (y74.toInt ≤ a28.toInt) := b77
      replace b78 : q_F (y75.toInt ≤ 0) := b78
      replace b79 : q_F (y75.toInt ≤ y74.toInt) := b79
      replace hO48 := (hu81 _ (by have z0 := zk1; simp only [List.mem_cons, List.not_mem_nil, or_false, not_or]; omega)).trans hO48
      replace hF := q_uc hF hu81 (by simp)
      exact q_retv C0 V (⟨hI, hF, y74, y75, lx42, hO73, hO48, (show 0 ≤ y75.toInt from (by first | with_reducible exact q_fe b76 | (have t1 : 0 ≤ y75.toInt := b76; omega))), (show y75.toInt ≤ 1 from (by first | with_reducible exact q_fe b78 | (have t1 : y75.toInt ≤ 0 := b78; omega))), (show y74.toInt ≤ R.toInt from (by have t1 : a28.toInt ≤ a25.toInt ∧ a28.toInt ≤ R.toInt ∧ (a28.toInt = a25.toInt ∨ a28.toInt = R.toInt) := b30; have t2 : y74.toInt ≤ a28.toInt := b77; omega)), (show y75.toInt ≤ y74.toInt from (by first | with_reducible exact q_fe b79 | (have t1 : y75.toInt ≤ y74.toInt := b79; omega))), (show (y74, y75, lx42) = (F_Big_product R R2 R3 t0_0 t0_1 t1_0 t2_0 t2_1 t3_0 t4_0 t4_1 t5_0) from Eq.trans (by subst e26; subst e29; subst e39; subst e82; subst e83; rw [F_Big_product_L31.eq_2, if_pos c57, if_pos c63]) hR53)⟩) d_2_31_191
    ·
      refine lv_iconst (v := 1) hx hb d_2_31_179 (by decide) ?_
      refine lv_goto (tgt := 184) hx hb d_2_31_180 (by decide) ?_
      have ne87 := q_df hO50 hO47
      have ne88 := q_df hO52 hO47
      refine q_put (ci := 2) (j := 2) (v := .int 1) (ty := .boolean) C0 V i_Big o_Big n_Big rfl rfl hO47 (by decide) w_94 rfl rfl rfl rfl (Nat.le_of_ble_eq_true rfl) d_2_31_184 (fun H locs w85 hu86 hO47 V => ?_)
      replace hO47 : w85[k1]? = (some (q k1, .inr (2, [.ref (q (k1 + 1)), .int a28, .int 1])) : Option (Nat × va_E)) := hO47
      replace hI := q_bigO' hI hB1 hu86 hO47 ⟨(by have t1 : 0 ≤ R.toInt ∧ R.toInt ≤ 220 := hfk10; have t2 : 0 ≤ t2_0.toInt ∧ t2_0.toInt ≤ R2.toInt := btt2_0; have t3 : 0 ≤ t4_0.toInt ∧ t4_0.toInt ≤ R3.toInt := btt4_0; have t4 : a25.toInt = t2_0.toInt + t4_0.toInt := b27; have t5 : a28.toInt ≤ a25.toInt ∧ a28.toInt ≤ R.toInt ∧ (a28.toInt = a25.toInt ∨ a28.toInt = R.toInt) := b30; omega), (by have t1 : a28.toInt ≤ a25.toInt ∧ a28.toInt ≤ R.toInt ∧ (a28.toInt = a25.toInt ∨ a28.toInt = R.toInt) := b30; omega)⟩ ⟨(by have z9 : (1 : Int32).toInt = 1 := rfl; omega), (by have z9 : (1 : Int32).toInt = 1 := rfl; omega)⟩
      replace hO48 := (hu86 _ (by omega)).trans hO48
      replace hO50 := (hu86 _ ne87).trans hO50
      replace hO52 := (hu86 _ ne88).trans hO52
      replace hF := q_us hF hu86 (by simp)
      refine lv_aload_n hx hb d_2_31_187 rfl (lv_at hl 2 rfl) ?_
      have ne89 := q_df hO50 hO47
      have ne90 := q_df hO52 hO47
      refine q_gov V (q_runV (As := []) (rest := []) (d := 1) (mc := 0) (ms := 0) (ci := 2) C0 V rfl LV_Big_36 (X_Big_trim l D g q w85 k1 R hB1 zk1  hI a28 1 hO47 lx42 hO48  _) rfl rfl hO47 rfl hl.1 rfl (Nat.le_of_ble_eq_true rfl) ⟨by decide, by decide⟩ ⟨Nat.le_of_ble_eq_true rfl, Nat.le_of_ble_eq_true rfl⟩ d_2_31_188) (fun u91 H locs hp92 V => ?_)
      obtain ⟨hI, hZ9⟩ := hp92
      obtain ⟨hu101, hZ9⟩ := hZ9
      obtain ⟨y94, hZ9⟩ := hZ9
      obtain ⟨y95, hZ9⟩ := hZ9
      obtain ⟨hO93, hZ9⟩ := hZ9
      obtain ⟨b96, hZ9⟩ := hZ9
      obtain ⟨b97, hZ9⟩ := hZ9
      obtain ⟨b98, hZ9⟩ := hZ9
      obtain ⟨b99, hE100⟩ := hZ9
      replace hO93 : u91[k1]? = (some (q k1, .inr (2, [.ref (q (k1 + 1)), .int y94, .int y95])) : Option (Nat × va_E)) := hO93
      have e102 : y94 = (F_Big_trim R a28 (1 : Int32) lx42).1 := congrArg (fun z => z.1) hE100
      have e103 : y95 = (F_Big_trim R a28 (1 : Int32) lx42).2 := congrArg (fun z => z.2) hE100
      replace b96 : q_F (0 ≤ y95.toInt) := b96
      replace b97 : q_F (y94.toInt ≤ a28.toInt) := b97
      replace b98 : q_F (y95.toInt ≤ 1) := b98
      replace b99 : q_F (y95.toInt ≤ y94.toInt) := b99
      replace hO48 := (hu101 _ (by have z0 := zk1; simp only [List.mem_cons, List.not_mem_nil, or_false, not_or]; omega)).trans hO48
      replace hF := q_uc hF hu101 (by simp)
      exact q_retv C0 V (⟨hI, hF, y94, y95, lx42, hO93, hO48, (show 0 ≤ y95.toInt from (by first | with_reducible exact q_fe b96 | (have t1 : 0 ≤ y95.toInt := b96; omega))), (show y95.toInt ≤ 1 from (by first | with_reducible exact q_fe b98 | (have t1 : y95.toInt ≤ 1 := b98; omega))), (show y94.toInt ≤ R.toInt from (by have t1 : a28.toInt ≤ a25.toInt ∧ a28.toInt ≤ R.toInt ∧ (a28.toInt = a25.toInt ∨ a28.toInt = R.toInt) := b30; have t2 : y94.toInt ≤ a28.toInt := b97; omega)), (show y95.toInt ≤ y94.toInt from (by first | with_reducible exact q_fe b99 | (have t1 : y95.toInt ≤ y94.toInt := b99; omega))), (show (y94, y95, lx42) = (F_Big_product R R2 R3 t0_0 t0_1 t1_0 t2_0 t2_1 t3_0 t4_0 t4_1 t5_0) from Eq.trans (by subst e26; subst e29; subst e39; subst e102; subst e103; rw [F_Big_product_L31.eq_2, if_pos c57, if_neg c63]) hR53)⟩) d_2_31_191
  ·
    have b104 : q_F (lx41.toInt < t2_0.toInt) := (q_nleI c57)
    refine lv_aload_n hx hb d_2_31_40 rfl (lv_at hl 4 rfl) ?_
    refine q_get (ci := 2) (j := 1) (v := .int t4_0) C0 V i_Big rfl rfl hO51 (by decide) w_85 rfl d_2_31_41 ?_
    refine lv_iload_n hx hb d_2_31_44 rfl (lv_at hl 1 rfl) ?_
    refine lv_iload hx hb d_2_31_45 (lv_at hl 0 rfl) ?_
    refine lv_isub hx hb d_2_31_47 ?_
    obtain ⟨a105, e106⟩ := q_nm (a28 - lx41 : Int32)
    refine q_ti (v := a105) e106 ?_
    have b107 : q_F (a105.toInt = a28.toInt - lx41.toInt) := (by rw [← e106]; show (a28 - lx41 : Int32).toInt = a28.toInt - lx41.toInt; exact q_subI (x := a28.toInt) (y := lx41.toInt) rfl rfl (by have t1 : 0 ≤ R.toInt ∧ R.toInt ≤ 220 := hfk10; have t2 : 0 ≤ t2_0.toInt ∧ t2_0.toInt ≤ R2.toInt := btt2_0; have t3 : a25.toInt = t2_0.toInt + t4_0.toInt := b27; have t4 : a28.toInt ≤ a25.toInt ∧ a28.toInt ≤ R.toInt ∧ (a28.toInt = a25.toInt ∨ a28.toInt = R.toInt) := b30; have t5 : lx41.toInt ≤ t2_0.toInt := i44; have _ := q_lo32 (x := R2); have _ := q_hi32 (x := R2); have _ := q_lo32 (x := t4_0); have _ := q_hi32 (x := t4_0); have t6 : 0 ≤ lx41.toInt := i43; have _ := q_lo32 (x := R); have _ := q_hi32 (x := R); omega) (by have t1 : 0 ≤ R.toInt ∧ R.toInt ≤ 220 := hfk10; have t2 : 0 ≤ t2_0.toInt ∧ t2_0.toInt ≤ R2.toInt := btt2_0; have t3 : a25.toInt = t2_0.toInt + t4_0.toInt := b27; have t4 : a28.toInt ≤ a25.toInt ∧ a28.toInt ≤ R.toInt ∧ (a28.toInt = a25.toInt ∨ a28.toInt = R.toInt) := b30; have t5 : lx41.toInt ≤ t2_0.toInt := i44; have _ := q_lo32 (x := R2); have _ := q_hi32 (x := R2); have _ := q_lo32 (x := t4_0); have _ := q_hi32 (x := t4_0); have t6 : 0 ≤ lx41.toInt := i43; have _ := q_lo32 (x := R); have _ := q_hi32 (x := R); omega))
    refine q_min C0 hl.1 rfl w_773 w_774 w_7 w_775 ⟨Nat.le_of_ble_eq_true rfl, Nat.le_of_ble_eq_true rfl⟩ ⟨Nat.le_of_ble_eq_true rfl, Nat.le_of_ble_eq_true rfl⟩ d_2_31_48 ?_
    obtain ⟨a108, e109⟩ := q_nm (if a105 < t4_0 then a105 else t4_0 : Int32)
    refine q_ti (v := a108) e109 ?_
    have b110 : q_F (a108.toInt ≤ t4_0.toInt ∧ a108.toInt ≤ a105.toInt ∧ (a108.toInt = t4_0.toInt ∨ a108.toInt = a105.toInt)) := (by rw [← e109]; show (if a105 < t4_0 then a105 else t4_0 : Int32).toInt ≤ t4_0.toInt ∧ (if a105 < t4_0 then a105 else t4_0 : Int32).toInt ≤ a105.toInt ∧ ((if a105 < t4_0 then a105 else t4_0 : Int32).toInt = t4_0.toInt ∨ (if a105 < t4_0 then a105 else t4_0 : Int32).toInt = a105.toInt); exact s_min (a := t4_0) (b := a105))
    refine lv_istore (lv' := [(5, .int a108), (4, .int lx41), (3, .int a28), (0, .ref (q k1)), (1, .ref (q k2)), (2, .ref (q k3))]) hx hb d_2_31_51 hl (by decide) rfl (fun ls hl => ?_)
    refine lv_aload_n hx hb d_2_31_53 rfl (lv_at hl 4 rfl) ?_
    refine q_get (ci := 2) (j := 0) (v := .ref (q (k2 + 1))) C0 V i_Big rfl rfl hO49 (by decide) w_84 rfl d_2_31_54 ?_
    refine lv_iload hx hb d_2_31_57 (lv_at hl 1 rfl) ?_
    refine q_iald C0 V hO50 (q_ix (x := lx41.toInt) rfl (by first | with_reducible exact q_fe i43 | (have t1 : 0 ≤ lx41.toInt := i43; omega)) (by have t1 : 0 ≤ lx41.toInt := i43; have t2 : 0 ≤ t2_0.toInt ∧ t2_0.toInt ≤ R2.toInt := btt2_0; have t3 : lx41.toInt < t2_0.toInt := b104; have e9 := q_clI (i := R2) rfl (by first | with_reducible exact (q_fe hfk20).2 | with_reducible exact (q_fe hfk20).1 | (have t1 : 0 ≤ R2.toInt ∧ R2.toInt ≤ 220 := hfk20; omega)); omega)) d_2_31_59 ?_
    obtain ⟨a111, e112⟩ := q_nm (t3_0 lx41.toNatClampNeg : Int32)
    refine q_ti (v := a111) e112 ?_
    refine lv_i2l hx hb d_2_31_60 rfl ?_
    obtain ⟨j113, e114⟩ := q_nm (a111.toInt64 : Int64)
    refine q_tl (v := j113) e114 ?_
    refine lv_lstore (lv' := [(6, .long j113), (5, .int a108), (4, .int lx41), (3, .int a28), (0, .ref (q k1)), (1, .ref (q k2)), (2, .ref (q k3))]) hx hb d_2_31_61 hl (by decide) rfl (fun ls hl => ?_)
    refine lv_lconst (v := 0) hx hb d_2_31_63 (by decide) ?_
    refine lv_lstore (lv' := [(8, .long 0), (6, .long j113), (5, .int a108), (4, .int lx41), (3, .int a28), (0, .ref (q k1)), (1, .ref (q k2)), (2, .ref (q k3))]) hx hb d_2_31_64 hl (by decide) rfl (fun ls hl => ?_)
    refine lv_iconst (v := 0) hx hb d_2_31_66 (by decide) ?_
    refine lv_istore (lv' := [(10, .int 0), (8, .long 0), (6, .long j113), (5, .int a108), (4, .int lx41), (3, .int a28), (0, .ref (q k1)), (1, .ref (q k2)), (2, .ref (q k3))]) hx hb d_2_31_67 hl (by decide) rfl (fun ls hl => ?_)
    refine q_loop (X := Int32 × Int64 × (Nat → Int32)) (fun z H locs ls w126 => q_F (0 ≤ z.1.toInt) ∧ q_F (0 ≤ z.2.1.toInt) ∧ q_F (z.1.toInt ≤ R.toInt) ∧ q_F (z.1.toInt ≤ t4_0.toInt) ∧ q_Wd D g (va_A ws sz) s w126 H locs ∧ lv_has ls 13 [(10, .int z.1), (8, .long z.2.1), (6, .long j113), (5, .int a108), (4, .int lx41), (3, .int a28), (0, .ref (q k1)), (1, .ref (q k2)), (2, .ref (q k3))] ∧ q_I (nsh g q) q w126 ∧ q_un ws w126 [k1, k1 + 1] ∧ w126[k1]? = (some (q k1, .inr (2, [.ref (q (k1 + 1)), .int t0_0, .int t0_1])) : Option (Nat × va_E)) ∧ w126[k1 + 1]? = (some (q (k1 + 1), .inl (g 0, R.toNatClampNeg, .inl z.2.2)) : Option (Nat × va_E)) ∧ w126[k2]? = (some (q k2, .inr (2, [.ref (q (k2 + 1)), .int t2_0, .int t2_1])) : Option (Nat × va_E)) ∧ w126[k2 + 1]? = (some (q (k2 + 1), .inl (g 0, R2.toNatClampNeg, .inl t3_0)) : Option (Nat × va_E)) ∧ w126[k3]? = (some (q k3, .inr (2, [.ref (q (k3 + 1)), .int t4_0, .int t4_1])) : Option (Nat × va_E)) ∧ w126[k3 + 1]? = (some (q (k3 + 1), .inl (g 0, R3.toNatClampNeg, .inl t5_0)) : Option (Nat × va_E)) ∧ (∃ n, (220 - z.1.toInt).toNat < n ∧ F_Big_product_L69 (F_Big_product_L31 R R2 R3 t0_0 t0_1 t1_0 t2_0 t2_1 t3_0 t4_0 t4_1 t5_0 a28 fm56) R R2 R3 t0_0 t0_1 t1_0 t2_0 t2_1 t3_0 t4_0 t4_1 t5_0 a28 lx41 lx42 j113 a108 n z.1 z.2.1 z.2.2 = (F_Big_product R R2 R3 t0_0 t0_1 t1_0 t2_0 t2_1 t3_0 t4_0 t4_1 t5_0))) (fun z => (220 - z.1.toInt).toNat) ?_ ((0 : Int32), (0 : Int64), (lx42 : (Nat → Int32))) _ _ _ w46 ⟨(show q_F (0 ≤ 0) from (show 0 ≤ 0 from by omega)), (show q_F (0 ≤ 0) from (show 0 ≤ 0 from by omega)), (show q_F (0 ≤ R.toInt) from (show 0 ≤ R.toInt from by have t1 : 0 ≤ R.toInt ∧ R.toInt ≤ 220 := hfk10; omega)), (show q_F (0 ≤ t4_0.toInt) from (show 0 ≤ t4_0.toInt from by have t1 : 0 ≤ t4_0.toInt ∧ t4_0.toInt ≤ R3.toInt := btt4_0; omega)), V, q_lw hl (q_lw1 0 rfl (q_lw1 1 rfl (q_lw1 2 rfl (q_lw1 3 rfl (q_lw1 4 rfl (q_lw1 5 rfl (q_lw1 6 rfl (q_lw1 7 rfl (q_lw1 8 rfl q_lw0))))))))), hI, hF, hO47, hO48, hO49, hO50, hO51, hO52, ⟨((220 - (0 : Int32).toInt).toNat + 1), Nat.lt_succ_self _, (show F_Big_product_L69 (F_Big_product_L31 R R2 R3 t0_0 t0_1 t1_0 t2_0 t2_1 t3_0 t4_0 t4_1 t5_0 a28 fm56) R R2 R3 t0_0 t0_1 t1_0 t2_0 t2_1 t3_0 t4_0 t4_1 t5_0 a28 lx41 lx42 j113 a108 ((220 - (0 : Int32).toInt).toNat + 1) 0 0 lx42 = (F_Big_product R R2 R3 t0_0 t0_1 t1_0 t2_0 t2_1 t3_0 t4_0 t4_1 t5_0) from Eq.trans (by subst e26; subst e29; subst e39; subst e106; subst e109; subst e112; subst e114; rw [F_Big_product_L31.eq_2, if_neg c57]) hR53)⟩⟩
    rintro ⟨lx118, lx119, lx120⟩ H locs ls w126 ⟨i121, i122, i123, i124, V, hl, hI, hF, hO127, hO128, hO129, hO130, hO131, hO132, ⟨fu134, hf135, hR133⟩⟩ ih125
    obtain ⟨fm136, rfl⟩ : ∃ m, fu134 = m + 1 := ⟨fu134 - 1, by omega⟩
    replace i121 : q_F (0 ≤ lx118.toInt) := i121
    clear i122
    replace i123 : q_F (lx118.toInt ≤ R.toInt) := i123
    clear i124
    replace hl : lv_has ls 13 [(10, .int lx118), (8, .long lx119), (6, .long j113), (5, .int a108), (4, .int lx41), (3, .int a28), (0, .ref (q k1)), (1, .ref (q k2)), (2, .ref (q k3))] := hl
    replace hO127 : w126[k1]? = (some (q k1, .inr (2, [.ref (q (k1 + 1)), .int t0_0, .int t0_1])) : Option (Nat × va_E)) := hO127
    replace hO128 : w126[k1 + 1]? = (some (q (k1 + 1), .inl (g 0, R.toNatClampNeg, .inl lx120)) : Option (Nat × va_E)) := hO128
    replace hO129 : w126[k2]? = (some (q k2, .inr (2, [.ref (q (k2 + 1)), .int t2_0, .int t2_1])) : Option (Nat × va_E)) := hO129
    replace hO130 : w126[k2 + 1]? = (some (q (k2 + 1), .inl (g 0, R2.toNatClampNeg, .inl t3_0)) : Option (Nat × va_E)) := hO130
    replace hO131 : w126[k3]? = (some (q k3, .inr (2, [.ref (q (k3 + 1)), .int t4_0, .int t4_1])) : Option (Nat × va_E)) := hO131
    replace hO132 : w126[k3 + 1]? = (some (q (k3 + 1), .inl (g 0, R3.toNatClampNeg, .inl t5_0)) : Option (Nat × va_E)) := hO132
    refine lv_iload hx hb d_2_31_69 (lv_at hl 0 rfl) ?_
    refine lv_iload hx hb d_2_31_71 (lv_at hl 3 rfl) ?_
    refine lv_icmp_ge (tgt := 134) hx hb d_2_31_73 (by decide) (fun c137 => ?_) (fun c137 => ?_)
    ·
      refine lv_iload hx hb d_2_31_134 (lv_at hl 4 rfl) ?_
      refine lv_iload hx hb d_2_31_136 (lv_at hl 3 rfl) ?_
      refine lv_iadd hx hb d_2_31_138 ?_
      obtain ⟨a139, e140⟩ := q_nm (lx41 + a108 : Int32)
      refine q_ti (v := a139) e140 ?_
      have b141 : q_F (a139.toInt = lx41.toInt + a108.toInt) := (by rw [← e140]; show (lx41 + a108 : Int32).toInt = lx41.toInt + a108.toInt; exact q_addI (x := lx41.toInt) (y := a108.toInt) rfl rfl (by have t1 : 0 ≤ lx41.toInt := i43; have _ := q_lo32 (x := a108); have _ := q_hi32 (x := a108); have t2 : a105.toInt = a28.toInt - lx41.toInt := b107; have t3 : a108.toInt ≤ t4_0.toInt ∧ a108.toInt ≤ a105.toInt ∧ (a108.toInt = t4_0.toInt ∨ a108.toInt = a105.toInt) := b110; have _ := q_lo32 (x := a28); have _ := q_hi32 (x := a28); omega) (by have t1 : 0 ≤ lx41.toInt := i43; have _ := q_lo32 (x := a108); have _ := q_hi32 (x := a108); have t2 : a105.toInt = a28.toInt - lx41.toInt := b107; have t3 : a108.toInt ≤ t4_0.toInt ∧ a108.toInt ≤ a105.toInt ∧ (a108.toInt = t4_0.toInt ∨ a108.toInt = a105.toInt) := b110; have _ := q_lo32 (x := a28); have _ := q_hi32 (x := a28); omega))
      refine lv_iload_n hx hb d_2_31_139 rfl (lv_at hl 5 rfl) ?_
      refine lv_icmp_ge (tgt := 156) hx hb d_2_31_140 (by decide) (fun c142 => ?_) (fun c142 => ?_)
      ·
        obtain ⟨a144, e145⟩ := q_nm (lx41 + 1 : Int32)
        have b146 : q_F (a144.toInt = lx41.toInt + 1) := (by rw [← e145]; exact q_addI (y := 1) rfl (by decide) (by have t1 : 0 ≤ lx41.toInt := i43; have t2 : lx41.toInt < t2_0.toInt := b104; have _ := q_lo32 (x := t2_0); have _ := q_hi32 (x := t2_0); omega) (by have t1 : 0 ≤ lx41.toInt := i43; have t2 : lx41.toInt < t2_0.toInt := b104; have _ := q_lo32 (x := t2_0); have _ := q_hi32 (x := t2_0); omega))
        refine lv_iinc (v := a144) (lv' := [(4, .int a144), (10, .int lx118), (8, .long lx119), (6, .long j113), (5, .int a108), (3, .int a28), (0, .ref (q k1)), (1, .ref (q k2)), (2, .ref (q k3))]) hx hb d_2_31_156 hl (k := 4) rfl (e145) (by decide) rfl (fun ls hl => ?_)
        refine lv_goto (tgt := 31) hx hb d_2_31_159 (by decide) ?_
        exact ih45 ((a144 : Int32), (lx120 : (Nat → Int32))) _ _ _ _ (show (220 - a144.toInt).toNat < (220 - lx41.toInt).toNat from by have t1 : a144.toInt = lx41.toInt + 1 := b146; have t2 : 0 ≤ R2.toInt ∧ R2.toInt ≤ 220 := hfk20; have t3 : 0 ≤ t2_0.toInt ∧ t2_0.toInt ≤ R2.toInt := btt2_0; have t4 : lx41.toInt ≤ t2_0.toInt := i44; have t5 : lx41.toInt < t2_0.toInt := b104; omega) ⟨(show q_F (0 ≤ a144.toInt) from (show 0 ≤ a144.toInt from by have t1 : 0 ≤ lx41.toInt := i43; have t2 : a144.toInt = lx41.toInt + 1 := b146; omega)), (show q_F (a144.toInt ≤ t2_0.toInt) from (show a144.toInt ≤ t2_0.toInt from by have t1 : lx41.toInt < t2_0.toInt := b104; have t2 : a144.toInt = lx41.toInt + 1 := b146; omega)), V, q_lw hl (q_lw1 0 rfl (q_lw1 5 rfl (q_lw1 6 rfl (q_lw1 7 rfl (q_lw1 8 rfl q_lw0))))), hI, hF, hO127, hO128, hO129, hO130, hO131, hO132, ⟨fm56, Nat.lt_of_lt_of_le (show (220 - a144.toInt).toNat < (220 - lx41.toInt).toNat from by have t1 : a144.toInt = lx41.toInt + 1 := b146; have t2 : 0 ≤ R2.toInt ∧ R2.toInt ≤ 220 := hfk20; have t3 : 0 ≤ t2_0.toInt ∧ t2_0.toInt ≤ R2.toInt := btt2_0; have t4 : lx41.toInt ≤ t2_0.toInt := i44; have t5 : lx41.toInt < t2_0.toInt := b104; omega) (Nat.le_of_lt_succ hf55), (show F_Big_product_L31 R R2 R3 t0_0 t0_1 t1_0 t2_0 t2_1 t3_0 t4_0 t4_1 t5_0 a28 fm56 a144 lx120 = (F_Big_product R R2 R3 t0_0 t0_1 t1_0 t2_0 t2_1 t3_0 t4_0 t4_1 t5_0) from Eq.trans (by subst e26; subst e29; subst e39; subst e106; subst e109; subst e112; subst e114; subst e140; subst e145; rw [F_Big_product_L69.eq_2, if_pos c137, if_pos c142]) hR133)⟩⟩
      ·
        have b147 : q_F (a139.toInt < a28.toInt) := (q_nleI c142)
        refine lv_aload_n hx hb d_2_31_143 rfl (lv_at hl 6 rfl) ?_
        refine q_get (ci := 2) (j := 0) (v := .ref (q (k1 + 1))) C0 V i_Big rfl rfl hO127 (by decide) w_84 rfl d_2_31_144 ?_
        refine lv_iload hx hb d_2_31_147 (lv_at hl 4 rfl) ?_
        refine lv_iload hx hb d_2_31_149 (lv_at hl 3 rfl) ?_
        refine lv_iadd hx hb d_2_31_151 ?_
        obtain ⟨a148, e149⟩ := q_nm (lx41 + a108 : Int32)
        refine q_ti (v := a148) e149 ?_
        have b150 : q_F (a148.toInt = lx41.toInt + a108.toInt) := (by rw [← e149]; show (lx41 + a108 : Int32).toInt = lx41.toInt + a108.toInt; exact q_addI (x := lx41.toInt) (y := a108.toInt) rfl rfl (by have t1 : 0 ≤ lx41.toInt := i43; have _ := q_lo32 (x := a108); have _ := q_hi32 (x := a108); have t2 : a139.toInt = lx41.toInt + a108.toInt := b141; have _ := q_lo32 (x := a139); have _ := q_hi32 (x := a139); omega) (by have t1 : 0 ≤ lx41.toInt := i43; have _ := q_lo32 (x := a108); have _ := q_hi32 (x := a108); have t2 : a139.toInt = lx41.toInt + a108.toInt := b141; have _ := q_lo32 (x := a139); have _ := q_hi32 (x := a139); omega))
        refine lv_lload hx hb d_2_31_152 (lv_at hl 1 rfl) ?_
        refine lv_l2i hx hb d_2_31_154 rfl ?_
        obtain ⟨a151, e152⟩ := q_nm (lx119.toInt32 : Int32)
        refine q_ti (v := a151) e152 ?_
        have ne155 := q_df hO128 hO129
        have ne156 := q_df hO128 hO131
        refine q_iast C0 V hO128 (q_ix (x := a148.toInt) rfl (by have t1 : 0 ≤ t2_0.toInt ∧ t2_0.toInt ≤ R2.toInt := btt2_0; have t2 : 0 ≤ t4_0.toInt ∧ t4_0.toInt ≤ R3.toInt := btt4_0; have t3 : a25.toInt = t2_0.toInt + t4_0.toInt := b27; have t4 : a28.toInt ≤ a25.toInt ∧ a28.toInt ≤ R.toInt ∧ (a28.toInt = a25.toInt ∨ a28.toInt = R.toInt) := b30; have t5 : 0 ≤ lx41.toInt := i43; have t6 : a105.toInt = a28.toInt - lx41.toInt := b107; have t7 : a108.toInt ≤ t4_0.toInt ∧ a108.toInt ≤ a105.toInt ∧ (a108.toInt = t4_0.toInt ∨ a108.toInt = a105.toInt) := b110; have t8 : 0 ≤ lx118.toInt := i121; have t9 : lx118.toInt ≤ R.toInt := i123; have t10 : a148.toInt = lx41.toInt + a108.toInt := b150; omega) (by have t1 : 0 ≤ t2_0.toInt ∧ t2_0.toInt ≤ R2.toInt := btt2_0; have t2 : 0 ≤ t4_0.toInt ∧ t4_0.toInt ≤ R3.toInt := btt4_0; have t3 : a25.toInt = t2_0.toInt + t4_0.toInt := b27; have t4 : a28.toInt ≤ a25.toInt ∧ a28.toInt ≤ R.toInt ∧ (a28.toInt = a25.toInt ∨ a28.toInt = R.toInt) := b30; have t5 : 0 ≤ lx41.toInt := i43; have t6 : a105.toInt = a28.toInt - lx41.toInt := b107; have t7 : a108.toInt ≤ t4_0.toInt ∧ a108.toInt ≤ a105.toInt ∧ (a108.toInt = t4_0.toInt ∨ a108.toInt = a105.toInt) := b110; have t8 : 0 ≤ lx118.toInt := i121; have t9 : lx118.toInt ≤ R.toInt := i123; have t10 : a148.toInt = lx41.toInt + a108.toInt := b150; have t11 : a139.toInt = lx41.toInt + a108.toInt := b141; have t12 : a139.toInt < a28.toInt := b147; have e9 := q_clI (i := R) rfl (by first | with_reducible exact (q_fe hfk10).2 | with_reducible exact (q_fe hfk10).1 | (have t1 : 0 ≤ R.toInt ∧ R.toInt ≤ 220 := hfk10; omega)); omega)) d_2_31_155 (fun H locs w153 hu154 hO128 V => ?_)
        replace hI := q_bigA' hI hB1 hu154 hO128 (q_updB (fun _ => s_bnd) s_bnd)
        replace hO127 := (hu154 _ (by omega)).trans hO127
        replace hO129 := (hu154 _ (Ne.symm ne155)).trans hO129
        replace hO130 := (hu154 _ (by have z := ne_k1_k2; omega)).trans hO130
        replace hO131 := (hu154 _ (Ne.symm ne156)).trans hO131
        replace hO132 := (hu154 _ (by have z := ne_k1_k3; omega)).trans hO132
        replace hF := q_us hF hu154 (by simp)
        obtain ⟨f157, e158⟩ := q_nm (upd lx120 a148.toNatClampNeg a151 : (Nat → Int32))
        rw [e158] at hO128
        obtain ⟨a159, e160⟩ := q_nm (lx41 + 1 : Int32)
        have b161 : q_F (a159.toInt = lx41.toInt + 1) := (by rw [← e160]; exact q_addI (y := 1) rfl (by decide) (by have t1 : 0 ≤ lx41.toInt := i43; have t2 : lx41.toInt < t2_0.toInt := b104; have _ := q_lo32 (x := t2_0); have _ := q_hi32 (x := t2_0); omega) (by have t1 : 0 ≤ lx41.toInt := i43; have t2 : lx41.toInt < t2_0.toInt := b104; have _ := q_lo32 (x := t2_0); have _ := q_hi32 (x := t2_0); omega))
        refine lv_iinc (v := a159) (lv' := [(4, .int a159), (10, .int lx118), (8, .long lx119), (6, .long j113), (5, .int a108), (3, .int a28), (0, .ref (q k1)), (1, .ref (q k2)), (2, .ref (q k3))]) hx hb d_2_31_156 hl (k := 4) rfl (e160) (by decide) rfl (fun ls hl => ?_)
        refine lv_goto (tgt := 31) hx hb d_2_31_159 (by decide) ?_
        exact ih45 ((a159 : Int32), (f157 : (Nat → Int32))) _ _ _ _ (show (220 - a159.toInt).toNat < (220 - lx41.toInt).toNat from by have t1 : a159.toInt = lx41.toInt + 1 := b161; have t2 : 0 ≤ R2.toInt ∧ R2.toInt ≤ 220 := hfk20; have t3 : 0 ≤ t2_0.toInt ∧ t2_0.toInt ≤ R2.toInt := btt2_0; have t4 : lx41.toInt ≤ t2_0.toInt := i44; have t5 : lx41.toInt < t2_0.toInt := b104; omega) ⟨(show q_F (0 ≤ a159.toInt) from (show 0 ≤ a159.toInt from by have t1 : 0 ≤ lx41.toInt := i43; have t2 : a159.toInt = lx41.toInt + 1 := b161; omega)), (show q_F (a159.toInt ≤ t2_0.toInt) from (show a159.toInt ≤ t2_0.toInt from by have t1 : lx41.toInt < t2_0.toInt := b104; have t2 : a159.toInt = lx41.toInt + 1 := b161; omega)), V, q_lw hl (q_lw1 0 rfl (q_lw1 5 rfl (q_lw1 6 rfl (q_lw1 7 rfl (q_lw1 8 rfl q_lw0))))), hI, hF, hO127, hO128, hO129, hO130, hO131, hO132, ⟨fm56, Nat.lt_of_lt_of_le (show (220 - a159.toInt).toNat < (220 - lx41.toInt).toNat from by have t1 : a159.toInt = lx41.toInt + 1 := b161; have t2 : 0 ≤ R2.toInt ∧ R2.toInt ≤ 220 := hfk20; have t3 : 0 ≤ t2_0.toInt ∧ t2_0.toInt ≤ R2.toInt := btt2_0; have t4 : lx41.toInt ≤ t2_0.toInt := i44; have t5 : lx41.toInt < t2_0.toInt := b104; omega) (Nat.le_of_lt_succ hf55), (show F_Big_product_L31 R R2 R3 t0_0 t0_1 t1_0 t2_0 t2_1 t3_0 t4_0 t4_1 t5_0 a28 fm56 a159 f157 = (F_Big_product R R2 R3 t0_0 t0_1 t1_0 t2_0 t2_1 t3_0 t4_0 t4_1 t5_0) from Eq.trans (by subst e26; subst e29; subst e39; subst e106; subst e109; subst e112; subst e114; subst e140; subst e149; subst e152; subst e158; subst e160; rw [F_Big_product_L69.eq_2, if_pos c137, if_neg c142]) hR133)⟩⟩
    ·
      have b162 : q_F (lx118.toInt < a108.toInt) := (q_nleI c137)
      refine lv_lload hx hb d_2_31_76 (lv_at hl 2 rfl) ?_
      refine lv_aload_n hx hb d_2_31_78 rfl (lv_at hl 8 rfl) ?_
      refine q_get (ci := 2) (j := 0) (v := .ref (q (k3 + 1))) C0 V i_Big rfl rfl hO131 (by decide) w_84 rfl d_2_31_79 ?_
      refine lv_iload hx hb d_2_31_82 (lv_at hl 0 rfl) ?_
      refine q_iald C0 V hO132 (q_ix (x := lx118.toInt) rfl (by first | with_reducible exact q_fe i121 | (have t1 : 0 ≤ lx118.toInt := i121; omega)) (by have t1 : 0 ≤ lx118.toInt := i121; have t2 : 0 ≤ t4_0.toInt ∧ t4_0.toInt ≤ R3.toInt := btt4_0; have t3 : a108.toInt ≤ t4_0.toInt ∧ a108.toInt ≤ a105.toInt ∧ (a108.toInt = t4_0.toInt ∨ a108.toInt = a105.toInt) := b110; have t4 : lx118.toInt < a108.toInt := b162; have e9 := q_clI (i := R3) rfl (by first | with_reducible exact (q_fe hfk30).2 | with_reducible exact (q_fe hfk30).1 | (have t1 : 0 ≤ R3.toInt ∧ R3.toInt ≤ 220 := hfk30; omega)); omega)) d_2_31_84 ?_
      obtain ⟨a163, e164⟩ := q_nm (t5_0 lx118.toNatClampNeg : Int32)
      refine q_ti (v := a163) e164 ?_
      refine lv_i2l hx hb d_2_31_85 rfl ?_
      obtain ⟨j165, e166⟩ := q_nm (a163.toInt64 : Int64)
      refine q_tl (v := j165) e166 ?_
      refine lv_lmul hx hb d_2_31_86 ?_
      obtain ⟨j168, e169⟩ := q_nm (j113 * j165 : Int64)
      refine q_tl (v := j168) e169 ?_
      refine lv_aload_n hx hb d_2_31_87 rfl (lv_at hl 6 rfl) ?_
      refine q_get (ci := 2) (j := 0) (v := .ref (q (k1 + 1))) C0 V i_Big rfl rfl hO127 (by decide) w_84 rfl d_2_31_88 ?_
      refine lv_iload hx hb d_2_31_91 (lv_at hl 4 rfl) ?_
      refine lv_iload hx hb d_2_31_93 (lv_at hl 0 rfl) ?_
      refine lv_iadd hx hb d_2_31_95 ?_
      obtain ⟨a170, e171⟩ := q_nm (lx41 + lx118 : Int32)
      refine q_ti (v := a170) e171 ?_
      have b172 : q_F (a170.toInt = lx41.toInt + lx118.toInt) := (by rw [← e171]; show (lx41 + lx118 : Int32).toInt = lx41.toInt + lx118.toInt; exact q_addI (x := lx41.toInt) (y := lx118.toInt) rfl rfl (by have t1 : 0 ≤ lx41.toInt := i43; have t2 : 0 ≤ lx118.toInt := i121; have t3 : 0 ≤ R.toInt ∧ R.toInt ≤ 220 := hfk10; have t4 : a28.toInt ≤ a25.toInt ∧ a28.toInt ≤ R.toInt ∧ (a28.toInt = a25.toInt ∨ a28.toInt = R.toInt) := b30; have t5 : a105.toInt = a28.toInt - lx41.toInt := b107; have t6 : a108.toInt ≤ t4_0.toInt ∧ a108.toInt ≤ a105.toInt ∧ (a108.toInt = t4_0.toInt ∨ a108.toInt = a105.toInt) := b110; have t7 : lx118.toInt < a108.toInt := b162; omega) (by have t1 : 0 ≤ lx41.toInt := i43; have t2 : 0 ≤ lx118.toInt := i121; have t3 : 0 ≤ R.toInt ∧ R.toInt ≤ 220 := hfk10; have t4 : a28.toInt ≤ a25.toInt ∧ a28.toInt ≤ R.toInt ∧ (a28.toInt = a25.toInt ∨ a28.toInt = R.toInt) := b30; have t5 : a105.toInt = a28.toInt - lx41.toInt := b107; have t6 : a108.toInt ≤ t4_0.toInt ∧ a108.toInt ≤ a105.toInt ∧ (a108.toInt = t4_0.toInt ∨ a108.toInt = a105.toInt) := b110; have t7 : lx118.toInt < a108.toInt := b162; omega))
      refine q_iald C0 V hO128 (q_ix (x := a170.toInt) rfl (by have t1 : 0 ≤ lx41.toInt := i43; have t2 : 0 ≤ lx118.toInt := i121; have t3 : a170.toInt = lx41.toInt + lx118.toInt := b172; omega) (by have t1 : 0 ≤ lx41.toInt := i43; have t2 : 0 ≤ lx118.toInt := i121; have t3 : a170.toInt = lx41.toInt + lx118.toInt := b172; have t4 : a28.toInt ≤ a25.toInt ∧ a28.toInt ≤ R.toInt ∧ (a28.toInt = a25.toInt ∨ a28.toInt = R.toInt) := b30; have t5 : a105.toInt = a28.toInt - lx41.toInt := b107; have t6 : a108.toInt ≤ t4_0.toInt ∧ a108.toInt ≤ a105.toInt ∧ (a108.toInt = t4_0.toInt ∨ a108.toInt = a105.toInt) := b110; have t7 : lx118.toInt < a108.toInt := b162; have e9 := q_clI (i := R) rfl (by first | with_reducible exact (q_fe hfk10).2 | with_reducible exact (q_fe hfk10).1 | (have t1 : 0 ≤ R.toInt ∧ R.toInt ≤ 220 := hfk10; omega)); omega)) d_2_31_96 ?_
      obtain ⟨a173, e174⟩ := q_nm (lx120 a170.toNatClampNeg : Int32)
      refine q_ti (v := a173) e174 ?_
      refine lv_i2l hx hb d_2_31_97 rfl ?_
      obtain ⟨j175, e176⟩ := q_nm (a173.toInt64 : Int64)
      refine q_tl (v := j175) e176 ?_
      refine lv_ladd hx hb d_2_31_98 ?_
      obtain ⟨j178, e179⟩ := q_nm (j168 + j175 : Int64)
      refine q_tl (v := j178) e179 ?_
      refine lv_lload hx hb d_2_31_99 (lv_at hl 1 rfl) ?_
      refine lv_ladd hx hb d_2_31_101 ?_
      obtain ⟨j180, e181⟩ := q_nm (j178 + lx119 : Int64)
      refine q_tl (v := j180) e181 ?_
      refine lv_lstore (lv' := [(11, .long j180), (10, .int lx118), (8, .long lx119), (6, .long j113), (5, .int a108), (4, .int lx41), (3, .int a28), (0, .ref (q k1)), (1, .ref (q k2)), (2, .ref (q k3))]) hx hb d_2_31_102 hl (by decide) rfl (fun ls hl => ?_)
      refine lv_aload_n hx hb d_2_31_104 rfl (lv_at hl 7 rfl) ?_
      refine q_get (ci := 2) (j := 0) (v := .ref (q (k1 + 1))) C0 V i_Big rfl rfl hO127 (by decide) w_84 rfl d_2_31_105 ?_
      refine lv_iload hx hb d_2_31_108 (lv_at hl 5 rfl) ?_
      refine lv_iload hx hb d_2_31_110 (lv_at hl 1 rfl) ?_
      refine lv_iadd hx hb d_2_31_112 ?_
      obtain ⟨a182, e183⟩ := q_nm (lx41 + lx118 : Int32)
      refine q_ti (v := a182) e183 ?_
      have b184 : q_F (a182.toInt = lx41.toInt + lx118.toInt) := (by rw [← e183]; show (lx41 + lx118 : Int32).toInt = lx41.toInt + lx118.toInt; exact q_addI (x := lx41.toInt) (y := lx118.toInt) rfl rfl (by have t1 : 0 ≤ lx41.toInt := i43; have t2 : 0 ≤ lx118.toInt := i121; have t3 : a170.toInt = lx41.toInt + lx118.toInt := b172; have _ := q_lo32 (x := a170); have _ := q_hi32 (x := a170); omega) (by have t1 : 0 ≤ lx41.toInt := i43; have t2 : 0 ≤ lx118.toInt := i121; have t3 : a170.toInt = lx41.toInt + lx118.toInt := b172; have _ := q_lo32 (x := a170); have _ := q_hi32 (x := a170); omega))
      refine lv_lload hx hb d_2_31_113 (lv_at hl 0 rfl) ?_
      refine q_ldc2 C0 rfl w_201 d_2_31_115 ?_
      refine lv_land hx hb d_2_31_118 ?_
      obtain ⟨j185, e186⟩ := q_nm (j180 &&& 2147483647 : Int64)
      refine q_tl (v := j185) e186 ?_
      refine lv_l2i hx hb d_2_31_119 rfl ?_
      obtain ⟨a188, e189⟩ := q_nm (j185.toInt32 : Int32)
      refine q_ti (v := a188) e189 ?_
      have ne193 := q_df hO128 hO129
      have ne194 := q_df hO128 hO131
      refine q_iast C0 V hO128 (q_ix (x := a182.toInt) rfl (by have t1 : 0 ≤ lx41.toInt := i43; have t2 : 0 ≤ lx118.toInt := i121; have t3 : a182.toInt = lx41.toInt + lx118.toInt := b184; omega) (by have t1 : 0 ≤ lx41.toInt := i43; have t2 : 0 ≤ lx118.toInt := i121; have t3 : a182.toInt = lx41.toInt + lx118.toInt := b184; have t4 : a28.toInt ≤ a25.toInt ∧ a28.toInt ≤ R.toInt ∧ (a28.toInt = a25.toInt ∨ a28.toInt = R.toInt) := b30; have t5 : a105.toInt = a28.toInt - lx41.toInt := b107; have t6 : a108.toInt ≤ t4_0.toInt ∧ a108.toInt ≤ a105.toInt ∧ (a108.toInt = t4_0.toInt ∨ a108.toInt = a105.toInt) := b110; have t7 : lx118.toInt < a108.toInt := b162; have e9 := q_clI (i := R) rfl (by first | with_reducible exact (q_fe hfk10).2 | with_reducible exact (q_fe hfk10).1 | (have t1 : 0 ≤ R.toInt ∧ R.toInt ≤ 220 := hfk10; omega)); omega)) d_2_31_120 (fun H locs w191 hu192 hO128 V => ?_)
      replace hI := q_bigA' hI hB1 hu192 hO128 (q_updB (fun _ => s_bnd) s_bnd)
      replace hO127 := (hu192 _ (by omega)).trans hO127
      replace hO129 := (hu192 _ (Ne.symm ne193)).trans hO129
      replace hO130 := (hu192 _ (by have z := ne_k1_k2; omega)).trans hO130
      replace hO131 := (hu192 _ (Ne.symm ne194)).trans hO131
      replace hO132 := (hu192 _ (by have z := ne_k1_k3; omega)).trans hO132
      replace hF := q_us hF hu192 (by simp)
      obtain ⟨f195, e196⟩ := q_nm (upd lx120 a182.toNatClampNeg a188 : (Nat → Int32))
      rw [e196] at hO128
      refine lv_lload hx hb d_2_31_121 (lv_at hl 0 rfl) ?_
      refine lv_bipush (v := 31) hx hb d_2_31_123 (by decide) ?_
      refine lv_lushr hx hb d_2_31_125 rfl ?_
      obtain ⟨j197, e198⟩ := q_nm ((j180.toUInt64 >>> ((31 : Int32).toInt64.toUInt64 &&& Int64.toUInt64 63)).toInt64 : Int64)
      refine q_tl (v := j197) e198 ?_
      have b199 : q_F (0 ≤ j197.toInt ∧ j197.toInt ≤ 8589934591) := (by rw [← e198]; show 0 ≤ ((j180.toUInt64 >>> ((31 : Int32).toInt64.toUInt64 &&& Int64.toUInt64 63)).toInt64 : Int64).toInt ∧ ((j180.toUInt64 >>> ((31 : Int32).toInt64.toUInt64 &&& Int64.toUInt64 63)).toInt64 : Int64).toInt ≤ 8589934591; exact (by have z := s_ushrJ (x := j180) (c := 31) 31 (by decide) (by decide); omega))
      refine lv_lstore (lv' := [(8, .long j197), (11, .long j180), (10, .int lx118), (6, .long j113), (5, .int a108), (4, .int lx41), (3, .int a28), (0, .ref (q k1)), (1, .ref (q k2)), (2, .ref (q k3))]) hx hb d_2_31_126 hl (by decide) rfl (fun ls hl => ?_)
      obtain ⟨a200, e201⟩ := q_nm (lx118 + 1 : Int32)
      have b202 : q_F (a200.toInt = lx118.toInt + 1) := (by rw [← e201]; exact q_addI (y := 1) rfl (by decide) (by have t1 : 0 ≤ lx118.toInt := i121; have t2 : lx118.toInt < a108.toInt := b162; have _ := q_lo32 (x := a108); have _ := q_hi32 (x := a108); omega) (by have t1 : 0 ≤ lx118.toInt := i121; have t2 : lx118.toInt < a108.toInt := b162; have _ := q_lo32 (x := a108); have _ := q_hi32 (x := a108); omega))
      refine lv_iinc (v := a200) (lv' := [(10, .int a200), (8, .long j197), (11, .long j180), (6, .long j113), (5, .int a108), (4, .int lx41), (3, .int a28), (0, .ref (q k1)), (1, .ref (q k2)), (2, .ref (q k3))]) hx hb d_2_31_128 hl (k := 2) rfl (e201) (by decide) rfl (fun ls hl => ?_)
      refine lv_goto (tgt := 69) hx hb d_2_31_131 (by decide) ?_
      exact ih125 ((a200 : Int32), (j197 : Int64), (f195 : (Nat → Int32))) _ _ _ _ (show (220 - a200.toInt).toNat < (220 - lx118.toInt).toNat from by have t1 : a200.toInt = lx118.toInt + 1 := b202; have t2 : 0 ≤ R.toInt ∧ R.toInt ≤ 220 := hfk10; have t3 : lx118.toInt ≤ R.toInt := i123; have t4 : a28.toInt ≤ a25.toInt ∧ a28.toInt ≤ R.toInt ∧ (a28.toInt = a25.toInt ∨ a28.toInt = R.toInt) := b30; have t5 : 0 ≤ lx41.toInt := i43; have t6 : a105.toInt = a28.toInt - lx41.toInt := b107; have t7 : a108.toInt ≤ t4_0.toInt ∧ a108.toInt ≤ a105.toInt ∧ (a108.toInt = t4_0.toInt ∨ a108.toInt = a105.toInt) := b110; have t8 : lx118.toInt < a108.toInt := b162; omega) ⟨(show q_F (0 ≤ a200.toInt) from (show 0 ≤ a200.toInt from by have t1 : 0 ≤ lx118.toInt := i121; have t2 : a200.toInt = lx118.toInt + 1 := b202; omega)), (show q_F (0 ≤ j197.toInt) from (show 0 ≤ j197.toInt from by have t1 : 0 ≤ j197.toInt ∧ j197.toInt ≤ 8589934591 := b199; omega)), (show q_F (a200.toInt ≤ R.toInt) from (show a200.toInt ≤ R.toInt from by have t1 : a28.toInt ≤ a25.toInt ∧ a28.toInt ≤ R.toInt ∧ (a28.toInt = a25.toInt ∨ a28.toInt = R.toInt) := b30; have t2 : 0 ≤ lx41.toInt := i43; have t3 : a105.toInt = a28.toInt - lx41.toInt := b107; have t4 : a108.toInt ≤ t4_0.toInt ∧ a108.toInt ≤ a105.toInt ∧ (a108.toInt = t4_0.toInt ∨ a108.toInt = a105.toInt) := b110; have t5 : lx118.toInt < a108.toInt := b162; have t6 : a200.toInt = lx118.toInt + 1 := b202; omega)), (show q_F (a200.toInt ≤ t4_0.toInt) from (show a200.toInt ≤ t4_0.toInt from by have t1 : a108.toInt ≤ t4_0.toInt ∧ a108.toInt ≤ a105.toInt ∧ (a108.toInt = t4_0.toInt ∨ a108.toInt = a105.toInt) := b110; have t2 : lx118.toInt < a108.toInt := b162; have t3 : a200.toInt = lx118.toInt + 1 := b202; omega)), V, q_lw hl (q_lw1 0 rfl (q_lw1 1 rfl (q_lw1 3 rfl (q_lw1 4 rfl (q_lw1 5 rfl (q_lw1 6 rfl (q_lw1 7 rfl (q_lw1 8 rfl (q_lw1 9 rfl q_lw0))))))))), hI, hF, hO127, hO128, hO129, hO130, hO131, hO132, ⟨fm136, Nat.lt_of_lt_of_le (show (220 - a200.toInt).toNat < (220 - lx118.toInt).toNat from by have t1 : a200.toInt = lx118.toInt + 1 := b202; have t2 : 0 ≤ R.toInt ∧ R.toInt ≤ 220 := hfk10; have t3 : lx118.toInt ≤ R.toInt := i123; have t4 : a28.toInt ≤ a25.toInt ∧ a28.toInt ≤ R.toInt ∧ (a28.toInt = a25.toInt ∨ a28.toInt = R.toInt) := b30; have t5 : 0 ≤ lx41.toInt := i43; have t6 : a105.toInt = a28.toInt - lx41.toInt := b107; have t7 : a108.toInt ≤ t4_0.toInt ∧ a108.toInt ≤ a105.toInt ∧ (a108.toInt = t4_0.toInt ∨ a108.toInt = a105.toInt) := b110; have t8 : lx118.toInt < a108.toInt := b162; omega) (Nat.le_of_lt_succ hf135), (show F_Big_product_L69 (F_Big_product_L31 R R2 R3 t0_0 t0_1 t1_0 t2_0 t2_1 t3_0 t4_0 t4_1 t5_0 a28 fm56) R R2 R3 t0_0 t0_1 t1_0 t2_0 t2_1 t3_0 t4_0 t4_1 t5_0 a28 lx41 lx42 j113 a108 fm136 a200 j197 f195 = (F_Big_product R R2 R3 t0_0 t0_1 t1_0 t2_0 t2_1 t3_0 t4_0 t4_1 t5_0) from Eq.trans (by subst e26; subst e29; subst e39; subst e106; subst e109; subst e112; subst e114; subst e164; subst e166; subst e169; subst e171; subst e174; subst e176; subst e179; subst e181; subst e183; subst e186; subst e189; subst e196; subst e198; subst e201; rw [F_Big_product_L69.eq_2, if_neg c137]) hR133)⟩⟩
def F_Big_guess_L67 (R : Int32) (x2 : Int32) (R2 : Int32) (t0_0 : Int32) (t0_1 : Int32) (t1_0 : (Nat → Int32)) (t2_0 : Int32) (t2_1 : Int32) (t3_0 : (Nat → Int32)) (j36 : Int64) (j25 : Int64) : Nat → Int32 → Int64 → Int64 → Int64
  | 0, _, _, _ => default
  | fm + 1, lx77, lx78, lx79 => if (2 : Int32) ≤ lx77 then (lx79) else (if (0 : Int32) < (lg_cmp lx78 2147483647 : Int32) then (lx79) else (if (0 : Int32) < (lg_cmp lx79 2147483647 : Int32) then (F_Big_guess_L67 R x2 R2 t0_0 t0_1 t1_0 t2_0 t2_1 t3_0 j36 j25 fm (lx77 + 1 : Int32) (lx78 + j25 : Int64) (lx79 - 1 : Int64)) else (if (0 : Int32) < (lg_cmp (lx79 * j36 : Int64) ((lx78 <<< ((31 : Int32).toInt64 &&& 63) : Int64) ||| (((F_Big_limb R (x2 - 2 : Int32) t0_0 t0_1 t1_0) : Int32).toInt64 : Int64) : Int64) : Int32) then (F_Big_guess_L67 R x2 R2 t0_0 t0_1 t1_0 t2_0 t2_1 t3_0 j36 j25 fm (lx77 + 1 : Int32) (lx78 + j25 : Int64) (lx79 - 1 : Int64)) else (lx79))))
def F_Big_guess (R : Int32) (x2 : Int32) (R2 : Int32) (t0_0 : Int32) (t0_1 : Int32) (t1_0 : (Nat → Int32)) (t2_0 : Int32) (t2_1 : Int32) (t3_0 : (Nat → Int32)) : Int64 := F_Big_guess_L67 R x2 R2 t0_0 t0_1 t1_0 t2_0 t2_1 t3_0 (((F_Big_limb R2 (t2_0 - 2 : Int32) t2_0 t2_1 t3_0) : Int32).toInt64 : Int64) (((F_Big_limb R2 (t2_0 - 1 : Int32) t2_0 t2_1 t3_0) : Int32).toInt64 : Int64) ((2 - (0 : Int32).toInt).toNat + 1) 0 ((((((F_Big_limb R x2 t0_0 t0_1 t1_0) : Int32).toInt64 : Int64) <<< ((31 : Int32).toInt64 &&& 63) : Int64) ||| (((F_Big_limb R (x2 - 1 : Int32) t0_0 t0_1 t1_0) : Int32).toInt64 : Int64) : Int64) - (((((((F_Big_limb R x2 t0_0 t0_1 t1_0) : Int32).toInt64 : Int64) <<< ((31 : Int32).toInt64 &&& 63) : Int64) ||| (((F_Big_limb R (x2 - 1 : Int32) t0_0 t0_1 t1_0) : Int32).toInt64 : Int64) : Int64) / ((F_jMath_max_JJJ (((F_Big_limb R2 (t2_0 - 1 : Int32) t2_0 t2_1 t3_0) : Int32).toInt64 : Int64) (1 : Int64)) : Int64) : Int64) * (((F_Big_limb R2 (t2_0 - 1 : Int32) t2_0 t2_1 t3_0) : Int32).toInt64 : Int64) : Int64) : Int64) ((((((F_Big_limb R x2 t0_0 t0_1 t1_0) : Int32).toInt64 : Int64) <<< ((31 : Int32).toInt64 &&& 63) : Int64) ||| (((F_Big_limb R (x2 - 1 : Int32) t0_0 t0_1 t1_0) : Int32).toInt64 : Int64) : Int64) / ((F_jMath_max_JJJ (((F_Big_limb R2 (t2_0 - 1 : Int32) t2_0 t2_1 t3_0) : Int32).toInt64 : Int64) (1 : Int64)) : Int64) : Int64)
set_option maxRecDepth 100000 in
set_option maxHeartbeats 4000000 in
theorem X_Big_guess (l : Launch) (D : va_G) (g : Nat → ClassId) (q : Nat → Nat) (ws : va_W) (k1 : Nat) (R : Int32) (hB1 : q_isBig (nsh g q) g q k1 R) (zk1 : (10 ≤ k1 ∧ k1 ≤ 32) ∨ 66 ≤ k1) (k3 : Nat) (R2 : Int32) (hB3 : q_isBig (nsh g q) g q k3 R2) (zk3 : (10 ≤ k3 ∧ k3 ≤ 32) ∨ 66 ≤ k3) (x2 : Int32) (hI : q_I (nsh g q) q ws) (t0_0 : Int32) (t0_1 : Int32) (hT0 : ws[k1]? = (some (q k1, .inr (2, [.ref (q (k1 + 1)), .int t0_0, .int t0_1])) : Option (Nat × va_E))) (t1_0 : (Nat → Int32)) (hT1 : ws[k1 + 1]? = (some (q (k1 + 1), .inl (g 0, R.toNatClampNeg, .inl t1_0)) : Option (Nat × va_E))) (t2_0 : Int32) (t2_1 : Int32) (hT2 : ws[k3]? = (some (q k3, .inr (2, [.ref (q (k3 + 1)), .int t2_0, .int t2_1])) : Option (Nat × va_E))) (t3_0 : (Nat → Int32)) (hT3 : ws[k3 + 1]? = (some (q (k3 + 1), .inl (g 0, R2.toNatClampNeg, .inl t3_0)) : Option (Nat × va_E))) : q_mL l y_Big_guess prog_2_method_37_code 14 2 0 0 D g [.ref (q k1), .int x2, .ref (q k3)] ws (fun r u => ws = u ∧ r = (F_Big_guess R x2 R2 t0_0 t0_1 t1_0 t2_0 t2_1 t3_0)) := by
  intro sz
  refine q_into (by decide) (Nat.le_of_ble_eq_true rfl) ?_
  intro p e s m below meth c ls hsz C0 V hl
  have hx := C0.1
  have hb := C0.2.1
  have btt0_1 := (q_bigW hI hB1 hT0).2
  clear btt0_1
  have btt2_1 := (q_bigW hI hB3 hT2).2
  clear btt2_1
  have hl : lv_has ls 14 [(0, .ref (q k1)), (1, .int x2), (2, .ref (q k3))] := hl
  refine lv_aload_n hx hb d_2_37_0 rfl (lv_at hl 2 rfl) ?_
  refine lv_aload_n hx hb d_2_37_1 rfl (lv_at hl 2 rfl) ?_
  refine q_get (ci := 2) (j := 1) (v := .int t2_0) C0 V i_Big rfl rfl hT2 (by decide) w_85 rfl d_2_37_2 ?_
  refine lv_iconst (v := 1) hx hb d_2_37_5 (by decide) ?_
  refine lv_isub hx hb d_2_37_6 ?_
  obtain ⟨a17, e18⟩ := q_nm (t2_0 - 1 : Int32)
  refine q_ti (v := a17) e18 ?_
  refine q_goi V (q_runV (As := [.int a17]) (rest := []) (d := 1) (mc := 0) (ms := 0) (ci := 2) C0 V rfl LV_Big_49 (X_Big_limb l D g q ws k3 R2 hB3 zk3 a17 hI t2_0 t2_1 hT2 t3_0 hT3  _) rfl rfl hT2 rfl hl.1 rfl (Nat.le_of_ble_eq_true rfl) ⟨by decide, by decide⟩ ⟨Nat.le_of_ble_eq_true rfl, Nat.le_of_ble_eq_true rfl⟩ d_2_37_7) (fun a22 u20 H locs hp21 V => ?_)
  obtain ⟨rfl, hE23⟩ := hp21
  have e24 : a22 = (F_Big_limb R2 a17 t2_0 t2_1 t3_0) := hE23
  refine lv_i2l hx hb d_2_37_10 rfl ?_
  obtain ⟨j25, e26⟩ := q_nm (a22.toInt64 : Int64)
  refine q_tl (v := j25) e26 ?_
  refine lv_lstore_n (lv' := [(3, .long j25), (0, .ref (q k1)), (1, .int x2), (2, .ref (q k3))]) hx hb d_2_37_11 rfl hl (by decide) rfl (fun ls hl => ?_)
  refine lv_aload_n hx hb d_2_37_12 rfl (lv_at hl 3 rfl) ?_
  refine lv_aload_n hx hb d_2_37_13 rfl (lv_at hl 3 rfl) ?_
  refine q_get (ci := 2) (j := 1) (v := .int t2_0) C0 V i_Big rfl rfl hT2 (by decide) w_85 rfl d_2_37_14 ?_
  refine lv_iconst (v := 2) hx hb d_2_37_17 (by decide) ?_
  refine lv_isub hx hb d_2_37_18 ?_
  obtain ⟨a28, e29⟩ := q_nm (t2_0 - 2 : Int32)
  refine q_ti (v := a28) e29 ?_
  refine q_goi V (q_runV (As := [.int a28]) (rest := []) (d := 1) (mc := 0) (ms := 0) (ci := 2) C0 V rfl LV_Big_49 (X_Big_limb l D g q ws k3 R2 hB3 zk3 a28 hI t2_0 t2_1 hT2 t3_0 hT3  _) rfl rfl hT2 rfl hl.1 rfl (Nat.le_of_ble_eq_true rfl) ⟨by decide, by decide⟩ ⟨Nat.le_of_ble_eq_true rfl, Nat.le_of_ble_eq_true rfl⟩ d_2_37_19) (fun a33 u31 H locs hp32 V => ?_)
  obtain ⟨rfl, hE34⟩ := hp32
  have e35 : a33 = (F_Big_limb R2 a28 t2_0 t2_1 t3_0) := hE34
  refine lv_i2l hx hb d_2_37_22 rfl ?_
  obtain ⟨j36, e37⟩ := q_nm (a33.toInt64 : Int64)
  refine q_tl (v := j36) e37 ?_
  refine lv_lstore (lv' := [(5, .long j36), (3, .long j25), (0, .ref (q k1)), (1, .int x2), (2, .ref (q k3))]) hx hb d_2_37_23 hl (by decide) rfl (fun ls hl => ?_)
  refine lv_aload_n hx hb d_2_37_25 rfl (lv_at hl 2 rfl) ?_
  refine lv_iload_n hx hb d_2_37_26 rfl (lv_at hl 3 rfl) ?_
  refine q_goi V (q_runV (As := [.int x2]) (rest := []) (d := 1) (mc := 0) (ms := 0) (ci := 2) C0 V rfl LV_Big_49 (X_Big_limb l D g q ws k1 R hB1 zk1 x2 hI t0_0 t0_1 hT0 t1_0 hT1  _) rfl rfl hT0 rfl hl.1 rfl (Nat.le_of_ble_eq_true rfl) ⟨by decide, by decide⟩ ⟨Nat.le_of_ble_eq_true rfl, Nat.le_of_ble_eq_true rfl⟩ d_2_37_27) (fun a41 u39 H locs hp40 V => ?_)
  obtain ⟨rfl, hE42⟩ := hp40
  have e43 : a41 = (F_Big_limb R x2 t0_0 t0_1 t1_0) := hE42
  refine lv_i2l hx hb d_2_37_30 rfl ?_
  obtain ⟨j44, e45⟩ := q_nm (a41.toInt64 : Int64)
  refine q_tl (v := j44) e45 ?_
  refine lv_bipush (v := 31) hx hb d_2_37_31 (by decide) ?_
  refine lv_lshl hx hb d_2_37_33 rfl ?_
  obtain ⟨j47, e48⟩ := q_nm (j44 <<< ((31 : Int32).toInt64 &&& 63) : Int64)
  refine q_tl (v := j47) e48 ?_
  refine lv_aload_n hx hb d_2_37_34 rfl (lv_at hl 2 rfl) ?_
  refine lv_iload_n hx hb d_2_37_35 rfl (lv_at hl 3 rfl) ?_
  refine lv_iconst (v := 1) hx hb d_2_37_36 (by decide) ?_
  refine lv_isub hx hb d_2_37_37 ?_
  obtain ⟨a49, e50⟩ := q_nm (x2 - 1 : Int32)
  refine q_ti (v := a49) e50 ?_
  refine q_goi V (q_runV (As := [.int a49]) (rest := [.long j47]) (d := 1) (mc := 0) (ms := 0) (ci := 2) C0 V rfl LV_Big_49 (X_Big_limb l D g q ws k1 R hB1 zk1 a49 hI t0_0 t0_1 hT0 t1_0 hT1  _) rfl rfl hT0 rfl hl.1 rfl (Nat.le_of_ble_eq_true rfl) ⟨by decide, by decide⟩ ⟨Nat.le_of_ble_eq_true rfl, Nat.le_of_ble_eq_true rfl⟩ d_2_37_38) (fun a53 u51 H locs hp52 V => ?_)
  obtain ⟨rfl, hE54⟩ := hp52
  have e55 : a53 = (F_Big_limb R a49 t0_0 t0_1 t1_0) := hE54
  refine lv_i2l hx hb d_2_37_41 rfl ?_
  obtain ⟨j56, e57⟩ := q_nm (a53.toInt64 : Int64)
  refine q_tl (v := j56) e57 ?_
  refine lv_lor hx hb d_2_37_42 ?_
  obtain ⟨j59, e60⟩ := q_nm (j47 ||| j56 : Int64)
  refine q_tl (v := j59) e60 ?_
  refine lv_lstore (lv' := [(7, .long j59), (5, .long j36), (3, .long j25), (0, .ref (q k1)), (1, .int x2), (2, .ref (q k3))]) hx hb d_2_37_43 hl (by decide) rfl (fun ls hl => ?_)
  refine lv_lload hx hb d_2_37_45 (lv_at hl 0 rfl) ?_
  refine lv_lload_n hx hb d_2_37_47 rfl (lv_at hl 2 rfl) ?_
  refine lv_lconst (v := 1) hx hb d_2_37_48 (by decide) ?_
  refine q_gol V (q_runS (As := [.long j25, .long 1]) (rest := [.long j59]) (d := 1) (mc := 0) (ms := 0) C0 V rfl LS_Big_143 (X_jMath_max_JJJ l D g q ws  j25 1 hI   _) rfl hl.1 rfl (Nat.le_of_ble_eq_true rfl) ⟨by decide, by decide⟩ ⟨Nat.le_of_ble_eq_true rfl, Nat.le_of_ble_eq_true rfl⟩ d_2_37_49) (fun j63 u61 H locs hp62 V => ?_)
  obtain ⟨rfl, b64, b65, hE66⟩ := hp62
  have e67 : j63 = (F_jMath_max_JJJ j25 (1 : Int64)) := hE66
  clear b64
  replace b65 : q_F (1 ≤ j63.toInt) := b65
  refine lv_ldiv hx hb d_2_37_52 (s_nzL (by first | with_reducible exact q_fe b65 | (have t1 : 1 ≤ j63.toInt := b65; omega))) ?_
  obtain ⟨j68, e69⟩ := q_nm (j59 / j63 : Int64)
  refine q_tl (v := j68) e69 ?_
  refine lv_lstore (lv' := [(9, .long j68), (7, .long j59), (5, .long j36), (3, .long j25), (0, .ref (q k1)), (1, .int x2), (2, .ref (q k3))]) hx hb d_2_37_53 hl (by decide) rfl (fun ls hl => ?_)
  refine lv_lload hx hb d_2_37_55 (lv_at hl 1 rfl) ?_
  refine lv_lload hx hb d_2_37_57 (lv_at hl 0 rfl) ?_
  refine lv_lload_n hx hb d_2_37_59 rfl (lv_at hl 3 rfl) ?_
  refine lv_lmul hx hb d_2_37_60 ?_
  obtain ⟨j70, e71⟩ := q_nm (j68 * j25 : Int64)
  refine q_tl (v := j70) e71 ?_
  refine lv_lsub hx hb d_2_37_61 ?_
  obtain ⟨j72, e73⟩ := q_nm (j59 - j70 : Int64)
  refine q_tl (v := j72) e73 ?_
  refine lv_lstore (lv' := [(11, .long j72), (9, .long j68), (7, .long j59), (5, .long j36), (3, .long j25), (0, .ref (q k1)), (1, .int x2), (2, .ref (q k3))]) hx hb d_2_37_62 hl (by decide) rfl (fun ls hl => ?_)
  refine lv_iconst (v := 0) hx hb d_2_37_64 (by decide) ?_
  refine lv_istore (lv' := [(13, .int 0), (11, .long j72), (9, .long j68), (7, .long j59), (5, .long j36), (3, .long j25), (0, .ref (q k1)), (1, .int x2), (2, .ref (q k3))]) hx hb d_2_37_65 hl (by decide) rfl (fun ls hl => ?_)
  refine q_loop (X := Int32 × Int64 × Int64) (fun z H locs ls _ => q_F (0 ≤ z.1.toInt) ∧ q_F (z.1.toInt ≤ 2) ∧ q_Wd D g (va_A ws sz) s ws H locs ∧ lv_has ls 14 [(13, .int z.1), (11, .long z.2.1), (9, .long z.2.2), (5, .long j36), (3, .long j25), (0, .ref (q k1)), (1, .int x2)] ∧ (∃ n, (2 - z.1.toInt).toNat < n ∧ F_Big_guess_L67 R x2 R2 t0_0 t0_1 t1_0 t2_0 t2_1 t3_0 j36 j25 n z.1 z.2.1 z.2.2 = (F_Big_guess R x2 R2 t0_0 t0_1 t1_0 t2_0 t2_1 t3_0))) (fun z => (2 - z.1.toInt).toNat) ?_ ((0 : Int32), (j72 : Int64), (j68 : Int64)) _ _ _ ws ⟨(show q_F (0 ≤ 0) from (show 0 ≤ 0 from by omega)), (show q_F (0 ≤ 2) from (show 0 ≤ 2 from by omega)), V, q_lw hl (q_lw1 0 rfl (q_lw1 1 rfl (q_lw1 2 rfl (q_lw1 4 rfl (q_lw1 5 rfl (q_lw1 6 rfl (q_lw1 7 rfl q_lw0))))))), ⟨((2 - (0 : Int32).toInt).toNat + 1), Nat.lt_succ_self _, (show F_Big_guess_L67 R x2 R2 t0_0 t0_1 t1_0 t2_0 t2_1 t3_0 j36 j25 ((2 - (0 : Int32).toInt).toNat + 1) 0 j72 j68 = (F_Big_guess R x2 R2 t0_0 t0_1 t1_0 t2_0 t2_1 t3_0) from (by subst e18; subst e24; subst e26; subst e29; subst e35; subst e37; subst e43; subst e45; subst e48; subst e50; subst e55; subst e57; subst e60; subst e67; subst e69; subst e71; subst e73; rw [F_Big_guess.eq_1]))⟩⟩
  rintro ⟨lx77, lx78, lx79⟩ H locs ls _ ⟨i80, i81, V, hl, ⟨fu84, hf85, hR83⟩⟩ ih82
  obtain ⟨fm86, rfl⟩ : ∃ m, fu84 = m + 1 := ⟨fu84 - 1, by omega⟩
  replace i80 : q_F (0 ≤ lx77.toInt) := i80
  replace i81 : q_F (lx77.toInt ≤ 2) := i81
  replace hl : lv_has ls 14 [(13, .int lx77), (11, .long lx78), (9, .long lx79), (5, .long j36), (3, .long j25), (0, .ref (q k1)), (1, .int x2)] := hl
  refine lv_iload hx hb d_2_37_67 (lv_at hl 0 rfl) ?_
  refine lv_iconst (v := 2) hx hb d_2_37_69 (by decide) ?_
  refine lv_icmp_ge (tgt := 135) hx hb d_2_37_70 (by decide) (fun c87 => ?_) (fun c87 => ?_)
  ·
    refine lv_lload hx hb d_2_37_135 (lv_at hl 2 rfl) ?_
    exact q_retl C0 V (⟨rfl, (show lx79 = (F_Big_guess R x2 R2 t0_0 t0_1 t1_0 t2_0 t2_1 t3_0) from Eq.trans (by subst e18; subst e24; subst e26; subst e29; subst e35; subst e37; subst e43; subst e45; subst e48; subst e50; subst e55; subst e57; subst e60; subst e67; subst e69; subst e71; subst e73; rw [F_Big_guess_L67.eq_2, if_pos c87]) hR83)⟩) d_2_37_137
  ·
    have b89 : q_F (lx77.toInt < 2) := (q_nleI c87)
    refine lv_lload hx hb d_2_37_73 (lv_at hl 1 rfl) ?_
    refine q_ldc2 C0 rfl w_201 d_2_37_75 ?_
    refine W.lcmp hx hb d_2_37_78 ?_
    obtain ⟨a90, e91⟩ := q_nm (lg_cmp lx78 2147483647 : Int32)
    refine q_ti (v := a90) e91 ?_
    refine lv_if_gt (tgt := 135) hx hb d_2_37_79 (by decide) (fun c93 => ?_) (fun c93 => ?_)
    ·
      refine lv_lload hx hb d_2_37_135 (lv_at hl 2 rfl) ?_
      exact q_retl C0 V (⟨rfl, (show lx79 = (F_Big_guess R x2 R2 t0_0 t0_1 t1_0 t2_0 t2_1 t3_0) from Eq.trans (by subst e18; subst e24; subst e26; subst e29; subst e35; subst e37; subst e43; subst e45; subst e48; subst e50; subst e55; subst e57; subst e60; subst e67; subst e69; subst e71; subst e73; subst e91; rw [F_Big_guess_L67.eq_2, if_neg c87, if_pos c93]) hR83)⟩) d_2_37_137
    ·
      refine lv_lload hx hb d_2_37_82 (lv_at hl 2 rfl) ?_
      refine q_ldc2 C0 rfl w_201 d_2_37_84 ?_
      refine W.lcmp hx hb d_2_37_87 ?_
      obtain ⟨a96, e97⟩ := q_nm (lg_cmp lx79 2147483647 : Int32)
      refine q_ti (v := a96) e97 ?_
      refine lv_if_gt (tgt := 117) hx hb d_2_37_88 (by decide) (fun c99 => ?_) (fun c99 => ?_)
      ·
        refine lv_lload hx hb d_2_37_117 (lv_at hl 2 rfl) ?_
        refine lv_lconst (v := 1) hx hb d_2_37_119 (by decide) ?_
        refine lv_lsub hx hb d_2_37_120 ?_
        obtain ⟨j101, e102⟩ := q_nm (lx79 - 1 : Int64)
        refine q_tl (v := j101) e102 ?_
        refine lv_lstore (lv' := [(9, .long j101), (13, .int lx77), (11, .long lx78), (5, .long j36), (3, .long j25), (0, .ref (q k1)), (1, .int x2)]) hx hb d_2_37_121 hl (by decide) rfl (fun ls hl => ?_)
        refine lv_lload hx hb d_2_37_123 (lv_at hl 2 rfl) ?_
        refine lv_lload_n hx hb d_2_37_125 rfl (lv_at hl 4 rfl) ?_
        refine lv_ladd hx hb d_2_37_126 ?_
        obtain ⟨j104, e105⟩ := q_nm (lx78 + j25 : Int64)
        refine q_tl (v := j104) e105 ?_
        refine lv_lstore (lv' := [(11, .long j104), (9, .long j101), (13, .int lx77), (5, .long j36), (3, .long j25), (0, .ref (q k1)), (1, .int x2)]) hx hb d_2_37_127 hl (by decide) rfl (fun ls hl => ?_)
        obtain ⟨a106, e107⟩ := q_nm (lx77 + 1 : Int32)
        have b108 : q_F (a106.toInt = lx77.toInt + 1) := (by rw [← e107]; exact q_addI (y := 1) rfl (by decide) (by have t1 : 0 ≤ lx77.toInt := i80; have t2 : lx77.toInt ≤ 2 := i81; omega) (by have t1 : 0 ≤ lx77.toInt := i80; have t2 : lx77.toInt ≤ 2 := i81; omega))
        refine lv_iinc (v := a106) (lv' := [(13, .int a106), (11, .long j104), (9, .long j101), (5, .long j36), (3, .long j25), (0, .ref (q k1)), (1, .int x2)]) hx hb d_2_37_129 hl (k := 2) rfl (e107) (by decide) rfl (fun ls hl => ?_)
        refine lv_goto (tgt := 67) hx hb d_2_37_132 (by decide) ?_
        exact ih82 ((a106 : Int32), (j104 : Int64), (j101 : Int64)) _ _ _ ws (show (2 - a106.toInt).toNat < (2 - lx77.toInt).toNat from by have t1 : a106.toInt = lx77.toInt + 1 := b108; have t2 : lx77.toInt ≤ 2 := i81; have t3 : lx77.toInt < 2 := b89; omega) ⟨(show q_F (0 ≤ a106.toInt) from (show 0 ≤ a106.toInt from by have t1 : 0 ≤ lx77.toInt := i80; have t2 : a106.toInt = lx77.toInt + 1 := b108; omega)), (show q_F (a106.toInt ≤ 2) from (show a106.toInt ≤ 2 from by have t1 : lx77.toInt < 2 := b89; have t2 : a106.toInt = lx77.toInt + 1 := b108; omega)), V, q_lw hl (q_lw1 0 rfl (q_lw1 1 rfl (q_lw1 2 rfl (q_lw1 3 rfl (q_lw1 4 rfl (q_lw1 5 rfl (q_lw1 6 rfl q_lw0))))))), ⟨fm86, Nat.lt_of_lt_of_le (show (2 - a106.toInt).toNat < (2 - lx77.toInt).toNat from by have t1 : a106.toInt = lx77.toInt + 1 := b108; have t2 : lx77.toInt ≤ 2 := i81; have t3 : lx77.toInt < 2 := b89; omega) (Nat.le_of_lt_succ hf85), (show F_Big_guess_L67 R x2 R2 t0_0 t0_1 t1_0 t2_0 t2_1 t3_0 j36 j25 fm86 a106 j104 j101 = (F_Big_guess R x2 R2 t0_0 t0_1 t1_0 t2_0 t2_1 t3_0) from Eq.trans (by subst e18; subst e24; subst e26; subst e29; subst e35; subst e37; subst e43; subst e45; subst e48; subst e50; subst e55; subst e57; subst e60; subst e67; subst e69; subst e71; subst e73; subst e91; subst e97; subst e102; subst e105; subst e107; rw [F_Big_guess_L67.eq_2, if_neg c87, if_neg c93, if_pos c99]) hR83)⟩⟩
      ·
        refine lv_lload hx hb d_2_37_91 (lv_at hl 2 rfl) ?_
        refine lv_lload hx hb d_2_37_93 (lv_at hl 3 rfl) ?_
        refine lv_lmul hx hb d_2_37_95 ?_
        obtain ⟨j110, e111⟩ := q_nm (lx79 * j36 : Int64)
        refine q_tl (v := j110) e111 ?_
        refine lv_lload hx hb d_2_37_96 (lv_at hl 1 rfl) ?_
        refine lv_bipush (v := 31) hx hb d_2_37_98 (by decide) ?_
        refine lv_lshl hx hb d_2_37_100 rfl ?_
        obtain ⟨j112, e113⟩ := q_nm (lx78 <<< ((31 : Int32).toInt64 &&& 63) : Int64)
        refine q_tl (v := j112) e113 ?_
        refine lv_aload_n hx hb d_2_37_101 rfl (lv_at hl 5 rfl) ?_
        refine lv_iload_n hx hb d_2_37_102 rfl (lv_at hl 6 rfl) ?_
        refine lv_iconst (v := 2) hx hb d_2_37_103 (by decide) ?_
        refine lv_isub hx hb d_2_37_104 ?_
        obtain ⟨a114, e115⟩ := q_nm (x2 - 2 : Int32)
        refine q_ti (v := a114) e115 ?_
        refine q_goi V (q_runV (As := [.int a114]) (rest := [.long j112, .long j110]) (d := 1) (mc := 0) (ms := 0) (ci := 2) C0 V rfl LV_Big_49 (X_Big_limb l D g q ws k1 R hB1 zk1 a114 hI t0_0 t0_1 hT0 t1_0 hT1  _) rfl rfl hT0 rfl hl.1 rfl (Nat.le_of_ble_eq_true rfl) ⟨by decide, by decide⟩ ⟨Nat.le_of_ble_eq_true rfl, Nat.le_of_ble_eq_true rfl⟩ d_2_37_105) (fun a118 u116 H locs hp117 V => ?_)
        obtain ⟨rfl, hE119⟩ := hp117
        have e120 : a118 = (F_Big_limb R a114 t0_0 t0_1 t1_0) := hE119
        refine lv_i2l hx hb d_2_37_108 rfl ?_
        obtain ⟨j121, e122⟩ := q_nm (a118.toInt64 : Int64)
        refine q_tl (v := j121) e122 ?_
        refine lv_lor hx hb d_2_37_109 ?_
        obtain ⟨j124, e125⟩ := q_nm (j112 ||| j121 : Int64)
        refine q_tl (v := j124) e125 ?_
        refine W.lcmp hx hb d_2_37_110 ?_
        obtain ⟨a126, e127⟩ := q_nm (lg_cmp j110 j124 : Int32)
        refine q_ti (v := a126) e127 ?_
        refine lv_if_gt (tgt := 117) hx hb d_2_37_111 (by decide) (fun c129 => ?_) (fun c129 => ?_)
        ·
          refine lv_lload hx hb d_2_37_117 (lv_at hl 2 rfl) ?_
          refine lv_lconst (v := 1) hx hb d_2_37_119 (by decide) ?_
          refine lv_lsub hx hb d_2_37_120 ?_
          obtain ⟨j131, e132⟩ := q_nm (lx79 - 1 : Int64)
          refine q_tl (v := j131) e132 ?_
          refine lv_lstore (lv' := [(9, .long j131), (13, .int lx77), (11, .long lx78), (5, .long j36), (3, .long j25), (0, .ref (q k1)), (1, .int x2)]) hx hb d_2_37_121 hl (by decide) rfl (fun ls hl => ?_)
          refine lv_lload hx hb d_2_37_123 (lv_at hl 2 rfl) ?_
          refine lv_lload_n hx hb d_2_37_125 rfl (lv_at hl 4 rfl) ?_
          refine lv_ladd hx hb d_2_37_126 ?_
          obtain ⟨j133, e134⟩ := q_nm (lx78 + j25 : Int64)
          refine q_tl (v := j133) e134 ?_
          refine lv_lstore (lv' := [(11, .long j133), (9, .long j131), (13, .int lx77), (5, .long j36), (3, .long j25), (0, .ref (q k1)), (1, .int x2)]) hx hb d_2_37_127 hl (by decide) rfl (fun ls hl => ?_)
          obtain ⟨a135, e136⟩ := q_nm (lx77 + 1 : Int32)
          have b137 : q_F (a135.toInt = lx77.toInt + 1) := (by rw [← e136]; exact q_addI (y := 1) rfl (by decide) (by have t1 : 0 ≤ lx77.toInt := i80; have t2 : lx77.toInt ≤ 2 := i81; omega) (by have t1 : 0 ≤ lx77.toInt := i80; have t2 : lx77.toInt ≤ 2 := i81; omega))
          refine lv_iinc (v := a135) (lv' := [(13, .int a135), (11, .long j133), (9, .long j131), (5, .long j36), (3, .long j25), (0, .ref (q k1)), (1, .int x2)]) hx hb d_2_37_129 hl (k := 2) rfl (e136) (by decide) rfl (fun ls hl => ?_)
          refine lv_goto (tgt := 67) hx hb d_2_37_132 (by decide) ?_
          exact ih82 ((a135 : Int32), (j133 : Int64), (j131 : Int64)) _ _ _ ws (show (2 - a135.toInt).toNat < (2 - lx77.toInt).toNat from by have t1 : a135.toInt = lx77.toInt + 1 := b137; have t2 : lx77.toInt ≤ 2 := i81; have t3 : lx77.toInt < 2 := b89; omega) ⟨(show q_F (0 ≤ a135.toInt) from (show 0 ≤ a135.toInt from by have t1 : 0 ≤ lx77.toInt := i80; have t2 : a135.toInt = lx77.toInt + 1 := b137; omega)), (show q_F (a135.toInt ≤ 2) from (show a135.toInt ≤ 2 from by have t1 : lx77.toInt < 2 := b89; have t2 : a135.toInt = lx77.toInt + 1 := b137; omega)), V, q_lw hl (q_lw1 0 rfl (q_lw1 1 rfl (q_lw1 2 rfl (q_lw1 3 rfl (q_lw1 4 rfl (q_lw1 5 rfl (q_lw1 6 rfl q_lw0))))))), ⟨fm86, Nat.lt_of_lt_of_le (show (2 - a135.toInt).toNat < (2 - lx77.toInt).toNat from by have t1 : a135.toInt = lx77.toInt + 1 := b137; have t2 : lx77.toInt ≤ 2 := i81; have t3 : lx77.toInt < 2 := b89; omega) (Nat.le_of_lt_succ hf85), (show F_Big_guess_L67 R x2 R2 t0_0 t0_1 t1_0 t2_0 t2_1 t3_0 j36 j25 fm86 a135 j133 j131 = (F_Big_guess R x2 R2 t0_0 t0_1 t1_0 t2_0 t2_1 t3_0) from Eq.trans (by subst e18; subst e24; subst e26; subst e29; subst e35; subst e37; subst e43; subst e45; subst e48; subst e50; subst e55; subst e57; subst e60; subst e67; subst e69; subst e71; subst e73; subst e91; subst e97; subst e111; subst e113; subst e115; subst e120; subst e122; subst e125; subst e127; subst e132; subst e134; subst e136; rw [F_Big_guess_L67.eq_2, if_neg c87, if_neg c93, if_neg c99, if_pos c129]) hR83)⟩⟩
        ·
          refine lv_goto (tgt := 135) hx hb d_2_37_114 (by decide) ?_
          refine lv_lload hx hb d_2_37_135 (lv_at hl 2 rfl) ?_
          exact q_retl C0 V (⟨rfl, (show lx79 = (F_Big_guess R x2 R2 t0_0 t0_1 t1_0 t2_0 t2_1 t3_0) from Eq.trans (by subst e18; subst e24; subst e26; subst e29; subst e35; subst e37; subst e43; subst e45; subst e48; subst e50; subst e55; subst e57; subst e60; subst e67; subst e69; subst e71; subst e73; subst e91; subst e97; subst e111; subst e113; subst e115; subst e120; subst e122; subst e125; subst e127; rw [F_Big_guess_L67.eq_2, if_neg c87, if_neg c93, if_neg c99, if_neg c129]) hR83)⟩) d_2_37_137
def F_Big_giveBack_L11 (R : Int32) (x2 : Int32) (R2 : Int32) (t0_0 : Int32) (t0_1 : Int32) (t1_0 : (Nat → Int32)) (t2_0 : Int32) (t2_1 : Int32) (t3_0 : (Nat → Int32)) : Nat → Int32 → Int32 → (Nat → Int32) → (Nat → Int32)
  | 0, _, _, _ => default
  | fm + 1, lx19, lx20, lx21 => if t2_0 ≤ lx19 then (if R ≤ (x2 + t2_0 : Int32) then (lx21) else ((upd lx21 (x2 + t2_0 : Int32).toNatClampNeg ((((F_Big_limb R (x2 + t2_0 : Int32) t0_0 t0_1 lx21) : Int32) + lx20 : Int32) &&& 2147483647 : Int32) : (Nat → Int32)))) else (F_Big_giveBack_L11 R x2 R2 t0_0 t0_1 t1_0 t2_0 t2_1 t3_0 fm (lx19 + 1 : Int32) ((((((F_Big_limb R (x2 + lx19 : Int32) t0_0 t0_1 lx21) : Int32) + (t3_0 lx19.toNatClampNeg : Int32) : Int32) + lx20 : Int32).toUInt32 >>> ((31 : Int32).toUInt32 &&& Int32.toUInt32 31)).toInt32 : Int32) (upd lx21 (x2 + lx19 : Int32).toNatClampNeg (((((F_Big_limb R (x2 + lx19 : Int32) t0_0 t0_1 lx21) : Int32) + (t3_0 lx19.toNatClampNeg : Int32) : Int32) + lx20 : Int32) &&& 2147483647 : Int32) : (Nat → Int32)))
def F_Big_giveBack (R : Int32) (x2 : Int32) (R2 : Int32) (t0_0 : Int32) (t0_1 : Int32) (t1_0 : (Nat → Int32)) (t2_0 : Int32) (t2_1 : Int32) (t3_0 : (Nat → Int32)) : (Nat → Int32) := F_Big_giveBack_L11 R x2 R2 t0_0 t0_1 t1_0 t2_0 t2_1 t3_0 ((220 - (0 : Int32).toInt).toNat + 1) 0 0 t1_0
set_option maxRecDepth 100000 in
set_option maxHeartbeats 4000000 in
theorem X_Big_giveBack (l : Launch) (D : va_G) (g : Nat → ClassId) (q : Nat → Nat) (ws : va_W) (k1 : Nat) (R : Int32) (hB1 : q_isBig (nsh g q) g q k1 R) (zk1 : (10 ≤ k1 ∧ k1 ≤ 32) ∨ 66 ≤ k1) (k3 : Nat) (R2 : Int32) (hB3 : q_isBig (nsh g q) g q k3 R2) (zk3 : (10 ≤ k3 ∧ k3 ≤ 32) ∨ 66 ≤ k3) (x2 : Int32) (ne_k1_k3 : k1 ≠ k3) (hI : q_I (nsh g q) q ws) (t0_0 : Int32) (t0_1 : Int32) (hT0 : ws[k1]? = (some (q k1, .inr (2, [.ref (q (k1 + 1)), .int t0_0, .int t0_1])) : Option (Nat × va_E))) (t1_0 : (Nat → Int32)) (hT1 : ws[k1 + 1]? = (some (q (k1 + 1), .inl (g 0, R.toNatClampNeg, .inl t1_0)) : Option (Nat × va_E))) (t2_0 : Int32) (t2_1 : Int32) (hT2 : ws[k3]? = (some (q k3, .inr (2, [.ref (q (k3 + 1)), .int t2_0, .int t2_1])) : Option (Nat × va_E))) (t3_0 : (Nat → Int32)) (hT3 : ws[k3 + 1]? = (some (q (k3 + 1), .inl (g 0, R2.toNatClampNeg, .inl t3_0)) : Option (Nat × va_E))) (pre0 : 0 ≤ x2.toInt) (pre1 : x2.toInt + t2_0.toInt ≤ R.toInt) : q_mV l y_Big_giveBack prog_2_method_38_code 7 2 0 0 D g [.ref (q k1), .int x2, .ref (q k3)] ws (fun u => q_I (nsh g q) q u ∧ q_un ws u [k1 + 1] ∧ ∃ (u1_0 : (Nat → Int32)), u[k1 + 1]? = (some (q (k1 + 1), .inl (g 0, R.toNatClampNeg, .inl u1_0)) : Option (Nat × va_E)) ∧ u1_0 = (F_Big_giveBack R x2 R2 t0_0 t0_1 t1_0 t2_0 t2_1 t3_0)) := by
  intro sz
  refine q_into (by decide) (Nat.le_of_ble_eq_true rfl) ?_
  intro p e s m below meth c ls hsz C0 V hl
  have hx := C0.1
  have hb := C0.2.1
  have hfk10 : q_F (0 ≤ R.toInt ∧ R.toInt ≤ 220) := hB1.2.2
  have hfk30 : q_F (0 ≤ R2.toInt ∧ R2.toInt ≤ 220) := hB3.2.2
  have btt0_1 := (q_bigW hI hB1 hT0).2
  clear btt0_1
  have btt2_0 := (q_bigW hI hB3 hT2).1
  replace btt2_0 : q_F (0 ≤ t2_0.toInt ∧ t2_0.toInt ≤ R2.toInt) := btt2_0
  replace pre0 : q_F (0 ≤ x2.toInt) := pre0
  replace pre1 : q_F (x2.toInt + t2_0.toInt ≤ R.toInt) := pre1
  have hF : q_un ws ws [k1 + 1] := q_u0
  have hl : lv_has ls 7 [(0, .ref (q k1)), (1, .int x2), (2, .ref (q k3))] := hl
  refine lv_aload_n hx hb d_2_38_0 rfl (lv_at hl 2 rfl) ?_
  refine q_get (ci := 2) (j := 1) (v := .int t2_0) C0 V i_Big rfl rfl hT2 (by decide) w_85 rfl d_2_38_1 ?_
  refine lv_istore_n (lv' := [(3, .int t2_0), (0, .ref (q k1)), (1, .int x2), (2, .ref (q k3))]) hx hb d_2_38_4 rfl hl (by decide) rfl (fun ls hl => ?_)
  refine lv_iconst (v := 0) hx hb d_2_38_5 (by decide) ?_
  refine lv_istore (lv' := [(4, .int 0), (3, .int t2_0), (0, .ref (q k1)), (1, .int x2), (2, .ref (q k3))]) hx hb d_2_38_6 hl (by decide) rfl (fun ls hl => ?_)
  refine lv_iconst (v := 0) hx hb d_2_38_8 (by decide) ?_
  refine lv_istore (lv' := [(5, .int 0), (4, .int 0), (3, .int t2_0), (0, .ref (q k1)), (1, .int x2), (2, .ref (q k3))]) hx hb d_2_38_9 hl (by decide) rfl (fun ls hl => ?_)
  refine q_loop (X := Int32 × Int32 × (Nat → Int32)) (fun z H locs ls w27 => q_F (0 ≤ z.2.1.toInt) ∧ q_F (z.2.1.toInt ≤ 1) ∧ q_F (z.1.toInt ≤ t2_0.toInt) ∧ q_F (z.2.1.toInt ≤ z.1.toInt) ∧ q_Wd D g (va_A ws sz) s w27 H locs ∧ lv_has ls 7 [(5, .int z.1), (4, .int z.2.1), (3, .int t2_0), (0, .ref (q k1)), (1, .int x2), (2, .ref (q k3))] ∧ q_I (nsh g q) q w27 ∧ q_un ws w27 [k1 + 1] ∧ w27[k1]? = (some (q k1, .inr (2, [.ref (q (k1 + 1)), .int t0_0, .int t0_1])) : Option (Nat × va_E)) ∧ w27[k1 + 1]? = (some (q (k1 + 1), .inl (g 0, R.toNatClampNeg, .inl z.2.2)) : Option (Nat × va_E)) ∧ w27[k3]? = (some (q k3, .inr (2, [.ref (q (k3 + 1)), .int t2_0, .int t2_1])) : Option (Nat × va_E)) ∧ w27[k3 + 1]? = (some (q (k3 + 1), .inl (g 0, R2.toNatClampNeg, .inl t3_0)) : Option (Nat × va_E)) ∧ (∃ n, (220 - z.1.toInt).toNat < n ∧ F_Big_giveBack_L11 R x2 R2 t0_0 t0_1 t1_0 t2_0 t2_1 t3_0 n z.1 z.2.1 z.2.2 = (F_Big_giveBack R x2 R2 t0_0 t0_1 t1_0 t2_0 t2_1 t3_0))) (fun z => (220 - z.1.toInt).toNat) ?_ ((0 : Int32), (0 : Int32), (t1_0 : (Nat → Int32))) _ _ _ ws ⟨(show q_F (0 ≤ 0) from (show 0 ≤ 0 from by omega)), (show q_F (0 ≤ 1) from (show 0 ≤ 1 from by omega)), (show q_F (0 ≤ t2_0.toInt) from (show 0 ≤ t2_0.toInt from by have t1 : 0 ≤ t2_0.toInt ∧ t2_0.toInt ≤ R2.toInt := btt2_0; omega)), (show q_F (0 ≤ 0) from (show 0 ≤ 0 from by omega)), V, q_lw hl (q_lw1 0 rfl (q_lw1 1 rfl (q_lw1 2 rfl (q_lw1 3 rfl (q_lw1 4 rfl (q_lw1 5 rfl q_lw0)))))), hI, hF, hT0, hT1, hT2, hT3, ⟨((220 - (0 : Int32).toInt).toNat + 1), Nat.lt_succ_self _, (show F_Big_giveBack_L11 R x2 R2 t0_0 t0_1 t1_0 t2_0 t2_1 t3_0 ((220 - (0 : Int32).toInt).toNat + 1) 0 0 t1_0 = (F_Big_giveBack R x2 R2 t0_0 t0_1 t1_0 t2_0 t2_1 t3_0) from (by rw [F_Big_giveBack.eq_1]))⟩⟩
  rintro ⟨lx19, lx20, lx21⟩ H locs ls w27 ⟨i22, i23, i24, i25, V, hl, hI, hF, hO28, hO29, hO30, hO31, ⟨fu33, hf34, hR32⟩⟩ ih26
  obtain ⟨fm35, rfl⟩ : ∃ m, fu33 = m + 1 := ⟨fu33 - 1, by omega⟩
  replace i22 : q_F (0 ≤ lx20.toInt) := i22
  clear i23
  replace i24 : q_F (lx19.toInt ≤ t2_0.toInt) := i24
  replace i25 : q_F (lx20.toInt ≤ lx19.toInt) := i25
  replace hl : lv_has ls 7 [(5, .int lx19), (4, .int lx20), (3, .int t2_0), (0, .ref (q k1)), (1, .int x2), (2, .ref (q k3))] := hl
  replace hO28 : w27[k1]? = (some (q k1, .inr (2, [.ref (q (k1 + 1)), .int t0_0, .int t0_1])) : Option (Nat × va_E)) := hO28
  replace hO29 : w27[k1 + 1]? = (some (q (k1 + 1), .inl (g 0, R.toNatClampNeg, .inl lx21)) : Option (Nat × va_E)) := hO29
  replace hO30 : w27[k3]? = (some (q k3, .inr (2, [.ref (q (k3 + 1)), .int t2_0, .int t2_1])) : Option (Nat × va_E)) := hO30
  replace hO31 : w27[k3 + 1]? = (some (q (k3 + 1), .inl (g 0, R2.toNatClampNeg, .inl t3_0)) : Option (Nat × va_E)) := hO31
  refine lv_iload hx hb d_2_38_11 (lv_at hl 0 rfl) ?_
  refine lv_iload_n hx hb d_2_38_13 rfl (lv_at hl 2 rfl) ?_
  refine lv_icmp_ge (tgt := 65) hx hb d_2_38_14 (by decide) (fun c36 => ?_) (fun c36 => ?_)
  ·
    refine lv_iload_n hx hb d_2_38_65 rfl (lv_at hl 4 rfl) ?_
    refine lv_iload_n hx hb d_2_38_66 rfl (lv_at hl 2 rfl) ?_
    refine lv_iadd hx hb d_2_38_67 ?_
    obtain ⟨a38, e39⟩ := q_nm (x2 + t2_0 : Int32)
    refine q_ti (v := a38) e39 ?_
    have b40 : q_F (a38.toInt = x2.toInt + t2_0.toInt) := (by rw [← e39]; show (x2 + t2_0 : Int32).toInt = x2.toInt + t2_0.toInt; exact q_addI (x := x2.toInt) (y := t2_0.toInt) rfl rfl (by have t1 : 0 ≤ t2_0.toInt ∧ t2_0.toInt ≤ R2.toInt := btt2_0; have t2 : 0 ≤ x2.toInt := pre0; have t3 : x2.toInt + t2_0.toInt ≤ R.toInt := pre1; have _ := q_lo32 (x := R); have _ := q_hi32 (x := R); omega) (by have t1 : 0 ≤ t2_0.toInt ∧ t2_0.toInt ≤ R2.toInt := btt2_0; have t2 : 0 ≤ x2.toInt := pre0; have t3 : x2.toInt + t2_0.toInt ≤ R.toInt := pre1; have _ := q_lo32 (x := R); have _ := q_hi32 (x := R); omega))
    refine lv_aload_n hx hb d_2_38_68 rfl (lv_at hl 3 rfl) ?_
    refine q_get (ci := 2) (j := 0) (v := .ref (q (k1 + 1))) C0 V i_Big rfl rfl hO28 (by decide) w_84 rfl d_2_38_69 ?_
    refine q_alen (t := 0) (v := R) C0 V hO29 rfl (s_len (by first | with_reducible exact (q_fe hfk10).2 | with_reducible exact (q_fe hfk10).1 | (have t1 : 0 ≤ R.toInt ∧ R.toInt ≤ 220 := hfk10; omega))) d_2_38_72 ?_
    refine lv_icmp_ge (tgt := 97) hx hb d_2_38_73 (by decide) (fun c41 => ?_) (fun c41 => ?_)
    ·
      exact q_retv C0 V (⟨hI, hF, lx21, hO29, (show lx21 = (F_Big_giveBack R x2 R2 t0_0 t0_1 t1_0 t2_0 t2_1 t3_0) from Eq.trans (by subst e39; rw [F_Big_giveBack_L11.eq_2, if_pos c36, if_pos c41]) hR32)⟩) d_2_38_97
    ·
      have b43 : q_F (a38.toInt < R.toInt) := (q_nleI c41)
      refine lv_aload_n hx hb d_2_38_76 rfl (lv_at hl 3 rfl) ?_
      refine q_get (ci := 2) (j := 0) (v := .ref (q (k1 + 1))) C0 V i_Big rfl rfl hO28 (by decide) w_84 rfl d_2_38_77 ?_
      refine lv_iload_n hx hb d_2_38_80 rfl (lv_at hl 4 rfl) ?_
      refine lv_iload_n hx hb d_2_38_81 rfl (lv_at hl 2 rfl) ?_
      refine lv_iadd hx hb d_2_38_82 ?_
      obtain ⟨a44, e45⟩ := q_nm (x2 + t2_0 : Int32)
      refine q_ti (v := a44) e45 ?_
      have b46 : q_F (a44.toInt = x2.toInt + t2_0.toInt) := (by rw [← e45]; show (x2 + t2_0 : Int32).toInt = x2.toInt + t2_0.toInt; exact q_addI (x := x2.toInt) (y := t2_0.toInt) rfl rfl (by have t1 : 0 ≤ t2_0.toInt ∧ t2_0.toInt ≤ R2.toInt := btt2_0; have t2 : 0 ≤ x2.toInt := pre0; have t3 : x2.toInt + t2_0.toInt ≤ R.toInt := pre1; have _ := q_lo32 (x := R); have _ := q_hi32 (x := R); omega) (by have t1 : 0 ≤ t2_0.toInt ∧ t2_0.toInt ≤ R2.toInt := btt2_0; have t2 : 0 ≤ x2.toInt := pre0; have t3 : x2.toInt + t2_0.toInt ≤ R.toInt := pre1; have _ := q_lo32 (x := R); have _ := q_hi32 (x := R); omega))
      refine lv_aload_n hx hb d_2_38_83 rfl (lv_at hl 3 rfl) ?_
      refine lv_iload_n hx hb d_2_38_84 rfl (lv_at hl 4 rfl) ?_
      refine lv_iload_n hx hb d_2_38_85 rfl (lv_at hl 2 rfl) ?_
      refine lv_iadd hx hb d_2_38_86 ?_
      obtain ⟨a47, e48⟩ := q_nm (x2 + t2_0 : Int32)
      refine q_ti (v := a47) e48 ?_
      refine q_goi V (q_runV (As := [.int a47]) (rest := [.int a44, .ref (q (k1 + 1))]) (d := 1) (mc := 0) (ms := 0) (ci := 2) C0 V rfl LV_Big_49 (X_Big_limb l D g q w27 k1 R hB1 zk1 a47 hI t0_0 t0_1 hO28 lx21 hO29  _) rfl rfl hO28 rfl hl.1 rfl (Nat.le_of_ble_eq_true rfl) ⟨by decide, by decide⟩ ⟨Nat.le_of_ble_eq_true rfl, Nat.le_of_ble_eq_true rfl⟩ d_2_38_87) (fun a52 u50 H locs hp51 V => ?_)
      obtain ⟨rfl, hE53⟩ := hp51
      have e54 : a52 = (F_Big_limb R a47 t0_0 t0_1 lx21) := hE53
      refine lv_iload hx hb d_2_38_90 (lv_at hl 1 rfl) ?_
      refine lv_iadd hx hb d_2_38_92 ?_
      obtain ⟨a55, e56⟩ := q_nm (a52 + lx20 : Int32)
      refine q_ti (v := a55) e56 ?_
      refine q_ldc C0 rfl w_809 d_2_38_93 ?_
      refine lv_iand hx hb d_2_38_95 ?_
      obtain ⟨a57, e58⟩ := q_nm (a55 &&& 2147483647 : Int32)
      refine q_ti (v := a57) e58 ?_
      have ne62 := q_df hO29 hO30
      refine q_iast C0 V hO29 (q_ix (x := a44.toInt) rfl (by have t1 : 0 ≤ t2_0.toInt ∧ t2_0.toInt ≤ R2.toInt := btt2_0; have t2 : 0 ≤ x2.toInt := pre0; have t3 : a44.toInt = x2.toInt + t2_0.toInt := b46; omega) (by have t1 : 0 ≤ t2_0.toInt ∧ t2_0.toInt ≤ R2.toInt := btt2_0; have t2 : 0 ≤ x2.toInt := pre0; have t3 : a44.toInt = x2.toInt + t2_0.toInt := b46; have t4 : a38.toInt = x2.toInt + t2_0.toInt := b40; have t5 : a38.toInt < R.toInt := b43; have e9 := q_clI (i := R) rfl (by first | with_reducible exact (q_fe hfk10).2 | with_reducible exact (q_fe hfk10).1 | (have t1 : 0 ≤ R.toInt ∧ R.toInt ≤ 220 := hfk10; omega)); omega)) d_2_38_96 (fun H locs w60 hu61 hO29 V => ?_)
      replace hI := q_bigA' hI hB1 hu61 hO29 (q_updB (fun _ => s_bnd) s_bnd)
      replace hF := q_us hF hu61 (by simp)
      obtain ⟨f63, e64⟩ := q_nm (upd lx21 a44.toNatClampNeg a57 : (Nat → Int32))
      rw [e64] at hO29
      exact q_retv C0 V (⟨hI, hF, f63, hO29, (show f63 = (F_Big_giveBack R x2 R2 t0_0 t0_1 t1_0 t2_0 t2_1 t3_0) from Eq.trans (by subst e39; subst e45; subst e48; subst e54; subst e56; subst e58; subst e64; rw [F_Big_giveBack_L11.eq_2, if_pos c36, if_neg c41]) hR32)⟩) d_2_38_97
  ·
    have b65 : q_F (lx19.toInt < t2_0.toInt) := (q_nleI c36)
    refine lv_aload_n hx hb d_2_38_17 rfl (lv_at hl 3 rfl) ?_
    refine lv_iload_n hx hb d_2_38_18 rfl (lv_at hl 4 rfl) ?_
    refine lv_iload hx hb d_2_38_19 (lv_at hl 0 rfl) ?_
    refine lv_iadd hx hb d_2_38_21 ?_
    obtain ⟨a66, e67⟩ := q_nm (x2 + lx19 : Int32)
    refine q_ti (v := a66) e67 ?_
    have b68 : q_F (a66.toInt = x2.toInt + lx19.toInt) := (by rw [← e67]; show (x2 + lx19 : Int32).toInt = x2.toInt + lx19.toInt; exact q_addI (x := x2.toInt) (y := lx19.toInt) rfl rfl (by have t1 : 0 ≤ x2.toInt := pre0; have _ := q_lo32 (x := lx19); have _ := q_hi32 (x := lx19); have t2 : x2.toInt + t2_0.toInt ≤ R.toInt := pre1; have t3 : lx19.toInt ≤ t2_0.toInt := i24; have _ := q_lo32 (x := R); have _ := q_hi32 (x := R); omega) (by have t1 : 0 ≤ x2.toInt := pre0; have _ := q_lo32 (x := lx19); have _ := q_hi32 (x := lx19); have t2 : x2.toInt + t2_0.toInt ≤ R.toInt := pre1; have t3 : lx19.toInt ≤ t2_0.toInt := i24; have _ := q_lo32 (x := R); have _ := q_hi32 (x := R); omega))
    refine q_goi V (q_runV (As := [.int a66]) (rest := []) (d := 1) (mc := 0) (ms := 0) (ci := 2) C0 V rfl LV_Big_49 (X_Big_limb l D g q w27 k1 R hB1 zk1 a66 hI t0_0 t0_1 hO28 lx21 hO29  _) rfl rfl hO28 rfl hl.1 rfl (Nat.le_of_ble_eq_true rfl) ⟨by decide, by decide⟩ ⟨Nat.le_of_ble_eq_true rfl, Nat.le_of_ble_eq_true rfl⟩ d_2_38_22) (fun a71 u69 H locs hp70 V => ?_)
    obtain ⟨rfl, hE72⟩ := hp70
    have e73 : a71 = (F_Big_limb R a66 t0_0 t0_1 lx21) := hE72
    refine lv_aload_n hx hb d_2_38_25 rfl (lv_at hl 5 rfl) ?_
    refine q_get (ci := 2) (j := 0) (v := .ref (q (k3 + 1))) C0 V i_Big rfl rfl hO30 (by decide) w_84 rfl d_2_38_26 ?_
    refine lv_iload hx hb d_2_38_29 (lv_at hl 0 rfl) ?_
    refine q_iald C0 V hO31 (q_ix (x := lx19.toInt) rfl (by have t1 : 0 ≤ lx20.toInt := i22; have t2 : lx20.toInt ≤ lx19.toInt := i25; omega) (by have t1 : 0 ≤ lx20.toInt := i22; have t2 : lx20.toInt ≤ lx19.toInt := i25; have t3 : 0 ≤ t2_0.toInt ∧ t2_0.toInt ≤ R2.toInt := btt2_0; have t4 : lx19.toInt < t2_0.toInt := b65; have e9 := q_clI (i := R2) rfl (by first | with_reducible exact (q_fe hfk30).2 | with_reducible exact (q_fe hfk30).1 | (have t1 : 0 ≤ R2.toInt ∧ R2.toInt ≤ 220 := hfk30; omega)); omega)) d_2_38_31 ?_
    obtain ⟨a74, e75⟩ := q_nm (t3_0 lx19.toNatClampNeg : Int32)
    refine q_ti (v := a74) e75 ?_
    refine lv_iadd hx hb d_2_38_32 ?_
    obtain ⟨a76, e77⟩ := q_nm (a71 + a74 : Int32)
    refine q_ti (v := a76) e77 ?_
    refine lv_iload hx hb d_2_38_33 (lv_at hl 1 rfl) ?_
    refine lv_iadd hx hb d_2_38_35 ?_
    obtain ⟨a78, e79⟩ := q_nm (a76 + lx20 : Int32)
    refine q_ti (v := a78) e79 ?_
    refine lv_istore (lv' := [(6, .int a78), (5, .int lx19), (4, .int lx20), (3, .int t2_0), (0, .ref (q k1)), (1, .int x2), (2, .ref (q k3))]) hx hb d_2_38_36 hl (by decide) rfl (fun ls hl => ?_)
    refine lv_aload_n hx hb d_2_38_38 rfl (lv_at hl 4 rfl) ?_
    refine q_get (ci := 2) (j := 0) (v := .ref (q (k1 + 1))) C0 V i_Big rfl rfl hO28 (by decide) w_84 rfl d_2_38_39 ?_
    refine lv_iload_n hx hb d_2_38_42 rfl (lv_at hl 5 rfl) ?_
    refine lv_iload hx hb d_2_38_43 (lv_at hl 1 rfl) ?_
    refine lv_iadd hx hb d_2_38_45 ?_
    obtain ⟨a80, e81⟩ := q_nm (x2 + lx19 : Int32)
    refine q_ti (v := a80) e81 ?_
    have b82 : q_F (a80.toInt = x2.toInt + lx19.toInt) := (by rw [← e81]; show (x2 + lx19 : Int32).toInt = x2.toInt + lx19.toInt; exact q_addI (x := x2.toInt) (y := lx19.toInt) rfl rfl (by have t1 : a66.toInt = x2.toInt + lx19.toInt := b68; have _ := q_lo32 (x := a66); have _ := q_hi32 (x := a66); have t2 : x2.toInt + t2_0.toInt ≤ R.toInt := pre1; have t3 : lx19.toInt ≤ t2_0.toInt := i24; have _ := q_lo32 (x := R); have _ := q_hi32 (x := R); omega) (by have t1 : a66.toInt = x2.toInt + lx19.toInt := b68; have _ := q_lo32 (x := a66); have _ := q_hi32 (x := a66); have t2 : x2.toInt + t2_0.toInt ≤ R.toInt := pre1; have t3 : lx19.toInt ≤ t2_0.toInt := i24; have _ := q_lo32 (x := R); have _ := q_hi32 (x := R); omega))
    refine lv_iload hx hb d_2_38_46 (lv_at hl 0 rfl) ?_
    refine q_ldc C0 rfl w_809 d_2_38_48 ?_
    refine lv_iand hx hb d_2_38_50 ?_
    obtain ⟨a83, e84⟩ := q_nm (a78 &&& 2147483647 : Int32)
    refine q_ti (v := a83) e84 ?_
    have ne88 := q_df hO29 hO30
    refine q_iast C0 V hO29 (q_ix (x := a80.toInt) rfl (by have t1 : 0 ≤ x2.toInt := pre0; have t2 : 0 ≤ lx20.toInt := i22; have t3 : lx20.toInt ≤ lx19.toInt := i25; have t4 : a80.toInt = x2.toInt + lx19.toInt := b82; omega) (by have t1 : 0 ≤ x2.toInt := pre0; have t2 : 0 ≤ lx20.toInt := i22; have t3 : lx20.toInt ≤ lx19.toInt := i25; have t4 : a80.toInt = x2.toInt + lx19.toInt := b82; have t5 : x2.toInt + t2_0.toInt ≤ R.toInt := pre1; have t6 : lx19.toInt < t2_0.toInt := b65; have e9 := q_clI (i := R) rfl (by first | with_reducible exact (q_fe hfk10).2 | with_reducible exact (q_fe hfk10).1 | (have t1 : 0 ≤ R.toInt ∧ R.toInt ≤ 220 := hfk10; omega)); omega)) d_2_38_51 (fun H locs w86 hu87 hO29 V => ?_)
    replace hI := q_bigA' hI hB1 hu87 hO29 (q_updB (fun _ => s_bnd) s_bnd)
    replace hO28 := (hu87 _ (by omega)).trans hO28
    replace hO30 := (hu87 _ (Ne.symm ne88)).trans hO30
    replace hO31 := (hu87 _ (by have z := ne_k1_k3; omega)).trans hO31
    replace hF := q_us hF hu87 (by simp)
    obtain ⟨f89, e90⟩ := q_nm (upd lx21 a80.toNatClampNeg a83 : (Nat → Int32))
    rw [e90] at hO29
    refine lv_iload hx hb d_2_38_52 (lv_at hl 0 rfl) ?_
    refine lv_bipush (v := 31) hx hb d_2_38_54 (by decide) ?_
    refine lv_iushr hx hb d_2_38_56 rfl ?_
    obtain ⟨a91, e92⟩ := q_nm ((a78.toUInt32 >>> ((31 : Int32).toUInt32 &&& Int32.toUInt32 31)).toInt32 : Int32)
    refine q_ti (v := a91) e92 ?_
    have b93 : q_F (0 ≤ a91.toInt ∧ a91.toInt ≤ 1) := (by rw [← e92]; show 0 ≤ ((a78.toUInt32 >>> ((31 : Int32).toUInt32 &&& Int32.toUInt32 31)).toInt32 : Int32).toInt ∧ ((a78.toUInt32 >>> ((31 : Int32).toUInt32 &&& Int32.toUInt32 31)).toInt32 : Int32).toInt ≤ 1; exact (by have z := s_ushr (x := a78) (c := 31) 31 (by decide) (by decide); omega))
    refine lv_istore (lv' := [(4, .int a91), (6, .int a78), (5, .int lx19), (3, .int t2_0), (0, .ref (q k1)), (1, .int x2), (2, .ref (q k3))]) hx hb d_2_38_57 hl (by decide) rfl (fun ls hl => ?_)
    obtain ⟨a94, e95⟩ := q_nm (lx19 + 1 : Int32)
    have b96 : q_F (a94.toInt = lx19.toInt + 1) := (by rw [← e95]; exact q_addI (y := 1) rfl (by decide) (by have _ := q_lo32 (x := lx19); have _ := q_hi32 (x := lx19); have t1 : lx19.toInt < t2_0.toInt := b65; have _ := q_lo32 (x := t2_0); have _ := q_hi32 (x := t2_0); omega) (by have _ := q_lo32 (x := lx19); have _ := q_hi32 (x := lx19); have t1 : lx19.toInt < t2_0.toInt := b65; have _ := q_lo32 (x := t2_0); have _ := q_hi32 (x := t2_0); omega))
    refine lv_iinc (v := a94) (lv' := [(5, .int a94), (4, .int a91), (6, .int a78), (3, .int t2_0), (0, .ref (q k1)), (1, .int x2), (2, .ref (q k3))]) hx hb d_2_38_59 hl (k := 2) rfl (e95) (by decide) rfl (fun ls hl => ?_)
    refine lv_goto (tgt := 11) hx hb d_2_38_62 (by decide) ?_
    exact ih26 ((a94 : Int32), (a91 : Int32), (f89 : (Nat → Int32))) _ _ _ _ (show (220 - a94.toInt).toNat < (220 - lx19.toInt).toNat from by have t1 : a94.toInt = lx19.toInt + 1 := b96; have t2 : 0 ≤ R2.toInt ∧ R2.toInt ≤ 220 := hfk30; have t3 : 0 ≤ t2_0.toInt ∧ t2_0.toInt ≤ R2.toInt := btt2_0; have t4 : lx19.toInt ≤ t2_0.toInt := i24; have t5 : lx19.toInt < t2_0.toInt := b65; omega) ⟨(show q_F (0 ≤ a91.toInt) from (show 0 ≤ a91.toInt from by have t1 : 0 ≤ a91.toInt ∧ a91.toInt ≤ 1 := b93; omega)), (show q_F (a91.toInt ≤ 1) from (show a91.toInt ≤ 1 from by have t1 : 0 ≤ a91.toInt ∧ a91.toInt ≤ 1 := b93; omega)), (show q_F (a94.toInt ≤ t2_0.toInt) from (show a94.toInt ≤ t2_0.toInt from by have t1 : lx19.toInt < t2_0.toInt := b65; have t2 : a94.toInt = lx19.toInt + 1 := b96; omega)), (show q_F (a91.toInt ≤ a94.toInt) from (show a91.toInt ≤ a94.toInt from by have t1 : 0 ≤ lx20.toInt := i22; have t2 : lx20.toInt ≤ lx19.toInt := i25; have t3 : 0 ≤ a91.toInt ∧ a91.toInt ≤ 1 := b93; have t4 : a94.toInt = lx19.toInt + 1 := b96; omega)), V, q_lw hl (q_lw1 0 rfl (q_lw1 1 rfl (q_lw1 3 rfl (q_lw1 4 rfl (q_lw1 5 rfl (q_lw1 6 rfl q_lw0)))))), hI, hF, hO28, hO29, hO30, hO31, ⟨fm35, Nat.lt_of_lt_of_le (show (220 - a94.toInt).toNat < (220 - lx19.toInt).toNat from by have t1 : a94.toInt = lx19.toInt + 1 := b96; have t2 : 0 ≤ R2.toInt ∧ R2.toInt ≤ 220 := hfk30; have t3 : 0 ≤ t2_0.toInt ∧ t2_0.toInt ≤ R2.toInt := btt2_0; have t4 : lx19.toInt ≤ t2_0.toInt := i24; have t5 : lx19.toInt < t2_0.toInt := b65; omega) (Nat.le_of_lt_succ hf34), (show F_Big_giveBack_L11 R x2 R2 t0_0 t0_1 t1_0 t2_0 t2_1 t3_0 fm35 a94 a91 f89 = (F_Big_giveBack R x2 R2 t0_0 t0_1 t1_0 t2_0 t2_1 t3_0) from Eq.trans (by subst e67; subst e73; subst e75; subst e77; subst e79; subst e81; subst e84; subst e90; subst e92; subst e95; rw [F_Big_giveBack_L11.eq_2, if_neg c36]) hR32)⟩⟩
def F_Big_takeTimes_J143 (K_F_Big_takeTimes_L21 : Int32 → Int64 → (Nat → Int32) → (Int32 × (Nat → Int32))) (R : Int32) (x2 : Int32) (R2 : Int32) (t0_0 : Int32) (t0_1 : Int32) (t1_0 : (Nat → Int32)) (t2_0 : Int32) (t2_1 : Int32) (t3_0 : (Nat → Int32)) (j22 : Int64) (lx27 : Int32) (lx28 : Int64) (lx29 : (Nat → Int32)) (j56 : Int64) (lx61 : (Nat → Int32)) : Int32 × (Nat → Int32) := if (lg_cmp j56 0 : Int32) < (0 : Int32) then ((((j22.toInt32 : Int32) - 1 : Int32), ((F_Big_giveBack R x2 R2 t0_0 t0_1 lx61 t2_0 t2_1 t3_0) : (Nat → Int32)))) else (((j22.toInt32 : Int32), lx61))
def F_Big_takeTimes_J78 (K_F_Big_takeTimes_L21 : Int32 → Int64 → (Nat → Int32) → (Int32 × (Nat → Int32))) (R : Int32) (x2 : Int32) (R2 : Int32) (t0_0 : Int32) (t0_1 : Int32) (t1_0 : (Nat → Int32)) (t2_0 : Int32) (t2_1 : Int32) (t3_0 : (Nat → Int32)) (j22 : Int64) (lx27 : Int32) (lx28 : Int64) (lx29 : (Nat → Int32)) (j133 : Int64) (j136 : Int64) (lx142 : Int32) : Int32 × (Nat → Int32) := K_F_Big_takeTimes_L21 (lx27 + 1 : Int32) (j136 + (lx142.toInt64 : Int64) : Int64) (upd lx29 (x2 + lx27 : Int32).toNatClampNeg ((j133 &&& 2147483647 : Int64).toInt32 : Int32) : (Nat → Int32))
def F_Big_takeTimes_L21 (R : Int32) (x2 : Int32) (R2 : Int32) (t0_0 : Int32) (t0_1 : Int32) (t1_0 : (Nat → Int32)) (t2_0 : Int32) (t2_1 : Int32) (t3_0 : (Nat → Int32)) (j22 : Int64) : Nat → Int32 → Int64 → (Nat → Int32) → (Int32 × (Nat → Int32))
  | 0, _, _, _ => default
  | fm + 1, lx27, lx28, lx29 => if t2_0 ≤ lx27 then (if R ≤ (x2 + t2_0 : Int32) then (F_Big_takeTimes_J143 (F_Big_takeTimes_L21 R x2 R2 t0_0 t0_1 t1_0 t2_0 t2_1 t3_0 j22 fm) R x2 R2 t0_0 t0_1 t1_0 t2_0 t2_1 t3_0 j22 lx27 lx28 lx29 ((((F_Big_limb R (x2 + t2_0 : Int32) t0_0 t0_1 lx29) : Int32).toInt64 : Int64) - lx28 : Int64) lx29) else (F_Big_takeTimes_J143 (F_Big_takeTimes_L21 R x2 R2 t0_0 t0_1 t1_0 t2_0 t2_1 t3_0 j22 fm) R x2 R2 t0_0 t0_1 t1_0 t2_0 t2_1 t3_0 j22 lx27 lx28 lx29 ((((F_Big_limb R (x2 + t2_0 : Int32) t0_0 t0_1 lx29) : Int32).toInt64 : Int64) - lx28 : Int64) (upd lx29 (x2 + t2_0 : Int32).toNatClampNeg ((((((F_Big_limb R (x2 + t2_0 : Int32) t0_0 t0_1 lx29) : Int32).toInt64 : Int64) - lx28 : Int64) &&& 2147483647 : Int64).toInt32 : Int32) : (Nat → Int32)))) else (if (0 : Int32) ≤ (lg_cmp ((((F_Big_limb R (x2 + lx27 : Int32) t0_0 t0_1 lx29) : Int32).toInt64 : Int64) - ((lx28 + (j22 * ((t3_0 lx27.toNatClampNeg : Int32).toInt64 : Int64) : Int64) : Int64) &&& 2147483647 : Int64) : Int64) 0 : Int32) then (F_Big_takeTimes_J78 (F_Big_takeTimes_L21 R x2 R2 t0_0 t0_1 t1_0 t2_0 t2_1 t3_0 j22 fm) R x2 R2 t0_0 t0_1 t1_0 t2_0 t2_1 t3_0 j22 lx27 lx28 lx29 ((((F_Big_limb R (x2 + lx27 : Int32) t0_0 t0_1 lx29) : Int32).toInt64 : Int64) - ((lx28 + (j22 * ((t3_0 lx27.toNatClampNeg : Int32).toInt64 : Int64) : Int64) : Int64) &&& 2147483647 : Int64) : Int64) (((lx28 + (j22 * ((t3_0 lx27.toNatClampNeg : Int32).toInt64 : Int64) : Int64) : Int64).toUInt64 >>> ((31 : Int32).toInt64.toUInt64 &&& Int64.toUInt64 63)).toInt64 : Int64) 0) else (F_Big_takeTimes_J78 (F_Big_takeTimes_L21 R x2 R2 t0_0 t0_1 t1_0 t2_0 t2_1 t3_0 j22 fm) R x2 R2 t0_0 t0_1 t1_0 t2_0 t2_1 t3_0 j22 lx27 lx28 lx29 ((((F_Big_limb R (x2 + lx27 : Int32) t0_0 t0_1 lx29) : Int32).toInt64 : Int64) - ((lx28 + (j22 * ((t3_0 lx27.toNatClampNeg : Int32).toInt64 : Int64) : Int64) : Int64) &&& 2147483647 : Int64) : Int64) (((lx28 + (j22 * ((t3_0 lx27.toNatClampNeg : Int32).toInt64 : Int64) : Int64) : Int64).toUInt64 >>> ((31 : Int32).toInt64.toUInt64 &&& Int64.toUInt64 63)).toInt64 : Int64) 1))
def F_Big_takeTimes (R : Int32) (x2 : Int32) (R2 : Int32) (t0_0 : Int32) (t0_1 : Int32) (t1_0 : (Nat → Int32)) (t2_0 : Int32) (t2_1 : Int32) (t3_0 : (Nat → Int32)) : Int32 × (Nat → Int32) := F_Big_takeTimes_L21 R x2 R2 t0_0 t0_1 t1_0 t2_0 t2_1 t3_0 ((F_Big_guess R (x2 + t2_0 : Int32) R2 t0_0 t0_1 t1_0 t2_0 t2_1 t3_0) : Int64) ((220 - (0 : Int32).toInt).toNat + 1) 0 0 t1_0
set_option maxRecDepth 100000 in
set_option maxHeartbeats 4000000 in
theorem X_Big_takeTimes (l : Launch) (D : va_G) (g : Nat → ClassId) (q : Nat → Nat) (ws : va_W) (k1 : Nat) (R : Int32) (hB1 : q_isBig (nsh g q) g q k1 R) (zk1 : (10 ≤ k1 ∧ k1 ≤ 32) ∨ 66 ≤ k1) (k3 : Nat) (R2 : Int32) (hB3 : q_isBig (nsh g q) g q k3 R2) (zk3 : (10 ≤ k3 ∧ k3 ≤ 32) ∨ 66 ≤ k3) (x2 : Int32) (ne_k1_k3 : k1 ≠ k3) (hI : q_I (nsh g q) q ws) (t0_0 : Int32) (t0_1 : Int32) (hT0 : ws[k1]? = (some (q k1, .inr (2, [.ref (q (k1 + 1)), .int t0_0, .int t0_1])) : Option (Nat × va_E))) (t1_0 : (Nat → Int32)) (hT1 : ws[k1 + 1]? = (some (q (k1 + 1), .inl (g 0, R.toNatClampNeg, .inl t1_0)) : Option (Nat × va_E))) (t2_0 : Int32) (t2_1 : Int32) (hT2 : ws[k3]? = (some (q k3, .inr (2, [.ref (q (k3 + 1)), .int t2_0, .int t2_1])) : Option (Nat × va_E))) (t3_0 : (Nat → Int32)) (hT3 : ws[k3 + 1]? = (some (q (k3 + 1), .inl (g 0, R2.toNatClampNeg, .inl t3_0)) : Option (Nat × va_E))) (pre0 : 0 ≤ x2.toInt) (pre1 : x2.toInt + t2_0.toInt ≤ R.toInt) : q_mI l y_Big_takeTimes prog_2_method_36_code 11 (.int) 3 0 0 D g [.ref (q k1), .int x2, .ref (q k3)] ws (fun r u => q_I (nsh g q) q u ∧ q_un ws u [k1 + 1] ∧ ∃ (u1_0 : (Nat → Int32)), u[k1 + 1]? = (some (q (k1 + 1), .inl (g 0, R.toNatClampNeg, .inl u1_0)) : Option (Nat × va_E)) ∧ (r, u1_0) = (F_Big_takeTimes R x2 R2 t0_0 t0_1 t1_0 t2_0 t2_1 t3_0)) := by
  intro sz
  refine q_into (by decide) (Nat.le_of_ble_eq_true rfl) ?_
  intro p e s m below meth c ls hsz C0 V hl
  have hx := C0.1
  have hb := C0.2.1
  have hfk10 : q_F (0 ≤ R.toInt ∧ R.toInt ≤ 220) := hB1.2.2
  have hfk30 : q_F (0 ≤ R2.toInt ∧ R2.toInt ≤ 220) := hB3.2.2
  have btt0_1 := (q_bigW hI hB1 hT0).2
  clear btt0_1
  have btt2_0 := (q_bigW hI hB3 hT2).1
  replace btt2_0 : q_F (0 ≤ t2_0.toInt ∧ t2_0.toInt ≤ R2.toInt) := btt2_0
  replace pre0 : q_F (0 ≤ x2.toInt) := pre0
  replace pre1 : q_F (x2.toInt + t2_0.toInt ≤ R.toInt) := pre1
  have hF : q_un ws ws [k1 + 1] := q_u0
  have hl : lv_has ls 11 [(0, .ref (q k1)), (1, .int x2), (2, .ref (q k3))] := hl
  refine lv_aload_n hx hb d_2_36_0 rfl (lv_at hl 2 rfl) ?_
  refine q_get (ci := 2) (j := 1) (v := .int t2_0) C0 V i_Big rfl rfl hT2 (by decide) w_85 rfl d_2_36_1 ?_
  refine lv_istore_n (lv' := [(3, .int t2_0), (0, .ref (q k1)), (1, .int x2), (2, .ref (q k3))]) hx hb d_2_36_4 rfl hl (by decide) rfl (fun ls hl => ?_)
  refine lv_aload_n hx hb d_2_36_5 rfl (lv_at hl 1 rfl) ?_
  refine lv_iload_n hx hb d_2_36_6 rfl (lv_at hl 2 rfl) ?_
  refine lv_iload_n hx hb d_2_36_7 rfl (lv_at hl 0 rfl) ?_
  refine lv_iadd hx hb d_2_36_8 ?_
  obtain ⟨a17, e18⟩ := q_nm (x2 + t2_0 : Int32)
  refine q_ti (v := a17) e18 ?_
  refine lv_aload_n hx hb d_2_36_9 rfl (lv_at hl 3 rfl) ?_
  refine q_gol V (q_runV (As := [.int a17, .ref (q k3)]) (rest := []) (d := 2) (mc := 0) (ms := 0) (ci := 2) C0 V rfl LV_Big_136 (X_Big_guess l D g q ws k1 R hB1 zk1 k3 R2 hB3 zk3 a17 hI t0_0 t0_1 hT0 t1_0 hT1 t2_0 t2_1 hT2 t3_0 hT3  _) rfl rfl hT0 rfl hl.1 rfl (Nat.le_of_ble_eq_true rfl) ⟨by decide, by decide⟩ ⟨Nat.le_of_ble_eq_true rfl, Nat.le_of_ble_eq_true rfl⟩ d_2_36_10) (fun j22 u20 H locs hp21 V => ?_)
  obtain ⟨rfl, hE23⟩ := hp21
  have e24 : j22 = (F_Big_guess R a17 R2 t0_0 t0_1 t1_0 t2_0 t2_1 t3_0) := hE23
  refine lv_lstore (lv' := [(4, .long j22), (3, .int t2_0), (0, .ref (q k1)), (1, .int x2), (2, .ref (q k3))]) hx hb d_2_36_13 hl (by decide) rfl (fun ls hl => ?_)
  refine lv_lconst (v := 0) hx hb d_2_36_15 (by decide) ?_
  refine lv_lstore (lv' := [(6, .long 0), (4, .long j22), (3, .int t2_0), (0, .ref (q k1)), (1, .int x2), (2, .ref (q k3))]) hx hb d_2_36_16 hl (by decide) rfl (fun ls hl => ?_)
  refine lv_iconst (v := 0) hx hb d_2_36_18 (by decide) ?_
  refine lv_istore (lv' := [(8, .int 0), (6, .long 0), (4, .long j22), (3, .int t2_0), (0, .ref (q k1)), (1, .int x2), (2, .ref (q k3))]) hx hb d_2_36_19 hl (by decide) rfl (fun ls hl => ?_)
  refine q_loop (X := Int32 × Int64 × (Nat → Int32)) (fun z H locs ls w34 => q_F (0 ≤ z.1.toInt) ∧ q_F (0 ≤ z.2.1.toInt) ∧ q_F (z.1.toInt ≤ t2_0.toInt) ∧ q_Wd D g (va_A ws sz) s w34 H locs ∧ lv_has ls 11 [(8, .int z.1), (6, .long z.2.1), (4, .long j22), (3, .int t2_0), (0, .ref (q k1)), (1, .int x2), (2, .ref (q k3))] ∧ q_I (nsh g q) q w34 ∧ q_un ws w34 [k1 + 1] ∧ w34[k1]? = (some (q k1, .inr (2, [.ref (q (k1 + 1)), .int t0_0, .int t0_1])) : Option (Nat × va_E)) ∧ w34[k1 + 1]? = (some (q (k1 + 1), .inl (g 0, R.toNatClampNeg, .inl z.2.2)) : Option (Nat × va_E)) ∧ w34[k3]? = (some (q k3, .inr (2, [.ref (q (k3 + 1)), .int t2_0, .int t2_1])) : Option (Nat × va_E)) ∧ w34[k3 + 1]? = (some (q (k3 + 1), .inl (g 0, R2.toNatClampNeg, .inl t3_0)) : Option (Nat × va_E)) ∧ (∃ n, (220 - z.1.toInt).toNat < n ∧ F_Big_takeTimes_L21 R x2 R2 t0_0 t0_1 t1_0 t2_0 t2_1 t3_0 j22 n z.1 z.2.1 z.2.2 = (F_Big_takeTimes R x2 R2 t0_0 t0_1 t1_0 t2_0 t2_1 t3_0))) (fun z => (220 - z.1.toInt).toNat) ?_ ((0 : Int32), (0 : Int64), (t1_0 : (Nat → Int32))) _ _ _ ws ⟨(show q_F (0 ≤ 0) from (show 0 ≤ 0 from by omega)), (show q_F (0 ≤ 0) from (show 0 ≤ 0 from by omega)), (show q_F (0 ≤ t2_0.toInt) from (show 0 ≤ t2_0.toInt from by have t1 : 0 ≤ t2_0.toInt ∧ t2_0.toInt ≤ R2.toInt := btt2_0; omega)), V, q_lw hl (q_lw1 0 rfl (q_lw1 1 rfl (q_lw1 2 rfl (q_lw1 3 rfl (q_lw1 4 rfl (q_lw1 5 rfl (q_lw1 6 rfl q_lw0))))))), hI, hF, hT0, hT1, hT2, hT3, ⟨((220 - (0 : Int32).toInt).toNat + 1), Nat.lt_succ_self _, (show F_Big_takeTimes_L21 R x2 R2 t0_0 t0_1 t1_0 t2_0 t2_1 t3_0 j22 ((220 - (0 : Int32).toInt).toNat + 1) 0 0 t1_0 = (F_Big_takeTimes R x2 R2 t0_0 t0_1 t1_0 t2_0 t2_1 t3_0) from (by subst e18; subst e24; rw [F_Big_takeTimes.eq_1]))⟩⟩
  rintro ⟨lx27, lx28, lx29⟩ H locs ls w34 ⟨i30, i31, i32, V, hl, hI, hF, hO35, hO36, hO37, hO38, ⟨fu40, hf41, hR39⟩⟩ ih33
  obtain ⟨fm42, rfl⟩ : ∃ m, fu40 = m + 1 := ⟨fu40 - 1, by omega⟩
  replace i30 : q_F (0 ≤ lx27.toInt) := i30
  clear i31
  replace i32 : q_F (lx27.toInt ≤ t2_0.toInt) := i32
  replace hl : lv_has ls 11 [(8, .int lx27), (6, .long lx28), (4, .long j22), (3, .int t2_0), (0, .ref (q k1)), (1, .int x2), (2, .ref (q k3))] := hl
  replace hO35 : w34[k1]? = (some (q k1, .inr (2, [.ref (q (k1 + 1)), .int t0_0, .int t0_1])) : Option (Nat × va_E)) := hO35
  replace hO36 : w34[k1 + 1]? = (some (q (k1 + 1), .inl (g 0, R.toNatClampNeg, .inl lx29)) : Option (Nat × va_E)) := hO36
  replace hO37 : w34[k3]? = (some (q k3, .inr (2, [.ref (q (k3 + 1)), .int t2_0, .int t2_1])) : Option (Nat × va_E)) := hO37
  replace hO38 : w34[k3 + 1]? = (some (q (k3 + 1), .inl (g 0, R2.toNatClampNeg, .inl t3_0)) : Option (Nat × va_E)) := hO38
  refine lv_iload hx hb d_2_36_21 (lv_at hl 0 rfl) ?_
  refine lv_iload_n hx hb d_2_36_23 rfl (lv_at hl 3 rfl) ?_
  refine lv_icmp_ge (tgt := 104) hx hb d_2_36_24 (by decide) (fun c43 => ?_) (fun c43 => ?_)
  ·
    refine lv_aload_n hx hb d_2_36_104 rfl (lv_at hl 4 rfl) ?_
    refine lv_iload_n hx hb d_2_36_105 rfl (lv_at hl 5 rfl) ?_
    refine lv_iload_n hx hb d_2_36_106 rfl (lv_at hl 3 rfl) ?_
    refine lv_iadd hx hb d_2_36_107 ?_
    obtain ⟨a45, e46⟩ := q_nm (x2 + t2_0 : Int32)
    refine q_ti (v := a45) e46 ?_
    refine q_goi V (q_runV (As := [.int a45]) (rest := []) (d := 1) (mc := 0) (ms := 0) (ci := 2) C0 V rfl LV_Big_49 (X_Big_limb l D g q w34 k1 R hB1 zk1 a45 hI t0_0 t0_1 hO35 lx29 hO36  _) rfl rfl hO35 rfl hl.1 rfl (Nat.le_of_ble_eq_true rfl) ⟨by decide, by decide⟩ ⟨Nat.le_of_ble_eq_true rfl, Nat.le_of_ble_eq_true rfl⟩ d_2_36_108) (fun a50 u48 H locs hp49 V => ?_)
    obtain ⟨rfl, hE51⟩ := hp49
    have e52 : a50 = (F_Big_limb R a45 t0_0 t0_1 lx29) := hE51
    refine lv_i2l hx hb d_2_36_111 rfl ?_
    obtain ⟨j53, e54⟩ := q_nm (a50.toInt64 : Int64)
    refine q_tl (v := j53) e54 ?_
    refine lv_lload hx hb d_2_36_112 (lv_at hl 1 rfl) ?_
    refine lv_lsub hx hb d_2_36_114 ?_
    obtain ⟨j56, e57⟩ := q_nm (j53 - lx28 : Int64)
    refine q_tl (v := j56) e57 ?_
    refine lv_lstore (lv' := [(8, .long j56), (6, .long lx28), (4, .long j22), (3, .int t2_0), (0, .ref (q k1)), (1, .int x2), (2, .ref (q k3))]) hx hb d_2_36_115 hl (by decide) rfl (fun ls hl => ?_)
    refine lv_iload_n hx hb d_2_36_117 rfl (lv_at hl 5 rfl) ?_
    refine lv_iload_n hx hb d_2_36_118 rfl (lv_at hl 3 rfl) ?_
    refine lv_iadd hx hb d_2_36_119 ?_
    obtain ⟨a58, e59⟩ := q_nm (x2 + t2_0 : Int32)
    refine q_ti (v := a58) e59 ?_
    have b60 : q_F (a58.toInt = x2.toInt + t2_0.toInt) := (by rw [← e59]; show (x2 + t2_0 : Int32).toInt = x2.toInt + t2_0.toInt; exact q_addI (x := x2.toInt) (y := t2_0.toInt) rfl rfl (by have t1 : 0 ≤ t2_0.toInt ∧ t2_0.toInt ≤ R2.toInt := btt2_0; have t2 : 0 ≤ x2.toInt := pre0; have t3 : x2.toInt + t2_0.toInt ≤ R.toInt := pre1; have _ := q_lo32 (x := R); have _ := q_hi32 (x := R); omega) (by have t1 : 0 ≤ t2_0.toInt ∧ t2_0.toInt ≤ R2.toInt := btt2_0; have t2 : 0 ≤ x2.toInt := pre0; have t3 : x2.toInt + t2_0.toInt ≤ R.toInt := pre1; have _ := q_lo32 (x := R); have _ := q_hi32 (x := R); omega))
    refine lv_aload_n hx hb d_2_36_120 rfl (lv_at hl 4 rfl) ?_
    refine q_get (ci := 2) (j := 0) (v := .ref (q (k1 + 1))) C0 V i_Big rfl rfl hO35 (by decide) w_84 rfl d_2_36_121 ?_
    refine q_alen (t := 0) (v := R) C0 V hO36 rfl (s_len (by first | with_reducible exact (q_fe hfk10).2 | with_reducible exact (q_fe hfk10).1 | (have t1 : 0 ≤ R.toInt ∧ R.toInt ≤ 220 := hfk10; omega))) d_2_36_124 ?_
    refine q_join (X := (Nat → Int32)) (fun z H locs ls w67 => q_Wd D g (va_A ws sz) s w67 H locs ∧ lv_has ls 11 [(8, .long j56), (4, .long j22), (0, .ref (q k1)), (1, .int x2), (2, .ref (q k3))] ∧ q_I (nsh g q) q w67 ∧ q_un ws w67 [k1 + 1] ∧ w67[k1]? = (some (q k1, .inr (2, [.ref (q (k1 + 1)), .int t0_0, .int t0_1])) : Option (Nat × va_E)) ∧ w67[k1 + 1]? = (some (q (k1 + 1), .inl (g 0, R.toNatClampNeg, .inl z)) : Option (Nat × va_E)) ∧ w67[k3]? = (some (q k3, .inr (2, [.ref (q (k3 + 1)), .int t2_0, .int t2_1])) : Option (Nat × va_E)) ∧ w67[k3 + 1]? = (some (q (k3 + 1), .inl (g 0, R2.toNatClampNeg, .inl t3_0)) : Option (Nat × va_E)) ∧ F_Big_takeTimes_J143 (F_Big_takeTimes_L21 R x2 R2 t0_0 t0_1 t1_0 t2_0 t2_1 t3_0 j22 fm42) R x2 R2 t0_0 t0_1 t1_0 t2_0 t2_1 t3_0 j22 lx27 lx28 lx29 j56 z = (F_Big_takeTimes R x2 R2 t0_0 t0_1 t1_0 t2_0 t2_1 t3_0)) (fun z => []) 143 0 0 ?_ ?_
    ·
      rintro lx61 H locs ls w67 hZ9
      obtain ⟨V, hZ9⟩ := hZ9
      obtain ⟨hl, hZ9⟩ := hZ9
      obtain ⟨hI, hZ9⟩ := hZ9
      obtain ⟨hF, hZ9⟩ := hZ9
      obtain ⟨hO62, hZ9⟩ := hZ9
      obtain ⟨hA63, hZ9⟩ := hZ9
      obtain ⟨hO64, hZ9⟩ := hZ9
      obtain ⟨hA65, hR68⟩ := hZ9
      replace hl : lv_has ls 11 [(8, .long j56), (4, .long j22), (0, .ref (q k1)), (1, .int x2), (2, .ref (q k3))] := hl
      replace hO62 : w67[k1]? = (some (q k1, .inr (2, [.ref (q (k1 + 1)), .int t0_0, .int t0_1])) : Option (Nat × va_E)) := hO62
      replace hA63 : w67[k1 + 1]? = (some (q (k1 + 1), .inl (g 0, R.toNatClampNeg, .inl lx61)) : Option (Nat × va_E)) := hA63
      replace hO64 : w67[k3]? = (some (q k3, .inr (2, [.ref (q (k3 + 1)), .int t2_0, .int t2_1])) : Option (Nat × va_E)) := hO64
      replace hA65 : w67[k3 + 1]? = (some (q (k3 + 1), .inl (g 0, R2.toNatClampNeg, .inl t3_0)) : Option (Nat × va_E)) := hA65
      refine lv_lload hx hb d_2_36_143 (lv_at hl 0 rfl) ?_
      refine lv_lconst (v := 0) hx hb d_2_36_145 (by decide) ?_
      refine W.lcmp hx hb d_2_36_146 ?_
      obtain ⟨a72, e73⟩ := q_nm (lg_cmp j56 0 : Int32)
      refine q_ti (v := a72) e73 ?_
      refine lv_if_lt (tgt := 154) hx hb d_2_36_147 (by decide) (fun c75 => ?_) (fun c75 => ?_)
      ·
        refine lv_aload_n hx hb d_2_36_154 rfl (lv_at hl 2 rfl) ?_
        refine lv_iload_n hx hb d_2_36_155 rfl (lv_at hl 3 rfl) ?_
        refine lv_aload_n hx hb d_2_36_156 rfl (lv_at hl 4 rfl) ?_
        have ne77 := q_df hA63 hO64
        refine q_gov V (q_runV (As := [.int x2, .ref (q k3)]) (rest := []) (d := 2) (mc := 0) (ms := 0) (ci := 2) C0 V rfl LV_Big_140 (X_Big_giveBack l D g q w67 k1 R hB1 zk1 k3 R2 hB3 zk3 x2 (by have z := ne_k1_k3; omega) hI t0_0 t0_1 hO62 lx61 hA63 t2_0 t2_1 hO64 t3_0 hA65 (by first | with_reducible exact q_fe pre0 | (have t1 : 0 ≤ x2.toInt := pre0; omega)) (by first | with_reducible exact q_fe pre1 | (have t1 : x2.toInt + t2_0.toInt ≤ R.toInt := pre1; omega)) _) rfl rfl hO62 rfl hl.1 rfl (Nat.le_of_ble_eq_true rfl) ⟨by decide, by decide⟩ ⟨Nat.le_of_ble_eq_true rfl, Nat.le_of_ble_eq_true rfl⟩ d_2_36_157) (fun u78 H locs hp79 V => ?_)
        obtain ⟨hI, hu83, f80, hA81, hE82⟩ := hp79
        replace hA81 : u78[k1 + 1]? = (some (q (k1 + 1), .inl (g 0, R.toNatClampNeg, .inl f80)) : Option (Nat × va_E)) := hA81
        have e84 : f80 = (F_Big_giveBack R x2 R2 t0_0 t0_1 lx61 t2_0 t2_1 t3_0) := hE82
        replace hF := q_uc hF hu83 (by simp)
        refine lv_lload hx hb d_2_36_160 (lv_at hl 1 rfl) ?_
        refine lv_l2i hx hb d_2_36_162 rfl ?_
        obtain ⟨a85, e86⟩ := q_nm (j22.toInt32 : Int32)
        refine q_ti (v := a85) e86 ?_
        refine lv_iconst (v := 1) hx hb d_2_36_163 (by decide) ?_
        refine lv_isub hx hb d_2_36_164 ?_
        obtain ⟨a87, e88⟩ := q_nm (a85 - 1 : Int32)
        refine q_ti (v := a87) e88 ?_
        exact q_reti C0 V (⟨hI, hF, f80, hA81, (show (a87, f80) = (F_Big_takeTimes R x2 R2 t0_0 t0_1 t1_0 t2_0 t2_1 t3_0) from Eq.trans (by subst e18; subst e24; subst e46; subst e52; subst e54; subst e57; subst e59; subst e73; subst e84; subst e86; subst e88; rw [F_Big_takeTimes_J143.eq_1, if_pos c75]) hR68)⟩) d_2_36_165
      ·
        refine lv_lload hx hb d_2_36_150 (lv_at hl 1 rfl) ?_
        refine lv_l2i hx hb d_2_36_152 rfl ?_
        obtain ⟨a90, e91⟩ := q_nm (j22.toInt32 : Int32)
        refine q_ti (v := a90) e91 ?_
        exact q_reti C0 V (⟨hI, hF, lx61, hA63, (show (a90, lx61) = (F_Big_takeTimes R x2 R2 t0_0 t0_1 t1_0 t2_0 t2_1 t3_0) from Eq.trans (by subst e18; subst e24; subst e46; subst e52; subst e54; subst e57; subst e59; subst e73; subst e91; rw [F_Big_takeTimes_J143.eq_1, if_neg c75]) hR68)⟩) d_2_36_153
    ·
      intro J66
      refine lv_icmp_ge (tgt := 143) hx hb d_2_36_125 (by decide) (fun c92 => ?_) (fun c92 => ?_)
      ·
        exact J66 ((lx29 : (Nat → Int32))) _ _ _ _ ⟨V, q_lw hl (q_lw1 0 rfl (q_lw1 2 rfl (q_lw1 4 rfl (q_lw1 5 rfl (q_lw1 6 rfl q_lw0))))), hI, hF, hO35, hO36, hO37, hO38, (show F_Big_takeTimes_J143 (F_Big_takeTimes_L21 R x2 R2 t0_0 t0_1 t1_0 t2_0 t2_1 t3_0 j22 fm42) R x2 R2 t0_0 t0_1 t1_0 t2_0 t2_1 t3_0 j22 lx27 lx28 lx29 j56 lx29 = (F_Big_takeTimes R x2 R2 t0_0 t0_1 t1_0 t2_0 t2_1 t3_0) from Eq.trans (by subst e18; subst e24; subst e46; subst e52; subst e54; subst e57; subst e59; rw [F_Big_takeTimes_L21.eq_2, if_pos c43, if_pos c92]) hR39)⟩
      ·
        have b94 : q_F (a58.toInt < R.toInt) := (q_nleI c92)
        refine lv_aload_n hx hb d_2_36_128 rfl (lv_at hl 4 rfl) ?_
        refine q_get (ci := 2) (j := 0) (v := .ref (q (k1 + 1))) C0 V i_Big rfl rfl hO35 (by decide) w_84 rfl d_2_36_129 ?_
        refine lv_iload_n hx hb d_2_36_132 rfl (lv_at hl 5 rfl) ?_
        refine lv_iload_n hx hb d_2_36_133 rfl (lv_at hl 3 rfl) ?_
        refine lv_iadd hx hb d_2_36_134 ?_
        obtain ⟨a95, e96⟩ := q_nm (x2 + t2_0 : Int32)
        refine q_ti (v := a95) e96 ?_
        have b97 : q_F (a95.toInt = x2.toInt + t2_0.toInt) := (by rw [← e96]; show (x2 + t2_0 : Int32).toInt = x2.toInt + t2_0.toInt; exact q_addI (x := x2.toInt) (y := t2_0.toInt) rfl rfl (by have t1 : 0 ≤ t2_0.toInt ∧ t2_0.toInt ≤ R2.toInt := btt2_0; have t2 : 0 ≤ x2.toInt := pre0; have t3 : x2.toInt + t2_0.toInt ≤ R.toInt := pre1; have _ := q_lo32 (x := R); have _ := q_hi32 (x := R); omega) (by have t1 : 0 ≤ t2_0.toInt ∧ t2_0.toInt ≤ R2.toInt := btt2_0; have t2 : 0 ≤ x2.toInt := pre0; have t3 : x2.toInt + t2_0.toInt ≤ R.toInt := pre1; have _ := q_lo32 (x := R); have _ := q_hi32 (x := R); omega))
        refine lv_lload hx hb d_2_36_135 (lv_at hl 0 rfl) ?_
        refine q_ldc2 C0 rfl w_201 d_2_36_137 ?_
        refine lv_land hx hb d_2_36_140 ?_
        obtain ⟨j98, e99⟩ := q_nm (j56 &&& 2147483647 : Int64)
        refine q_tl (v := j98) e99 ?_
        refine lv_l2i hx hb d_2_36_141 rfl ?_
        obtain ⟨a101, e102⟩ := q_nm (j98.toInt32 : Int32)
        refine q_ti (v := a101) e102 ?_
        have ne106 := q_df hO36 hO37
        refine q_iast C0 V hO36 (q_ix (x := a95.toInt) rfl (by have t1 : 0 ≤ t2_0.toInt ∧ t2_0.toInt ≤ R2.toInt := btt2_0; have t2 : 0 ≤ x2.toInt := pre0; have t3 : a95.toInt = x2.toInt + t2_0.toInt := b97; omega) (by have t1 : 0 ≤ t2_0.toInt ∧ t2_0.toInt ≤ R2.toInt := btt2_0; have t2 : 0 ≤ x2.toInt := pre0; have t3 : a95.toInt = x2.toInt + t2_0.toInt := b97; have t4 : a58.toInt = x2.toInt + t2_0.toInt := b60; have t5 : a58.toInt < R.toInt := b94; have e9 := q_clI (i := R) rfl (by first | with_reducible exact (q_fe hfk10).2 | with_reducible exact (q_fe hfk10).1 | (have t1 : 0 ≤ R.toInt ∧ R.toInt ≤ 220 := hfk10; omega)); omega)) d_2_36_142 (fun H locs w104 hu105 hO36 V => ?_)
        replace hI := q_bigA' hI hB1 hu105 hO36 (q_updB (fun _ => s_bnd) s_bnd)
        replace hO35 := (hu105 _ (by omega)).trans hO35
        replace hO37 := (hu105 _ (Ne.symm ne106)).trans hO37
        replace hO38 := (hu105 _ (by have z := ne_k1_k3; omega)).trans hO38
        replace hF := q_us hF hu105 (by simp)
        obtain ⟨f107, e108⟩ := q_nm (upd lx29 a95.toNatClampNeg a101 : (Nat → Int32))
        rw [e108] at hO36
        exact J66 ((f107 : (Nat → Int32))) _ _ _ _ ⟨V, q_lw hl (q_lw1 0 rfl (q_lw1 2 rfl (q_lw1 4 rfl (q_lw1 5 rfl (q_lw1 6 rfl q_lw0))))), hI, hF, hO35, hO36, hO37, hO38, (show F_Big_takeTimes_J143 (F_Big_takeTimes_L21 R x2 R2 t0_0 t0_1 t1_0 t2_0 t2_1 t3_0 j22 fm42) R x2 R2 t0_0 t0_1 t1_0 t2_0 t2_1 t3_0 j22 lx27 lx28 lx29 j56 f107 = (F_Big_takeTimes R x2 R2 t0_0 t0_1 t1_0 t2_0 t2_1 t3_0) from Eq.trans (by subst e18; subst e24; subst e46; subst e52; subst e54; subst e57; subst e59; subst e96; subst e99; subst e102; subst e108; rw [F_Big_takeTimes_L21.eq_2, if_pos c43, if_neg c92]) hR39)⟩
  ·
    have b109 : q_F (lx27.toInt < t2_0.toInt) := (q_nleI c43)
    refine lv_lload hx hb d_2_36_27 (lv_at hl 1 rfl) ?_
    refine lv_lload hx hb d_2_36_29 (lv_at hl 2 rfl) ?_
    refine lv_aload_n hx hb d_2_36_31 rfl (lv_at hl 6 rfl) ?_
    refine q_get (ci := 2) (j := 0) (v := .ref (q (k3 + 1))) C0 V i_Big rfl rfl hO37 (by decide) w_84 rfl d_2_36_32 ?_
    refine lv_iload hx hb d_2_36_35 (lv_at hl 0 rfl) ?_
    refine q_iald C0 V hO38 (q_ix (x := lx27.toInt) rfl (by first | with_reducible exact q_fe i30 | (have t1 : 0 ≤ lx27.toInt := i30; omega)) (by have t1 : 0 ≤ lx27.toInt := i30; have t2 : 0 ≤ t2_0.toInt ∧ t2_0.toInt ≤ R2.toInt := btt2_0; have t3 : lx27.toInt < t2_0.toInt := b109; have e9 := q_clI (i := R2) rfl (by first | with_reducible exact (q_fe hfk30).2 | with_reducible exact (q_fe hfk30).1 | (have t1 : 0 ≤ R2.toInt ∧ R2.toInt ≤ 220 := hfk30; omega)); omega)) d_2_36_37 ?_
    obtain ⟨a110, e111⟩ := q_nm (t3_0 lx27.toNatClampNeg : Int32)
    refine q_ti (v := a110) e111 ?_
    refine lv_i2l hx hb d_2_36_38 rfl ?_
    obtain ⟨j112, e113⟩ := q_nm (a110.toInt64 : Int64)
    refine q_tl (v := j112) e113 ?_
    refine lv_lmul hx hb d_2_36_39 ?_
    obtain ⟨j115, e116⟩ := q_nm (j22 * j112 : Int64)
    refine q_tl (v := j115) e116 ?_
    refine lv_ladd hx hb d_2_36_40 ?_
    obtain ⟨j117, e118⟩ := q_nm (lx28 + j115 : Int64)
    refine q_tl (v := j117) e118 ?_
    refine lv_lstore (lv' := [(6, .long j117), (8, .int lx27), (4, .long j22), (3, .int t2_0), (0, .ref (q k1)), (1, .int x2), (2, .ref (q k3))]) hx hb d_2_36_41 hl (by decide) rfl (fun ls hl => ?_)
    refine lv_aload_n hx hb d_2_36_43 rfl (lv_at hl 4 rfl) ?_
    refine lv_iload_n hx hb d_2_36_44 rfl (lv_at hl 5 rfl) ?_
    refine lv_iload hx hb d_2_36_45 (lv_at hl 1 rfl) ?_
    refine lv_iadd hx hb d_2_36_47 ?_
    obtain ⟨a119, e120⟩ := q_nm (x2 + lx27 : Int32)
    refine q_ti (v := a119) e120 ?_
    refine q_goi V (q_runV (As := [.int a119]) (rest := []) (d := 1) (mc := 0) (ms := 0) (ci := 2) C0 V rfl LV_Big_49 (X_Big_limb l D g q w34 k1 R hB1 zk1 a119 hI t0_0 t0_1 hO35 lx29 hO36  _) rfl rfl hO35 rfl hl.1 rfl (Nat.le_of_ble_eq_true rfl) ⟨by decide, by decide⟩ ⟨Nat.le_of_ble_eq_true rfl, Nat.le_of_ble_eq_true rfl⟩ d_2_36_48) (fun a124 u122 H locs hp123 V => ?_)
    obtain ⟨rfl, hE125⟩ := hp123
    have e126 : a124 = (F_Big_limb R a119 t0_0 t0_1 lx29) := hE125
    refine lv_i2l hx hb d_2_36_51 rfl ?_
    obtain ⟨j127, e128⟩ := q_nm (a124.toInt64 : Int64)
    refine q_tl (v := j127) e128 ?_
    refine lv_lload hx hb d_2_36_52 (lv_at hl 0 rfl) ?_
    refine q_ldc2 C0 rfl w_201 d_2_36_54 ?_
    refine lv_land hx hb d_2_36_57 ?_
    obtain ⟨j130, e131⟩ := q_nm (j117 &&& 2147483647 : Int64)
    refine q_tl (v := j130) e131 ?_
    refine lv_lsub hx hb d_2_36_58 ?_
    obtain ⟨j133, e134⟩ := q_nm (j127 - j130 : Int64)
    refine q_tl (v := j133) e134 ?_
    refine lv_lstore (lv' := [(9, .long j133), (6, .long j117), (8, .int lx27), (4, .long j22), (3, .int t2_0), (0, .ref (q k1)), (1, .int x2), (2, .ref (q k3))]) hx hb d_2_36_59 hl (by decide) rfl (fun ls hl => ?_)
    refine lv_lload hx hb d_2_36_61 (lv_at hl 1 rfl) ?_
    refine lv_bipush (v := 31) hx hb d_2_36_63 (by decide) ?_
    refine lv_lushr hx hb d_2_36_65 rfl ?_
    obtain ⟨j136, e137⟩ := q_nm ((j117.toUInt64 >>> ((31 : Int32).toInt64.toUInt64 &&& Int64.toUInt64 63)).toInt64 : Int64)
    refine q_tl (v := j136) e137 ?_
    have b138 : q_F (0 ≤ j136.toInt ∧ j136.toInt ≤ 8589934591) := (by rw [← e137]; show 0 ≤ ((j117.toUInt64 >>> ((31 : Int32).toInt64.toUInt64 &&& Int64.toUInt64 63)).toInt64 : Int64).toInt ∧ ((j117.toUInt64 >>> ((31 : Int32).toInt64.toUInt64 &&& Int64.toUInt64 63)).toInt64 : Int64).toInt ≤ 8589934591; exact (by have z := s_ushrJ (x := j117) (c := 31) 31 (by decide) (by decide); omega))
    refine lv_lload hx hb d_2_36_66 (lv_at hl 0 rfl) ?_
    refine lv_lconst (v := 0) hx hb d_2_36_68 (by decide) ?_
    refine W.lcmp hx hb d_2_36_69 ?_
    obtain ⟨a139, e140⟩ := q_nm (lg_cmp j133 0 : Int32)
    refine q_ti (v := a139) e140 ?_
    refine q_join (X := Int32) (fun z H locs ls _ => q_F (0 ≤ z.toInt) ∧ q_F (z.toInt ≤ 1) ∧ q_Wd D g (va_A ws sz) s w34 H locs ∧ lv_has ls 11 [(9, .long j133), (8, .int lx27), (4, .long j22), (3, .int t2_0), (0, .ref (q k1)), (1, .int x2), (2, .ref (q k3))] ∧ F_Big_takeTimes_J78 (F_Big_takeTimes_L21 R x2 R2 t0_0 t0_1 t1_0 t2_0 t2_1 t3_0 j22 fm42) R x2 R2 t0_0 t0_1 t1_0 t2_0 t2_1 t3_0 j22 lx27 lx28 lx29 j133 j136 z = (F_Big_takeTimes R x2 R2 t0_0 t0_1 t1_0 t2_0 t2_1 t3_0)) (fun z => [.int z, .long j136]) 78 0 0 ?_ ?_
    ·
      rintro lx142 H locs ls _ ⟨i148, i149, V, hl, hR150⟩
      replace i148 : q_F (0 ≤ lx142.toInt) := i148
      clear i149
      replace hl : lv_has ls 11 [(9, .long j133), (8, .int lx27), (4, .long j22), (3, .int t2_0), (0, .ref (q k1)), (1, .int x2), (2, .ref (q k3))] := hl
      refine lv_i2l hx hb d_2_36_78 rfl ?_
      obtain ⟨j154, e155⟩ := q_nm (lx142.toInt64 : Int64)
      refine q_tl (v := j154) e155 ?_
      have b156 : q_F (j154.toInt = lx142.toInt) := (by rw [← e155]; show (lx142.toInt64 : Int64).toInt = lx142.toInt; exact q_i2l rfl)
      refine lv_ladd hx hb d_2_36_79 ?_
      obtain ⟨j157, e158⟩ := q_nm (j136 + j154 : Int64)
      refine q_tl (v := j157) e158 ?_
      have b159 : q_F (j157.toInt = j136.toInt + j154.toInt) := (by rw [← e158]; show (j136 + j154 : Int64).toInt = j136.toInt + j154.toInt; exact q_addL (x := j136.toInt) (y := j154.toInt) rfl rfl (by have t1 : 0 ≤ j136.toInt ∧ j136.toInt ≤ 8589934591 := b138; have _ := Int64.le_toInt j154; have _ := Int64.toInt_lt j154; have t2 : j154.toInt = lx142.toInt := b156; have _ := q_lo32 (x := lx142); have _ := q_hi32 (x := lx142); omega) (by have t1 : 0 ≤ j136.toInt ∧ j136.toInt ≤ 8589934591 := b138; have _ := Int64.le_toInt j154; have _ := Int64.toInt_lt j154; have t2 : j154.toInt = lx142.toInt := b156; have _ := q_lo32 (x := lx142); have _ := q_hi32 (x := lx142); omega))
      refine lv_lstore (lv' := [(6, .long j157), (9, .long j133), (8, .int lx27), (4, .long j22), (3, .int t2_0), (0, .ref (q k1)), (1, .int x2), (2, .ref (q k3))]) hx hb d_2_36_80 hl (by decide) rfl (fun ls hl => ?_)
      refine lv_aload_n hx hb d_2_36_82 rfl (lv_at hl 5 rfl) ?_
      refine q_get (ci := 2) (j := 0) (v := .ref (q (k1 + 1))) C0 V i_Big rfl rfl hO35 (by decide) w_84 rfl d_2_36_83 ?_
      refine lv_iload_n hx hb d_2_36_86 rfl (lv_at hl 6 rfl) ?_
      refine lv_iload hx hb d_2_36_87 (lv_at hl 2 rfl) ?_
      refine lv_iadd hx hb d_2_36_89 ?_
      obtain ⟨a160, e161⟩ := q_nm (x2 + lx27 : Int32)
      refine q_ti (v := a160) e161 ?_
      have b162 : q_F (a160.toInt = x2.toInt + lx27.toInt) := (by rw [← e161]; show (x2 + lx27 : Int32).toInt = x2.toInt + lx27.toInt; exact q_addI (x := x2.toInt) (y := lx27.toInt) rfl rfl (by have t1 : 0 ≤ x2.toInt := pre0; have t2 : 0 ≤ lx27.toInt := i30; have t3 : x2.toInt + t2_0.toInt ≤ R.toInt := pre1; have t4 : lx27.toInt ≤ t2_0.toInt := i32; have _ := q_lo32 (x := R); have _ := q_hi32 (x := R); omega) (by have t1 : 0 ≤ x2.toInt := pre0; have t2 : 0 ≤ lx27.toInt := i30; have t3 : x2.toInt + t2_0.toInt ≤ R.toInt := pre1; have t4 : lx27.toInt ≤ t2_0.toInt := i32; have _ := q_lo32 (x := R); have _ := q_hi32 (x := R); omega))
      refine lv_lload hx hb d_2_36_90 (lv_at hl 1 rfl) ?_
      refine q_ldc2 C0 rfl w_201 d_2_36_92 ?_
      refine lv_land hx hb d_2_36_95 ?_
      obtain ⟨j163, e164⟩ := q_nm (j133 &&& 2147483647 : Int64)
      refine q_tl (v := j163) e164 ?_
      refine lv_l2i hx hb d_2_36_96 rfl ?_
      obtain ⟨a166, e167⟩ := q_nm (j163.toInt32 : Int32)
      refine q_ti (v := a166) e167 ?_
      have ne171 := q_df hO36 hO37
      refine q_iast C0 V hO36 (q_ix (x := a160.toInt) rfl (by have t1 : 0 ≤ x2.toInt := pre0; have t2 : 0 ≤ lx27.toInt := i30; have t3 : a160.toInt = x2.toInt + lx27.toInt := b162; omega) (by have t1 : 0 ≤ x2.toInt := pre0; have t2 : 0 ≤ lx27.toInt := i30; have t3 : a160.toInt = x2.toInt + lx27.toInt := b162; have t4 : x2.toInt + t2_0.toInt ≤ R.toInt := pre1; have t5 : lx27.toInt < t2_0.toInt := b109; have e9 := q_clI (i := R) rfl (by first | with_reducible exact (q_fe hfk10).2 | with_reducible exact (q_fe hfk10).1 | (have t1 : 0 ≤ R.toInt ∧ R.toInt ≤ 220 := hfk10; omega)); omega)) d_2_36_97 (fun H locs w169 hu170 hO36 V => ?_)
      replace hI := q_bigA' hI hB1 hu170 hO36 (q_updB (fun _ => s_bnd) s_bnd)
      replace hO35 := (hu170 _ (by omega)).trans hO35
      replace hO37 := (hu170 _ (Ne.symm ne171)).trans hO37
      replace hO38 := (hu170 _ (by have z := ne_k1_k3; omega)).trans hO38
      replace hF := q_us hF hu170 (by simp)
      obtain ⟨f172, e173⟩ := q_nm (upd lx29 a160.toNatClampNeg a166 : (Nat → Int32))
      rw [e173] at hO36
      obtain ⟨a174, e175⟩ := q_nm (lx27 + 1 : Int32)
      have b176 : q_F (a174.toInt = lx27.toInt + 1) := (by rw [← e175]; exact q_addI (y := 1) rfl (by decide) (by have t1 : 0 ≤ lx27.toInt := i30; have t2 : lx27.toInt < t2_0.toInt := b109; have _ := q_lo32 (x := t2_0); have _ := q_hi32 (x := t2_0); omega) (by have t1 : 0 ≤ lx27.toInt := i30; have t2 : lx27.toInt < t2_0.toInt := b109; have _ := q_lo32 (x := t2_0); have _ := q_hi32 (x := t2_0); omega))
      refine lv_iinc (v := a174) (lv' := [(8, .int a174), (6, .long j157), (9, .long j133), (4, .long j22), (3, .int t2_0), (0, .ref (q k1)), (1, .int x2), (2, .ref (q k3))]) hx hb d_2_36_98 hl (k := 2) rfl (e175) (by decide) rfl (fun ls hl => ?_)
      refine lv_goto (tgt := 21) hx hb d_2_36_101 (by decide) ?_
      exact ih33 ((a174 : Int32), (j157 : Int64), (f172 : (Nat → Int32))) _ _ _ _ (show (220 - a174.toInt).toNat < (220 - lx27.toInt).toNat from by have t1 : a174.toInt = lx27.toInt + 1 := b176; have t2 : 0 ≤ R2.toInt ∧ R2.toInt ≤ 220 := hfk30; have t3 : 0 ≤ t2_0.toInt ∧ t2_0.toInt ≤ R2.toInt := btt2_0; have t4 : lx27.toInt ≤ t2_0.toInt := i32; have t5 : lx27.toInt < t2_0.toInt := b109; omega) ⟨(show q_F (0 ≤ a174.toInt) from (show 0 ≤ a174.toInt from by have t1 : 0 ≤ lx27.toInt := i30; have t2 : a174.toInt = lx27.toInt + 1 := b176; omega)), (show q_F (0 ≤ j157.toInt) from (show 0 ≤ j157.toInt from by have t1 : 0 ≤ j136.toInt ∧ j136.toInt ≤ 8589934591 := b138; have t2 : 0 ≤ lx142.toInt := i148; have t3 : j154.toInt = lx142.toInt := b156; have t4 : j157.toInt = j136.toInt + j154.toInt := b159; omega)), (show q_F (a174.toInt ≤ t2_0.toInt) from (show a174.toInt ≤ t2_0.toInt from by have t1 : lx27.toInt < t2_0.toInt := b109; have t2 : a174.toInt = lx27.toInt + 1 := b176; omega)), V, q_lw hl (q_lw1 0 rfl (q_lw1 1 rfl (q_lw1 3 rfl (q_lw1 4 rfl (q_lw1 5 rfl (q_lw1 6 rfl (q_lw1 7 rfl q_lw0))))))), hI, hF, hO35, hO36, hO37, hO38, ⟨fm42, Nat.lt_of_lt_of_le (show (220 - a174.toInt).toNat < (220 - lx27.toInt).toNat from by have t1 : a174.toInt = lx27.toInt + 1 := b176; have t2 : 0 ≤ R2.toInt ∧ R2.toInt ≤ 220 := hfk30; have t3 : 0 ≤ t2_0.toInt ∧ t2_0.toInt ≤ R2.toInt := btt2_0; have t4 : lx27.toInt ≤ t2_0.toInt := i32; have t5 : lx27.toInt < t2_0.toInt := b109; omega) (Nat.le_of_lt_succ hf41), (show F_Big_takeTimes_L21 R x2 R2 t0_0 t0_1 t1_0 t2_0 t2_1 t3_0 j22 fm42 a174 j157 f172 = (F_Big_takeTimes R x2 R2 t0_0 t0_1 t1_0 t2_0 t2_1 t3_0) from Eq.trans (by subst e18; subst e24; subst e111; subst e113; subst e116; subst e118; subst e120; subst e126; subst e128; subst e131; subst e134; subst e137; subst e140; subst e155; subst e158; subst e161; subst e164; subst e167; subst e173; subst e175; rw [F_Big_takeTimes_J78.eq_1]) hR150)⟩⟩
    ·
      intro J147
      refine lv_if_ge (tgt := 77) hx hb d_2_36_70 (by decide) (fun c177 => ?_) (fun c177 => ?_)
      ·
        refine lv_iconst (v := 0) hx hb d_2_36_77 (by decide) ?_
        exact J147 ((0 : Int32)) _ _ _ w34 ⟨(show q_F (0 ≤ 0) from (show 0 ≤ 0 from by omega)), (show q_F (0 ≤ 1) from (show 0 ≤ 1 from by omega)), V, q_lw hl (q_lw1 0 rfl (q_lw1 2 rfl (q_lw1 3 rfl (q_lw1 4 rfl (q_lw1 5 rfl (q_lw1 6 rfl (q_lw1 7 rfl q_lw0))))))), (show F_Big_takeTimes_J78 (F_Big_takeTimes_L21 R x2 R2 t0_0 t0_1 t1_0 t2_0 t2_1 t3_0 j22 fm42) R x2 R2 t0_0 t0_1 t1_0 t2_0 t2_1 t3_0 j22 lx27 lx28 lx29 j133 j136 0 = (F_Big_takeTimes R x2 R2 t0_0 t0_1 t1_0 t2_0 t2_1 t3_0) from Eq.trans (by subst e18; subst e24; subst e111; subst e113; subst e116; subst e118; subst e120; subst e126; subst e128; subst e131; subst e134; subst e137; subst e140; rw [F_Big_takeTimes_L21.eq_2, if_neg c43, if_pos c177]) hR39)⟩
      ·
        refine lv_iconst (v := 1) hx hb d_2_36_73 (by decide) ?_
        refine lv_goto (tgt := 78) hx hb d_2_36_74 (by decide) ?_
        exact J147 ((1 : Int32)) _ _ _ w34 ⟨(show q_F (0 ≤ 1) from (show 0 ≤ 1 from by omega)), (show q_F (1 ≤ 1) from (show 1 ≤ 1 from by omega)), V, q_lw hl (q_lw1 0 rfl (q_lw1 2 rfl (q_lw1 3 rfl (q_lw1 4 rfl (q_lw1 5 rfl (q_lw1 6 rfl (q_lw1 7 rfl q_lw0))))))), (show F_Big_takeTimes_J78 (F_Big_takeTimes_L21 R x2 R2 t0_0 t0_1 t1_0 t2_0 t2_1 t3_0 j22 fm42) R x2 R2 t0_0 t0_1 t1_0 t2_0 t2_1 t3_0 j22 lx27 lx28 lx29 j133 j136 1 = (F_Big_takeTimes R x2 R2 t0_0 t0_1 t1_0 t2_0 t2_1 t3_0) from Eq.trans (by subst e18; subst e24; subst e111; subst e113; subst e116; subst e118; subst e120; subst e126; subst e128; subst e131; subst e134; subst e137; subst e140; rw [F_Big_takeTimes_L21.eq_2, if_neg c43, if_neg c177]) hR39)⟩
def F_Big_divideByLimb (R : Int32) (x2 : Int32) (R2 : Int32) (t0_0 : Int32) (t0_1 : Int32) (t1_0 : (Nat → Int32)) (t2_0 : Int32) (t2_1 : Int32) (t3_0 : (Nat → Int32)) : Int32 × Int32 × (Nat → Int32) × Int32 × Int32 × (Nat → Int32) := if t0_1 = (0 : Int32) then ((((F_Big_setLong R (((F_Big_divideSmall R2 x2 ((F_Big_copy R2 R t2_0 t2_1 t3_0 t0_0 t0_1 t1_0).1 : Int32) (0 : Int32) ((F_Big_copy R2 R t2_0 t2_1 t3_0 t0_0 t0_1 t1_0).2.2 : (Nat → Int32))).1 : Int32).toInt64 : Int64) t0_0 t0_1 t1_0).1 : Int32), (0 : Int32), ((F_Big_setLong R (((F_Big_divideSmall R2 x2 ((F_Big_copy R2 R t2_0 t2_1 t3_0 t0_0 t0_1 t1_0).1 : Int32) (0 : Int32) ((F_Big_copy R2 R t2_0 t2_1 t3_0 t0_0 t0_1 t1_0).2.2 : (Nat → Int32))).1 : Int32).toInt64 : Int64) t0_0 t0_1 t1_0).2.2 : (Nat → Int32)), ((F_Big_divideSmall R2 x2 ((F_Big_copy R2 R t2_0 t2_1 t3_0 t0_0 t0_1 t1_0).1 : Int32) (0 : Int32) ((F_Big_copy R2 R t2_0 t2_1 t3_0 t0_0 t0_1 t1_0).2.2 : (Nat → Int32))).2.1 : Int32), ((F_Big_divideSmall R2 x2 ((F_Big_copy R2 R t2_0 t2_1 t3_0 t0_0 t0_1 t1_0).1 : Int32) (0 : Int32) ((F_Big_copy R2 R t2_0 t2_1 t3_0 t0_0 t0_1 t1_0).2.2 : (Nat → Int32))).2.2.1 : Int32), ((F_Big_divideSmall R2 x2 ((F_Big_copy R2 R t2_0 t2_1 t3_0 t0_0 t0_1 t1_0).1 : Int32) (0 : Int32) ((F_Big_copy R2 R t2_0 t2_1 t3_0 t0_0 t0_1 t1_0).2.2 : (Nat → Int32))).2.2.2 : (Nat → Int32)))) else (if ((F_Big_divideSmall R2 x2 ((F_Big_copy R2 R t2_0 t2_1 t3_0 t0_0 t0_1 t1_0).1 : Int32) (0 : Int32) ((F_Big_copy R2 R t2_0 t2_1 t3_0 t0_0 t0_1 t1_0).2.2 : (Nat → Int32))).1 : Int32) = (0 : Int32) then ((((F_Big_setLong R (((F_Big_divideSmall R2 x2 ((F_Big_copy R2 R t2_0 t2_1 t3_0 t0_0 t0_1 t1_0).1 : Int32) (0 : Int32) ((F_Big_copy R2 R t2_0 t2_1 t3_0 t0_0 t0_1 t1_0).2.2 : (Nat → Int32))).1 : Int32).toInt64 : Int64) t0_0 t0_1 t1_0).1 : Int32), (0 : Int32), ((F_Big_setLong R (((F_Big_divideSmall R2 x2 ((F_Big_copy R2 R t2_0 t2_1 t3_0 t0_0 t0_1 t1_0).1 : Int32) (0 : Int32) ((F_Big_copy R2 R t2_0 t2_1 t3_0 t0_0 t0_1 t1_0).2.2 : (Nat → Int32))).1 : Int32).toInt64 : Int64) t0_0 t0_1 t1_0).2.2 : (Nat → Int32)), ((F_Big_divideSmall R2 x2 ((F_Big_copy R2 R t2_0 t2_1 t3_0 t0_0 t0_1 t1_0).1 : Int32) (0 : Int32) ((F_Big_copy R2 R t2_0 t2_1 t3_0 t0_0 t0_1 t1_0).2.2 : (Nat → Int32))).2.1 : Int32), ((F_Big_divideSmall R2 x2 ((F_Big_copy R2 R t2_0 t2_1 t3_0 t0_0 t0_1 t1_0).1 : Int32) (0 : Int32) ((F_Big_copy R2 R t2_0 t2_1 t3_0 t0_0 t0_1 t1_0).2.2 : (Nat → Int32))).2.2.1 : Int32), ((F_Big_divideSmall R2 x2 ((F_Big_copy R2 R t2_0 t2_1 t3_0 t0_0 t0_1 t1_0).1 : Int32) (0 : Int32) ((F_Big_copy R2 R t2_0 t2_1 t3_0 t0_0 t0_1 t1_0).2.2 : (Nat → Int32))).2.2.2 : (Nat → Int32)))) else ((((F_Big_setLong R (((F_Big_divideSmall R2 x2 ((F_Big_copy R2 R t2_0 t2_1 t3_0 t0_0 t0_1 t1_0).1 : Int32) (0 : Int32) ((F_Big_copy R2 R t2_0 t2_1 t3_0 t0_0 t0_1 t1_0).2.2 : (Nat → Int32))).1 : Int32).toInt64 : Int64) t0_0 t0_1 t1_0).1 : Int32), (1 : Int32), ((F_Big_setLong R (((F_Big_divideSmall R2 x2 ((F_Big_copy R2 R t2_0 t2_1 t3_0 t0_0 t0_1 t1_0).1 : Int32) (0 : Int32) ((F_Big_copy R2 R t2_0 t2_1 t3_0 t0_0 t0_1 t1_0).2.2 : (Nat → Int32))).1 : Int32).toInt64 : Int64) t0_0 t0_1 t1_0).2.2 : (Nat → Int32)), ((F_Big_divideSmall R2 x2 ((F_Big_copy R2 R t2_0 t2_1 t3_0 t0_0 t0_1 t1_0).1 : Int32) (0 : Int32) ((F_Big_copy R2 R t2_0 t2_1 t3_0 t0_0 t0_1 t1_0).2.2 : (Nat → Int32))).2.1 : Int32), ((F_Big_divideSmall R2 x2 ((F_Big_copy R2 R t2_0 t2_1 t3_0 t0_0 t0_1 t1_0).1 : Int32) (0 : Int32) ((F_Big_copy R2 R t2_0 t2_1 t3_0 t0_0 t0_1 t1_0).2.2 : (Nat → Int32))).2.2.1 : Int32), ((F_Big_divideSmall R2 x2 ((F_Big_copy R2 R t2_0 t2_1 t3_0 t0_0 t0_1 t1_0).1 : Int32) (0 : Int32) ((F_Big_copy R2 R t2_0 t2_1 t3_0 t0_0 t0_1 t1_0).2.2 : (Nat → Int32))).2.2.2 : (Nat → Int32)))))
set_option maxRecDepth 100000 in
set_option maxHeartbeats 4000000 in
theorem X_Big_divideByLimb (l : Launch) (D : va_G) (g : Nat → ClassId) (q : Nat → Nat) (ws : va_W) (k1 : Nat) (R : Int32) (hB1 : q_isBig (nsh g q) g q k1 R) (zk1 : (10 ≤ k1 ∧ k1 ≤ 32) ∨ 66 ≤ k1) (k3 : Nat) (R2 : Int32) (hB3 : q_isBig (nsh g q) g q k3 R2) (zk3 : (10 ≤ k3 ∧ k3 ≤ 32) ∨ 66 ≤ k3) (x2 : Int32) (ne_k1_k3 : k1 ≠ k3) (hI : q_I (nsh g q) q ws) (t0_0 : Int32) (t0_1 : Int32) (hT0 : ws[k1]? = (some (q k1, .inr (2, [.ref (q (k1 + 1)), .int t0_0, .int t0_1])) : Option (Nat × va_E))) (t1_0 : (Nat → Int32)) (hT1 : ws[k1 + 1]? = (some (q (k1 + 1), .inl (g 0, R.toNatClampNeg, .inl t1_0)) : Option (Nat × va_E))) (t2_0 : Int32) (t2_1 : Int32) (hT2 : ws[k3]? = (some (q k3, .inr (2, [.ref (q (k3 + 1)), .int t2_0, .int t2_1])) : Option (Nat × va_E))) (t3_0 : (Nat → Int32)) (hT3 : ws[k3 + 1]? = (some (q (k3 + 1), .inl (g 0, R2.toNatClampNeg, .inl t3_0)) : Option (Nat × va_E))) : q_mV l y_Big_divideByLimb prog_2_method_35_code 5 3 0 0 D g [.ref (q k1), .int x2, .ref (q k3)] ws (fun u => q_I (nsh g q) q u ∧ q_un ws u [k1, k1 + 1, k3, k3 + 1] ∧ ∃ (u0_0 : Int32) (u0_1 : Int32) (u1_0 : (Nat → Int32)) (u2_0 : Int32) (u2_1 : Int32) (u3_0 : (Nat → Int32)), u[k1]? = (some (q k1, .inr (2, [.ref (q (k1 + 1)), .int u0_0, .int u0_1])) : Option (Nat × va_E)) ∧ u[k1 + 1]? = (some (q (k1 + 1), .inl (g 0, R.toNatClampNeg, .inl u1_0)) : Option (Nat × va_E)) ∧ u[k3]? = (some (q k3, .inr (2, [.ref (q (k3 + 1)), .int u2_0, .int u2_1])) : Option (Nat × va_E)) ∧ u[k3 + 1]? = (some (q (k3 + 1), .inl (g 0, R2.toNatClampNeg, .inl u3_0)) : Option (Nat × va_E)) ∧ (0 ≤ u2_1.toInt) ∧ (u2_1.toInt ≤ 0) ∧ (u0_0.toInt ≤ R.toInt) ∧ (u0_1.toInt ≤ t0_1.toInt) ∧ (u2_0.toInt ≤ t0_0.toInt) ∧ (u2_0.toInt ≤ R2.toInt) ∧ (u2_1.toInt ≤ u0_0.toInt) ∧ (u0_0.toInt ≤ u2_1.toInt + 3) ∧ (u2_1.toInt ≤ u0_1.toInt) ∧ (u2_1.toInt ≤ u2_0.toInt) ∧ (u0_0, u0_1, u1_0, u2_0, u2_1, u3_0) = (F_Big_divideByLimb R x2 R2 t0_0 t0_1 t1_0 t2_0 t2_1 t3_0)) := by
  intro sz
  refine q_into (by decide) (Nat.le_of_ble_eq_true rfl) ?_
  intro p e s m below meth c ls hsz C0 V hl
  have hx := C0.1
  have hb := C0.2.1
  have btt0_1 := (q_bigW hI hB1 hT0).2
  replace btt0_1 : q_F (0 ≤ t0_1.toInt ∧ t0_1.toInt ≤ 1) := btt0_1
  have btt2_1 := (q_bigW hI hB3 hT2).2
  clear btt2_1
  have hF : q_un ws ws [k1, k1 + 1, k3, k3 + 1] := q_u0
  have hl : lv_has ls 5 [(0, .ref (q k1)), (1, .int x2), (2, .ref (q k3))] := hl
  refine lv_aload_n hx hb d_2_35_0 rfl (lv_at hl 0 rfl) ?_
  refine q_get (ci := 2) (j := 2) (v := .int t0_1) C0 V i_Big rfl rfl hT0 (by decide) w_94 rfl d_2_35_1 ?_
  refine lv_istore_n (lv' := [(3, .int t0_1), (0, .ref (q k1)), (1, .int x2), (2, .ref (q k3))]) hx hb d_2_35_4 rfl hl (by decide) rfl (fun ls hl => ?_)
  refine lv_aload_n hx hb d_2_35_5 rfl (lv_at hl 3 rfl) ?_
  refine lv_aload_n hx hb d_2_35_6 rfl (lv_at hl 1 rfl) ?_
  have ne17 := q_df hT1 hT2
  have ne18 := q_df hT3 hT0
  refine q_gov V (q_runV (As := [.ref (q k1)]) (rest := []) (d := 2) (mc := 0) (ms := 0) (ci := 2) C0 V rfl LV_Big_129 (X_Big_copy l D g q ws k3 R2 hB3 zk3 k1 R hB1 zk1  (by have z := ne_k1_k3; omega) hI t2_0 t2_1 hT2 t3_0 hT3 t0_0 t0_1 hT0 t1_0 hT1  _) rfl rfl hT2 rfl hl.1 rfl (Nat.le_of_ble_eq_true rfl) ⟨by decide, by decide⟩ ⟨Nat.le_of_ble_eq_true rfl, Nat.le_of_ble_eq_true rfl⟩ d_2_35_7) (fun u19 H locs hp20 V => ?_)
  obtain ⟨hI, hZ9⟩ := hp20
  obtain ⟨hu32, hZ9⟩ := hZ9
  obtain ⟨y22, hZ9⟩ := hZ9
  obtain ⟨y23, hZ9⟩ := hZ9
  obtain ⟨f24, hZ9⟩ := hZ9
  obtain ⟨hO21, hZ9⟩ := hZ9
  obtain ⟨hA25, hZ9⟩ := hZ9
  obtain ⟨b26, hZ9⟩ := hZ9
  obtain ⟨b27, hZ9⟩ := hZ9
  obtain ⟨b28, hZ9⟩ := hZ9
  replace hZ9 := hZ9.2
  obtain ⟨-, hE31⟩ := hZ9
  replace hO21 : u19[k3]? = (some (q k3, .inr (2, [.ref (q (k3 + 1)), .int y22, .int y23])) : Option (Nat × va_E)) := hO21
  replace hA25 : u19[k3 + 1]? = (some (q (k3 + 1), .inl (g 0, R2.toNatClampNeg, .inl f24)) : Option (Nat × va_E)) := hA25
  have e33 : y22 = (F_Big_copy R2 R t2_0 t2_1 t3_0 t0_0 t0_1 t1_0).1 := congrArg (fun z => z.1) hE31
  have e34 : y23 = (F_Big_copy R2 R t2_0 t2_1 t3_0 t0_0 t0_1 t1_0).2.1 := congrArg (fun z => z.2.1) hE31
  have e35 : f24 = (F_Big_copy R2 R t2_0 t2_1 t3_0 t0_0 t0_1 t1_0).2.2 := congrArg (fun z => z.2.2) hE31
  replace b26 : q_F (0 ≤ y22.toInt) := b26
  replace b27 : q_F (y22.toInt ≤ t0_0.toInt) := b27
  replace b28 : q_F (y22.toInt ≤ R2.toInt) := b28
  replace hT0 := (hu32 _ (q_nc (by have z := ne_k1_k3; omega) (q_nc (Ne.symm ne18) List.not_mem_nil))).trans hT0
  replace hT1 := (hu32 _ (q_nc ne17 (q_nc (by have z := ne_k1_k3; omega) List.not_mem_nil))).trans hT1
  replace hF := q_uc hF hu32 (by simp)
  refine lv_aload_n hx hb d_2_35_10 rfl (lv_at hl 3 rfl) ?_
  refine lv_iconst (v := 0) hx hb d_2_35_11 (by decide) ?_
  have ne38 := q_df hT1 hO21
  refine q_put (ci := 2) (j := 2) (v := .int 0) (ty := .boolean) C0 V i_Big o_Big n_Big rfl rfl hO21 (by decide) w_94 rfl rfl rfl rfl (Nat.le_of_ble_eq_true rfl) d_2_35_12 (fun H locs w36 hu37 hO21 V => ?_)
  replace hO21 : w36[k3]? = (some (q k3, .inr (2, [.ref (q (k3 + 1)), .int y22, .int 0])) : Option (Nat × va_E)) := hO21
  replace hI := q_bigO' hI hB3 hu37 hO21 ⟨(by first | with_reducible exact q_fe b26 | (have t1 : 0 ≤ y22.toInt := b26; omega)), (by first | with_reducible exact q_fe b28 | (have t1 : y22.toInt ≤ R2.toInt := b28; omega))⟩ ⟨(by have z9 : (0 : Int32).toInt = 0 := rfl; omega), (by have z9 : (0 : Int32).toInt = 0 := rfl; omega)⟩
  replace hT0 := (hu37 _ (by have z := ne_k1_k3; omega)).trans hT0
  replace hT1 := (hu37 _ ne38).trans hT1
  replace hA25 := (hu37 _ (by omega)).trans hA25
  replace hF := q_us hF hu37 (by simp)
  refine lv_aload_n hx hb d_2_35_15 rfl (lv_at hl 3 rfl) ?_
  refine lv_iload_n hx hb d_2_35_16 rfl (lv_at hl 2 rfl) ?_
  have ne39 := q_df hT1 hO21
  have ne40 := q_df hA25 hT0
  refine q_goi V (q_runV (As := [.int x2]) (rest := []) (d := 2) (mc := 0) (ms := 0) (ci := 2) C0 V rfl LV_Big_105 (X_Big_divideSmall l D g q w36 k3 R2 hB3 zk3 x2 hI y22 0 hO21 f24 hA25  _) rfl rfl hO21 rfl hl.1 rfl (Nat.le_of_ble_eq_true rfl) ⟨by decide, by decide⟩ ⟨Nat.le_of_ble_eq_true rfl, Nat.le_of_ble_eq_true rfl⟩ d_2_35_17) (fun a43 u41 H locs hp42 V => ?_)
  obtain ⟨hI, hZ9⟩ := hp42
  obtain ⟨hu54, hZ9⟩ := hZ9
  obtain ⟨y45, hZ9⟩ := hZ9
  obtain ⟨y46, hZ9⟩ := hZ9
  obtain ⟨f47, hZ9⟩ := hZ9
  obtain ⟨hO44, hZ9⟩ := hZ9
  obtain ⟨hA48, hZ9⟩ := hZ9
  obtain ⟨b49, hZ9⟩ := hZ9
  obtain ⟨b50, hZ9⟩ := hZ9
  obtain ⟨b51, hZ9⟩ := hZ9
  obtain ⟨b52, hE53⟩ := hZ9
  replace hO44 : u41[k3]? = (some (q k3, .inr (2, [.ref (q (k3 + 1)), .int y45, .int y46])) : Option (Nat × va_E)) := hO44
  replace hA48 : u41[k3 + 1]? = (some (q (k3 + 1), .inl (g 0, R2.toNatClampNeg, .inl f47)) : Option (Nat × va_E)) := hA48
  have e55 : a43 = (F_Big_divideSmall R2 x2 y22 (0 : Int32) f24).1 := congrArg (fun z => z.1) hE53
  have e56 : y45 = (F_Big_divideSmall R2 x2 y22 (0 : Int32) f24).2.1 := congrArg (fun z => z.2.1) hE53
  have e57 : y46 = (F_Big_divideSmall R2 x2 y22 (0 : Int32) f24).2.2.1 := congrArg (fun z => z.2.2.1) hE53
  have e58 : f47 = (F_Big_divideSmall R2 x2 y22 (0 : Int32) f24).2.2.2 := congrArg (fun z => z.2.2.2) hE53
  replace b49 : q_F (0 ≤ y46.toInt) := b49
  replace b50 : q_F (y45.toInt ≤ y22.toInt) := b50
  replace b51 : q_F (y46.toInt ≤ 0) := b51
  replace b52 : q_F (y46.toInt ≤ y45.toInt) := b52
  replace hT0 := (hu54 _ (q_nc (by have z := ne_k1_k3; omega) (q_nc (Ne.symm ne40) List.not_mem_nil))).trans hT0
  replace hT1 := (hu54 _ (q_nc ne39 (q_nc (by have z := ne_k1_k3; omega) List.not_mem_nil))).trans hT1
  replace hF := q_uc hF hu54 (by simp)
  refine lv_istore (lv' := [(4, .int a43), (3, .int t0_1), (0, .ref (q k1)), (1, .int x2), (2, .ref (q k3))]) hx hb d_2_35_20 hl (by decide) rfl (fun ls hl => ?_)
  refine lv_aload_n hx hb d_2_35_22 rfl (lv_at hl 2 rfl) ?_
  refine lv_iload hx hb d_2_35_23 (lv_at hl 0 rfl) ?_
  refine lv_i2l hx hb d_2_35_25 rfl ?_
  obtain ⟨j59, e60⟩ := q_nm (a43.toInt64 : Int64)
  refine q_tl (v := j59) e60 ?_
  have ne62 := q_df hA48 hT0
  have ne63 := q_df hT1 hO44
  refine q_gov V (q_runV (As := [.long j59]) (rest := []) (d := 2) (mc := 0) (ms := 0) (ci := 2) C0 V rfl LV_Big_132 (X_Big_setLong l D g q u41 k1 R hB1 zk1 j59 hI t0_0 t0_1 hT0 t1_0 hT1  _) rfl rfl hT0 rfl hl.1 rfl (Nat.le_of_ble_eq_true rfl) ⟨by decide, by decide⟩ ⟨Nat.le_of_ble_eq_true rfl, Nat.le_of_ble_eq_true rfl⟩ d_2_35_26) (fun u64 H locs hp65 V => ?_)
  obtain ⟨hI, hZ9⟩ := hp65
  obtain ⟨hu77, hZ9⟩ := hZ9
  obtain ⟨y67, hZ9⟩ := hZ9
  obtain ⟨y68, hZ9⟩ := hZ9
  obtain ⟨f69, hZ9⟩ := hZ9
  obtain ⟨hO66, hZ9⟩ := hZ9
  obtain ⟨hA70, hZ9⟩ := hZ9
  obtain ⟨b71, hZ9⟩ := hZ9
  obtain ⟨b72, hZ9⟩ := hZ9
  replace hZ9 := hZ9.2.2
  obtain ⟨b75, hE76⟩ := hZ9
  replace hO66 : u64[k1]? = (some (q k1, .inr (2, [.ref (q (k1 + 1)), .int y67, .int y68])) : Option (Nat × va_E)) := hO66
  replace hA70 : u64[k1 + 1]? = (some (q (k1 + 1), .inl (g 0, R.toNatClampNeg, .inl f69)) : Option (Nat × va_E)) := hA70
  have e78 : y67 = (F_Big_setLong R j59 t0_0 t0_1 t1_0).1 := congrArg (fun z => z.1) hE76
  have e79 : y68 = (F_Big_setLong R j59 t0_0 t0_1 t1_0).2.1 := congrArg (fun z => z.2.1) hE76
  have e80 : f69 = (F_Big_setLong R j59 t0_0 t0_1 t1_0).2.2 := congrArg (fun z => z.2.2) hE76
  replace b71 : q_F (0 ≤ y67.toInt) := b71
  replace b72 : q_F (y67.toInt ≤ 3) := b72
  replace b75 : q_F (y67.toInt ≤ R.toInt) := b75
  replace hO44 := (hu77 _ (q_nc (by have z := ne_k1_k3; omega) (q_nc (Ne.symm ne63) List.not_mem_nil))).trans hO44
  replace hA48 := (hu77 _ (q_nc ne62 (q_nc (by have z := ne_k1_k3; omega) List.not_mem_nil))).trans hA48
  replace hF := q_uc hF hu77 (by simp)
  refine lv_aload_n hx hb d_2_35_29 rfl (lv_at hl 2 rfl) ?_
  refine lv_iload_n hx hb d_2_35_30 rfl (lv_at hl 1 rfl) ?_
  refine lv_if_eq (tgt := 43) hx hb d_2_35_31 (by decide) (fun c81 => ?_) (fun c81 => ?_)
  ·
    refine lv_iconst (v := 0) hx hb d_2_35_43 (by decide) ?_
    have ne85 := q_df hA48 hO66
    refine q_put (ci := 2) (j := 2) (v := .int 0) (ty := .boolean) C0 V i_Big o_Big n_Big rfl rfl hO66 (by decide) w_94 rfl rfl rfl rfl (Nat.le_of_ble_eq_true rfl) d_2_35_44 (fun H locs w83 hu84 hO66 V => ?_)
    replace hO66 : w83[k1]? = (some (q k1, .inr (2, [.ref (q (k1 + 1)), .int y67, .int 0])) : Option (Nat × va_E)) := hO66
    replace hI := q_bigO' hI hB1 hu84 hO66 ⟨(by first | with_reducible exact q_fe b71 | (have t1 : 0 ≤ y67.toInt := b71; omega)), (by first | with_reducible exact q_fe b75 | (have t1 : y67.toInt ≤ R.toInt := b75; omega))⟩ ⟨(by have z9 : (0 : Int32).toInt = 0 := rfl; omega), (by have z9 : (0 : Int32).toInt = 0 := rfl; omega)⟩
    replace hA70 := (hu84 _ (by omega)).trans hA70
    replace hO44 := (hu84 _ (by have z := ne_k1_k3; omega)).trans hO44
    replace hA48 := (hu84 _ ne85).trans hA48
    replace hF := q_us hF hu84 (by simp)
    exact q_retv C0 V (⟨hI, hF, y67, 0, f69, y45, y46, f47, hO66, hA70, hO44, hA48, (show 0 ≤ y46.toInt from (by have z10 : (0 : Int32).toInt = 0 := rfl; have t1 : 0 ≤ y46.toInt := b49; omega)), (show y46.toInt ≤ 0 from (by have z10 : (0 : Int32).toInt = 0 := rfl; have t1 : y46.toInt ≤ 0 := b51; omega)), (show y67.toInt ≤ R.toInt from (by have z10 : (0 : Int32).toInt = 0 := rfl; have t1 : y67.toInt ≤ R.toInt := b75; omega)), (show (0 : Int32).toInt ≤ t0_1.toInt from (by have z10 : (0 : Int32).toInt = 0 := rfl; have t1 : 0 ≤ t0_1.toInt ∧ t0_1.toInt ≤ 1 := btt0_1; omega)), (show y45.toInt ≤ t0_0.toInt from (by have z10 : (0 : Int32).toInt = 0 := rfl; have t1 : y22.toInt ≤ t0_0.toInt := b27; have t2 : y45.toInt ≤ y22.toInt := b50; omega)), (show y45.toInt ≤ R2.toInt from (by have z10 : (0 : Int32).toInt = 0 := rfl; have t1 : y22.toInt ≤ R2.toInt := b28; have t2 : y45.toInt ≤ y22.toInt := b50; omega)), (show y46.toInt ≤ y67.toInt from (by have z10 : (0 : Int32).toInt = 0 := rfl; have t1 : y46.toInt ≤ 0 := b51; have t2 : 0 ≤ y67.toInt := b71; omega)), (show y67.toInt ≤ y46.toInt + 3 from (by have z10 : (0 : Int32).toInt = 0 := rfl; have t1 : 0 ≤ y46.toInt := b49; have t2 : y67.toInt ≤ 3 := b72; omega)), (show y46.toInt ≤ (0 : Int32).toInt from (by have z10 : (0 : Int32).toInt = 0 := rfl; have t1 : y46.toInt ≤ 0 := b51; omega)), (show y46.toInt ≤ y45.toInt from (by have z10 : (0 : Int32).toInt = 0 := rfl; have t1 : y46.toInt ≤ y45.toInt := b52; omega)), (show (y67, (0 : Int32), f69, y45, y46, f47) = (F_Big_divideByLimb R x2 R2 t0_0 t0_1 t1_0 t2_0 t2_1 t3_0) from (by subst e33; subst e34; subst e35; subst e55; subst e56; subst e57; subst e58; subst e60; subst e78; subst e79; subst e80; rw [F_Big_divideByLimb.eq_1, if_pos c81]))⟩) d_2_35_47
  ·
    have b86 : q_F (t0_1.toInt ≠ 0) := (q_neI c81)
    refine lv_iload hx hb d_2_35_34 (lv_at hl 0 rfl) ?_
    refine lv_if_eq (tgt := 43) hx hb d_2_35_36 (by decide) (fun c87 => ?_) (fun c87 => ?_)
    ·
      refine lv_iconst (v := 0) hx hb d_2_35_43 (by decide) ?_
      have ne91 := q_df hA48 hO66
      refine q_put (ci := 2) (j := 2) (v := .int 0) (ty := .boolean) C0 V i_Big o_Big n_Big rfl rfl hO66 (by decide) w_94 rfl rfl rfl rfl (Nat.le_of_ble_eq_true rfl) d_2_35_44 (fun H locs w89 hu90 hO66 V => ?_)
      replace hO66 : w89[k1]? = (some (q k1, .inr (2, [.ref (q (k1 + 1)), .int y67, .int 0])) : Option (Nat × va_E)) := hO66
      replace hI := q_bigO' hI hB1 hu90 hO66 ⟨(by first | with_reducible exact q_fe b71 | (have t1 : 0 ≤ y67.toInt := b71; omega)), (by first | with_reducible exact q_fe b75 | (have t1 : y67.toInt ≤ R.toInt := b75; omega))⟩ ⟨(by have z9 : (0 : Int32).toInt = 0 := rfl; omega), (by have z9 : (0 : Int32).toInt = 0 := rfl; omega)⟩
      replace hA70 := (hu90 _ (by omega)).trans hA70
      replace hO44 := (hu90 _ (by have z := ne_k1_k3; omega)).trans hO44
      replace hA48 := (hu90 _ ne91).trans hA48
      replace hF := q_us hF hu90 (by simp)
      exact q_retv C0 V (⟨hI, hF, y67, 0, f69, y45, y46, f47, hO66, hA70, hO44, hA48, (show 0 ≤ y46.toInt from (by have z10 : (0 : Int32).toInt = 0 := rfl; have t1 : 0 ≤ y46.toInt := b49; omega)), (show y46.toInt ≤ 0 from (by have z10 : (0 : Int32).toInt = 0 := rfl; have t1 : y46.toInt ≤ 0 := b51; omega)), (show y67.toInt ≤ R.toInt from (by have z10 : (0 : Int32).toInt = 0 := rfl; have t1 : y67.toInt ≤ R.toInt := b75; omega)), (show (0 : Int32).toInt ≤ t0_1.toInt from (by have z10 : (0 : Int32).toInt = 0 := rfl; have t1 : 0 ≤ t0_1.toInt ∧ t0_1.toInt ≤ 1 := btt0_1; omega)), (show y45.toInt ≤ t0_0.toInt from (by have z10 : (0 : Int32).toInt = 0 := rfl; have t1 : y22.toInt ≤ t0_0.toInt := b27; have t2 : y45.toInt ≤ y22.toInt := b50; omega)), (show y45.toInt ≤ R2.toInt from (by have z10 : (0 : Int32).toInt = 0 := rfl; have t1 : y22.toInt ≤ R2.toInt := b28; have t2 : y45.toInt ≤ y22.toInt := b50; omega)), (show y46.toInt ≤ y67.toInt from (by have z10 : (0 : Int32).toInt = 0 := rfl; have t1 : y46.toInt ≤ 0 := b51; have t2 : 0 ≤ y67.toInt := b71; omega)), (show y67.toInt ≤ y46.toInt + 3 from (by have z10 : (0 : Int32).toInt = 0 := rfl; have t1 : 0 ≤ y46.toInt := b49; have t2 : y67.toInt ≤ 3 := b72; omega)), (show y46.toInt ≤ (0 : Int32).toInt from (by have z10 : (0 : Int32).toInt = 0 := rfl; have t1 : y46.toInt ≤ 0 := b51; omega)), (show y46.toInt ≤ y45.toInt from (by have z10 : (0 : Int32).toInt = 0 := rfl; have t1 : y46.toInt ≤ y45.toInt := b52; omega)), (show (y67, (0 : Int32), f69, y45, y46, f47) = (F_Big_divideByLimb R x2 R2 t0_0 t0_1 t1_0 t2_0 t2_1 t3_0) from (by subst e33; subst e34; subst e35; subst e55; subst e56; subst e57; subst e58; subst e60; subst e78; subst e79; subst e80; rw [F_Big_divideByLimb.eq_1, if_neg c81, if_pos c87]))⟩) d_2_35_47
    ·
      refine lv_iconst (v := 1) hx hb d_2_35_39 (by decide) ?_
      refine lv_goto (tgt := 44) hx hb d_2_35_40 (by decide) ?_
      have ne95 := q_df hA48 hO66
      refine q_put (ci := 2) (j := 2) (v := .int 1) (ty := .boolean) C0 V i_Big o_Big n_Big rfl rfl hO66 (by decide) w_94 rfl rfl rfl rfl (Nat.le_of_ble_eq_true rfl) d_2_35_44 (fun H locs w93 hu94 hO66 V => ?_)
      replace hO66 : w93[k1]? = (some (q k1, .inr (2, [.ref (q (k1 + 1)), .int y67, .int 1])) : Option (Nat × va_E)) := hO66
      replace hI := q_bigO' hI hB1 hu94 hO66 ⟨(by first | with_reducible exact q_fe b71 | (have t1 : 0 ≤ y67.toInt := b71; omega)), (by first | with_reducible exact q_fe b75 | (have t1 : y67.toInt ≤ R.toInt := b75; omega))⟩ ⟨(by have z9 : (1 : Int32).toInt = 1 := rfl; omega), (by have z9 : (1 : Int32).toInt = 1 := rfl; omega)⟩
      replace hA70 := (hu94 _ (by omega)).trans hA70
      replace hO44 := (hu94 _ (by have z := ne_k1_k3; omega)).trans hO44
      replace hA48 := (hu94 _ ne95).trans hA48
      replace hF := q_us hF hu94 (by simp)
      exact q_retv C0 V (⟨hI, hF, y67, 1, f69, y45, y46, f47, hO66, hA70, hO44, hA48, (show 0 ≤ y46.toInt from (by have z10 : (1 : Int32).toInt = 1 := rfl; have t1 : 0 ≤ y46.toInt := b49; omega)), (show y46.toInt ≤ 0 from (by have z10 : (1 : Int32).toInt = 1 := rfl; have t1 : y46.toInt ≤ 0 := b51; omega)), (show y67.toInt ≤ R.toInt from (by have z10 : (1 : Int32).toInt = 1 := rfl; have t1 : y67.toInt ≤ R.toInt := b75; omega)), (show (1 : Int32).toInt ≤ t0_1.toInt from (by have z10 : (1 : Int32).toInt = 1 := rfl; have t1 : 0 ≤ t0_1.toInt ∧ t0_1.toInt ≤ 1 := btt0_1; have t2 : t0_1.toInt ≠ 0 := b86; omega)), (show y45.toInt ≤ t0_0.toInt from (by have z10 : (1 : Int32).toInt = 1 := rfl; have t1 : y22.toInt ≤ t0_0.toInt := b27; have t2 : y45.toInt ≤ y22.toInt := b50; omega)), (show y45.toInt ≤ R2.toInt from (by have z10 : (1 : Int32).toInt = 1 := rfl; have t1 : y22.toInt ≤ R2.toInt := b28; have t2 : y45.toInt ≤ y22.toInt := b50; omega)), (show y46.toInt ≤ y67.toInt from (by have z10 : (1 : Int32).toInt = 1 := rfl; have t1 : y46.toInt ≤ 0 := b51; have t2 : 0 ≤ y67.toInt := b71; omega)), (show y67.toInt ≤ y46.toInt + 3 from (by have z10 : (1 : Int32).toInt = 1 := rfl; have t1 : 0 ≤ y46.toInt := b49; have t2 : y67.toInt ≤ 3 := b72; omega)), (show y46.toInt ≤ (1 : Int32).toInt from (by have z10 : (1 : Int32).toInt = 1 := rfl; have t1 : y46.toInt ≤ 0 := b51; omega)), (show y46.toInt ≤ y45.toInt from (by have z10 : (1 : Int32).toInt = 1 := rfl; have t1 : y46.toInt ≤ y45.toInt := b52; omega)), (show (y67, (1 : Int32), f69, y45, y46, f47) = (F_Big_divideByLimb R x2 R2 t0_0 t0_1 t1_0 t2_0 t2_1 t3_0) from (by subst e33; subst e34; subst e35; subst e55; subst e56; subst e57; subst e58; subst e60; subst e78; subst e79; subst e80; rw [F_Big_divideByLimb.eq_1, if_neg c81, if_neg c87]))⟩) d_2_35_47
