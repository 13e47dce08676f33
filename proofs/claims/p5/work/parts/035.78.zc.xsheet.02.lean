def F_jStr_length_25 : Int32 := (7 : Int32)
set_option maxRecDepth 100000 in
set_option maxHeartbeats 4000000 in
theorem X_jStr_length_25 (l : Launch) (D : va_G) (g : Nat → ClassId) (q : Nat → Nat) (ws : va_W) (hI : q_I (nsh g q) q ws) : q_mI l y_jStr_length prog_31_method_54_code 1 (.int) 2 0 0 D g [.ref (g (8 + 2 * 25))] ws (fun r u => ws = u ∧ (7 ≤ r.toInt) ∧ (r.toInt ≤ 7) ∧ r = (F_jStr_length_25)) := by
  intro sz
  refine q_into (by decide) (Nat.le_of_ble_eq_true rfl) ?_
  intro p e s m below meth c ls hsz C0 V hl
  have hx := C0.1
  have hb := C0.2.1
  have hl : lv_has ls 1 [(0, .ref (g (8 + 2 * 25)))] := hl
  refine lv_aload_n hx hb d_31_54_0 rfl (lv_at hl 0 rfl) ?_
  refine q_sval (i := 25) C0 V rfl rfl w_1018 d_31_54_1 ?_
  refine q_slen (i := 25) (v := 7) C0 V rfl (by decide) d_31_54_4 ?_
  refine lv_aload_n hx hb d_31_54_5 rfl (lv_at hl 0 rfl) ?_
  refine q_goi V (q_runVs (As := []) (rest := [.int 7]) (d := 1) (mc := 0) (ms := 0) (i := 25) C0 V rfl LV_jStr_335 (T_jStr_coder_25 l D g q ws   hI   _) rfl rfl rfl hl.1 rfl (Nat.le_of_ble_eq_true rfl) ⟨by decide, by decide⟩ ⟨Nat.le_of_ble_eq_true rfl, Nat.le_of_ble_eq_true rfl⟩ d_31_54_6) (fun a3 u1 H locs hp2 V => ?_)
  obtain ⟨rfl, b4, b5⟩ := hp2
  replace b4 : q_F (0 ≤ a3.toInt) := b4
  replace b5 : q_F (a3.toInt ≤ 0) := b5
  obtain rfl : a3 = (0 : Int32) := q_Ieq (x := a3.toInt) (y := 0) rfl (by decide) (by have t1 : 0 ≤ a3.toInt := b4; have t2 : a3.toInt ≤ 0 := b5; omega)
  refine lv_ishr hx hb d_31_54_9 ?_
  refine q_ti (v := 7) (by decide) ?_
  exact q_reti C0 V (⟨rfl, (show 7 ≤ (7 : Int32).toInt from (by have z0 : (7 : Int32).toInt = 7 := rfl; omega)), (show (7 : Int32).toInt ≤ 7 from (by have z0 : (7 : Int32).toInt = 7 := rfl; omega)), (show (7 : Int32) = (F_jStr_length_25) from (by rw [F_jStr_length_25.eq_1]))⟩) d_31_54_10
def F_jLat_charAt_25 (x2 : Int32) : Int32 := (((((([48, 120, 48, 46, 48, 112, 48] : List Int32).getD x2.toNatClampNeg 0) : Int32) &&& 255 : Int32).toUInt32 % 65536).toInt32 : Int32)
set_option maxRecDepth 100000 in
set_option maxHeartbeats 4000000 in
theorem X_jLat_charAt_25 (l : Launch) (D : va_G) (g : Nat → ClassId) (q : Nat → Nat) (ws : va_W) (x2 : Int32) (hI : q_I (nsh g q) q ws) (pre0 : 0 ≤ x2.toInt) (pre1 : x2.toInt ≤ 6) : q_mI l y_jLat_charAt prog_33_method_2_code 2 (.char) 3 0 0 D g [.ref (g (9 + 2 * 25)), .int x2] ws (fun r u => ws = u ∧ (0 ≤ r.toInt) ∧ (r.toInt ≤ 255) ∧ r = (F_jLat_charAt_25 x2)) := by
  intro sz
  refine q_into (by decide) (Nat.le_of_ble_eq_true rfl) ?_
  intro p e s m below meth c ls hsz C0 V hl
  have hx := C0.1
  have hb := C0.2.1
  replace pre0 : q_F (0 ≤ x2.toInt) := pre0
  replace pre1 : q_F (x2.toInt ≤ 6) := pre1
  have hl : lv_has ls 2 [(0, .ref (g (9 + 2 * 25))), (1, .int x2)] := hl
  refine lv_iload_n hx hb d_33_2_0 rfl (lv_at hl 1 rfl) ?_
  refine lv_aload_n hx hb d_33_2_1 rfl (lv_at hl 0 rfl) ?_
  refine q_slen (i := 25) (v := 7) C0 V rfl (by decide) d_33_2_2 ?_
  refine q_gov V (q_runS (As := [.int x2, .int 7]) (rest := []) (d := 2) (mc := 0) (ms := 0) C0 V rfl LS_jLat_9 (T_jStr_checkIndex l D g q ws  x2 7 hI  (by have y0 : (7 : Int32).toInt = 7 := rfl; have t1 : 0 ≤ x2.toInt := pre0; omega) (by have y0 : (7 : Int32).toInt = 7 := rfl; have t1 : x2.toInt ≤ 6 := pre1; omega) _) rfl hl.1 rfl (Nat.le_of_ble_eq_true rfl) ⟨by decide, by decide⟩ ⟨Nat.le_of_ble_eq_true rfl, Nat.le_of_ble_eq_true rfl⟩ d_33_2_3) (fun u1 H locs hp2 V => ?_)
  obtain ⟨rfl, -⟩ := hp2
  refine lv_aload_n hx hb d_33_2_6 rfl (lv_at hl 0 rfl) ?_
  refine lv_iload_n hx hb d_33_2_7 rfl (lv_at hl 1 rfl) ?_
  refine q_sbal (i := 25) (v := (([48, 120, 48, 46, 48, 112, 48] : List Int32).getD x2.toNatClampNeg 0)) C0 V rfl (show vp_in x2 7 from q_ix (x := x2.toInt) rfl (by first | with_reducible exact q_fe pre0 | (have t1 : 0 ≤ x2.toInt := pre0; omega)) (by have t1 : 0 ≤ x2.toInt := pre0; have t2 : x2.toInt ≤ 6 := pre1; omega)) rfl d_33_2_8 ?_
  obtain ⟨a4, e5⟩ := q_nm ((([48, 120, 48, 46, 48, 112, 48] : List Int32).getD x2.toNatClampNeg 0) : Int32)
  refine q_ti (v := a4) e5 ?_
  refine lv_sipush (v := 255) hx hb d_33_2_9 (by decide) ?_
  refine lv_iand hx hb d_33_2_12 ?_
  obtain ⟨a6, e7⟩ := q_nm (a4 &&& 255 : Int32)
  refine q_ti (v := a6) e7 ?_
  have b8 : q_F (0 ≤ a6.toInt ∧ a6.toInt ≤ 255) := (by rw [← e7]; show 0 ≤ (a4 &&& 255 : Int32).toInt ∧ (a4 &&& 255 : Int32).toInt ≤ 255; exact s_and (by decide))
  refine lv_i2c hx hb d_33_2_13 rfl ?_
  obtain ⟨a9, e10⟩ := q_nm ((a6.toUInt32 % 65536).toInt32 : Int32)
  refine q_ti (v := a9) e10 ?_
  have b11 : q_F (a9.toInt = a6.toInt) := (by rw [← e10]; show ((a6.toUInt32 % 65536).toInt32 : Int32).toInt = a6.toInt; exact (n_i2c (x := a6)).2.2 (by first | with_reducible exact (q_fe b8).2 | with_reducible exact (q_fe b8).1 | (have t1 : 0 ≤ a6.toInt ∧ a6.toInt ≤ 255 := b8; omega)) (by first | with_reducible exact (q_fe b8).2 | with_reducible exact (q_fe b8).1 | (have t1 : 0 ≤ a6.toInt ∧ a6.toInt ≤ 255 := b8; omega)))
  exact q_retn C0 V (n_chr (by have t1 : 0 ≤ a6.toInt ∧ a6.toInt ≤ 255 := b8; have t2 : a9.toInt = a6.toInt := b11; omega) (by have t1 : 0 ≤ a6.toInt ∧ a6.toInt ≤ 255 := b8; have t2 : a9.toInt = a6.toInt := b11; omega)) (⟨rfl, (show 0 ≤ a9.toInt from (by have t1 : 0 ≤ a6.toInt ∧ a6.toInt ≤ 255 := b8; have t2 : a9.toInt = a6.toInt := b11; omega)), (show a9.toInt ≤ 255 from (by have t1 : 0 ≤ a6.toInt ∧ a6.toInt ≤ 255 := b8; have t2 : a9.toInt = a6.toInt := b11; omega)), (show a9 = (F_jLat_charAt_25 x2) from (by rw [← e10, ← e7, ← e5, F_jLat_charAt_25.eq_1]))⟩) d_33_2_14
def F_jStr_charAt_25 (x2 : Int32) : Int32 := ((F_jLat_charAt_25 x2) : Int32)
set_option maxRecDepth 100000 in
set_option maxHeartbeats 4000000 in
theorem X_jStr_charAt_25 (l : Launch) (D : va_G) (g : Nat → ClassId) (q : Nat → Nat) (ws : va_W) (x2 : Int32) (hI : q_I (nsh g q) q ws) (pre0 : 0 ≤ x2.toInt) (pre1 : x2.toInt ≤ 6) : q_mI l y_jStr_charAt prog_31_method_56_code 2 (.char) 4 0 0 D g [.ref (g (8 + 2 * 25)), .int x2] ws (fun r u => ws = u ∧ (0 ≤ r.toInt) ∧ (r.toInt ≤ 255) ∧ r = (F_jStr_charAt_25 x2)) := by
  intro sz
  refine q_into (by decide) (Nat.le_of_ble_eq_true rfl) ?_
  intro p e s m below meth c ls hsz C0 V hl
  have hx := C0.1
  have hb := C0.2.1
  replace pre0 : q_F (0 ≤ x2.toInt) := pre0
  replace pre1 : q_F (x2.toInt ≤ 6) := pre1
  have hl : lv_has ls 2 [(0, .ref (g (8 + 2 * 25))), (1, .int x2)] := hl
  refine lv_aload_n hx hb d_31_56_0 rfl (lv_at hl 0 rfl) ?_
  refine q_goi V (q_runVs (As := []) (rest := []) (d := 1) (mc := 0) (ms := 0) (i := 25) C0 V rfl LV_jStr_492 (T_jStr_isLatin1_25 l D g q ws   hI   _) rfl rfl rfl hl.1 rfl (Nat.le_of_ble_eq_true rfl) ⟨by decide, by decide⟩ ⟨Nat.le_of_ble_eq_true rfl, Nat.le_of_ble_eq_true rfl⟩ d_31_56_1) (fun a3 u1 H locs hp2 V => ?_)
  obtain ⟨rfl, b4, b5⟩ := hp2
  replace b4 : q_F (1 ≤ a3.toInt) := b4
  replace b5 : q_F (a3.toInt ≤ 1) := b5
  obtain rfl : a3 = (1 : Int32) := q_Ieq (x := a3.toInt) (y := 1) rfl (by decide) (by have t1 : 1 ≤ a3.toInt := b4; have t2 : a3.toInt ≤ 1 := b5; omega)
  refine lv_if_eq (tgt := 16) hx hb d_31_56_4 (by decide) (fun c7 => absurd c7 (by decide)) (fun c7 => ?_)
  refine lv_aload_n hx hb d_31_56_7 rfl (lv_at hl 0 rfl) ?_
  refine q_sval (i := 25) C0 V rfl rfl w_1018 d_31_56_8 ?_
  refine lv_iload_n hx hb d_31_56_11 rfl (lv_at hl 1 rfl) ?_
  refine q_goi V (q_runS (As := [.ref (g (9 + 2 * 25)), .int x2]) (rest := []) (d := 3) (mc := 0) (ms := 0) C0 V rfl LS_jStr_495 (X_jLat_charAt_25 l D g q ws  x2 hI  (by first | with_reducible exact q_fe pre0 | (have t1 : 0 ≤ x2.toInt := pre0; omega)) (by first | with_reducible exact q_fe pre1 | (have t1 : x2.toInt ≤ 6 := pre1; omega)) _) rfl hl.1 rfl (Nat.le_of_ble_eq_true rfl) ⟨by decide, by decide⟩ ⟨Nat.le_of_ble_eq_true rfl, Nat.le_of_ble_eq_true rfl⟩ d_31_56_12) (fun a10 u8 H locs hp9 V => ?_)
  obtain ⟨rfl, b11, b12, hE13⟩ := hp9
  have e14 : a10 = (F_jLat_charAt_25 x2) := hE13
  replace b11 : q_F (0 ≤ a10.toInt) := b11
  replace b12 : q_F (a10.toInt ≤ 255) := b12
  exact q_retn C0 V (n_chr (by first | with_reducible exact q_fe b11 | (have t1 : 0 ≤ a10.toInt := b11; omega)) (by first | with_reducible exact q_fe b12 | (have t1 : a10.toInt ≤ 255 := b12; omega))) (⟨rfl, (show 0 ≤ a10.toInt from (by first | with_reducible exact q_fe b11 | (have t1 : 0 ≤ a10.toInt := b11; omega))), (show a10.toInt ≤ 255 from (by first | with_reducible exact q_fe b12 | (have t1 : a10.toInt ≤ 255 := b12; omega))), (show a10 = (F_jStr_charAt_25 x2) from (by rw [e14, F_jStr_charAt_25.eq_1]))⟩) d_31_56_15
def F_She_addText_25_c16 (K_F_She_addText_25_L2 : Int32 → Int32 → (Nat → Int64) → (Int32 × (Nat → Int64))) (R : Int32) (N : Int32) (K : Int32) (t0_0 : Int32) (t1_0 : (Nat → Int64)) (lx7 : Int32) (lx8 : Int32) (lx9 : (Nat → Int64)) (p50 : (Int32 × (Nat → Int64))) : Int32 × (Nat → Int64) := K_F_She_addText_25_L2 (lx7 + 1 : Int32) (p50.1 : Int32) (p50.2 : (Nat → Int64))
def F_She_addText_25_L2 (R : Int32) (N : Int32) (K : Int32) (t0_0 : Int32) (t1_0 : (Nat → Int64)) : Nat → Int32 → Int32 → (Nat → Int64) → (Int32 × (Nat → Int64))
  | 0, _, _, _ => default
  | fm + 1, lx7, lx8, lx9 => if (7 : Int32) ≤ lx7 then ((lx8, lx9)) else (F_She_addText_25_c16 (F_She_addText_25_L2 R N K t0_0 t1_0 fm) R N K t0_0 t1_0 lx7 lx8 lx9 ((F_She_add_p R N K ((F_jStr_charAt_25 lx7) : Int32) lx8 lx9) : (Int32 × (Nat → Int64))))
def F_She_addText_25 (R : Int32) (N : Int32) (K : Int32) (t0_0 : Int32) (t1_0 : (Nat → Int64)) : Int32 × (Nat → Int64) := F_She_addText_25_L2 R N K t0_0 t1_0 ((7 - (0 : Int32).toInt).toNat + 1) 0 t0_0 t1_0
set_option maxRecDepth 100000 in
set_option maxHeartbeats 4000000 in
theorem X_She_addText_25 (l : Launch) (D : va_G) (g : Nat → ClassId) (q : Nat → Nat) (ws : va_W) (k1 : Nat) (R N K : Int32) (hB1 : q_isShe (nsh g q) g q k1 R N K) (hI : q_I (nsh g q) q ws) (t0_0 : Int32) (hT0 : ws[k1]? = (some (q k1, .inr (1, [.ref (q (k1 + 1)), .int R, .int t0_0])) : Option (Nat × va_E))) (t1_0 : (Nat → Int64)) (hT1 : ws[k1 + 1]? = (some (q (k1 + 1), .inl (g 1, N.toNatClampNeg, .inr (.inl t1_0))) : Option (Nat × va_E))) (pre0 : t0_0.toInt + 20 ≤ K.toInt) : q_mV l y_She_addText prog_11_method_4_code 3 5 0 0 D g [.ref (q k1), .ref (g (8 + 2 * 25))] ws (fun u => q_I (nsh g q) q u ∧ q_un ws u [k1, k1 + 1] ∧ ∃ (u0_0 : Int32) (u1_0 : (Nat → Int64)), u[k1]? = (some (q k1, .inr (1, [.ref (q (k1 + 1)), .int R, .int u0_0])) : Option (Nat × va_E)) ∧ u[k1 + 1]? = (some (q (k1 + 1), .inl (g 1, N.toNatClampNeg, .inr (.inl u1_0))) : Option (Nat × va_E)) ∧ (t0_0.toInt + 7 ≤ u0_0.toInt) ∧ (u0_0.toInt ≤ t0_0.toInt + 7) ∧ (u0_0, u1_0) = (F_She_addText_25 R N K t0_0 t1_0)) := by
  intro sz
  refine q_into (by decide) (Nat.le_of_ble_eq_true rfl) ?_
  intro p e s m below meth c ls hsz C0 V hl
  have hx := C0.1
  have hb := C0.2.1
  have btt0_0 := n_shW hI hB1 hT0
  clear btt0_0
  replace pre0 : q_F (t0_0.toInt + 20 ≤ K.toInt) := pre0
  have hF : q_un ws ws [k1, k1 + 1] := q_u0
  have hl : lv_has ls 3 [(0, .ref (q k1)), (1, .ref (g (8 + 2 * 25)))] := hl
  refine lv_iconst (v := 0) hx hb d_11_4_0 (by decide) ?_
  refine lv_istore_n (lv' := [(2, .int 0), (0, .ref (q k1)), (1, .ref (g (8 + 2 * 25)))]) hx hb d_11_4_1 rfl hl (by decide) rfl (fun ls hl => ?_)
  refine q_loop (X := Int32 × Int32 × (Nat → Int64)) (fun z H locs ls w15 => q_F (z.1.toInt ≤ 7) ∧ q_F (t0_0.toInt ≤ z.1.toInt + z.2.1.toInt) ∧ q_F (z.2.1.toInt ≤ z.1.toInt + t0_0.toInt) ∧ q_F (z.1.toInt + t0_0.toInt ≤ z.2.1.toInt) ∧ q_Wd D g (va_A ws sz) s w15 H locs ∧ lv_has ls 3 [(2, .int z.1), (0, .ref (q k1)), (1, .ref (g (8 + 2 * 25)))] ∧ q_I (nsh g q) q w15 ∧ q_un ws w15 [k1, k1 + 1] ∧ w15[k1]? = (some (q k1, .inr (1, [.ref (q (k1 + 1)), .int R, .int z.2.1])) : Option (Nat × va_E)) ∧ w15[k1 + 1]? = (some (q (k1 + 1), .inl (g 1, N.toNatClampNeg, .inr (.inl z.2.2))) : Option (Nat × va_E)) ∧ (∃ n, (7 - z.1.toInt).toNat < n ∧ F_She_addText_25_L2 R N K t0_0 t1_0 n z.1 z.2.1 z.2.2 = (F_She_addText_25 R N K t0_0 t1_0))) (fun z => (7 - z.1.toInt).toNat) ?_ ((0 : Int32), (t0_0 : Int32), (t1_0 : (Nat → Int64))) _ _ _ ws ⟨(show q_F (0 ≤ 7) from (show 0 ≤ 7 from by omega)), (show q_F (t0_0.toInt ≤ 0 + t0_0.toInt) from (show t0_0.toInt ≤ 0 + t0_0.toInt from by omega)), (show q_F (t0_0.toInt ≤ 0 + t0_0.toInt) from (show t0_0.toInt ≤ 0 + t0_0.toInt from by omega)), (show q_F (0 + t0_0.toInt ≤ t0_0.toInt) from (show 0 + t0_0.toInt ≤ t0_0.toInt from by omega)), V, q_lw hl (q_lw1 0 rfl (q_lw1 1 rfl (q_lw1 2 rfl q_lw0))), hI, hF, hT0, hT1, ⟨((7 - (0 : Int32).toInt).toNat + 1), Nat.lt_succ_self _, (show F_She_addText_25_L2 R N K t0_0 t1_0 ((7 - (0 : Int32).toInt).toNat + 1) 0 t0_0 t1_0 = (F_She_addText_25 R N K t0_0 t1_0) from (by rw [F_She_addText_25.eq_1]))⟩⟩
  rintro ⟨lx7, lx8, lx9⟩ H locs ls w15 ⟨i10, i11, i12, i13, V, hl, hI, hF, hO16, hO17, ⟨fu20, hf21, hR18⟩⟩ ih14
  obtain ⟨fm22, rfl⟩ : ∃ m, fu20 = m + 1 := ⟨fu20 - 1, by omega⟩
  replace i10 : q_F (lx7.toInt ≤ 7) := i10
  replace i11 : q_F (t0_0.toInt ≤ lx7.toInt + lx8.toInt) := i11
  replace i12 : q_F (lx8.toInt ≤ lx7.toInt + t0_0.toInt) := i12
  replace i13 : q_F (lx7.toInt + t0_0.toInt ≤ lx8.toInt) := i13
  replace hl : lv_has ls 3 [(2, .int lx7), (0, .ref (q k1)), (1, .ref (g (8 + 2 * 25)))] := hl
  replace hO16 : w15[k1]? = (some (q k1, .inr (1, [.ref (q (k1 + 1)), .int R, .int lx8])) : Option (Nat × va_E)) := hO16
  replace hO17 : w15[k1 + 1]? = (some (q (k1 + 1), .inl (g 1, N.toNatClampNeg, .inr (.inl lx9))) : Option (Nat × va_E)) := hO17
  refine lv_iload_n hx hb d_11_4_2 rfl (lv_at hl 0 rfl) ?_
  refine lv_aload_n hx hb d_11_4_3 rfl (lv_at hl 2 rfl) ?_
  refine q_goi V (q_runVs (As := []) (rest := [.int lx7]) (d := 2) (mc := 0) (ms := 0) (i := 25) C0 V rfl LV_She_24 (X_jStr_length_25 l D g q w15   hI   _) rfl rfl rfl hl.1 rfl (Nat.le_of_ble_eq_true rfl) ⟨by decide, by decide⟩ ⟨Nat.le_of_ble_eq_true rfl, Nat.le_of_ble_eq_true rfl⟩ d_11_4_4) (fun a25 u23 H locs hp24 V => ?_)
  obtain ⟨rfl, b26, b27, hE28⟩ := hp24
  have e29 : a25 = (F_jStr_length_25) := hE28
  replace b26 : q_F (7 ≤ a25.toInt) := b26
  replace b27 : q_F (a25.toInt ≤ 7) := b27
  obtain rfl : a25 = (7 : Int32) := q_Ieq (x := a25.toInt) (y := 7) rfl (by decide) (by have t1 : 7 ≤ a25.toInt := b26; have t2 : a25.toInt ≤ 7 := b27; omega)
  refine lv_icmp_ge (tgt := 25) hx hb d_11_4_7 (by decide) (fun c30 => ?_) (fun c30 => ?_)
  ·
    have b31 : q_F (7 ≤ lx7.toInt) := (q_leI c30)
    exact q_retv C0 V (⟨hI, hF, lx8, lx9, hO16, hO17, (show t0_0.toInt + 7 ≤ lx8.toInt from (by have t1 : lx7.toInt + t0_0.toInt ≤ lx8.toInt := i13; have t2 : 7 ≤ lx7.toInt := b31; omega)), (show lx8.toInt ≤ t0_0.toInt + 7 from (by have t1 : lx7.toInt ≤ 7 := i10; have t2 : lx8.toInt ≤ lx7.toInt + t0_0.toInt := i12; omega)), (show (lx8, lx9) = (F_She_addText_25 R N K t0_0 t1_0) from Eq.trans (by rw [F_She_addText_25_L2.eq_2, if_pos c30]) hR18)⟩) d_11_4_25
  ·
    have b32 : q_F (lx7.toInt < 7) := (q_nleI c30)
    refine lv_aload_n hx hb d_11_4_10 rfl (lv_at hl 1 rfl) ?_
    refine lv_aload_n hx hb d_11_4_11 rfl (lv_at hl 2 rfl) ?_
    refine lv_iload_n hx hb d_11_4_12 rfl (lv_at hl 0 rfl) ?_
    refine q_goi V (q_runVs (As := [.int lx7]) (rest := [.ref (q k1)]) (d := 4) (mc := 0) (ms := 0) (i := 25) C0 V rfl LV_She_30 (X_jStr_charAt_25 l D g q w15  lx7 hI  (by have t1 : t0_0.toInt ≤ lx7.toInt + lx8.toInt := i11; have t2 : lx8.toInt ≤ lx7.toInt + t0_0.toInt := i12; omega) (by first | with_reducible exact q_fe b32 | (have t1 : lx7.toInt < 7 := b32; omega)) _) rfl rfl rfl hl.1 rfl (Nat.le_of_ble_eq_true rfl) ⟨by decide, by decide⟩ ⟨Nat.le_of_ble_eq_true rfl, Nat.le_of_ble_eq_true rfl⟩ d_11_4_13) (fun a35 u33 H locs hp34 V => ?_)
    obtain ⟨rfl, b36, b37, hE38⟩ := hp34
    have e39 : a35 = (F_jStr_charAt_25 lx7) := hE38
    clear b36
    clear b37
    refine q_gov V (q_runV (As := [.int a35]) (rest := []) (d := 1) (mc := 0) (ms := 0) (ci := 1) C0 V rfl LV_She_34 (X_She_add_p l D g q w15 k1 R N K hB1 a35 hI lx8 hO16 lx9 hO17 (by have t1 : t0_0.toInt + 20 ≤ K.toInt := pre0; have t2 : lx7.toInt ≤ 7 := i10; have t3 : lx8.toInt ≤ lx7.toInt + t0_0.toInt := i12; omega) _) rfl rfl hO16 rfl hl.1 rfl (Nat.le_of_ble_eq_true rfl) ⟨by decide, by decide⟩ ⟨Nat.le_of_ble_eq_true rfl, Nat.le_of_ble_eq_true rfl⟩ d_11_4_16) (fun u40 H locs hp41 V => ?_)
    obtain ⟨hI, hZ9⟩ := hp41
    obtain ⟨hu49, hZ9⟩ := hZ9
    obtain ⟨y43, hZ9⟩ := hZ9
    obtain ⟨f44, hZ9⟩ := hZ9
    obtain ⟨hO42, hZ9⟩ := hZ9
    obtain ⟨hA45, hZ9⟩ := hZ9
    obtain ⟨b46, hZ9⟩ := hZ9
    obtain ⟨b47, hE48⟩ := hZ9
    replace hO42 : u40[k1]? = (some (q k1, .inr (1, [.ref (q (k1 + 1)), .int R, .int y43])) : Option (Nat × va_E)) := hO42
    replace hA45 : u40[k1 + 1]? = (some (q (k1 + 1), .inl (g 1, N.toNatClampNeg, .inr (.inl f44))) : Option (Nat × va_E)) := hA45
    obtain ⟨p50, e51⟩ : ∃ z, z = (F_She_add_p R N K a35 lx8 lx9) := ⟨_, rfl⟩
    have e52 : y43 = p50.1 := congrArg (fun z => z.1) (hE48.trans e51.symm)
    have e53 : f44 = p50.2 := congrArg (fun z => z.2) (hE48.trans e51.symm)
    replace b46 : q_F (lx8.toInt + 1 ≤ y43.toInt) := b46
    replace b47 : q_F (y43.toInt ≤ lx8.toInt + 1) := b47
    replace hF := q_uc hF hu49 (by first | exact (q_sk (q_mi 0 rfl) (q_sk (q_mi 1 rfl) q_s0)) | simp)
    have hR54 := (show F_She_addText_25_c16 (F_She_addText_25_L2 R N K t0_0 t1_0 fm22) R N K t0_0 t1_0 lx7 lx8 lx9 p50 = (F_She_addText_25 R N K t0_0 t1_0) from Eq.trans (by rw [e51, e39, F_She_addText_25_L2.eq_2, if_neg c30]) hR18)
    obtain ⟨a59, e60⟩ := q_nm (lx7 + 1 : Int32)
    have b61 : q_F (a59.toInt = lx7.toInt + 1) := (by rw [← e60]; exact q_addI (y := 1) rfl (by decide) (by have t1 : t0_0.toInt ≤ lx7.toInt + lx8.toInt := i11; have t2 : lx8.toInt ≤ lx7.toInt + t0_0.toInt := i12; have t3 : lx7.toInt ≤ 7 := i10; omega) (by have t1 : t0_0.toInt ≤ lx7.toInt + lx8.toInt := i11; have t2 : lx8.toInt ≤ lx7.toInt + t0_0.toInt := i12; have t3 : lx7.toInt ≤ 7 := i10; omega))
    refine lv_iinc (v := a59) (lv' := [(2, .int a59), (0, .ref (q k1)), (1, .ref (g (8 + 2 * 25)))]) hx hb d_11_4_19 hl (k := 0) rfl (e60) (by decide) rfl (fun ls hl => ?_)
    refine lv_goto (tgt := 2) hx hb d_11_4_22 (by decide) ?_
    exact ih14 ((a59 : Int32), (y43 : Int32), (f44 : (Nat → Int64))) _ _ _ _ (show (7 - a59.toInt).toNat < (7 - lx7.toInt).toNat from by have t1 : a59.toInt = lx7.toInt + 1 := b61; have t2 : lx7.toInt ≤ 7 := i10; have t3 : lx7.toInt < 7 := b32; omega) ⟨(show q_F (a59.toInt ≤ 7) from (show a59.toInt ≤ 7 from by have t1 : lx7.toInt < 7 := b32; have t2 : a59.toInt = lx7.toInt + 1 := b61; omega)), (show q_F (t0_0.toInt ≤ a59.toInt + y43.toInt) from (show t0_0.toInt ≤ a59.toInt + y43.toInt from by have t1 : t0_0.toInt ≤ lx7.toInt + lx8.toInt := i11; have t2 : lx8.toInt + 1 ≤ y43.toInt := b46; have t3 : a59.toInt = lx7.toInt + 1 := b61; omega)), (show q_F (y43.toInt ≤ a59.toInt + t0_0.toInt) from (show y43.toInt ≤ a59.toInt + t0_0.toInt from by have t1 : lx8.toInt ≤ lx7.toInt + t0_0.toInt := i12; have t2 : y43.toInt ≤ lx8.toInt + 1 := b47; have t3 : a59.toInt = lx7.toInt + 1 := b61; omega)), (show q_F (a59.toInt + t0_0.toInt ≤ y43.toInt) from (show a59.toInt + t0_0.toInt ≤ y43.toInt from by have t1 : lx7.toInt + t0_0.toInt ≤ lx8.toInt := i13; have t2 : lx8.toInt + 1 ≤ y43.toInt := b46; have t3 : a59.toInt = lx7.toInt + 1 := b61; omega)), V, q_lw hl (q_lw1 0 rfl (q_lw1 1 rfl (q_lw1 2 rfl q_lw0))), hI, hF, hO42, hA45, ⟨fm22, Nat.lt_of_lt_of_le (show (7 - a59.toInt).toNat < (7 - lx7.toInt).toNat from by have t1 : a59.toInt = lx7.toInt + 1 := b61; have t2 : lx7.toInt ≤ 7 := i10; have t3 : lx7.toInt < 7 := b32; omega) (Nat.le_of_lt_succ hf21), (show F_She_addText_25_L2 R N K t0_0 t1_0 fm22 a59 y43 f44 = (F_She_addText_25 R N K t0_0 t1_0) from Eq.trans (by rw [← e60, e53, e52, F_She_addText_25_c16.eq_1]) hR54)⟩⟩
def F_jStr_length_26 : Int32 := (3 : Int32)
set_option maxRecDepth 100000 in
set_option maxHeartbeats 4000000 in
theorem X_jStr_length_26 (l : Launch) (D : va_G) (g : Nat → ClassId) (q : Nat → Nat) (ws : va_W) (hI : q_I (nsh g q) q ws) : q_mI l y_jStr_length prog_31_method_54_code 1 (.int) 2 0 0 D g [.ref (g (8 + 2 * 26))] ws (fun r u => ws = u ∧ (3 ≤ r.toInt) ∧ (r.toInt ≤ 3) ∧ r = (F_jStr_length_26)) := by
  intro sz
  refine q_into (by decide) (Nat.le_of_ble_eq_true rfl) ?_
  intro p e s m below meth c ls hsz C0 V hl
  have hx := C0.1
  have hb := C0.2.1
  have hl : lv_has ls 1 [(0, .ref (g (8 + 2 * 26)))] := hl
  refine lv_aload_n hx hb d_31_54_0 rfl (lv_at hl 0 rfl) ?_
  refine q_sval (i := 26) C0 V rfl rfl w_1018 d_31_54_1 ?_
  refine q_slen (i := 26) (v := 3) C0 V rfl (by decide) d_31_54_4 ?_
  refine lv_aload_n hx hb d_31_54_5 rfl (lv_at hl 0 rfl) ?_
  refine q_goi V (q_runVs (As := []) (rest := [.int 3]) (d := 1) (mc := 0) (ms := 0) (i := 26) C0 V rfl LV_jStr_335 (T_jStr_coder_26 l D g q ws   hI   _) rfl rfl rfl hl.1 rfl (Nat.le_of_ble_eq_true rfl) ⟨by decide, by decide⟩ ⟨Nat.le_of_ble_eq_true rfl, Nat.le_of_ble_eq_true rfl⟩ d_31_54_6) (fun a3 u1 H locs hp2 V => ?_)
  obtain ⟨rfl, b4, b5⟩ := hp2
  replace b4 : q_F (0 ≤ a3.toInt) := b4
  replace b5 : q_F (a3.toInt ≤ 0) := b5
  obtain rfl : a3 = (0 : Int32) := q_Ieq (x := a3.toInt) (y := 0) rfl (by decide) (by have t1 : 0 ≤ a3.toInt := b4; have t2 : a3.toInt ≤ 0 := b5; omega)
  refine lv_ishr hx hb d_31_54_9 ?_
  refine q_ti (v := 3) (by decide) ?_
  exact q_reti C0 V (⟨rfl, (show 3 ≤ (3 : Int32).toInt from (by have z0 : (3 : Int32).toInt = 3 := rfl; omega)), (show (3 : Int32).toInt ≤ 3 from (by have z0 : (3 : Int32).toInt = 3 := rfl; omega)), (show (3 : Int32) = (F_jStr_length_26) from (by rw [F_jStr_length_26.eq_1]))⟩) d_31_54_10
def F_jLat_charAt_26 (x2 : Int32) : Int32 := (((((([48, 46, 48] : List Int32).getD x2.toNatClampNeg 0) : Int32) &&& 255 : Int32).toUInt32 % 65536).toInt32 : Int32)
set_option maxRecDepth 100000 in
set_option maxHeartbeats 4000000 in
theorem X_jLat_charAt_26 (l : Launch) (D : va_G) (g : Nat → ClassId) (q : Nat → Nat) (ws : va_W) (x2 : Int32) (hI : q_I (nsh g q) q ws) (pre0 : 0 ≤ x2.toInt) (pre1 : x2.toInt ≤ 2) : q_mI l y_jLat_charAt prog_33_method_2_code 2 (.char) 3 0 0 D g [.ref (g (9 + 2 * 26)), .int x2] ws (fun r u => ws = u ∧ (0 ≤ r.toInt) ∧ (r.toInt ≤ 255) ∧ r = (F_jLat_charAt_26 x2)) := by
  intro sz
  refine q_into (by decide) (Nat.le_of_ble_eq_true rfl) ?_
  intro p e s m below meth c ls hsz C0 V hl
  have hx := C0.1
  have hb := C0.2.1
  replace pre0 : q_F (0 ≤ x2.toInt) := pre0
  replace pre1 : q_F (x2.toInt ≤ 2) := pre1
  have hl : lv_has ls 2 [(0, .ref (g (9 + 2 * 26))), (1, .int x2)] := hl
  refine lv_iload_n hx hb d_33_2_0 rfl (lv_at hl 1 rfl) ?_
  refine lv_aload_n hx hb d_33_2_1 rfl (lv_at hl 0 rfl) ?_
  refine q_slen (i := 26) (v := 3) C0 V rfl (by decide) d_33_2_2 ?_
  refine q_gov V (q_runS (As := [.int x2, .int 3]) (rest := []) (d := 2) (mc := 0) (ms := 0) C0 V rfl LS_jLat_9 (T_jStr_checkIndex l D g q ws  x2 3 hI  (by have y0 : (3 : Int32).toInt = 3 := rfl; have t1 : 0 ≤ x2.toInt := pre0; omega) (by have y0 : (3 : Int32).toInt = 3 := rfl; have t1 : x2.toInt ≤ 2 := pre1; omega) _) rfl hl.1 rfl (Nat.le_of_ble_eq_true rfl) ⟨by decide, by decide⟩ ⟨Nat.le_of_ble_eq_true rfl, Nat.le_of_ble_eq_true rfl⟩ d_33_2_3) (fun u1 H locs hp2 V => ?_)
  obtain ⟨rfl, -⟩ := hp2
  refine lv_aload_n hx hb d_33_2_6 rfl (lv_at hl 0 rfl) ?_
  refine lv_iload_n hx hb d_33_2_7 rfl (lv_at hl 1 rfl) ?_
  refine q_sbal (i := 26) (v := (([48, 46, 48] : List Int32).getD x2.toNatClampNeg 0)) C0 V rfl (show vp_in x2 3 from q_ix (x := x2.toInt) rfl (by first | with_reducible exact q_fe pre0 | (have t1 : 0 ≤ x2.toInt := pre0; omega)) (by have t1 : 0 ≤ x2.toInt := pre0; have t2 : x2.toInt ≤ 2 := pre1; omega)) rfl d_33_2_8 ?_
  obtain ⟨a4, e5⟩ := q_nm ((([48, 46, 48] : List Int32).getD x2.toNatClampNeg 0) : Int32)
  refine q_ti (v := a4) e5 ?_
  refine lv_sipush (v := 255) hx hb d_33_2_9 (by decide) ?_
  refine lv_iand hx hb d_33_2_12 ?_
  obtain ⟨a6, e7⟩ := q_nm (a4 &&& 255 : Int32)
  refine q_ti (v := a6) e7 ?_
  have b8 : q_F (0 ≤ a6.toInt ∧ a6.toInt ≤ 255) := (by rw [← e7]; show 0 ≤ (a4 &&& 255 : Int32).toInt ∧ (a4 &&& 255 : Int32).toInt ≤ 255; exact s_and (by decide))
  refine lv_i2c hx hb d_33_2_13 rfl ?_
  obtain ⟨a9, e10⟩ := q_nm ((a6.toUInt32 % 65536).toInt32 : Int32)
  refine q_ti (v := a9) e10 ?_
  have b11 : q_F (a9.toInt = a6.toInt) := (by rw [← e10]; show ((a6.toUInt32 % 65536).toInt32 : Int32).toInt = a6.toInt; exact (n_i2c (x := a6)).2.2 (by first | with_reducible exact (q_fe b8).2 | with_reducible exact (q_fe b8).1 | (have t1 : 0 ≤ a6.toInt ∧ a6.toInt ≤ 255 := b8; omega)) (by first | with_reducible exact (q_fe b8).2 | with_reducible exact (q_fe b8).1 | (have t1 : 0 ≤ a6.toInt ∧ a6.toInt ≤ 255 := b8; omega)))
  exact q_retn C0 V (n_chr (by have t1 : 0 ≤ a6.toInt ∧ a6.toInt ≤ 255 := b8; have t2 : a9.toInt = a6.toInt := b11; omega) (by have t1 : 0 ≤ a6.toInt ∧ a6.toInt ≤ 255 := b8; have t2 : a9.toInt = a6.toInt := b11; omega)) (⟨rfl, (show 0 ≤ a9.toInt from (by have t1 : 0 ≤ a6.toInt ∧ a6.toInt ≤ 255 := b8; have t2 : a9.toInt = a6.toInt := b11; omega)), (show a9.toInt ≤ 255 from (by have t1 : 0 ≤ a6.toInt ∧ a6.toInt ≤ 255 := b8; have t2 : a9.toInt = a6.toInt := b11; omega)), (show a9 = (F_jLat_charAt_26 x2) from (by rw [← e10, ← e7, ← e5, F_jLat_charAt_26.eq_1]))⟩) d_33_2_14
def F_jStr_charAt_26 (x2 : Int32) : Int32 := ((F_jLat_charAt_26 x2) : Int32)
set_option maxRecDepth 100000 in
set_option maxHeartbeats 4000000 in
theorem X_jStr_charAt_26 (l : Launch) (D : va_G) (g : Nat → ClassId) (q : Nat → Nat) (ws : va_W) (x2 : Int32) (hI : q_I (nsh g q) q ws) (pre0 : 0 ≤ x2.toInt) (pre1 : x2.toInt ≤ 2) : q_mI l y_jStr_charAt prog_31_method_56_code 2 (.char) 4 0 0 D g [.ref (g (8 + 2 * 26)), .int x2] ws (fun r u => ws = u ∧ (0 ≤ r.toInt) ∧ (r.toInt ≤ 255) ∧ r = (F_jStr_charAt_26 x2)) := by
  intro sz
  refine q_into (by decide) (Nat.le_of_ble_eq_true rfl) ?_
  intro p e s m below meth c ls hsz C0 V hl
  have hx := C0.1
  have hb := C0.2.1
  replace pre0 : q_F (0 ≤ x2.toInt) := pre0
  replace pre1 : q_F (x2.toInt ≤ 2) := pre1
  have hl : lv_has ls 2 [(0, .ref (g (8 + 2 * 26))), (1, .int x2)] := hl
  refine lv_aload_n hx hb d_31_56_0 rfl (lv_at hl 0 rfl) ?_
  refine q_goi V (q_runVs (As := []) (rest := []) (d := 1) (mc := 0) (ms := 0) (i := 26) C0 V rfl LV_jStr_492 (T_jStr_isLatin1_26 l D g q ws   hI   _) rfl rfl rfl hl.1 rfl (Nat.le_of_ble_eq_true rfl) ⟨by decide, by decide⟩ ⟨Nat.le_of_ble_eq_true rfl, Nat.le_of_ble_eq_true rfl⟩ d_31_56_1) (fun a3 u1 H locs hp2 V => ?_)
  obtain ⟨rfl, b4, b5⟩ := hp2
  replace b4 : q_F (1 ≤ a3.toInt) := b4
  replace b5 : q_F (a3.toInt ≤ 1) := b5
  obtain rfl : a3 = (1 : Int32) := q_Ieq (x := a3.toInt) (y := 1) rfl (by decide) (by have t1 : 1 ≤ a3.toInt := b4; have t2 : a3.toInt ≤ 1 := b5; omega)
  refine lv_if_eq (tgt := 16) hx hb d_31_56_4 (by decide) (fun c7 => absurd c7 (by decide)) (fun c7 => ?_)
  refine lv_aload_n hx hb d_31_56_7 rfl (lv_at hl 0 rfl) ?_
  refine q_sval (i := 26) C0 V rfl rfl w_1018 d_31_56_8 ?_
  refine lv_iload_n hx hb d_31_56_11 rfl (lv_at hl 1 rfl) ?_
  refine q_goi V (q_runS (As := [.ref (g (9 + 2 * 26)), .int x2]) (rest := []) (d := 3) (mc := 0) (ms := 0) C0 V rfl LS_jStr_495 (X_jLat_charAt_26 l D g q ws  x2 hI  (by first | with_reducible exact q_fe pre0 | (have t1 : 0 ≤ x2.toInt := pre0; omega)) (by first | with_reducible exact q_fe pre1 | (have t1 : x2.toInt ≤ 2 := pre1; omega)) _) rfl hl.1 rfl (Nat.le_of_ble_eq_true rfl) ⟨by decide, by decide⟩ ⟨Nat.le_of_ble_eq_true rfl, Nat.le_of_ble_eq_true rfl⟩ d_31_56_12) (fun a10 u8 H locs hp9 V => ?_)
  obtain ⟨rfl, b11, b12, hE13⟩ := hp9
  have e14 : a10 = (F_jLat_charAt_26 x2) := hE13
  replace b11 : q_F (0 ≤ a10.toInt) := b11
  replace b12 : q_F (a10.toInt ≤ 255) := b12
  exact q_retn C0 V (n_chr (by first | with_reducible exact q_fe b11 | (have t1 : 0 ≤ a10.toInt := b11; omega)) (by first | with_reducible exact q_fe b12 | (have t1 : a10.toInt ≤ 255 := b12; omega))) (⟨rfl, (show 0 ≤ a10.toInt from (by first | with_reducible exact q_fe b11 | (have t1 : 0 ≤ a10.toInt := b11; omega))), (show a10.toInt ≤ 255 from (by first | with_reducible exact q_fe b12 | (have t1 : a10.toInt ≤ 255 := b12; omega))), (show a10 = (F_jStr_charAt_26 x2) from (by rw [e14, F_jStr_charAt_26.eq_1]))⟩) d_31_56_15
def F_She_addText_26_c16 (K_F_She_addText_26_L2 : Int32 → Int32 → (Nat → Int64) → (Int32 × (Nat → Int64))) (R : Int32) (N : Int32) (K : Int32) (t0_0 : Int32) (t1_0 : (Nat → Int64)) (lx7 : Int32) (lx8 : Int32) (lx9 : (Nat → Int64)) (p50 : (Int32 × (Nat → Int64))) : Int32 × (Nat → Int64) := K_F_She_addText_26_L2 (lx7 + 1 : Int32) (p50.1 : Int32) (p50.2 : (Nat → Int64))
def F_She_addText_26_L2 (R : Int32) (N : Int32) (K : Int32) (t0_0 : Int32) (t1_0 : (Nat → Int64)) : Nat → Int32 → Int32 → (Nat → Int64) → (Int32 × (Nat → Int64))
  | 0, _, _, _ => default
  | fm + 1, lx7, lx8, lx9 => if (3 : Int32) ≤ lx7 then ((lx8, lx9)) else (F_She_addText_26_c16 (F_She_addText_26_L2 R N K t0_0 t1_0 fm) R N K t0_0 t1_0 lx7 lx8 lx9 ((F_She_add_p R N K ((F_jStr_charAt_26 lx7) : Int32) lx8 lx9) : (Int32 × (Nat → Int64))))
def F_She_addText_26 (R : Int32) (N : Int32) (K : Int32) (t0_0 : Int32) (t1_0 : (Nat → Int64)) : Int32 × (Nat → Int64) := F_She_addText_26_L2 R N K t0_0 t1_0 ((3 - (0 : Int32).toInt).toNat + 1) 0 t0_0 t1_0
set_option maxRecDepth 100000 in
set_option maxHeartbeats 4000000 in
theorem X_She_addText_26 (l : Launch) (D : va_G) (g : Nat → ClassId) (q : Nat → Nat) (ws : va_W) (k1 : Nat) (R N K : Int32) (hB1 : q_isShe (nsh g q) g q k1 R N K) (hI : q_I (nsh g q) q ws) (t0_0 : Int32) (hT0 : ws[k1]? = (some (q k1, .inr (1, [.ref (q (k1 + 1)), .int R, .int t0_0])) : Option (Nat × va_E))) (t1_0 : (Nat → Int64)) (hT1 : ws[k1 + 1]? = (some (q (k1 + 1), .inl (g 1, N.toNatClampNeg, .inr (.inl t1_0))) : Option (Nat × va_E))) (pre0 : t0_0.toInt + 20 ≤ K.toInt) : q_mV l y_She_addText prog_11_method_4_code 3 5 0 0 D g [.ref (q k1), .ref (g (8 + 2 * 26))] ws (fun u => q_I (nsh g q) q u ∧ q_un ws u [k1, k1 + 1] ∧ ∃ (u0_0 : Int32) (u1_0 : (Nat → Int64)), u[k1]? = (some (q k1, .inr (1, [.ref (q (k1 + 1)), .int R, .int u0_0])) : Option (Nat × va_E)) ∧ u[k1 + 1]? = (some (q (k1 + 1), .inl (g 1, N.toNatClampNeg, .inr (.inl u1_0))) : Option (Nat × va_E)) ∧ (t0_0.toInt + 3 ≤ u0_0.toInt) ∧ (u0_0.toInt ≤ t0_0.toInt + 3) ∧ (u0_0, u1_0) = (F_She_addText_26 R N K t0_0 t1_0)) := by
  intro sz
  refine q_into (by decide) (Nat.le_of_ble_eq_true rfl) ?_
  intro p e s m below meth c ls hsz C0 V hl
  have hx := C0.1
  have hb := C0.2.1
  have btt0_0 := n_shW hI hB1 hT0
  clear btt0_0
  replace pre0 : q_F (t0_0.toInt + 20 ≤ K.toInt) := pre0
  have hF : q_un ws ws [k1, k1 + 1] := q_u0
  have hl : lv_has ls 3 [(0, .ref (q k1)), (1, .ref (g (8 + 2 * 26)))] := hl
  refine lv_iconst (v := 0) hx hb d_11_4_0 (by decide) ?_
  refine lv_istore_n (lv' := [(2, .int 0), (0, .ref (q k1)), (1, .ref (g (8 + 2 * 26)))]) hx hb d_11_4_1 rfl hl (by decide) rfl (fun ls hl => ?_)
  refine q_loop (X := Int32 × Int32 × (Nat → Int64)) (fun z H locs ls w15 => q_F (z.1.toInt ≤ 3) ∧ q_F (t0_0.toInt ≤ z.1.toInt + z.2.1.toInt) ∧ q_F (z.2.1.toInt ≤ z.1.toInt + t0_0.toInt) ∧ q_F (z.1.toInt + t0_0.toInt ≤ z.2.1.toInt) ∧ q_Wd D g (va_A ws sz) s w15 H locs ∧ lv_has ls 3 [(2, .int z.1), (0, .ref (q k1)), (1, .ref (g (8 + 2 * 26)))] ∧ q_I (nsh g q) q w15 ∧ q_un ws w15 [k1, k1 + 1] ∧ w15[k1]? = (some (q k1, .inr (1, [.ref (q (k1 + 1)), .int R, .int z.2.1])) : Option (Nat × va_E)) ∧ w15[k1 + 1]? = (some (q (k1 + 1), .inl (g 1, N.toNatClampNeg, .inr (.inl z.2.2))) : Option (Nat × va_E)) ∧ (∃ n, (3 - z.1.toInt).toNat < n ∧ F_She_addText_26_L2 R N K t0_0 t1_0 n z.1 z.2.1 z.2.2 = (F_She_addText_26 R N K t0_0 t1_0))) (fun z => (3 - z.1.toInt).toNat) ?_ ((0 : Int32), (t0_0 : Int32), (t1_0 : (Nat → Int64))) _ _ _ ws ⟨(show q_F (0 ≤ 3) from (show 0 ≤ 3 from by omega)), (show q_F (t0_0.toInt ≤ 0 + t0_0.toInt) from (show t0_0.toInt ≤ 0 + t0_0.toInt from by omega)), (show q_F (t0_0.toInt ≤ 0 + t0_0.toInt) from (show t0_0.toInt ≤ 0 + t0_0.toInt from by omega)), (show q_F (0 + t0_0.toInt ≤ t0_0.toInt) from (show 0 + t0_0.toInt ≤ t0_0.toInt from by omega)), V, q_lw hl (q_lw1 0 rfl (q_lw1 1 rfl (q_lw1 2 rfl q_lw0))), hI, hF, hT0, hT1, ⟨((3 - (0 : Int32).toInt).toNat + 1), Nat.lt_succ_self _, (show F_She_addText_26_L2 R N K t0_0 t1_0 ((3 - (0 : Int32).toInt).toNat + 1) 0 t0_0 t1_0 = (F_She_addText_26 R N K t0_0 t1_0) from (by rw [F_She_addText_26.eq_1]))⟩⟩
  rintro ⟨lx7, lx8, lx9⟩ H locs ls w15 ⟨i10, i11, i12, i13, V, hl, hI, hF, hO16, hO17, ⟨fu20, hf21, hR18⟩⟩ ih14
  obtain ⟨fm22, rfl⟩ : ∃ m, fu20 = m + 1 := ⟨fu20 - 1, by omega⟩
  replace i10 : q_F (lx7.toInt ≤ 3) := i10
  replace i11 : q_F (t0_0.toInt ≤ lx7.toInt + lx8.toInt) := i11
  replace i12 : q_F (lx8.toInt ≤ lx7.toInt + t0_0.toInt) := i12
  replace i13 : q_F (lx7.toInt + t0_0.toInt ≤ lx8.toInt) := i13
  replace hl : lv_has ls 3 [(2, .int lx7), (0, .ref (q k1)), (1, .ref (g (8 + 2 * 26)))] := hl
  replace hO16 : w15[k1]? = (some (q k1, .inr (1, [.ref (q (k1 + 1)), .int R, .int lx8])) : Option (Nat × va_E)) := hO16
  replace hO17 : w15[k1 + 1]? = (some (q (k1 + 1), .inl (g 1, N.toNatClampNeg, .inr (.inl lx9))) : Option (Nat × va_E)) := hO17
  refine lv_iload_n hx hb d_11_4_2 rfl (lv_at hl 0 rfl) ?_
  refine lv_aload_n hx hb d_11_4_3 rfl (lv_at hl 2 rfl) ?_
  refine q_goi V (q_runVs (As := []) (rest := [.int lx7]) (d := 2) (mc := 0) (ms := 0) (i := 26) C0 V rfl LV_She_24 (X_jStr_length_26 l D g q w15   hI   _) rfl rfl rfl hl.1 rfl (Nat.le_of_ble_eq_true rfl) ⟨by decide, by decide⟩ ⟨Nat.le_of_ble_eq_true rfl, Nat.le_of_ble_eq_true rfl⟩ d_11_4_4) (fun a25 u23 H locs hp24 V => ?_)
  obtain ⟨rfl, b26, b27, hE28⟩ := hp24
  have e29 : a25 = (F_jStr_length_26) := hE28
  replace b26 : q_F (3 ≤ a25.toInt) := b26
  replace b27 : q_F (a25.toInt ≤ 3) := b27
  obtain rfl : a25 = (3 : Int32) := q_Ieq (x := a25.toInt) (y := 3) rfl (by decide) (by have t1 : 3 ≤ a25.toInt := b26; have t2 : a25.toInt ≤ 3 := b27; omega)
  refine lv_icmp_ge (tgt := 25) hx hb d_11_4_7 (by decide) (fun c30 => ?_) (fun c30 => ?_)
  ·
    have b31 : q_F (3 ≤ lx7.toInt) := (q_leI c30)
    exact q_retv C0 V (⟨hI, hF, lx8, lx9, hO16, hO17, (show t0_0.toInt + 3 ≤ lx8.toInt from (by have t1 : lx7.toInt + t0_0.toInt ≤ lx8.toInt := i13; have t2 : 3 ≤ lx7.toInt := b31; omega)), (show lx8.toInt ≤ t0_0.toInt + 3 from (by have t1 : lx7.toInt ≤ 3 := i10; have t2 : lx8.toInt ≤ lx7.toInt + t0_0.toInt := i12; omega)), (show (lx8, lx9) = (F_She_addText_26 R N K t0_0 t1_0) from Eq.trans (by rw [F_She_addText_26_L2.eq_2, if_pos c30]) hR18)⟩) d_11_4_25
  ·
    have b32 : q_F (lx7.toInt < 3) := (q_nleI c30)
    refine lv_aload_n hx hb d_11_4_10 rfl (lv_at hl 1 rfl) ?_
    refine lv_aload_n hx hb d_11_4_11 rfl (lv_at hl 2 rfl) ?_
    refine lv_iload_n hx hb d_11_4_12 rfl (lv_at hl 0 rfl) ?_
    refine q_goi V (q_runVs (As := [.int lx7]) (rest := [.ref (q k1)]) (d := 4) (mc := 0) (ms := 0) (i := 26) C0 V rfl LV_She_30 (X_jStr_charAt_26 l D g q w15  lx7 hI  (by have t1 : t0_0.toInt ≤ lx7.toInt + lx8.toInt := i11; have t2 : lx8.toInt ≤ lx7.toInt + t0_0.toInt := i12; omega) (by first | with_reducible exact q_fe b32 | (have t1 : lx7.toInt < 3 := b32; omega)) _) rfl rfl rfl hl.1 rfl (Nat.le_of_ble_eq_true rfl) ⟨by decide, by decide⟩ ⟨Nat.le_of_ble_eq_true rfl, Nat.le_of_ble_eq_true rfl⟩ d_11_4_13) (fun a35 u33 H locs hp34 V => ?_)
    obtain ⟨rfl, b36, b37, hE38⟩ := hp34
    have e39 : a35 = (F_jStr_charAt_26 lx7) := hE38
    clear b36
    clear b37
    refine q_gov V (q_runV (As := [.int a35]) (rest := []) (d := 1) (mc := 0) (ms := 0) (ci := 1) C0 V rfl LV_She_34 (X_She_add_p l D g q w15 k1 R N K hB1 a35 hI lx8 hO16 lx9 hO17 (by have t1 : t0_0.toInt + 20 ≤ K.toInt := pre0; have t2 : lx7.toInt ≤ 3 := i10; have t3 : lx8.toInt ≤ lx7.toInt + t0_0.toInt := i12; omega) _) rfl rfl hO16 rfl hl.1 rfl (Nat.le_of_ble_eq_true rfl) ⟨by decide, by decide⟩ ⟨Nat.le_of_ble_eq_true rfl, Nat.le_of_ble_eq_true rfl⟩ d_11_4_16) (fun u40 H locs hp41 V => ?_)
    obtain ⟨hI, hZ9⟩ := hp41
    obtain ⟨hu49, hZ9⟩ := hZ9
    obtain ⟨y43, hZ9⟩ := hZ9
    obtain ⟨f44, hZ9⟩ := hZ9
    obtain ⟨hO42, hZ9⟩ := hZ9
    obtain ⟨hA45, hZ9⟩ := hZ9
    obtain ⟨b46, hZ9⟩ := hZ9
    obtain ⟨b47, hE48⟩ := hZ9
    replace hO42 : u40[k1]? = (some (q k1, .inr (1, [.ref (q (k1 + 1)), .int R, .int y43])) : Option (Nat × va_E)) := hO42
    replace hA45 : u40[k1 + 1]? = (some (q (k1 + 1), .inl (g 1, N.toNatClampNeg, .inr (.inl f44))) : Option (Nat × va_E)) := hA45
    obtain ⟨p50, e51⟩ : ∃ z, z = (F_She_add_p R N K a35 lx8 lx9) := ⟨_, rfl⟩
    have e52 : y43 = p50.1 := congrArg (fun z => z.1) (hE48.trans e51.symm)
    have e53 : f44 = p50.2 := congrArg (fun z => z.2) (hE48.trans e51.symm)
    replace b46 : q_F (lx8.toInt + 1 ≤ y43.toInt) := b46
    replace b47 : q_F (y43.toInt ≤ lx8.toInt + 1) := b47
    replace hF := q_uc hF hu49 (by first | exact (q_sk (q_mi 0 rfl) (q_sk (q_mi 1 rfl) q_s0)) | simp)
    have hR54 := (show F_She_addText_26_c16 (F_She_addText_26_L2 R N K t0_0 t1_0 fm22) R N K t0_0 t1_0 lx7 lx8 lx9 p50 = (F_She_addText_26 R N K t0_0 t1_0) from Eq.trans (by rw [e51, e39, F_She_addText_26_L2.eq_2, if_neg c30]) hR18)
    obtain ⟨a59, e60⟩ := q_nm (lx7 + 1 : Int32)
    have b61 : q_F (a59.toInt = lx7.toInt + 1) := (by rw [← e60]; exact q_addI (y := 1) rfl (by decide) (by have t1 : t0_0.toInt ≤ lx7.toInt + lx8.toInt := i11; have t2 : lx8.toInt ≤ lx7.toInt + t0_0.toInt := i12; have t3 : lx7.toInt ≤ 3 := i10; omega) (by have t1 : t0_0.toInt ≤ lx7.toInt + lx8.toInt := i11; have t2 : lx8.toInt ≤ lx7.toInt + t0_0.toInt := i12; have t3 : lx7.toInt ≤ 3 := i10; omega))
    refine lv_iinc (v := a59) (lv' := [(2, .int a59), (0, .ref (q k1)), (1, .ref (g (8 + 2 * 26)))]) hx hb d_11_4_19 hl (k := 0) rfl (e60) (by decide) rfl (fun ls hl => ?_)
    refine lv_goto (tgt := 2) hx hb d_11_4_22 (by decide) ?_
    exact ih14 ((a59 : Int32), (y43 : Int32), (f44 : (Nat → Int64))) _ _ _ _ (show (3 - a59.toInt).toNat < (3 - lx7.toInt).toNat from by have t1 : a59.toInt = lx7.toInt + 1 := b61; have t2 : lx7.toInt ≤ 3 := i10; have t3 : lx7.toInt < 3 := b32; omega) ⟨(show q_F (a59.toInt ≤ 3) from (show a59.toInt ≤ 3 from by have t1 : lx7.toInt < 3 := b32; have t2 : a59.toInt = lx7.toInt + 1 := b61; omega)), (show q_F (t0_0.toInt ≤ a59.toInt + y43.toInt) from (show t0_0.toInt ≤ a59.toInt + y43.toInt from by have t1 : t0_0.toInt ≤ lx7.toInt + lx8.toInt := i11; have t2 : lx8.toInt + 1 ≤ y43.toInt := b46; have t3 : a59.toInt = lx7.toInt + 1 := b61; omega)), (show q_F (y43.toInt ≤ a59.toInt + t0_0.toInt) from (show y43.toInt ≤ a59.toInt + t0_0.toInt from by have t1 : lx8.toInt ≤ lx7.toInt + t0_0.toInt := i12; have t2 : y43.toInt ≤ lx8.toInt + 1 := b47; have t3 : a59.toInt = lx7.toInt + 1 := b61; omega)), (show q_F (a59.toInt + t0_0.toInt ≤ y43.toInt) from (show a59.toInt + t0_0.toInt ≤ y43.toInt from by have t1 : lx7.toInt + t0_0.toInt ≤ lx8.toInt := i13; have t2 : lx8.toInt + 1 ≤ y43.toInt := b46; have t3 : a59.toInt = lx7.toInt + 1 := b61; omega)), V, q_lw hl (q_lw1 0 rfl (q_lw1 1 rfl (q_lw1 2 rfl q_lw0))), hI, hF, hO42, hA45, ⟨fm22, Nat.lt_of_lt_of_le (show (3 - a59.toInt).toNat < (3 - lx7.toInt).toNat from by have t1 : a59.toInt = lx7.toInt + 1 := b61; have t2 : lx7.toInt ≤ 3 := i10; have t3 : lx7.toInt < 3 := b32; omega) (Nat.le_of_lt_succ hf21), (show F_She_addText_26_L2 R N K t0_0 t1_0 fm22 a59 y43 f44 = (F_She_addText_26 R N K t0_0 t1_0) from Eq.trans (by rw [← e60, e53, e52, F_She_addText_26_c16.eq_1]) hR54)⟩⟩
def F_jStr_length_27 : Int32 := (4 : Int32)
set_option maxRecDepth 100000 in
set_option maxHeartbeats 4000000 in
theorem X_jStr_length_27 (l : Launch) (D : va_G) (g : Nat → ClassId) (q : Nat → Nat) (ws : va_W) (hI : q_I (nsh g q) q ws) : q_mI l y_jStr_length prog_31_method_54_code 1 (.int) 2 0 0 D g [.ref (g (8 + 2 * 27))] ws (fun r u => ws = u ∧ (4 ≤ r.toInt) ∧ (r.toInt ≤ 4) ∧ r = (F_jStr_length_27)) := by
  intro sz
  refine q_into (by decide) (Nat.le_of_ble_eq_true rfl) ?_
  intro p e s m below meth c ls hsz C0 V hl
  have hx := C0.1
  have hb := C0.2.1
  have hl : lv_has ls 1 [(0, .ref (g (8 + 2 * 27)))] := hl
  refine lv_aload_n hx hb d_31_54_0 rfl (lv_at hl 0 rfl) ?_
  refine q_sval (i := 27) C0 V rfl rfl w_1018 d_31_54_1 ?_
  refine q_slen (i := 27) (v := 4) C0 V rfl (by decide) d_31_54_4 ?_
  refine lv_aload_n hx hb d_31_54_5 rfl (lv_at hl 0 rfl) ?_
  refine q_goi V (q_runVs (As := []) (rest := [.int 4]) (d := 1) (mc := 0) (ms := 0) (i := 27) C0 V rfl LV_jStr_335 (T_jStr_coder_27 l D g q ws   hI   _) rfl rfl rfl hl.1 rfl (Nat.le_of_ble_eq_true rfl) ⟨by decide, by decide⟩ ⟨Nat.le_of_ble_eq_true rfl, Nat.le_of_ble_eq_true rfl⟩ d_31_54_6) (fun a3 u1 H locs hp2 V => ?_)
  obtain ⟨rfl, b4, b5⟩ := hp2
  replace b4 : q_F (0 ≤ a3.toInt) := b4
  replace b5 : q_F (a3.toInt ≤ 0) := b5
  obtain rfl : a3 = (0 : Int32) := q_Ieq (x := a3.toInt) (y := 0) rfl (by decide) (by have t1 : 0 ≤ a3.toInt := b4; have t2 : a3.toInt ≤ 0 := b5; omega)
  refine lv_ishr hx hb d_31_54_9 ?_
  refine q_ti (v := 4) (by decide) ?_
  exact q_reti C0 V (⟨rfl, (show 4 ≤ (4 : Int32).toInt from (by have z0 : (4 : Int32).toInt = 4 := rfl; omega)), (show (4 : Int32).toInt ≤ 4 from (by have z0 : (4 : Int32).toInt = 4 := rfl; omega)), (show (4 : Int32) = (F_jStr_length_27) from (by rw [F_jStr_length_27.eq_1]))⟩) d_31_54_10
def F_jLat_charAt_27 (x2 : Int32) : Int32 := (((((([48, 120, 49, 46] : List Int32).getD x2.toNatClampNeg 0) : Int32) &&& 255 : Int32).toUInt32 % 65536).toInt32 : Int32)
set_option maxRecDepth 100000 in
set_option maxHeartbeats 4000000 in
theorem X_jLat_charAt_27 (l : Launch) (D : va_G) (g : Nat → ClassId) (q : Nat → Nat) (ws : va_W) (x2 : Int32) (hI : q_I (nsh g q) q ws) (pre0 : 0 ≤ x2.toInt) (pre1 : x2.toInt ≤ 3) : q_mI l y_jLat_charAt prog_33_method_2_code 2 (.char) 3 0 0 D g [.ref (g (9 + 2 * 27)), .int x2] ws (fun r u => ws = u ∧ (0 ≤ r.toInt) ∧ (r.toInt ≤ 255) ∧ r = (F_jLat_charAt_27 x2)) := by
  intro sz
  refine q_into (by decide) (Nat.le_of_ble_eq_true rfl) ?_
  intro p e s m below meth c ls hsz C0 V hl
  have hx := C0.1
  have hb := C0.2.1
  replace pre0 : q_F (0 ≤ x2.toInt) := pre0
  replace pre1 : q_F (x2.toInt ≤ 3) := pre1
  have hl : lv_has ls 2 [(0, .ref (g (9 + 2 * 27))), (1, .int x2)] := hl
  refine lv_iload_n hx hb d_33_2_0 rfl (lv_at hl 1 rfl) ?_
  refine lv_aload_n hx hb d_33_2_1 rfl (lv_at hl 0 rfl) ?_
  refine q_slen (i := 27) (v := 4) C0 V rfl (by decide) d_33_2_2 ?_
  refine q_gov V (q_runS (As := [.int x2, .int 4]) (rest := []) (d := 2) (mc := 0) (ms := 0) C0 V rfl LS_jLat_9 (T_jStr_checkIndex l D g q ws  x2 4 hI  (by have y0 : (4 : Int32).toInt = 4 := rfl; have t1 : 0 ≤ x2.toInt := pre0; omega) (by have y0 : (4 : Int32).toInt = 4 := rfl; have t1 : x2.toInt ≤ 3 := pre1; omega) _) rfl hl.1 rfl (Nat.le_of_ble_eq_true rfl) ⟨by decide, by decide⟩ ⟨Nat.le_of_ble_eq_true rfl, Nat.le_of_ble_eq_true rfl⟩ d_33_2_3) (fun u1 H locs hp2 V => ?_)
  obtain ⟨rfl, -⟩ := hp2
  refine lv_aload_n hx hb d_33_2_6 rfl (lv_at hl 0 rfl) ?_
  refine lv_iload_n hx hb d_33_2_7 rfl (lv_at hl 1 rfl) ?_
  refine q_sbal (i := 27) (v := (([48, 120, 49, 46] : List Int32).getD x2.toNatClampNeg 0)) C0 V rfl (show vp_in x2 4 from q_ix (x := x2.toInt) rfl (by first | with_reducible exact q_fe pre0 | (have t1 : 0 ≤ x2.toInt := pre0; omega)) (by have t1 : 0 ≤ x2.toInt := pre0; have t2 : x2.toInt ≤ 3 := pre1; omega)) rfl d_33_2_8 ?_
  obtain ⟨a4, e5⟩ := q_nm ((([48, 120, 49, 46] : List Int32).getD x2.toNatClampNeg 0) : Int32)
  refine q_ti (v := a4) e5 ?_
  refine lv_sipush (v := 255) hx hb d_33_2_9 (by decide) ?_
  refine lv_iand hx hb d_33_2_12 ?_
  obtain ⟨a6, e7⟩ := q_nm (a4 &&& 255 : Int32)
  refine q_ti (v := a6) e7 ?_
  have b8 : q_F (0 ≤ a6.toInt ∧ a6.toInt ≤ 255) := (by rw [← e7]; show 0 ≤ (a4 &&& 255 : Int32).toInt ∧ (a4 &&& 255 : Int32).toInt ≤ 255; exact s_and (by decide))
  refine lv_i2c hx hb d_33_2_13 rfl ?_
  obtain ⟨a9, e10⟩ := q_nm ((a6.toUInt32 % 65536).toInt32 : Int32)
  refine q_ti (v := a9) e10 ?_
  have b11 : q_F (a9.toInt = a6.toInt) := (by rw [← e10]; show ((a6.toUInt32 % 65536).toInt32 : Int32).toInt = a6.toInt; exact (n_i2c (x := a6)).2.2 (by first | with_reducible exact (q_fe b8).2 | with_reducible exact (q_fe b8).1 | (have t1 : 0 ≤ a6.toInt ∧ a6.toInt ≤ 255 := b8; omega)) (by first | with_reducible exact (q_fe b8).2 | with_reducible exact (q_fe b8).1 | (have t1 : 0 ≤ a6.toInt ∧ a6.toInt ≤ 255 := b8; omega)))
  exact q_retn C0 V (n_chr (by have t1 : 0 ≤ a6.toInt ∧ a6.toInt ≤ 255 := b8; have t2 : a9.toInt = a6.toInt := b11; omega) (by have t1 : 0 ≤ a6.toInt ∧ a6.toInt ≤ 255 := b8; have t2 : a9.toInt = a6.toInt := b11; omega)) (⟨rfl, (show 0 ≤ a9.toInt from (by have t1 : 0 ≤ a6.toInt ∧ a6.toInt ≤ 255 := b8; have t2 : a9.toInt = a6.toInt := b11; omega)), (show a9.toInt ≤ 255 from (by have t1 : 0 ≤ a6.toInt ∧ a6.toInt ≤ 255 := b8; have t2 : a9.toInt = a6.toInt := b11; omega)), (show a9 = (F_jLat_charAt_27 x2) from (by rw [← e10, ← e7, ← e5, F_jLat_charAt_27.eq_1]))⟩) d_33_2_14
def F_jStr_charAt_27 (x2 : Int32) : Int32 := ((F_jLat_charAt_27 x2) : Int32)
set_option maxRecDepth 100000 in
set_option maxHeartbeats 4000000 in
theorem X_jStr_charAt_27 (l : Launch) (D : va_G) (g : Nat → ClassId) (q : Nat → Nat) (ws : va_W) (x2 : Int32) (hI : q_I (nsh g q) q ws) (pre0 : 0 ≤ x2.toInt) (pre1 : x2.toInt ≤ 3) : q_mI l y_jStr_charAt prog_31_method_56_code 2 (.char) 4 0 0 D g [.ref (g (8 + 2 * 27)), .int x2] ws (fun r u => ws = u ∧ (0 ≤ r.toInt) ∧ (r.toInt ≤ 255) ∧ r = (F_jStr_charAt_27 x2)) := by
  intro sz
  refine q_into (by decide) (Nat.le_of_ble_eq_true rfl) ?_
  intro p e s m below meth c ls hsz C0 V hl
  have hx := C0.1
  have hb := C0.2.1
  replace pre0 : q_F (0 ≤ x2.toInt) := pre0
  replace pre1 : q_F (x2.toInt ≤ 3) := pre1
  have hl : lv_has ls 2 [(0, .ref (g (8 + 2 * 27))), (1, .int x2)] := hl
  refine lv_aload_n hx hb d_31_56_0 rfl (lv_at hl 0 rfl) ?_
  refine q_goi V (q_runVs (As := []) (rest := []) (d := 1) (mc := 0) (ms := 0) (i := 27) C0 V rfl LV_jStr_492 (T_jStr_isLatin1_27 l D g q ws   hI   _) rfl rfl rfl hl.1 rfl (Nat.le_of_ble_eq_true rfl) ⟨by decide, by decide⟩ ⟨Nat.le_of_ble_eq_true rfl, Nat.le_of_ble_eq_true rfl⟩ d_31_56_1) (fun a3 u1 H locs hp2 V => ?_)
  obtain ⟨rfl, b4, b5⟩ := hp2
  replace b4 : q_F (1 ≤ a3.toInt) := b4
  replace b5 : q_F (a3.toInt ≤ 1) := b5
  obtain rfl : a3 = (1 : Int32) := q_Ieq (x := a3.toInt) (y := 1) rfl (by decide) (by have t1 : 1 ≤ a3.toInt := b4; have t2 : a3.toInt ≤ 1 := b5; omega)
  refine lv_if_eq (tgt := 16) hx hb d_31_56_4 (by decide) (fun c7 => absurd c7 (by decide)) (fun c7 => ?_)
  refine lv_aload_n hx hb d_31_56_7 rfl (lv_at hl 0 rfl) ?_
  refine q_sval (i := 27) C0 V rfl rfl w_1018 d_31_56_8 ?_
  refine lv_iload_n hx hb d_31_56_11 rfl (lv_at hl 1 rfl) ?_
  refine q_goi V (q_runS (As := [.ref (g (9 + 2 * 27)), .int x2]) (rest := []) (d := 3) (mc := 0) (ms := 0) C0 V rfl LS_jStr_495 (X_jLat_charAt_27 l D g q ws  x2 hI  (by first | with_reducible exact q_fe pre0 | (have t1 : 0 ≤ x2.toInt := pre0; omega)) (by first | with_reducible exact q_fe pre1 | (have t1 : x2.toInt ≤ 3 := pre1; omega)) _) rfl hl.1 rfl (Nat.le_of_ble_eq_true rfl) ⟨by decide, by decide⟩ ⟨Nat.le_of_ble_eq_true rfl, Nat.le_of_ble_eq_true rfl⟩ d_31_56_12) (fun a10 u8 H locs hp9 V => ?_)
  obtain ⟨rfl, b11, b12, hE13⟩ := hp9
  have e14 : a10 = (F_jLat_charAt_27 x2) := hE13
  replace b11 : q_F (0 ≤ a10.toInt) := b11
  replace b12 : q_F (a10.toInt ≤ 255) := b12
  exact q_retn C0 V (n_chr (by first | with_reducible exact q_fe b11 | (have t1 : 0 ≤ a10.toInt := b11; omega)) (by first | with_reducible exact q_fe b12 | (have t1 : a10.toInt ≤ 255 := b12; omega))) (⟨rfl, (show 0 ≤ a10.toInt from (by first | with_reducible exact q_fe b11 | (have t1 : 0 ≤ a10.toInt := b11; omega))), (show a10.toInt ≤ 255 from (by first | with_reducible exact q_fe b12 | (have t1 : a10.toInt ≤ 255 := b12; omega))), (show a10 = (F_jStr_charAt_27 x2) from (by rw [e14, F_jStr_charAt_27.eq_1]))⟩) d_31_56_15
def F_She_addText_27_c16 (K_F_She_addText_27_L2 : Int32 → Int32 → (Nat → Int64) → (Int32 × (Nat → Int64))) (R : Int32) (N : Int32) (K : Int32) (t0_0 : Int32) (t1_0 : (Nat → Int64)) (lx7 : Int32) (lx8 : Int32) (lx9 : (Nat → Int64)) (p50 : (Int32 × (Nat → Int64))) : Int32 × (Nat → Int64) := K_F_She_addText_27_L2 (lx7 + 1 : Int32) (p50.1 : Int32) (p50.2 : (Nat → Int64))
def F_She_addText_27_L2 (R : Int32) (N : Int32) (K : Int32) (t0_0 : Int32) (t1_0 : (Nat → Int64)) : Nat → Int32 → Int32 → (Nat → Int64) → (Int32 × (Nat → Int64))
  | 0, _, _, _ => default
  | fm + 1, lx7, lx8, lx9 => if (4 : Int32) ≤ lx7 then ((lx8, lx9)) else (F_She_addText_27_c16 (F_She_addText_27_L2 R N K t0_0 t1_0 fm) R N K t0_0 t1_0 lx7 lx8 lx9 ((F_She_add_p R N K ((F_jStr_charAt_27 lx7) : Int32) lx8 lx9) : (Int32 × (Nat → Int64))))
def F_She_addText_27 (R : Int32) (N : Int32) (K : Int32) (t0_0 : Int32) (t1_0 : (Nat → Int64)) : Int32 × (Nat → Int64) := F_She_addText_27_L2 R N K t0_0 t1_0 ((4 - (0 : Int32).toInt).toNat + 1) 0 t0_0 t1_0
set_option maxRecDepth 100000 in
set_option maxHeartbeats 4000000 in
theorem X_She_addText_27 (l : Launch) (D : va_G) (g : Nat → ClassId) (q : Nat → Nat) (ws : va_W) (k1 : Nat) (R N K : Int32) (hB1 : q_isShe (nsh g q) g q k1 R N K) (hI : q_I (nsh g q) q ws) (t0_0 : Int32) (hT0 : ws[k1]? = (some (q k1, .inr (1, [.ref (q (k1 + 1)), .int R, .int t0_0])) : Option (Nat × va_E))) (t1_0 : (Nat → Int64)) (hT1 : ws[k1 + 1]? = (some (q (k1 + 1), .inl (g 1, N.toNatClampNeg, .inr (.inl t1_0))) : Option (Nat × va_E))) (pre0 : t0_0.toInt + 20 ≤ K.toInt) : q_mV l y_She_addText prog_11_method_4_code 3 5 0 0 D g [.ref (q k1), .ref (g (8 + 2 * 27))] ws (fun u => q_I (nsh g q) q u ∧ q_un ws u [k1, k1 + 1] ∧ ∃ (u0_0 : Int32) (u1_0 : (Nat → Int64)), u[k1]? = (some (q k1, .inr (1, [.ref (q (k1 + 1)), .int R, .int u0_0])) : Option (Nat × va_E)) ∧ u[k1 + 1]? = (some (q (k1 + 1), .inl (g 1, N.toNatClampNeg, .inr (.inl u1_0))) : Option (Nat × va_E)) ∧ (t0_0.toInt + 4 ≤ u0_0.toInt) ∧ (u0_0.toInt ≤ t0_0.toInt + 4) ∧ (u0_0, u1_0) = (F_She_addText_27 R N K t0_0 t1_0)) := by
  intro sz
  refine q_into (by decide) (Nat.le_of_ble_eq_true rfl) ?_
  intro p e s m below meth c ls hsz C0 V hl
  have hx := C0.1
  have hb := C0.2.1
  have btt0_0 := n_shW hI hB1 hT0
  clear btt0_0
  replace pre0 : q_F (t0_0.toInt + 20 ≤ K.toInt) := pre0
  have hF : q_un ws ws [k1, k1 + 1] := q_u0
  have hl : lv_has ls 3 [(0, .ref (q k1)), (1, .ref (g (8 + 2 * 27)))] := hl
  refine lv_iconst (v := 0) hx hb d_11_4_0 (by decide) ?_
  refine lv_istore_n (lv' := [(2, .int 0), (0, .ref (q k1)), (1, .ref (g (8 + 2 * 27)))]) hx hb d_11_4_1 rfl hl (by decide) rfl (fun ls hl => ?_)
  refine q_loop (X := Int32 × Int32 × (Nat → Int64)) (fun z H locs ls w15 => q_F (z.1.toInt ≤ 4) ∧ q_F (t0_0.toInt ≤ z.1.toInt + z.2.1.toInt) ∧ q_F (z.2.1.toInt ≤ z.1.toInt + t0_0.toInt) ∧ q_F (z.1.toInt + t0_0.toInt ≤ z.2.1.toInt) ∧ q_Wd D g (va_A ws sz) s w15 H locs ∧ lv_has ls 3 [(2, .int z.1), (0, .ref (q k1)), (1, .ref (g (8 + 2 * 27)))] ∧ q_I (nsh g q) q w15 ∧ q_un ws w15 [k1, k1 + 1] ∧ w15[k1]? = (some (q k1, .inr (1, [.ref (q (k1 + 1)), .int R, .int z.2.1])) : Option (Nat × va_E)) ∧ w15[k1 + 1]? = (some (q (k1 + 1), .inl (g 1, N.toNatClampNeg, .inr (.inl z.2.2))) : Option (Nat × va_E)) ∧ (∃ n, (4 - z.1.toInt).toNat < n ∧ F_She_addText_27_L2 R N K t0_0 t1_0 n z.1 z.2.1 z.2.2 = (F_She_addText_27 R N K t0_0 t1_0))) (fun z => (4 - z.1.toInt).toNat) ?_ ((0 : Int32), (t0_0 : Int32), (t1_0 : (Nat → Int64))) _ _ _ ws ⟨(show q_F (0 ≤ 4) from (show 0 ≤ 4 from by omega)), (show q_F (t0_0.toInt ≤ 0 + t0_0.toInt) from (show t0_0.toInt ≤ 0 + t0_0.toInt from by omega)), (show q_F (t0_0.toInt ≤ 0 + t0_0.toInt) from (show t0_0.toInt ≤ 0 + t0_0.toInt from by omega)), (show q_F (0 + t0_0.toInt ≤ t0_0.toInt) from (show 0 + t0_0.toInt ≤ t0_0.toInt from by omega)), V, q_lw hl (q_lw1 0 rfl (q_lw1 1 rfl (q_lw1 2 rfl q_lw0))), hI, hF, hT0, hT1, ⟨((4 - (0 : Int32).toInt).toNat + 1), Nat.lt_succ_self _, (show F_She_addText_27_L2 R N K t0_0 t1_0 ((4 - (0 : Int32).toInt).toNat + 1) 0 t0_0 t1_0 = (F_She_addText_27 R N K t0_0 t1_0) from (by rw [F_She_addText_27.eq_1]))⟩⟩
  rintro ⟨lx7, lx8, lx9⟩ H locs ls w15 ⟨i10, i11, i12, i13, V, hl, hI, hF, hO16, hO17, ⟨fu20, hf21, hR18⟩⟩ ih14
  obtain ⟨fm22, rfl⟩ : ∃ m, fu20 = m + 1 := ⟨fu20 - 1, by omega⟩
  replace i10 : q_F (lx7.toInt ≤ 4) := i10
  replace i11 : q_F (t0_0.toInt ≤ lx7.toInt + lx8.toInt) := i11
  replace i12 : q_F (lx8.toInt ≤ lx7.toInt + t0_0.toInt) := i12
  replace i13 : q_F (lx7.toInt + t0_0.toInt ≤ lx8.toInt) := i13
  replace hl : lv_has ls 3 [(2, .int lx7), (0, .ref (q k1)), (1, .ref (g (8 + 2 * 27)))] := hl
  replace hO16 : w15[k1]? = (some (q k1, .inr (1, [.ref (q (k1 + 1)), .int R, .int lx8])) : Option (Nat × va_E)) := hO16
  replace hO17 : w15[k1 + 1]? = (some (q (k1 + 1), .inl (g 1, N.toNatClampNeg, .inr (.inl lx9))) : Option (Nat × va_E)) := hO17
  refine lv_iload_n hx hb d_11_4_2 rfl (lv_at hl 0 rfl) ?_
  refine lv_aload_n hx hb d_11_4_3 rfl (lv_at hl 2 rfl) ?_
  refine q_goi V (q_runVs (As := []) (rest := [.int lx7]) (d := 2) (mc := 0) (ms := 0) (i := 27) C0 V rfl LV_She_24 (X_jStr_length_27 l D g q w15   hI   _) rfl rfl rfl hl.1 rfl (Nat.le_of_ble_eq_true rfl) ⟨by decide, by decide⟩ ⟨Nat.le_of_ble_eq_true rfl, Nat.le_of_ble_eq_true rfl⟩ d_11_4_4) (fun a25 u23 H locs hp24 V => ?_)
  obtain ⟨rfl, b26, b27, hE28⟩ := hp24
  have e29 : a25 = (F_jStr_length_27) := hE28
  replace b26 : q_F (4 ≤ a25.toInt) := b26
  replace b27 : q_F (a25.toInt ≤ 4) := b27
  obtain rfl : a25 = (4 : Int32) := q_Ieq (x := a25.toInt) (y := 4) rfl (by decide) (by have t1 : 4 ≤ a25.toInt := b26; have t2 : a25.toInt ≤ 4 := b27; omega)
  refine lv_icmp_ge (tgt := 25) hx hb d_11_4_7 (by decide) (fun c30 => ?_) (fun c30 => ?_)
  ·
    have b31 : q_F (4 ≤ lx7.toInt) := (q_leI c30)
    exact q_retv C0 V (⟨hI, hF, lx8, lx9, hO16, hO17, (show t0_0.toInt + 4 ≤ lx8.toInt from (by have t1 : lx7.toInt + t0_0.toInt ≤ lx8.toInt := i13; have t2 : 4 ≤ lx7.toInt := b31; omega)), (show lx8.toInt ≤ t0_0.toInt + 4 from (by have t1 : lx7.toInt ≤ 4 := i10; have t2 : lx8.toInt ≤ lx7.toInt + t0_0.toInt := i12; omega)), (show (lx8, lx9) = (F_She_addText_27 R N K t0_0 t1_0) from Eq.trans (by rw [F_She_addText_27_L2.eq_2, if_pos c30]) hR18)⟩) d_11_4_25
  ·
    have b32 : q_F (lx7.toInt < 4) := (q_nleI c30)
    refine lv_aload_n hx hb d_11_4_10 rfl (lv_at hl 1 rfl) ?_
    refine lv_aload_n hx hb d_11_4_11 rfl (lv_at hl 2 rfl) ?_
    refine lv_iload_n hx hb d_11_4_12 rfl (lv_at hl 0 rfl) ?_
    refine q_goi V (q_runVs (As := [.int lx7]) (rest := [.ref (q k1)]) (d := 4) (mc := 0) (ms := 0) (i := 27) C0 V rfl LV_She_30 (X_jStr_charAt_27 l D g q w15  lx7 hI  (by have t1 : t0_0.toInt ≤ lx7.toInt + lx8.toInt := i11; have t2 : lx8.toInt ≤ lx7.toInt + t0_0.toInt := i12; omega) (by first | with_reducible exact q_fe b32 | (have t1 : lx7.toInt < 4 := b32; omega)) _) rfl rfl rfl hl.1 rfl (Nat.le_of_ble_eq_true rfl) ⟨by decide, by decide⟩ ⟨Nat.le_of_ble_eq_true rfl, Nat.le_of_ble_eq_true rfl⟩ d_11_4_13) (fun a35 u33 H locs hp34 V => ?_)
    obtain ⟨rfl, b36, b37, hE38⟩ := hp34
    have e39 : a35 = (F_jStr_charAt_27 lx7) := hE38
    clear b36
    clear b37
    refine q_gov V (q_runV (As := [.int a35]) (rest := []) (d := 1) (mc := 0) (ms := 0) (ci := 1) C0 V rfl LV_She_34 (X_She_add_p l D g q w15 k1 R N K hB1 a35 hI lx8 hO16 lx9 hO17 (by have t1 : t0_0.toInt + 20 ≤ K.toInt := pre0; have t2 : lx7.toInt ≤ 4 := i10; have t3 : lx8.toInt ≤ lx7.toInt + t0_0.toInt := i12; omega) _) rfl rfl hO16 rfl hl.1 rfl (Nat.le_of_ble_eq_true rfl) ⟨by decide, by decide⟩ ⟨Nat.le_of_ble_eq_true rfl, Nat.le_of_ble_eq_true rfl⟩ d_11_4_16) (fun u40 H locs hp41 V => ?_)
    obtain ⟨hI, hZ9⟩ := hp41
    obtain ⟨hu49, hZ9⟩ := hZ9
    obtain ⟨y43, hZ9⟩ := hZ9
    obtain ⟨f44, hZ9⟩ := hZ9
    obtain ⟨hO42, hZ9⟩ := hZ9
    obtain ⟨hA45, hZ9⟩ := hZ9
    obtain ⟨b46, hZ9⟩ := hZ9
    obtain ⟨b47, hE48⟩ := hZ9
    replace hO42 : u40[k1]? = (some (q k1, .inr (1, [.ref (q (k1 + 1)), .int R, .int y43])) : Option (Nat × va_E)) := hO42
    replace hA45 : u40[k1 + 1]? = (some (q (k1 + 1), .inl (g 1, N.toNatClampNeg, .inr (.inl f44))) : Option (Nat × va_E)) := hA45
    obtain ⟨p50, e51⟩ : ∃ z, z = (F_She_add_p R N K a35 lx8 lx9) := ⟨_, rfl⟩
    have e52 : y43 = p50.1 := congrArg (fun z => z.1) (hE48.trans e51.symm)
    have e53 : f44 = p50.2 := congrArg (fun z => z.2) (hE48.trans e51.symm)
    replace b46 : q_F (lx8.toInt + 1 ≤ y43.toInt) := b46
    replace b47 : q_F (y43.toInt ≤ lx8.toInt + 1) := b47
    replace hF := q_uc hF hu49 (by first | exact (q_sk (q_mi 0 rfl) (q_sk (q_mi 1 rfl) q_s0)) | simp)
    have hR54 := (show F_She_addText_27_c16 (F_She_addText_27_L2 R N K t0_0 t1_0 fm22) R N K t0_0 t1_0 lx7 lx8 lx9 p50 = (F_She_addText_27 R N K t0_0 t1_0) from Eq.trans (by rw [e51, e39, F_She_addText_27_L2.eq_2, if_neg c30]) hR18)
    obtain ⟨a59, e60⟩ := q_nm (lx7 + 1 : Int32)
    have b61 : q_F (a59.toInt = lx7.toInt + 1) := (by rw [← e60]; exact q_addI (y := 1) rfl (by decide) (by have t1 : t0_0.toInt ≤ lx7.toInt + lx8.toInt := i11; have t2 : lx8.toInt ≤ lx7.toInt + t0_0.toInt := i12; have t3 : lx7.toInt ≤ 4 := i10; omega) (by have t1 : t0_0.toInt ≤ lx7.toInt + lx8.toInt := i11; have t2 : lx8.toInt ≤ lx7.toInt + t0_0.toInt := i12; have t3 : lx7.toInt ≤ 4 := i10; omega))
    refine lv_iinc (v := a59) (lv' := [(2, .int a59), (0, .ref (q k1)), (1, .ref (g (8 + 2 * 27)))]) hx hb d_11_4_19 hl (k := 0) rfl (e60) (by decide) rfl (fun ls hl => ?_)
    refine lv_goto (tgt := 2) hx hb d_11_4_22 (by decide) ?_
    exact ih14 ((a59 : Int32), (y43 : Int32), (f44 : (Nat → Int64))) _ _ _ _ (show (4 - a59.toInt).toNat < (4 - lx7.toInt).toNat from by have t1 : a59.toInt = lx7.toInt + 1 := b61; have t2 : lx7.toInt ≤ 4 := i10; have t3 : lx7.toInt < 4 := b32; omega) ⟨(show q_F (a59.toInt ≤ 4) from (show a59.toInt ≤ 4 from by have t1 : lx7.toInt < 4 := b32; have t2 : a59.toInt = lx7.toInt + 1 := b61; omega)), (show q_F (t0_0.toInt ≤ a59.toInt + y43.toInt) from (show t0_0.toInt ≤ a59.toInt + y43.toInt from by have t1 : t0_0.toInt ≤ lx7.toInt + lx8.toInt := i11; have t2 : lx8.toInt + 1 ≤ y43.toInt := b46; have t3 : a59.toInt = lx7.toInt + 1 := b61; omega)), (show q_F (y43.toInt ≤ a59.toInt + t0_0.toInt) from (show y43.toInt ≤ a59.toInt + t0_0.toInt from by have t1 : lx8.toInt ≤ lx7.toInt + t0_0.toInt := i12; have t2 : y43.toInt ≤ lx8.toInt + 1 := b47; have t3 : a59.toInt = lx7.toInt + 1 := b61; omega)), (show q_F (a59.toInt + t0_0.toInt ≤ y43.toInt) from (show a59.toInt + t0_0.toInt ≤ y43.toInt from by have t1 : lx7.toInt + t0_0.toInt ≤ lx8.toInt := i13; have t2 : lx8.toInt + 1 ≤ y43.toInt := b46; have t3 : a59.toInt = lx7.toInt + 1 := b61; omega)), V, q_lw hl (q_lw1 0 rfl (q_lw1 1 rfl (q_lw1 2 rfl q_lw0))), hI, hF, hO42, hA45, ⟨fm22, Nat.lt_of_lt_of_le (show (4 - a59.toInt).toNat < (4 - lx7.toInt).toNat from by have t1 : a59.toInt = lx7.toInt + 1 := b61; have t2 : lx7.toInt ≤ 4 := i10; have t3 : lx7.toInt < 4 := b32; omega) (Nat.le_of_lt_succ hf21), (show F_She_addText_27_L2 R N K t0_0 t1_0 fm22 a59 y43 f44 = (F_She_addText_27 R N K t0_0 t1_0) from Eq.trans (by rw [← e60, e53, e52, F_She_addText_27_c16.eq_1]) hR54)⟩⟩
def F_jStr_length_28 : Int32 := (4 : Int32)
set_option maxRecDepth 100000 in
set_option maxHeartbeats 4000000 in
theorem X_jStr_length_28 (l : Launch) (D : va_G) (g : Nat → ClassId) (q : Nat → Nat) (ws : va_W) (hI : q_I (nsh g q) q ws) : q_mI l y_jStr_length prog_31_method_54_code 1 (.int) 2 0 0 D g [.ref (g (8 + 2 * 28))] ws (fun r u => ws = u ∧ (4 ≤ r.toInt) ∧ (r.toInt ≤ 4) ∧ r = (F_jStr_length_28)) := by
  intro sz
  refine q_into (by decide) (Nat.le_of_ble_eq_true rfl) ?_
  intro p e s m below meth c ls hsz C0 V hl
  have hx := C0.1
  have hb := C0.2.1
  have hl : lv_has ls 1 [(0, .ref (g (8 + 2 * 28)))] := hl
  refine lv_aload_n hx hb d_31_54_0 rfl (lv_at hl 0 rfl) ?_
  refine q_sval (i := 28) C0 V rfl rfl w_1018 d_31_54_1 ?_
  refine q_slen (i := 28) (v := 4) C0 V rfl (by decide) d_31_54_4 ?_
  refine lv_aload_n hx hb d_31_54_5 rfl (lv_at hl 0 rfl) ?_
  refine q_goi V (q_runVs (As := []) (rest := [.int 4]) (d := 1) (mc := 0) (ms := 0) (i := 28) C0 V rfl LV_jStr_335 (T_jStr_coder_28 l D g q ws   hI   _) rfl rfl rfl hl.1 rfl (Nat.le_of_ble_eq_true rfl) ⟨by decide, by decide⟩ ⟨Nat.le_of_ble_eq_true rfl, Nat.le_of_ble_eq_true rfl⟩ d_31_54_6) (fun a3 u1 H locs hp2 V => ?_)
  obtain ⟨rfl, b4, b5⟩ := hp2
  replace b4 : q_F (0 ≤ a3.toInt) := b4
  replace b5 : q_F (a3.toInt ≤ 0) := b5
  obtain rfl : a3 = (0 : Int32) := q_Ieq (x := a3.toInt) (y := 0) rfl (by decide) (by have t1 : 0 ≤ a3.toInt := b4; have t2 : a3.toInt ≤ 0 := b5; omega)
  refine lv_ishr hx hb d_31_54_9 ?_
  refine q_ti (v := 4) (by decide) ?_
  exact q_reti C0 V (⟨rfl, (show 4 ≤ (4 : Int32).toInt from (by have z0 : (4 : Int32).toInt = 4 := rfl; omega)), (show (4 : Int32).toInt ≤ 4 from (by have z0 : (4 : Int32).toInt = 4 := rfl; omega)), (show (4 : Int32) = (F_jStr_length_28) from (by rw [F_jStr_length_28.eq_1]))⟩) d_31_54_10
def F_jLat_charAt_28 (x2 : Int32) : Int32 := (((((([48, 120, 48, 46] : List Int32).getD x2.toNatClampNeg 0) : Int32) &&& 255 : Int32).toUInt32 % 65536).toInt32 : Int32)
set_option maxRecDepth 100000 in
set_option maxHeartbeats 4000000 in
theorem X_jLat_charAt_28 (l : Launch) (D : va_G) (g : Nat → ClassId) (q : Nat → Nat) (ws : va_W) (x2 : Int32) (hI : q_I (nsh g q) q ws) (pre0 : 0 ≤ x2.toInt) (pre1 : x2.toInt ≤ 3) : q_mI l y_jLat_charAt prog_33_method_2_code 2 (.char) 3 0 0 D g [.ref (g (9 + 2 * 28)), .int x2] ws (fun r u => ws = u ∧ (0 ≤ r.toInt) ∧ (r.toInt ≤ 255) ∧ r = (F_jLat_charAt_28 x2)) := by
  intro sz
  refine q_into (by decide) (Nat.le_of_ble_eq_true rfl) ?_
  intro p e s m below meth c ls hsz C0 V hl
  have hx := C0.1
  have hb := C0.2.1
  replace pre0 : q_F (0 ≤ x2.toInt) := pre0
  replace pre1 : q_F (x2.toInt ≤ 3) := pre1
  have hl : lv_has ls 2 [(0, .ref (g (9 + 2 * 28))), (1, .int x2)] := hl
  refine lv_iload_n hx hb d_33_2_0 rfl (lv_at hl 1 rfl) ?_
  refine lv_aload_n hx hb d_33_2_1 rfl (lv_at hl 0 rfl) ?_
  refine q_slen (i := 28) (v := 4) C0 V rfl (by decide) d_33_2_2 ?_
  refine q_gov V (q_runS (As := [.int x2, .int 4]) (rest := []) (d := 2) (mc := 0) (ms := 0) C0 V rfl LS_jLat_9 (T_jStr_checkIndex l D g q ws  x2 4 hI  (by have y0 : (4 : Int32).toInt = 4 := rfl; have t1 : 0 ≤ x2.toInt := pre0; omega) (by have y0 : (4 : Int32).toInt = 4 := rfl; have t1 : x2.toInt ≤ 3 := pre1; omega) _) rfl hl.1 rfl (Nat.le_of_ble_eq_true rfl) ⟨by decide, by decide⟩ ⟨Nat.le_of_ble_eq_true rfl, Nat.le_of_ble_eq_true rfl⟩ d_33_2_3) (fun u1 H locs hp2 V => ?_)
  obtain ⟨rfl, -⟩ := hp2
  refine lv_aload_n hx hb d_33_2_6 rfl (lv_at hl 0 rfl) ?_
  refine lv_iload_n hx hb d_33_2_7 rfl (lv_at hl 1 rfl) ?_
  refine q_sbal (i := 28) (v := (([48, 120, 48, 46] : List Int32).getD x2.toNatClampNeg 0)) C0 V rfl (show vp_in x2 4 from q_ix (x := x2.toInt) rfl (by first | with_reducible exact q_fe pre0 | (have t1 : 0 ≤ x2.toInt := pre0; omega)) (by have t1 : 0 ≤ x2.toInt := pre0; have t2 : x2.toInt ≤ 3 := pre1; omega)) rfl d_33_2_8 ?_
  obtain ⟨a4, e5⟩ := q_nm ((([48, 120, 48, 46] : List Int32).getD x2.toNatClampNeg 0) : Int32)
  refine q_ti (v := a4) e5 ?_
  refine lv_sipush (v := 255) hx hb d_33_2_9 (by decide) ?_
  refine lv_iand hx hb d_33_2_12 ?_
  obtain ⟨a6, e7⟩ := q_nm (a4 &&& 255 : Int32)
  refine q_ti (v := a6) e7 ?_
  have b8 : q_F (0 ≤ a6.toInt ∧ a6.toInt ≤ 255) := (by rw [← e7]; show 0 ≤ (a4 &&& 255 : Int32).toInt ∧ (a4 &&& 255 : Int32).toInt ≤ 255; exact s_and (by decide))
  refine lv_i2c hx hb d_33_2_13 rfl ?_
  obtain ⟨a9, e10⟩ := q_nm ((a6.toUInt32 % 65536).toInt32 : Int32)
  refine q_ti (v := a9) e10 ?_
  have b11 : q_F (a9.toInt = a6.toInt) := (by rw [← e10]; show ((a6.toUInt32 % 65536).toInt32 : Int32).toInt = a6.toInt; exact (n_i2c (x := a6)).2.2 (by first | with_reducible exact (q_fe b8).2 | with_reducible exact (q_fe b8).1 | (have t1 : 0 ≤ a6.toInt ∧ a6.toInt ≤ 255 := b8; omega)) (by first | with_reducible exact (q_fe b8).2 | with_reducible exact (q_fe b8).1 | (have t1 : 0 ≤ a6.toInt ∧ a6.toInt ≤ 255 := b8; omega)))
  exact q_retn C0 V (n_chr (by have t1 : 0 ≤ a6.toInt ∧ a6.toInt ≤ 255 := b8; have t2 : a9.toInt = a6.toInt := b11; omega) (by have t1 : 0 ≤ a6.toInt ∧ a6.toInt ≤ 255 := b8; have t2 : a9.toInt = a6.toInt := b11; omega)) (⟨rfl, (show 0 ≤ a9.toInt from (by have t1 : 0 ≤ a6.toInt ∧ a6.toInt ≤ 255 := b8; have t2 : a9.toInt = a6.toInt := b11; omega)), (show a9.toInt ≤ 255 from (by have t1 : 0 ≤ a6.toInt ∧ a6.toInt ≤ 255 := b8; have t2 : a9.toInt = a6.toInt := b11; omega)), (show a9 = (F_jLat_charAt_28 x2) from (by rw [← e10, ← e7, ← e5, F_jLat_charAt_28.eq_1]))⟩) d_33_2_14
def F_jStr_charAt_28 (x2 : Int32) : Int32 := ((F_jLat_charAt_28 x2) : Int32)
set_option maxRecDepth 100000 in
set_option maxHeartbeats 4000000 in
theorem X_jStr_charAt_28 (l : Launch) (D : va_G) (g : Nat → ClassId) (q : Nat → Nat) (ws : va_W) (x2 : Int32) (hI : q_I (nsh g q) q ws) (pre0 : 0 ≤ x2.toInt) (pre1 : x2.toInt ≤ 3) : q_mI l y_jStr_charAt prog_31_method_56_code 2 (.char) 4 0 0 D g [.ref (g (8 + 2 * 28)), .int x2] ws (fun r u => ws = u ∧ (0 ≤ r.toInt) ∧ (r.toInt ≤ 255) ∧ r = (F_jStr_charAt_28 x2)) := by
  intro sz
  refine q_into (by decide) (Nat.le_of_ble_eq_true rfl) ?_
  intro p e s m below meth c ls hsz C0 V hl
  have hx := C0.1
  have hb := C0.2.1
  replace pre0 : q_F (0 ≤ x2.toInt) := pre0
  replace pre1 : q_F (x2.toInt ≤ 3) := pre1
  have hl : lv_has ls 2 [(0, .ref (g (8 + 2 * 28))), (1, .int x2)] := hl
  refine lv_aload_n hx hb d_31_56_0 rfl (lv_at hl 0 rfl) ?_
  refine q_goi V (q_runVs (As := []) (rest := []) (d := 1) (mc := 0) (ms := 0) (i := 28) C0 V rfl LV_jStr_492 (T_jStr_isLatin1_28 l D g q ws   hI   _) rfl rfl rfl hl.1 rfl (Nat.le_of_ble_eq_true rfl) ⟨by decide, by decide⟩ ⟨Nat.le_of_ble_eq_true rfl, Nat.le_of_ble_eq_true rfl⟩ d_31_56_1) (fun a3 u1 H locs hp2 V => ?_)
  obtain ⟨rfl, b4, b5⟩ := hp2
  replace b4 : q_F (1 ≤ a3.toInt) := b4
  replace b5 : q_F (a3.toInt ≤ 1) := b5
  obtain rfl : a3 = (1 : Int32) := q_Ieq (x := a3.toInt) (y := 1) rfl (by decide) (by have t1 : 1 ≤ a3.toInt := b4; have t2 : a3.toInt ≤ 1 := b5; omega)
  refine lv_if_eq (tgt := 16) hx hb d_31_56_4 (by decide) (fun c7 => absurd c7 (by decide)) (fun c7 => ?_)
  refine lv_aload_n hx hb d_31_56_7 rfl (lv_at hl 0 rfl) ?_
  refine q_sval (i := 28) C0 V rfl rfl w_1018 d_31_56_8 ?_
  refine lv_iload_n hx hb d_31_56_11 rfl (lv_at hl 1 rfl) ?_
  refine q_goi V (q_runS (As := [.ref (g (9 + 2 * 28)), .int x2]) (rest := []) (d := 3) (mc := 0) (ms := 0) C0 V rfl LS_jStr_495 (X_jLat_charAt_28 l D g q ws  x2 hI  (by first | with_reducible exact q_fe pre0 | (have t1 : 0 ≤ x2.toInt := pre0; omega)) (by first | with_reducible exact q_fe pre1 | (have t1 : x2.toInt ≤ 3 := pre1; omega)) _) rfl hl.1 rfl (Nat.le_of_ble_eq_true rfl) ⟨by decide, by decide⟩ ⟨Nat.le_of_ble_eq_true rfl, Nat.le_of_ble_eq_true rfl⟩ d_31_56_12) (fun a10 u8 H locs hp9 V => ?_)
  obtain ⟨rfl, b11, b12, hE13⟩ := hp9
  have e14 : a10 = (F_jLat_charAt_28 x2) := hE13
  replace b11 : q_F (0 ≤ a10.toInt) := b11
  replace b12 : q_F (a10.toInt ≤ 255) := b12
  exact q_retn C0 V (n_chr (by first | with_reducible exact q_fe b11 | (have t1 : 0 ≤ a10.toInt := b11; omega)) (by first | with_reducible exact q_fe b12 | (have t1 : a10.toInt ≤ 255 := b12; omega))) (⟨rfl, (show 0 ≤ a10.toInt from (by first | with_reducible exact q_fe b11 | (have t1 : 0 ≤ a10.toInt := b11; omega))), (show a10.toInt ≤ 255 from (by first | with_reducible exact q_fe b12 | (have t1 : a10.toInt ≤ 255 := b12; omega))), (show a10 = (F_jStr_charAt_28 x2) from (by rw [e14, F_jStr_charAt_28.eq_1]))⟩) d_31_56_15
def F_She_addText_28_c16 (K_F_She_addText_28_L2 : Int32 → Int32 → (Nat → Int64) → (Int32 × (Nat → Int64))) (R : Int32) (N : Int32) (K : Int32) (t0_0 : Int32) (t1_0 : (Nat → Int64)) (lx7 : Int32) (lx8 : Int32) (lx9 : (Nat → Int64)) (p50 : (Int32 × (Nat → Int64))) : Int32 × (Nat → Int64) := K_F_She_addText_28_L2 (lx7 + 1 : Int32) (p50.1 : Int32) (p50.2 : (Nat → Int64))
def F_She_addText_28_L2 (R : Int32) (N : Int32) (K : Int32) (t0_0 : Int32) (t1_0 : (Nat → Int64)) : Nat → Int32 → Int32 → (Nat → Int64) → (Int32 × (Nat → Int64))
  | 0, _, _, _ => default
  | fm + 1, lx7, lx8, lx9 => if (4 : Int32) ≤ lx7 then ((lx8, lx9)) else (F_She_addText_28_c16 (F_She_addText_28_L2 R N K t0_0 t1_0 fm) R N K t0_0 t1_0 lx7 lx8 lx9 ((F_She_add_p R N K ((F_jStr_charAt_28 lx7) : Int32) lx8 lx9) : (Int32 × (Nat → Int64))))
def F_She_addText_28 (R : Int32) (N : Int32) (K : Int32) (t0_0 : Int32) (t1_0 : (Nat → Int64)) : Int32 × (Nat → Int64) := F_She_addText_28_L2 R N K t0_0 t1_0 ((4 - (0 : Int32).toInt).toNat + 1) 0 t0_0 t1_0
set_option maxRecDepth 100000 in
set_option maxHeartbeats 4000000 in
theorem X_She_addText_28 (l : Launch) (D : va_G) (g : Nat → ClassId) (q : Nat → Nat) (ws : va_W) (k1 : Nat) (R N K : Int32) (hB1 : q_isShe (nsh g q) g q k1 R N K) (hI : q_I (nsh g q) q ws) (t0_0 : Int32) (hT0 : ws[k1]? = (some (q k1, .inr (1, [.ref (q (k1 + 1)), .int R, .int t0_0])) : Option (Nat × va_E))) (t1_0 : (Nat → Int64)) (hT1 : ws[k1 + 1]? = (some (q (k1 + 1), .inl (g 1, N.toNatClampNeg, .inr (.inl t1_0))) : Option (Nat × va_E))) (pre0 : t0_0.toInt + 20 ≤ K.toInt) : q_mV l y_She_addText prog_11_method_4_code 3 5 0 0 D g [.ref (q k1), .ref (g (8 + 2 * 28))] ws (fun u => q_I (nsh g q) q u ∧ q_un ws u [k1, k1 + 1] ∧ ∃ (u0_0 : Int32) (u1_0 : (Nat → Int64)), u[k1]? = (some (q k1, .inr (1, [.ref (q (k1 + 1)), .int R, .int u0_0])) : Option (Nat × va_E)) ∧ u[k1 + 1]? = (some (q (k1 + 1), .inl (g 1, N.toNatClampNeg, .inr (.inl u1_0))) : Option (Nat × va_E)) ∧ (t0_0.toInt + 4 ≤ u0_0.toInt) ∧ (u0_0.toInt ≤ t0_0.toInt + 4) ∧ (u0_0, u1_0) = (F_She_addText_28 R N K t0_0 t1_0)) := by
  intro sz
  refine q_into (by decide) (Nat.le_of_ble_eq_true rfl) ?_
  intro p e s m below meth c ls hsz C0 V hl
  have hx := C0.1
  have hb := C0.2.1
  have btt0_0 := n_shW hI hB1 hT0
  clear btt0_0
  replace pre0 : q_F (t0_0.toInt + 20 ≤ K.toInt) := pre0
  have hF : q_un ws ws [k1, k1 + 1] := q_u0
  have hl : lv_has ls 3 [(0, .ref (q k1)), (1, .ref (g (8 + 2 * 28)))] := hl
  refine lv_iconst (v := 0) hx hb d_11_4_0 (by decide) ?_
  refine lv_istore_n (lv' := [(2, .int 0), (0, .ref (q k1)), (1, .ref (g (8 + 2 * 28)))]) hx hb d_11_4_1 rfl hl (by decide) rfl (fun ls hl => ?_)
  refine q_loop (X := Int32 × Int32 × (Nat → Int64)) (fun z H locs ls w15 => q_F (z.1.toInt ≤ 4) ∧ q_F (t0_0.toInt ≤ z.1.toInt + z.2.1.toInt) ∧ q_F (z.2.1.toInt ≤ z.1.toInt + t0_0.toInt) ∧ q_F (z.1.toInt + t0_0.toInt ≤ z.2.1.toInt) ∧ q_Wd D g (va_A ws sz) s w15 H locs ∧ lv_has ls 3 [(2, .int z.1), (0, .ref (q k1)), (1, .ref (g (8 + 2 * 28)))] ∧ q_I (nsh g q) q w15 ∧ q_un ws w15 [k1, k1 + 1] ∧ w15[k1]? = (some (q k1, .inr (1, [.ref (q (k1 + 1)), .int R, .int z.2.1])) : Option (Nat × va_E)) ∧ w15[k1 + 1]? = (some (q (k1 + 1), .inl (g 1, N.toNatClampNeg, .inr (.inl z.2.2))) : Option (Nat × va_E)) ∧ (∃ n, (4 - z.1.toInt).toNat < n ∧ F_She_addText_28_L2 R N K t0_0 t1_0 n z.1 z.2.1 z.2.2 = (F_She_addText_28 R N K t0_0 t1_0))) (fun z => (4 - z.1.toInt).toNat) ?_ ((0 : Int32), (t0_0 : Int32), (t1_0 : (Nat → Int64))) _ _ _ ws ⟨(show q_F (0 ≤ 4) from (show 0 ≤ 4 from by omega)), (show q_F (t0_0.toInt ≤ 0 + t0_0.toInt) from (show t0_0.toInt ≤ 0 + t0_0.toInt from by omega)), (show q_F (t0_0.toInt ≤ 0 + t0_0.toInt) from (show t0_0.toInt ≤ 0 + t0_0.toInt from by omega)), (show q_F (0 + t0_0.toInt ≤ t0_0.toInt) from (show 0 + t0_0.toInt ≤ t0_0.toInt from by omega)), V, q_lw hl (q_lw1 0 rfl (q_lw1 1 rfl (q_lw1 2 rfl q_lw0))), hI, hF, hT0, hT1, ⟨((4 - (0 : Int32).toInt).toNat + 1), Nat.lt_succ_self _, (show F_She_addText_28_L2 R N K t0_0 t1_0 ((4 - (0 : Int32).toInt).toNat + 1) 0 t0_0 t1_0 = (F_She_addText_28 R N K t0_0 t1_0) from (by rw [F_She_addText_28.eq_1]))⟩⟩
  rintro ⟨lx7, lx8, lx9⟩ H locs ls w15 ⟨i10, i11, i12, i13, V, hl, hI, hF, hO16, hO17, ⟨fu20, hf21, hR18⟩⟩ ih14
  obtain ⟨fm22, rfl⟩ : ∃ m, fu20 = m + 1 := ⟨fu20 - 1, by omega⟩
  replace i10 : q_F (lx7.toInt ≤ 4) := i10
  replace i11 : q_F (t0_0.toInt ≤ lx7.toInt + lx8.toInt) := i11
  replace i12 : q_F (lx8.toInt ≤ lx7.toInt + t0_0.toInt) := i12
  replace i13 : q_F (lx7.toInt + t0_0.toInt ≤ lx8.toInt) := i13
  replace hl : lv_has ls 3 [(2, .int lx7), (0, .ref (q k1)), (1, .ref (g (8 + 2 * 28)))] := hl
  replace hO16 : w15[k1]? = (some (q k1, .inr (1, [.ref (q (k1 + 1)), .int R, .int lx8])) : Option (Nat × va_E)) := hO16
  replace hO17 : w15[k1 + 1]? = (some (q (k1 + 1), .inl (g 1, N.toNatClampNeg, .inr (.inl lx9))) : Option (Nat × va_E)) := hO17
  refine lv_iload_n hx hb d_11_4_2 rfl (lv_at hl 0 rfl) ?_
  refine lv_aload_n hx hb d_11_4_3 rfl (lv_at hl 2 rfl) ?_
  refine q_goi V (q_runVs (As := []) (rest := [.int lx7]) (d := 2) (mc := 0) (ms := 0) (i := 28) C0 V rfl LV_She_24 (X_jStr_length_28 l D g q w15   hI   _) rfl rfl rfl hl.1 rfl (Nat.le_of_ble_eq_true rfl) ⟨by decide, by decide⟩ ⟨Nat.le_of_ble_eq_true rfl, Nat.le_of_ble_eq_true rfl⟩ d_11_4_4) (fun a25 u23 H locs hp24 V => ?_)
  obtain ⟨rfl, b26, b27, hE28⟩ := hp24
  have e29 : a25 = (F_jStr_length_28) := hE28
  replace b26 : q_F (4 ≤ a25.toInt) := b26
  replace b27 : q_F (a25.toInt ≤ 4) := b27
  obtain rfl : a25 = (4 : Int32) := q_Ieq (x := a25.toInt) (y := 4) rfl (by decide) (by have t1 : 4 ≤ a25.toInt := b26; have t2 : a25.toInt ≤ 4 := b27; omega)
  refine lv_icmp_ge (tgt := 25) hx hb d_11_4_7 (by decide) (fun c30 => ?_) (fun c30 => ?_)
  ·
    have b31 : q_F (4 ≤ lx7.toInt) := (q_leI c30)
    exact q_retv C0 V (⟨hI, hF, lx8, lx9, hO16, hO17, (show t0_0.toInt + 4 ≤ lx8.toInt from (by have t1 : lx7.toInt + t0_0.toInt ≤ lx8.toInt := i13; have t2 : 4 ≤ lx7.toInt := b31; omega)), (show lx8.toInt ≤ t0_0.toInt + 4 from (by have t1 : lx7.toInt ≤ 4 := i10; have t2 : lx8.toInt ≤ lx7.toInt + t0_0.toInt := i12; omega)), (show (lx8, lx9) = (F_She_addText_28 R N K t0_0 t1_0) from Eq.trans (by rw [F_She_addText_28_L2.eq_2, if_pos c30]) hR18)⟩) d_11_4_25
  ·
    have b32 : q_F (lx7.toInt < 4) := (q_nleI c30)
    refine lv_aload_n hx hb d_11_4_10 rfl (lv_at hl 1 rfl) ?_
    refine lv_aload_n hx hb d_11_4_11 rfl (lv_at hl 2 rfl) ?_
    refine lv_iload_n hx hb d_11_4_12 rfl (lv_at hl 0 rfl) ?_
    refine q_goi V (q_runVs (As := [.int lx7]) (rest := [.ref (q k1)]) (d := 4) (mc := 0) (ms := 0) (i := 28) C0 V rfl LV_She_30 (X_jStr_charAt_28 l D g q w15  lx7 hI  (by have t1 : t0_0.toInt ≤ lx7.toInt + lx8.toInt := i11; have t2 : lx8.toInt ≤ lx7.toInt + t0_0.toInt := i12; omega) (by first | with_reducible exact q_fe b32 | (have t1 : lx7.toInt < 4 := b32; omega)) _) rfl rfl rfl hl.1 rfl (Nat.le_of_ble_eq_true rfl) ⟨by decide, by decide⟩ ⟨Nat.le_of_ble_eq_true rfl, Nat.le_of_ble_eq_true rfl⟩ d_11_4_13) (fun a35 u33 H locs hp34 V => ?_)
    obtain ⟨rfl, b36, b37, hE38⟩ := hp34
    have e39 : a35 = (F_jStr_charAt_28 lx7) := hE38
    clear b36
    clear b37
    refine q_gov V (q_runV (As := [.int a35]) (rest := []) (d := 1) (mc := 0) (ms := 0) (ci := 1) C0 V rfl LV_She_34 (X_She_add_p l D g q w15 k1 R N K hB1 a35 hI lx8 hO16 lx9 hO17 (by have t1 : t0_0.toInt + 20 ≤ K.toInt := pre0; have t2 : lx7.toInt ≤ 4 := i10; have t3 : lx8.toInt ≤ lx7.toInt + t0_0.toInt := i12; omega) _) rfl rfl hO16 rfl hl.1 rfl (Nat.le_of_ble_eq_true rfl) ⟨by decide, by decide⟩ ⟨Nat.le_of_ble_eq_true rfl, Nat.le_of_ble_eq_true rfl⟩ d_11_4_16) (fun u40 H locs hp41 V => ?_)
    obtain ⟨hI, hZ9⟩ := hp41
    obtain ⟨hu49, hZ9⟩ := hZ9
    obtain ⟨y43, hZ9⟩ := hZ9
    obtain ⟨f44, hZ9⟩ := hZ9
    obtain ⟨hO42, hZ9⟩ := hZ9
    obtain ⟨hA45, hZ9⟩ := hZ9
    obtain ⟨b46, hZ9⟩ := hZ9
    obtain ⟨b47, hE48⟩ := hZ9
    replace hO42 : u40[k1]? = (some (q k1, .inr (1, [.ref (q (k1 + 1)), .int R, .int y43])) : Option (Nat × va_E)) := hO42
    replace hA45 : u40[k1 + 1]? = (some (q (k1 + 1), .inl (g 1, N.toNatClampNeg, .inr (.inl f44))) : Option (Nat × va_E)) := hA45
    obtain ⟨p50, e51⟩ : ∃ z, z = (F_She_add_p R N K a35 lx8 lx9) := ⟨_, rfl⟩
    have e52 : y43 = p50.1 := congrArg (fun z => z.1) (hE48.trans e51.symm)
    have e53 : f44 = p50.2 := congrArg (fun z => z.2) (hE48.trans e51.symm)
    replace b46 : q_F (lx8.toInt + 1 ≤ y43.toInt) := b46
    replace b47 : q_F (y43.toInt ≤ lx8.toInt + 1) := b47
    replace hF := q_uc hF hu49 (by first | exact (q_sk (q_mi 0 rfl) (q_sk (q_mi 1 rfl) q_s0)) | simp)
    have hR54 := (show F_She_addText_28_c16 (F_She_addText_28_L2 R N K t0_0 t1_0 fm22) R N K t0_0 t1_0 lx7 lx8 lx9 p50 = (F_She_addText_28 R N K t0_0 t1_0) from Eq.trans (by rw [e51, e39, F_She_addText_28_L2.eq_2, if_neg c30]) hR18)
    obtain ⟨a59, e60⟩ := q_nm (lx7 + 1 : Int32)
    have b61 : q_F (a59.toInt = lx7.toInt + 1) := (by rw [← e60]; exact q_addI (y := 1) rfl (by decide) (by have t1 : t0_0.toInt ≤ lx7.toInt + lx8.toInt := i11; have t2 : lx8.toInt ≤ lx7.toInt + t0_0.toInt := i12; have t3 : lx7.toInt ≤ 4 := i10; omega) (by have t1 : t0_0.toInt ≤ lx7.toInt + lx8.toInt := i11; have t2 : lx8.toInt ≤ lx7.toInt + t0_0.toInt := i12; have t3 : lx7.toInt ≤ 4 := i10; omega))
    refine lv_iinc (v := a59) (lv' := [(2, .int a59), (0, .ref (q k1)), (1, .ref (g (8 + 2 * 28)))]) hx hb d_11_4_19 hl (k := 0) rfl (e60) (by decide) rfl (fun ls hl => ?_)
    refine lv_goto (tgt := 2) hx hb d_11_4_22 (by decide) ?_
    exact ih14 ((a59 : Int32), (y43 : Int32), (f44 : (Nat → Int64))) _ _ _ _ (show (4 - a59.toInt).toNat < (4 - lx7.toInt).toNat from by have t1 : a59.toInt = lx7.toInt + 1 := b61; have t2 : lx7.toInt ≤ 4 := i10; have t3 : lx7.toInt < 4 := b32; omega) ⟨(show q_F (a59.toInt ≤ 4) from (show a59.toInt ≤ 4 from by have t1 : lx7.toInt < 4 := b32; have t2 : a59.toInt = lx7.toInt + 1 := b61; omega)), (show q_F (t0_0.toInt ≤ a59.toInt + y43.toInt) from (show t0_0.toInt ≤ a59.toInt + y43.toInt from by have t1 : t0_0.toInt ≤ lx7.toInt + lx8.toInt := i11; have t2 : lx8.toInt + 1 ≤ y43.toInt := b46; have t3 : a59.toInt = lx7.toInt + 1 := b61; omega)), (show q_F (y43.toInt ≤ a59.toInt + t0_0.toInt) from (show y43.toInt ≤ a59.toInt + t0_0.toInt from by have t1 : lx8.toInt ≤ lx7.toInt + t0_0.toInt := i12; have t2 : y43.toInt ≤ lx8.toInt + 1 := b47; have t3 : a59.toInt = lx7.toInt + 1 := b61; omega)), (show q_F (a59.toInt + t0_0.toInt ≤ y43.toInt) from (show a59.toInt + t0_0.toInt ≤ y43.toInt from by have t1 : lx7.toInt + t0_0.toInt ≤ lx8.toInt := i13; have t2 : lx8.toInt + 1 ≤ y43.toInt := b46; have t3 : a59.toInt = lx7.toInt + 1 := b61; omega)), V, q_lw hl (q_lw1 0 rfl (q_lw1 1 rfl (q_lw1 2 rfl q_lw0))), hI, hF, hO42, hA45, ⟨fm22, Nat.lt_of_lt_of_le (show (4 - a59.toInt).toNat < (4 - lx7.toInt).toNat from by have t1 : a59.toInt = lx7.toInt + 1 := b61; have t2 : lx7.toInt ≤ 4 := i10; have t3 : lx7.toInt < 4 := b32; omega) (Nat.le_of_lt_succ hf21), (show F_She_addText_28_L2 R N K t0_0 t1_0 fm22 a59 y43 f44 = (F_She_addText_28 R N K t0_0 t1_0) from Eq.trans (by rw [← e60, e53, e52, F_She_addText_28_c16.eq_1]) hR54)⟩⟩
def F_Dig_turn_p_L43 (K_F_Dig_turn_p_L0 : Int32 → (Int32 × Int32 × (Nat → Int32))) (x2 : Int32) (t0_0 : Int32) (t0_1 : Int32) (t1_0 : (Nat → Int32)) (lx9 : Int32) : Nat → Int32 → Int32 → (Nat → Int32) → (Int32 × Int32 × (Nat → Int32))
  | 0, _, _, _ => default
  | fm + 1, lx34, lx35, lx36 => if lx34 ≤ lx35 then (if lx9 = (0 : Int32) then ((lx9, (0 : Int32), lx36)) else ((lx9, ((lx9 - 1 : Int32) - x2 : Int32), lx36))) else (F_Dig_turn_p_L43 K_F_Dig_turn_p_L0 x2 t0_0 t0_1 t1_0 lx9 fm (lx34 + (-1) : Int32) (lx35 + 1 : Int32) (upd (upd lx36 lx35.toNatClampNeg (vp_nar .byte (lx36 lx34.toNatClampNeg : Int32)) : (Nat → Int32)) lx34.toNatClampNeg (vp_nar .byte (lx36 lx35.toNatClampNeg : Int32)) : (Nat → Int32)))
def F_Dig_turn_p_J34 (K_F_Dig_turn_p_L0 : Int32 → (Int32 × Int32 × (Nat → Int32))) (x2 : Int32) (t0_0 : Int32) (t0_1 : Int32) (t1_0 : (Nat → Int32)) (lx9 : Int32) : Int32 × Int32 × (Nat → Int32) := F_Dig_turn_p_L43 K_F_Dig_turn_p_L0 x2 t0_0 t0_1 t1_0 lx9 (((lx9 - 1 : Int32).toInt - ((-1000000))).toNat + 1) (lx9 - 1 : Int32) 0 t1_0
def F_Dig_turn_p_L0 (x2 : Int32) (t0_0 : Int32) (t0_1 : Int32) (t1_0 : (Nat → Int32)) : Nat → Int32 → (Int32 × Int32 × (Nat → Int32))
  | 0, _ => default
  | fm + 1, lx9 => if lx9 ≤ (0 : Int32) then (F_Dig_turn_p_J34 (F_Dig_turn_p_L0 x2 t0_0 t0_1 t1_0 fm) x2 t0_0 t0_1 t1_0 lx9) else (if (t1_0 (lx9 - 1 : Int32).toNatClampNeg : Int32) = (0 : Int32) then (F_Dig_turn_p_L0 x2 t0_0 t0_1 t1_0 fm (lx9 - 1 : Int32)) else (F_Dig_turn_p_J34 (F_Dig_turn_p_L0 x2 t0_0 t0_1 t1_0 fm) x2 t0_0 t0_1 t1_0 lx9))
def F_Dig_turn_p (x2 : Int32) (t0_0 : Int32) (t0_1 : Int32) (t1_0 : (Nat → Int32)) : Int32 × Int32 × (Nat → Int32) := F_Dig_turn_p_L0 x2 t0_0 t0_1 t1_0 ((t0_0.toInt - ((-1000000))).toNat + 1) t0_0
set_option maxRecDepth 100000 in
set_option maxHeartbeats 4000000 in
theorem X_Dig_turn_p (l : Launch) (D : va_G) (g : Nat → ClassId) (q : Nat → Nat) (ws : va_W) (x2 : Int32) (hI : q_I (nsh g q) q ws) (t0_0 : Int32) (t0_1 : Int32) (hT0 : ws[36]? = (some (q 36, .inr (7, [.int t0_0, .int t0_1, .ref (q 37)])) : Option (Nat × va_E))) (t1_0 : (Nat → Int32)) (hT1 : ws[37]? = (some (q 37, .inl (g 2, 1026, .inl t1_0)) : Option (Nat × va_E))) (pre0 : 0 ≤ x2.toInt + 20000) (pre1 : x2.toInt ≤ 20000) : q_mV l y_Dig_turn prog_5_method_4_code 5 1 0 0 D g [.ref (q 36), .int x2] ws (fun u => q_I (nsh g q) q u ∧ q_un ws u [36, 37] ∧ ∃ (u0_0 : Int32) (u0_1 : Int32) (u1_0 : (Nat → Int32)), u[36]? = (some (q 36, .inr (7, [.int u0_0, .int u0_1, .ref (q 37)])) : Option (Nat × va_E)) ∧ u[37]? = (some (q 37, .inl (g 2, 1026, .inl u1_0)) : Option (Nat × va_E)) ∧ (0 ≤ u0_0.toInt) ∧ (0 ≤ u0_1.toInt + 20000) ∧ (u0_0.toInt ≤ t0_0.toInt) ∧ (u0_1.toInt ≤ u0_0.toInt + 19999) ∧ (u0_0.toInt ≤ u0_1.toInt + 20001) ∧ (0 ≤ u0_1.toInt + x2.toInt + 20000) ∧ (u0_1.toInt + x2.toInt ≤ 20000) ∧ (u0_0, u0_1, u1_0) = (F_Dig_turn_p x2 t0_0 t0_1 t1_0)) := by
  intro sz
  refine q_into (by decide) (Nat.le_of_ble_eq_true rfl) ?_
  intro p e s m below meth c ls hsz C0 V hl
  have hx := C0.1
  have hb := C0.2.1
  obtain ⟨btt0_0, btt0_1⟩ := n_w36 hI hT0
  replace btt0_0 : q_F (0 ≤ t0_0.toInt ∧ t0_0.toInt ≤ 1026) := btt0_0
  replace btt0_1 : q_F (-1000000 ≤ t0_1.toInt ∧ t0_1.toInt ≤ 1000000) := btt0_1
  replace pre0 : q_F (0 ≤ x2.toInt + 20000) := pre0
  replace pre1 : q_F (x2.toInt ≤ 20000) := pre1
  have hF : q_un ws ws [36, 37] := q_u0
  have hl : lv_has ls 5 [(0, .ref (q 36)), (1, .int x2)] := hl
  refine q_loop (X := Int32) (fun z H locs ls w13 => q_F (0 ≤ z.toInt) ∧ q_F (z.toInt ≤ t0_0.toInt) ∧ q_Wd D g (va_A ws sz) s w13 H locs ∧ lv_has ls 5 [(0, .ref (q 36)), (1, .int x2)] ∧ q_I (nsh g q) q w13 ∧ q_un ws w13 [36, 37] ∧ w13[36]? = (some (q 36, .inr (7, [.int z, .int t0_1, .ref (q 37)])) : Option (Nat × va_E)) ∧ w13[37]? = (some (q 37, .inl (g 2, 1026, .inl t1_0)) : Option (Nat × va_E)) ∧ (∃ n, (z.toInt - ((-1000000))).toNat < n ∧ F_Dig_turn_p_L0 x2 t0_0 t0_1 t1_0 n z = (F_Dig_turn_p x2 t0_0 t0_1 t1_0))) (fun z => (z.toInt - ((-1000000))).toNat) ?_ ((t0_0 : Int32)) _ _ _ ws ⟨(show q_F (0 ≤ t0_0.toInt) from (show 0 ≤ t0_0.toInt from by have t1 : 0 ≤ t0_0.toInt ∧ t0_0.toInt ≤ 1026 := btt0_0; omega)), (show q_F (t0_0.toInt ≤ t0_0.toInt) from (show t0_0.toInt ≤ t0_0.toInt from by omega)), V, q_lw hl (q_lw1 0 rfl (q_lw1 1 rfl q_lw0)), hI, hF, hT0, hT1, ⟨((t0_0.toInt - ((-1000000))).toNat + 1), Nat.lt_succ_self _, (show F_Dig_turn_p_L0 x2 t0_0 t0_1 t1_0 ((t0_0.toInt - ((-1000000))).toNat + 1) t0_0 = (F_Dig_turn_p x2 t0_0 t0_1 t1_0) from (by rw [F_Dig_turn_p.eq_1]))⟩⟩
  rintro lx9 H locs ls w13 ⟨i10, i11, V, hl, hI, hF, hO14, hO15, ⟨fu18, hf19, hR16⟩⟩ ih12
  obtain ⟨fm20, rfl⟩ : ∃ m, fu18 = m + 1 := ⟨fu18 - 1, by omega⟩
  replace i10 : q_F (0 ≤ lx9.toInt) := i10
  replace i11 : q_F (lx9.toInt ≤ t0_0.toInt) := i11
  replace hl : lv_has ls 5 [(0, .ref (q 36)), (1, .int x2)] := hl
  replace hO14 : w13[36]? = (some (q 36, .inr (7, [.int lx9, .int t0_1, .ref (q 37)])) : Option (Nat × va_E)) := hO14
  replace hO15 : w13[37]? = (some (q 37, .inl (g 2, 1026, .inl t1_0)) : Option (Nat × va_E)) := hO15
  refine lv_aload_n hx hb d_5_4_0 rfl (lv_at hl 0 rfl) ?_
  refine q_get (ci := 7) (j := 0) (v := .int lx9) C0 V i_Dig rfl rfl hO14 (by decide) w_264 rfl d_5_4_1 ?_
  refine q_join (X := Unit) (fun z H locs ls _ => q_Wd D g (va_A ws sz) s w13 H locs ∧ lv_has ls 5 [(0, .ref (q 36)), (1, .int x2)] ∧ F_Dig_turn_p_J34 (F_Dig_turn_p_L0 x2 t0_0 t0_1 t1_0 fm20) x2 t0_0 t0_1 t1_0 lx9 = (F_Dig_turn_p x2 t0_0 t0_1 t1_0)) (fun z => []) 34 0 0 ?_ ?_
  ·
    rintro _ H locs ls _ ⟨V, hl, hR24⟩
    replace hl : lv_has ls 5 [(0, .ref (q 36)), (1, .int x2)] := hl
    refine lv_iconst (v := 0) hx hb d_5_4_34 (by decide) ?_
    refine lv_istore_n (lv' := [(2, .int 0), (0, .ref (q 36)), (1, .int x2)]) hx hb d_5_4_35 rfl hl (by decide) rfl (fun ls hl => ?_)
    refine lv_aload_n hx hb d_5_4_36 rfl (lv_at hl 1 rfl) ?_
    refine q_get (ci := 7) (j := 0) (v := .int lx9) C0 V i_Dig rfl rfl hO14 (by decide) w_264 rfl d_5_4_37 ?_
    refine lv_iconst (v := 1) hx hb d_5_4_40 (by decide) ?_
    refine lv_isub hx hb d_5_4_41 ?_
    obtain ⟨a29, e30⟩ := q_nm (lx9 - 1 : Int32)
    refine q_ti (v := a29) e30 ?_
    have b31 : q_F (a29.toInt = lx9.toInt - 1) := (by rw [← e30]; show (lx9 - 1 : Int32).toInt = lx9.toInt - 1; exact q_subI (x := lx9.toInt) (y := 1) rfl (by decide) (by have t1 : 0 ≤ lx9.toInt := i10; have _ := q_lo32 (x := lx9); have _ := q_hi32 (x := lx9); omega) (by have t1 : 0 ≤ lx9.toInt := i10; have _ := q_lo32 (x := lx9); have _ := q_hi32 (x := lx9); omega))
    refine lv_istore_n (lv' := [(3, .int a29), (2, .int 0), (0, .ref (q 36)), (1, .int x2)]) hx hb d_5_4_42 rfl hl (by decide) rfl (fun ls hl => ?_)
    refine q_loop (X := Int32 × Int32 × (Nat → Int32)) (fun z H locs ls w42 => q_F (z.2.1.toInt ≤ z.1.toInt + 1) ∧ q_F (a29.toInt ≤ z.1.toInt + z.2.1.toInt) ∧ q_F (z.1.toInt + z.2.1.toInt ≤ a29.toInt) ∧ q_F (z.1.toInt ≤ z.2.1.toInt + a29.toInt) ∧ q_Wd D g (va_A ws sz) s w42 H locs ∧ lv_has ls 5 [(3, .int z.1), (2, .int z.2.1), (0, .ref (q 36)), (1, .int x2)] ∧ q_I (nsh g q) q w42 ∧ q_un ws w42 [36, 37] ∧ w42[36]? = (some (q 36, .inr (7, [.int lx9, .int t0_1, .ref (q 37)])) : Option (Nat × va_E)) ∧ w42[37]? = (some (q 37, .inl (g 2, 1026, .inl z.2.2)) : Option (Nat × va_E)) ∧ (∃ n, (z.1.toInt - ((-1000000))).toNat < n ∧ F_Dig_turn_p_L43 (F_Dig_turn_p_L0 x2 t0_0 t0_1 t1_0 fm20) x2 t0_0 t0_1 t1_0 lx9 n z.1 z.2.1 z.2.2 = (F_Dig_turn_p x2 t0_0 t0_1 t1_0))) (fun z => (z.1.toInt - ((-1000000))).toNat) ?_ ((a29 : Int32), (0 : Int32), (t1_0 : (Nat → Int32))) _ _ _ w13 ⟨(show q_F (0 ≤ a29.toInt + 1) from (show 0 ≤ a29.toInt + 1 from by have t1 : 0 ≤ lx9.toInt := i10; have t2 : a29.toInt = lx9.toInt - 1 := b31; omega)), (show q_F (a29.toInt ≤ a29.toInt + 0) from (show a29.toInt ≤ a29.toInt + 0 from by omega)), (show q_F (a29.toInt + 0 ≤ a29.toInt) from (show a29.toInt + 0 ≤ a29.toInt from by omega)), (show q_F (a29.toInt ≤ 0 + a29.toInt) from (show a29.toInt ≤ 0 + a29.toInt from by omega)), V, q_lw hl (q_lw1 0 rfl (q_lw1 1 rfl (q_lw1 2 rfl (q_lw1 3 rfl q_lw0)))), hI, hF, hO14, hO15, ⟨((a29.toInt - ((-1000000))).toNat + 1), Nat.lt_succ_self _, (show F_Dig_turn_p_L43 (F_Dig_turn_p_L0 x2 t0_0 t0_1 t1_0 fm20) x2 t0_0 t0_1 t1_0 lx9 ((a29.toInt - ((-1000000))).toNat + 1) a29 0 t1_0 = (F_Dig_turn_p x2 t0_0 t0_1 t1_0) from Eq.trans (by rw [← e30, F_Dig_turn_p_J34.eq_1]) hR24)⟩⟩
    rintro ⟨lx34, lx35, lx36⟩ H locs ls w42 ⟨i37, i38, i39, i40, V, hl, hI, hF, hO43, hO44, ⟨fu47, hf48, hR45⟩⟩ ih41
    obtain ⟨fm49, rfl⟩ : ∃ m, fu47 = m + 1 := ⟨fu47 - 1, by omega⟩
    replace i37 : q_F (lx35.toInt ≤ lx34.toInt + 1) := i37
    replace i38 : q_F (a29.toInt ≤ lx34.toInt + lx35.toInt) := i38
    replace i39 : q_F (lx34.toInt + lx35.toInt ≤ a29.toInt) := i39
    replace i40 : q_F (lx34.toInt ≤ lx35.toInt + a29.toInt) := i40
    replace hl : lv_has ls 5 [(3, .int lx34), (2, .int lx35), (0, .ref (q 36)), (1, .int x2)] := hl
    replace hO43 : w42[36]? = (some (q 36, .inr (7, [.int lx9, .int t0_1, .ref (q 37)])) : Option (Nat × va_E)) := hO43
    replace hO44 : w42[37]? = (some (q 37, .inl (g 2, 1026, .inl lx36)) : Option (Nat × va_E)) := hO44
    refine lv_iload_n hx hb d_5_4_43 rfl (lv_at hl 1 rfl) ?_
    refine lv_iload_n hx hb d_5_4_44 rfl (lv_at hl 0 rfl) ?_
    refine lv_icmp_ge (tgt := 85) hx hb d_5_4_45 (by decide) (fun c50 => ?_) (fun c50 => ?_)
    ·
      refine lv_aload_n hx hb d_5_4_85 rfl (lv_at hl 2 rfl) ?_
      refine lv_aload_n hx hb d_5_4_86 rfl (lv_at hl 2 rfl) ?_
      refine q_get (ci := 7) (j := 0) (v := .int lx9) C0 V i_Dig rfl rfl hO43 (by decide) w_264 rfl d_5_4_87 ?_
      refine lv_if_ne (tgt := 97) hx hb d_5_4_90 (by decide) (fun c52 => ?_) (fun c52 => ?_)
      ·
        have b53 : q_F (lx9.toInt ≠ 0) := (q_neI c52)
        refine lv_aload_n hx hb d_5_4_97 rfl (lv_at hl 2 rfl) ?_
        refine q_get (ci := 7) (j := 0) (v := .int lx9) C0 V i_Dig rfl rfl hO43 (by decide) w_264 rfl d_5_4_98 ?_
        refine lv_iconst (v := 1) hx hb d_5_4_101 (by decide) ?_
        refine lv_isub hx hb d_5_4_102 ?_
        obtain ⟨a54, e55⟩ := q_nm (lx9 - 1 : Int32)
        refine q_ti (v := a54) e55 ?_
        have b56 : q_F (a54.toInt = lx9.toInt - 1) := (by rw [← e55]; show (lx9 - 1 : Int32).toInt = lx9.toInt - 1; exact q_subI (x := lx9.toInt) (y := 1) rfl (by decide) (by have t1 : 0 ≤ lx9.toInt := i10; have t2 : a29.toInt = lx9.toInt - 1 := b31; have _ := q_lo32 (x := a29); have _ := q_hi32 (x := a29); omega) (by have t1 : 0 ≤ lx9.toInt := i10; have t2 : a29.toInt = lx9.toInt - 1 := b31; have _ := q_lo32 (x := a29); have _ := q_hi32 (x := a29); omega))
        refine lv_iload_n hx hb d_5_4_103 rfl (lv_at hl 3 rfl) ?_
        refine lv_isub hx hb d_5_4_104 ?_
        obtain ⟨a57, e58⟩ := q_nm (a54 - x2 : Int32)
        refine q_ti (v := a57) e58 ?_
        have b59 : q_F (a57.toInt = a54.toInt - x2.toInt) := (by rw [← e58]; show (a54 - x2 : Int32).toInt = a54.toInt - x2.toInt; exact q_subI (x := a54.toInt) (y := x2.toInt) rfl rfl (by have t1 : x2.toInt ≤ 20000 := pre1; have t2 : 0 ≤ lx9.toInt := i10; have t3 : a54.toInt = lx9.toInt - 1 := b56; have t4 : 0 ≤ t0_0.toInt ∧ t0_0.toInt ≤ 1026 := btt0_0; have t5 : 0 ≤ x2.toInt + 20000 := pre0; have t6 : lx9.toInt ≤ t0_0.toInt := i11; omega) (by have t1 : x2.toInt ≤ 20000 := pre1; have t2 : 0 ≤ lx9.toInt := i10; have t3 : a54.toInt = lx9.toInt - 1 := b56; have t4 : 0 ≤ t0_0.toInt ∧ t0_0.toInt ≤ 1026 := btt0_0; have t5 : 0 ≤ x2.toInt + 20000 := pre0; have t6 : lx9.toInt ≤ t0_0.toInt := i11; omega))
        refine q_put (ci := 7) (j := 1) (v := .int a57) (ty := .int) C0 V i_Dig o_Dig n_Dig rfl rfl hO43 (by decide) w_266 rfl rfl rfl rfl (Nat.le_of_ble_eq_true rfl) d_5_4_105 (fun H locs w60 hu61 hO43 V => ?_)
        replace hO43 : w60[36]? = (some (q 36, .inr (7, [.int lx9, .int a57, .ref (q 37)])) : Option (Nat × va_E)) := hO43
        replace hI := n_p36 hI hu61 hO43 ⟨(by first | with_reducible exact q_fe i10 | (have t1 : 0 ≤ lx9.toInt := i10; omega)), (by have t1 : 0 ≤ t0_0.toInt ∧ t0_0.toInt ≤ 1026 := btt0_0; have t2 : lx9.toInt ≤ t0_0.toInt := i11; omega)⟩ ⟨(by have t1 : x2.toInt ≤ 20000 := pre1; have t2 : 0 ≤ lx9.toInt := i10; have t3 : a54.toInt = lx9.toInt - 1 := b56; have t4 : a57.toInt = a54.toInt - x2.toInt := b59; omega), (by have t1 : 0 ≤ t0_0.toInt ∧ t0_0.toInt ≤ 1026 := btt0_0; have t2 : 0 ≤ x2.toInt + 20000 := pre0; have t3 : lx9.toInt ≤ t0_0.toInt := i11; have t4 : a54.toInt = lx9.toInt - 1 := b56; have t5 : a57.toInt = a54.toInt - x2.toInt := b59; omega)⟩
        replace hO44 := (hu61 _ (by decide)).trans hO44
        replace hF := q_us hF hu61 (by simp)
        exact q_retv C0 V (⟨hI, hF, lx9, a57, lx36, hO43, hO44, (show 0 ≤ lx9.toInt from (by first | with_reducible exact q_fe i10 | (have t1 : 0 ≤ lx9.toInt := i10; omega))), (show 0 ≤ a57.toInt + 20000 from (by have t1 : x2.toInt ≤ 20000 := pre1; have t2 : 0 ≤ lx9.toInt := i10; have t3 : lx9.toInt ≠ 0 := b53; have t4 : a54.toInt = lx9.toInt - 1 := b56; have t5 : a57.toInt = a54.toInt - x2.toInt := b59; omega)), (show lx9.toInt ≤ t0_0.toInt from (by first | with_reducible exact q_fe i11 | (have t1 : lx9.toInt ≤ t0_0.toInt := i11; omega))), (show a57.toInt ≤ lx9.toInt + 19999 from (by have t1 : 0 ≤ x2.toInt + 20000 := pre0; have t2 : a54.toInt = lx9.toInt - 1 := b56; have t3 : a57.toInt = a54.toInt - x2.toInt := b59; omega)), (show lx9.toInt ≤ a57.toInt + 20001 from (by have t1 : x2.toInt ≤ 20000 := pre1; have t2 : a54.toInt = lx9.toInt - 1 := b56; have t3 : a57.toInt = a54.toInt - x2.toInt := b59; omega)), (show 0 ≤ a57.toInt + x2.toInt + 20000 from (by have t1 : 0 ≤ lx9.toInt := i10; have t2 : a54.toInt = lx9.toInt - 1 := b56; have t3 : a57.toInt = a54.toInt - x2.toInt := b59; omega)), (show a57.toInt + x2.toInt ≤ 20000 from (by have t1 : 0 ≤ t0_0.toInt ∧ t0_0.toInt ≤ 1026 := btt0_0; have t2 : lx9.toInt ≤ t0_0.toInt := i11; have t3 : a54.toInt = lx9.toInt - 1 := b56; have t4 : a57.toInt = a54.toInt - x2.toInt := b59; omega)), (show (lx9, a57, lx36) = (F_Dig_turn_p x2 t0_0 t0_1 t1_0) from Eq.trans (by rw [← e58, ← e55, F_Dig_turn_p_L43.eq_2, if_pos c50, if_neg c52]) hR45)⟩) d_5_4_108
      ·
        have b62 : q_F (lx9.toInt = 0) := (q_eqI c52)
        refine lv_iconst (v := 0) hx hb d_5_4_93 (by decide) ?_
        refine lv_goto (tgt := 105) hx hb d_5_4_94 (by decide) ?_
        refine q_put (ci := 7) (j := 1) (v := .int 0) (ty := .int) C0 V i_Dig o_Dig n_Dig rfl rfl hO43 (by decide) w_266 rfl rfl rfl rfl (Nat.le_of_ble_eq_true rfl) d_5_4_105 (fun H locs w63 hu64 hO43 V => ?_)
        replace hO43 : w63[36]? = (some (q 36, .inr (7, [.int lx9, .int 0, .ref (q 37)])) : Option (Nat × va_E)) := hO43
        replace hI := n_p36 hI hu64 hO43 ⟨(by first | with_reducible exact q_fe i10 | (have t1 : 0 ≤ lx9.toInt := i10; omega)), (by first | with_reducible exact q_fe b62 | (have t1 : lx9.toInt = 0 := b62; omega))⟩ ⟨(by have z9 : (0 : Int32).toInt = 0 := rfl; omega), (by have z9 : (0 : Int32).toInt = 0 := rfl; omega)⟩
        replace hO44 := (hu64 _ (by decide)).trans hO44
        replace hF := q_us hF hu64 (by simp)
        exact q_retv C0 V (⟨hI, hF, lx9, 0, lx36, hO43, hO44, (show 0 ≤ lx9.toInt from (by have z5 : (0 : Int32).toInt = 0 := rfl; have t1 : 0 ≤ lx9.toInt := i10; omega)), (show 0 ≤ (0 : Int32).toInt + 20000 from (by have z5 : (0 : Int32).toInt = 0 := rfl; omega)), (show lx9.toInt ≤ t0_0.toInt from (by have z5 : (0 : Int32).toInt = 0 := rfl; have t1 : lx9.toInt ≤ t0_0.toInt := i11; omega)), (show (0 : Int32).toInt ≤ lx9.toInt + 19999 from (by have z5 : (0 : Int32).toInt = 0 := rfl; have t1 : 0 ≤ lx9.toInt := i10; omega)), (show lx9.toInt ≤ (0 : Int32).toInt + 20001 from (by have z5 : (0 : Int32).toInt = 0 := rfl; have t1 : lx9.toInt = 0 := b62; omega)), (show 0 ≤ (0 : Int32).toInt + x2.toInt + 20000 from (by have z5 : (0 : Int32).toInt = 0 := rfl; have t1 : 0 ≤ x2.toInt + 20000 := pre0; omega)), (show (0 : Int32).toInt + x2.toInt ≤ 20000 from (by have z5 : (0 : Int32).toInt = 0 := rfl; have t1 : x2.toInt ≤ 20000 := pre1; omega)), (show (lx9, (0 : Int32), lx36) = (F_Dig_turn_p x2 t0_0 t0_1 t1_0) from Eq.trans (by rw [F_Dig_turn_p_L43.eq_2, if_pos c50, if_pos c52]) hR45)⟩) d_5_4_108
    ·
      have b65 : q_F (lx35.toInt < lx34.toInt) := (q_nleI c50)
      refine lv_aload_n hx hb d_5_4_48 rfl (lv_at hl 2 rfl) ?_
      refine q_get (ci := 7) (j := 2) (v := .ref (q 37)) C0 V i_Dig rfl rfl hO43 (by decide) w_269 rfl d_5_4_49 ?_
      refine lv_iload_n hx hb d_5_4_52 rfl (lv_at hl 1 rfl) ?_
      refine q_bald C0 V hO44 (q_ix (x := lx35.toInt) rfl (by have t1 : a29.toInt ≤ lx34.toInt + lx35.toInt := i38; have t2 : lx34.toInt ≤ lx35.toInt + a29.toInt := i40; omega) (by have t1 : a29.toInt ≤ lx34.toInt + lx35.toInt := i38; have t2 : lx34.toInt ≤ lx35.toInt + a29.toInt := i40; have t3 : 0 ≤ t0_0.toInt ∧ t0_0.toInt ≤ 1026 := btt0_0; have t4 : lx9.toInt ≤ t0_0.toInt := i11; have t5 : a29.toInt = lx9.toInt - 1 := b31; have t6 : lx35.toInt ≤ lx34.toInt + 1 := i37; have t7 : lx34.toInt + lx35.toInt ≤ a29.toInt := i39; omega)) d_5_4_53 ?_
      obtain ⟨a66, e67⟩ := q_nm (lx36 lx35.toNatClampNeg : Int32)
      refine q_ti (v := a66) e67 ?_
      refine lv_istore (lv' := [(4, .int a66), (3, .int lx34), (2, .int lx35), (0, .ref (q 36)), (1, .int x2)]) hx hb d_5_4_54 hl (by decide) rfl (fun ls hl => ?_)
      refine lv_aload_n hx hb d_5_4_56 rfl (lv_at hl 3 rfl) ?_
      refine q_get (ci := 7) (j := 2) (v := .ref (q 37)) C0 V i_Dig rfl rfl hO43 (by decide) w_269 rfl d_5_4_57 ?_
      refine lv_iload_n hx hb d_5_4_60 rfl (lv_at hl 2 rfl) ?_
      refine lv_aload_n hx hb d_5_4_61 rfl (lv_at hl 3 rfl) ?_
      refine q_get (ci := 7) (j := 2) (v := .ref (q 37)) C0 V i_Dig rfl rfl hO43 (by decide) w_269 rfl d_5_4_62 ?_
      refine lv_iload_n hx hb d_5_4_65 rfl (lv_at hl 1 rfl) ?_
      refine q_bald C0 V hO44 (q_ix (x := lx34.toInt) rfl (by have t1 : a29.toInt ≤ lx34.toInt + lx35.toInt := i38; have t2 : lx34.toInt ≤ lx35.toInt + a29.toInt := i40; have t3 : lx35.toInt < lx34.toInt := b65; omega) (by have t1 : a29.toInt ≤ lx34.toInt + lx35.toInt := i38; have t2 : lx34.toInt ≤ lx35.toInt + a29.toInt := i40; have t3 : lx35.toInt < lx34.toInt := b65; have t4 : 0 ≤ t0_0.toInt ∧ t0_0.toInt ≤ 1026 := btt0_0; have t5 : lx9.toInt ≤ t0_0.toInt := i11; have t6 : a29.toInt = lx9.toInt - 1 := b31; have t7 : lx34.toInt + lx35.toInt ≤ a29.toInt := i39; omega)) d_5_4_66 ?_
      obtain ⟨a68, e69⟩ := q_nm (lx36 lx34.toNatClampNeg : Int32)
      refine q_ti (v := a68) e69 ?_
      refine q_bast C0 V hO44 (q_ix (x := lx35.toInt) rfl (by have t1 : a29.toInt ≤ lx34.toInt + lx35.toInt := i38; have t2 : lx34.toInt ≤ lx35.toInt + a29.toInt := i40; omega) (by have t1 : a29.toInt ≤ lx34.toInt + lx35.toInt := i38; have t2 : lx34.toInt ≤ lx35.toInt + a29.toInt := i40; have t3 : 0 ≤ t0_0.toInt ∧ t0_0.toInt ≤ 1026 := btt0_0; have t4 : lx9.toInt ≤ t0_0.toInt := i11; have t5 : a29.toInt = lx9.toInt - 1 := b31; have t6 : lx35.toInt ≤ lx34.toInt + 1 := i37; have t7 : lx34.toInt + lx35.toInt ≤ a29.toInt := i39; omega)) d_5_4_67 (fun H locs w70 hu71 hO44 V => ?_)
      replace hI := n_ai' hI (n_s37 g q) hu71 hO44 (q_updB (fun _ => s_bnd) s_bnd)
      replace hO43 := (hu71 _ (by decide)).trans hO43
      replace hF := q_us hF hu71 (by simp)
      obtain ⟨f72, e73⟩ := q_nm (upd lx36 lx35.toNatClampNeg (vp_nar .byte a68) : (Nat → Int32))
      rw [e73] at hO44
      refine lv_aload_n hx hb d_5_4_68 rfl (lv_at hl 3 rfl) ?_
      refine q_get (ci := 7) (j := 2) (v := .ref (q 37)) C0 V i_Dig rfl rfl hO43 (by decide) w_269 rfl d_5_4_69 ?_
      refine lv_iload_n hx hb d_5_4_72 rfl (lv_at hl 1 rfl) ?_
      refine lv_iload hx hb d_5_4_73 (lv_at hl 0 rfl) ?_
      refine q_bast C0 V hO44 (q_ix (x := lx34.toInt) rfl (by have t1 : a29.toInt ≤ lx34.toInt + lx35.toInt := i38; have t2 : lx34.toInt ≤ lx35.toInt + a29.toInt := i40; have t3 : lx35.toInt < lx34.toInt := b65; omega) (by have t1 : a29.toInt ≤ lx34.toInt + lx35.toInt := i38; have t2 : lx34.toInt ≤ lx35.toInt + a29.toInt := i40; have t3 : lx35.toInt < lx34.toInt := b65; have t4 : 0 ≤ t0_0.toInt ∧ t0_0.toInt ≤ 1026 := btt0_0; have t5 : lx9.toInt ≤ t0_0.toInt := i11; have t6 : a29.toInt = lx9.toInt - 1 := b31; have t7 : lx34.toInt + lx35.toInt ≤ a29.toInt := i39; omega)) d_5_4_75 (fun H locs w74 hu75 hO44 V => ?_)
      replace hI := n_ai' hI (n_s37 g q) hu75 hO44 (q_updB (fun _ => s_bnd) s_bnd)
      replace hO43 := (hu75 _ (by decide)).trans hO43
      replace hF := q_us hF hu75 (by simp)
      obtain ⟨f76, e77⟩ := q_nm (upd f72 lx34.toNatClampNeg (vp_nar .byte a66) : (Nat → Int32))
      rw [e77] at hO44
      obtain ⟨a78, e79⟩ := q_nm (lx35 + 1 : Int32)
      have b80 : q_F (a78.toInt = lx35.toInt + 1) := (by rw [← e79]; exact q_addI (y := 1) rfl (by decide) (by have t1 : a29.toInt ≤ lx34.toInt + lx35.toInt := i38; have t2 : lx34.toInt ≤ lx35.toInt + a29.toInt := i40; have t3 : lx35.toInt ≤ lx34.toInt + 1 := i37; have t4 : lx34.toInt + lx35.toInt ≤ a29.toInt := i39; have _ := q_lo32 (x := a29); have _ := q_hi32 (x := a29); omega) (by have t1 : a29.toInt ≤ lx34.toInt + lx35.toInt := i38; have t2 : lx34.toInt ≤ lx35.toInt + a29.toInt := i40; have t3 : lx35.toInt ≤ lx34.toInt + 1 := i37; have t4 : lx34.toInt + lx35.toInt ≤ a29.toInt := i39; have _ := q_lo32 (x := a29); have _ := q_hi32 (x := a29); omega))
      refine lv_iinc (v := a78) (lv' := [(2, .int a78), (4, .int a66), (3, .int lx34), (0, .ref (q 36)), (1, .int x2)]) hx hb d_5_4_76 hl (k := 2) rfl (e79) (by decide) rfl (fun ls hl => ?_)
      obtain ⟨a81, e82⟩ := q_nm (lx34 + (-1) : Int32)
      have b83 : q_F (a81.toInt = lx34.toInt + (-1)) := (by rw [← e82]; exact q_addI (y := (-1)) rfl (by decide) (by have t1 : lx35.toInt ≤ lx34.toInt + 1 := i37; have t2 : a29.toInt ≤ lx34.toInt + lx35.toInt := i38; have t3 : lx34.toInt ≤ lx35.toInt + a29.toInt := i40; have t4 : lx34.toInt + lx35.toInt ≤ a29.toInt := i39; have _ := q_lo32 (x := a29); have _ := q_hi32 (x := a29); omega) (by have t1 : lx35.toInt ≤ lx34.toInt + 1 := i37; have t2 : a29.toInt ≤ lx34.toInt + lx35.toInt := i38; have t3 : lx34.toInt ≤ lx35.toInt + a29.toInt := i40; have t4 : lx34.toInt + lx35.toInt ≤ a29.toInt := i39; have _ := q_lo32 (x := a29); have _ := q_hi32 (x := a29); omega))
      refine lv_iinc (v := a81) (lv' := [(3, .int a81), (2, .int a78), (4, .int a66), (0, .ref (q 36)), (1, .int x2)]) hx hb d_5_4_79 hl (k := 2) rfl (e82) (by decide) rfl (fun ls hl => ?_)
      refine lv_goto (tgt := 43) hx hb d_5_4_82 (by decide) ?_
      exact ih41 ((a81 : Int32), (a78 : Int32), (f76 : (Nat → Int32))) _ _ _ _ (show (a81.toInt - ((-1000000))).toNat < (lx34.toInt - ((-1000000))).toNat from by have t1 : a81.toInt = lx34.toInt + (-1) := b83; have t2 : lx35.toInt ≤ lx34.toInt + 1 := i37; have t3 : a29.toInt ≤ lx34.toInt + lx35.toInt := i38; have t4 : lx34.toInt ≤ lx35.toInt + a29.toInt := i40; omega) ⟨(show q_F (a78.toInt ≤ a81.toInt + 1) from (show a78.toInt ≤ a81.toInt + 1 from by have t1 : lx35.toInt < lx34.toInt := b65; have t2 : a78.toInt = lx35.toInt + 1 := b80; have t3 : a81.toInt = lx34.toInt + (-1) := b83; omega)), (show q_F (a29.toInt ≤ a81.toInt + a78.toInt) from (show a29.toInt ≤ a81.toInt + a78.toInt from by have t1 : a29.toInt ≤ lx34.toInt + lx35.toInt := i38; have t2 : a78.toInt = lx35.toInt + 1 := b80; have t3 : a81.toInt = lx34.toInt + (-1) := b83; omega)), (show q_F (a81.toInt + a78.toInt ≤ a29.toInt) from (show a81.toInt + a78.toInt ≤ a29.toInt from by have t1 : lx34.toInt + lx35.toInt ≤ a29.toInt := i39; have t2 : a78.toInt = lx35.toInt + 1 := b80; have t3 : a81.toInt = lx34.toInt + (-1) := b83; omega)), (show q_F (a81.toInt ≤ a78.toInt + a29.toInt) from (show a81.toInt ≤ a78.toInt + a29.toInt from by have t1 : lx34.toInt ≤ lx35.toInt + a29.toInt := i40; have t2 : a78.toInt = lx35.toInt + 1 := b80; have t3 : a81.toInt = lx34.toInt + (-1) := b83; omega)), V, q_lw hl (q_lw1 0 rfl (q_lw1 1 rfl (q_lw1 3 rfl (q_lw1 4 rfl q_lw0)))), hI, hF, hO43, hO44, ⟨fm49, Nat.lt_of_lt_of_le (show (a81.toInt - ((-1000000))).toNat < (lx34.toInt - ((-1000000))).toNat from by have t1 : a81.toInt = lx34.toInt + (-1) := b83; have t2 : lx35.toInt ≤ lx34.toInt + 1 := i37; have t3 : a29.toInt ≤ lx34.toInt + lx35.toInt := i38; have t4 : lx34.toInt ≤ lx35.toInt + a29.toInt := i40; omega) (Nat.le_of_lt_succ hf48), (show F_Dig_turn_p_L43 (F_Dig_turn_p_L0 x2 t0_0 t0_1 t1_0 fm20) x2 t0_0 t0_1 t1_0 lx9 fm49 a81 a78 f76 = (F_Dig_turn_p x2 t0_0 t0_1 t1_0) from Eq.trans (by rw [← e82, ← e79, ← e77, ← e73, ← e69, ← e67, F_Dig_turn_p_L43.eq_2, if_neg c50]) hR45)⟩⟩
  ·
    intro J23
    refine lv_if_le (tgt := 34) hx hb d_5_4_4 (by decide) (fun c84 => ?_) (fun c84 => ?_)
    ·
      exact J23 (()) _ _ _ w13 ⟨V, q_lw hl (q_lw1 0 rfl (q_lw1 1 rfl q_lw0)), (show F_Dig_turn_p_J34 (F_Dig_turn_p_L0 x2 t0_0 t0_1 t1_0 fm20) x2 t0_0 t0_1 t1_0 lx9 = (F_Dig_turn_p x2 t0_0 t0_1 t1_0) from Eq.trans (by rw [F_Dig_turn_p_L0.eq_2, if_pos c84]) hR16)⟩
    ·
      have b86 : q_F (0 < lx9.toInt) := (q_nleI c84)
      refine lv_aload_n hx hb d_5_4_7 rfl (lv_at hl 0 rfl) ?_
      refine q_get (ci := 7) (j := 2) (v := .ref (q 37)) C0 V i_Dig rfl rfl hO14 (by decide) w_269 rfl d_5_4_8 ?_
      refine lv_aload_n hx hb d_5_4_11 rfl (lv_at hl 0 rfl) ?_
      refine q_get (ci := 7) (j := 0) (v := .int lx9) C0 V i_Dig rfl rfl hO14 (by decide) w_264 rfl d_5_4_12 ?_
      refine lv_iconst (v := 1) hx hb d_5_4_15 (by decide) ?_
      refine lv_isub hx hb d_5_4_16 ?_
      obtain ⟨a87, e88⟩ := q_nm (lx9 - 1 : Int32)
      refine q_ti (v := a87) e88 ?_
      have b89 : q_F (a87.toInt = lx9.toInt - 1) := (by rw [← e88]; show (lx9 - 1 : Int32).toInt = lx9.toInt - 1; exact q_subI (x := lx9.toInt) (y := 1) rfl (by decide) (by have t1 : 0 ≤ lx9.toInt := i10; have _ := q_lo32 (x := lx9); have _ := q_hi32 (x := lx9); omega) (by have t1 : 0 ≤ lx9.toInt := i10; have _ := q_lo32 (x := lx9); have _ := q_hi32 (x := lx9); omega))
      refine q_bald C0 V hO15 (q_ix (x := a87.toInt) rfl (by have t1 : 0 < lx9.toInt := b86; have t2 : a87.toInt = lx9.toInt - 1 := b89; omega) (by have t1 : 0 < lx9.toInt := b86; have t2 : a87.toInt = lx9.toInt - 1 := b89; have t3 : 0 ≤ t0_0.toInt ∧ t0_0.toInt ≤ 1026 := btt0_0; have t4 : lx9.toInt ≤ t0_0.toInt := i11; omega)) d_5_4_17 ?_
      obtain ⟨a90, e91⟩ := q_nm (t1_0 a87.toNatClampNeg : Int32)
      refine q_ti (v := a90) e91 ?_
      refine lv_if_ne (tgt := 34) hx hb d_5_4_18 (by decide) (fun c92 => ?_) (fun c92 => ?_)
      ·
        exact J23 (()) _ _ _ w13 ⟨V, q_lw hl (q_lw1 0 rfl (q_lw1 1 rfl q_lw0)), (show F_Dig_turn_p_J34 (F_Dig_turn_p_L0 x2 t0_0 t0_1 t1_0 fm20) x2 t0_0 t0_1 t1_0 lx9 = (F_Dig_turn_p x2 t0_0 t0_1 t1_0) from Eq.trans (by have c92x := c92; rw [← e91, ← e88] at c92x; rw [F_Dig_turn_p_L0.eq_2, if_neg c84, if_neg c92x]) hR16)⟩
      ·
        refine lv_aload_n hx hb d_5_4_21 rfl (lv_at hl 0 rfl) ?_
        refine lv_dup hx hb d_5_4_22 rfl ?_
        refine q_get (ci := 7) (j := 0) (v := .int lx9) C0 V i_Dig rfl rfl hO14 (by decide) w_264 rfl d_5_4_23 ?_
        refine lv_iconst (v := 1) hx hb d_5_4_26 (by decide) ?_
        refine lv_isub hx hb d_5_4_27 ?_
        obtain ⟨a95, e96⟩ := q_nm (lx9 - 1 : Int32)
        refine q_ti (v := a95) e96 ?_
        have b97 : q_F (a95.toInt = lx9.toInt - 1) := (by rw [← e96]; show (lx9 - 1 : Int32).toInt = lx9.toInt - 1; exact q_subI (x := lx9.toInt) (y := 1) rfl (by decide) (by have t1 : 0 ≤ lx9.toInt := i10; have t2 : a87.toInt = lx9.toInt - 1 := b89; have _ := q_lo32 (x := a87); have _ := q_hi32 (x := a87); omega) (by have t1 : 0 ≤ lx9.toInt := i10; have t2 : a87.toInt = lx9.toInt - 1 := b89; have _ := q_lo32 (x := a87); have _ := q_hi32 (x := a87); omega))
        refine q_put (ci := 7) (j := 0) (v := .int a95) (ty := .int) C0 V i_Dig o_Dig n_Dig rfl rfl hO14 (by decide) w_264 rfl rfl rfl rfl (Nat.le_of_ble_eq_true rfl) d_5_4_28 (fun H locs w98 hu99 hO14 V => ?_)
        replace hO14 : w98[36]? = (some (q 36, .inr (7, [.int a95, .int t0_1, .ref (q 37)])) : Option (Nat × va_E)) := hO14
        replace hI := n_p36 hI hu99 hO14 ⟨(by have t1 : 0 < lx9.toInt := b86; have t2 : a95.toInt = lx9.toInt - 1 := b97; omega), (by have t1 : 0 ≤ t0_0.toInt ∧ t0_0.toInt ≤ 1026 := btt0_0; have t2 : lx9.toInt ≤ t0_0.toInt := i11; have t3 : a95.toInt = lx9.toInt - 1 := b97; omega)⟩ (by first | with_reducible exact q_fe btt0_1 | exact ⟨(by have t1 : -1000000 ≤ t0_1.toInt ∧ t0_1.toInt ≤ 1000000 := btt0_1; omega), (by have t1 : -1000000 ≤ t0_1.toInt ∧ t0_1.toInt ≤ 1000000 := btt0_1; omega)⟩)
        replace hO15 := (hu99 _ (by decide)).trans hO15
        replace hF := q_us hF hu99 (by simp)
        refine lv_goto (tgt := 0) hx hb d_5_4_31 (by decide) ?_
        exact ih12 ((a95 : Int32)) _ _ _ _ (show (a95.toInt - ((-1000000))).toNat < (lx9.toInt - ((-1000000))).toNat from by have t1 : a95.toInt = lx9.toInt - 1 := b97; have t2 : 0 ≤ lx9.toInt := i10; omega) ⟨(show q_F (0 ≤ a95.toInt) from (show 0 ≤ a95.toInt from by have t1 : 0 < lx9.toInt := b86; have t2 : a95.toInt = lx9.toInt - 1 := b97; omega)), (show q_F (a95.toInt ≤ t0_0.toInt) from (show a95.toInt ≤ t0_0.toInt from by have t1 : lx9.toInt ≤ t0_0.toInt := i11; have t2 : a95.toInt = lx9.toInt - 1 := b97; omega)), V, q_lw hl (q_lw1 0 rfl (q_lw1 1 rfl q_lw0)), hI, hF, hO14, hO15, ⟨fm20, Nat.lt_of_lt_of_le (show (a95.toInt - ((-1000000))).toNat < (lx9.toInt - ((-1000000))).toNat from by have t1 : a95.toInt = lx9.toInt - 1 := b97; have t2 : 0 ≤ lx9.toInt := i10; omega) (Nat.le_of_lt_succ hf19), (show F_Dig_turn_p_L0 x2 t0_0 t0_1 t1_0 fm20 a95 = (F_Dig_turn_p x2 t0_0 t0_1 t1_0) from Eq.trans (by have c92x := c92; rw [← e91, ← e88] at c92x; rw [← e96, F_Dig_turn_p_L0.eq_2, if_neg c84, if_pos c92x]) hR16)⟩⟩
def F_Dig_fillLong_c80 (K_F_Dig_fillLong_L22 : Int32 → Int64 → Int32 → (Nat → Int32) → (Int32 × Int32 × (Nat → Int32))) (x2 : Int64) (x3 : Int32) (t0_0 : Int32) (t0_1 : Int32) (t1_0 : (Nat → Int32)) (lx14 : Int64) (lx27 : Int32) (lx28 : Int64) (lx29 : Int32) (lx30 : (Nat → Int32)) (p62 : (Int32 × Int32 × (Nat → Int32))) : Int32 × Int32 × (Nat → Int32) := ((p62.1 : Int32), (p62.2.1 : Int32), (p62.2.2 : (Nat → Int32)))
def F_Dig_fillLong_c80_4 (K_F_Dig_fillLong_L22 : Int32 → Int64 → Int32 → (Nat → Int32) → (Int32 × Int32 × (Nat → Int32))) (x2 : Int64) (x3 : Int32) (t0_0 : Int32) (t0_1 : Int32) (t1_0 : (Nat → Int32)) (lx14 : Int64) (lx27 : Int32) (lx28 : Int64) (lx29 : Int32) (lx30 : (Nat → Int32)) (p94 : (Int32 × Int32 × (Nat → Int32))) : Int32 × Int32 × (Nat → Int32) := ((p94.1 : Int32), (p94.2.1 : Int32), (p94.2.2 : (Nat → Int32)))
def F_Dig_fillLong_L22 (x2 : Int64) (x3 : Int32) (t0_0 : Int32) (t0_1 : Int32) (t1_0 : (Nat → Int32)) (lx14 : Int64) : Nat → Int32 → Int64 → Int32 → (Nat → Int32) → (Int32 × Int32 × (Nat → Int32))
  | 0, _, _, _, _ => default
  | fm + 1, lx27, lx28, lx29, lx30 => if (20 : Int32) ≤ lx27 then (F_Dig_fillLong_c80 (F_Dig_fillLong_L22 x2 x3 t0_0 t0_1 t1_0 lx14 fm) x2 x3 t0_0 t0_1 t1_0 lx14 lx27 lx28 lx29 lx30 ((F_Dig_turn_p x3 lx29 t0_1 lx30) : (Int32 × Int32 × (Nat → Int32)))) else (if (lg_cmp lx28 0 : Int32) = (0 : Int32) then (F_Dig_fillLong_c80_4 (F_Dig_fillLong_L22 x2 x3 t0_0 t0_1 t1_0 lx14 fm) x2 x3 t0_0 t0_1 t1_0 lx14 lx27 lx28 lx29 lx30 ((F_Dig_turn_p x3 lx29 t0_1 lx30) : (Int32 × Int32 × (Nat → Int32)))) else (F_Dig_fillLong_L22 x2 x3 t0_0 t0_1 t1_0 lx14 fm (lx27 + 1 : Int32) (lx28 / 10 : Int64) (lx29 + 1 : Int32) (upd lx30 lx29.toNatClampNeg (vp_nar .byte (((-(lx28 - lx28 / 10 * 10 : Int64) : Int64).toInt32 : Int32).toInt8.toInt32 : Int32)) : (Nat → Int32))))
def F_Dig_fillLong_J17 (x2 : Int64) (x3 : Int32) (t0_0 : Int32) (t0_1 : Int32) (t1_0 : (Nat → Int32)) (lx14 : Int64) : Int32 × Int32 × (Nat → Int32) := F_Dig_fillLong_L22 x2 x3 t0_0 t0_1 t1_0 lx14 ((20 - (0 : Int32).toInt).toNat + 1) 0 lx14 0 t1_0
def F_Dig_fillLong (x2 : Int64) (x3 : Int32) (t0_0 : Int32) (t0_1 : Int32) (t1_0 : (Nat → Int32)) : Int32 × Int32 × (Nat → Int32) := if (lg_cmp x2 0 : Int32) ≤ (0 : Int32) then (F_Dig_fillLong_J17 x2 x3 t0_0 t0_1 t1_0 x2) else (F_Dig_fillLong_J17 x2 x3 t0_0 t0_1 t1_0 (-x2 : Int64))
set_option maxRecDepth 100000 in
set_option maxHeartbeats 4000000 in
theorem X_Dig_fillLong (l : Launch) (D : va_G) (g : Nat → ClassId) (q : Nat → Nat) (ws : va_W) (x2 : Int64) (x3 : Int32) (hI : q_I (nsh g q) q ws) (t0_0 : Int32) (t0_1 : Int32) (hT0 : ws[36]? = (some (q 36, .inr (7, [.int t0_0, .int t0_1, .ref (q 37)])) : Option (Nat × va_E))) (t1_0 : (Nat → Int32)) (hT1 : ws[37]? = (some (q 37, .inl (g 2, 1026, .inl t1_0)) : Option (Nat × va_E))) (pre0 : 0 ≤ x3.toInt + 20000) (pre1 : x3.toInt ≤ 20000) : q_mV l y_Dig_fillLong prog_5_method_3_code 7 2 0 0 D g [.ref (q 36), .long x2, .int x3] ws (fun u => q_I (nsh g q) q u ∧ q_un ws u [36, 37] ∧ ∃ (u0_0 : Int32) (u0_1 : Int32) (u1_0 : (Nat → Int32)), u[36]? = (some (q 36, .inr (7, [.int u0_0, .int u0_1, .ref (q 37)])) : Option (Nat × va_E)) ∧ u[37]? = (some (q 37, .inl (g 2, 1026, .inl u1_0)) : Option (Nat × va_E)) ∧ (0 ≤ u0_0.toInt) ∧ (u0_0.toInt ≤ 20) ∧ (0 ≤ u0_1.toInt + 20000) ∧ (u0_1.toInt ≤ u0_0.toInt + 19999) ∧ (u0_0.toInt ≤ u0_1.toInt + 20001) ∧ (0 ≤ u0_1.toInt + x3.toInt + 20000) ∧ (u0_1.toInt + x3.toInt ≤ 20000) ∧ (u0_0, u0_1, u1_0) = (F_Dig_fillLong x2 x3 t0_0 t0_1 t1_0)) := by
  intro sz
  refine q_into (by decide) (Nat.le_of_ble_eq_true rfl) ?_
  intro p e s m below meth c ls hsz C0 V hl
  have hx := C0.1
  have hb := C0.2.1
  have btt0_1 := (n_w36 hI hT0).2
  replace btt0_1 : q_F (-1000000 ≤ t0_1.toInt ∧ t0_1.toInt ≤ 1000000) := btt0_1
  replace pre0 : q_F (0 ≤ x3.toInt + 20000) := pre0
  replace pre1 : q_F (x3.toInt ≤ 20000) := pre1
  have hF : q_un ws ws [36, 37] := q_u0
  have hl : lv_has ls 7 [(0, .ref (q 36)), (1, .long x2), (3, .int x3)] := hl
  refine lv_aload_n hx hb d_5_3_0 rfl (lv_at hl 0 rfl) ?_
  refine lv_iconst (v := 0) hx hb d_5_3_1 (by decide) ?_
  refine q_put (ci := 7) (j := 0) (v := .int 0) (ty := .int) C0 V i_Dig o_Dig n_Dig rfl rfl hT0 (by decide) w_264 rfl rfl rfl rfl (Nat.le_of_ble_eq_true rfl) d_5_3_2 (fun H locs w9 hu10 hT0 V => ?_)
  replace hT0 : w9[36]? = (some (q 36, .inr (7, [.int 0, .int t0_1, .ref (q 37)])) : Option (Nat × va_E)) := hT0
  replace hI := n_p36 hI hu10 hT0 ⟨(by have z9 : (0 : Int32).toInt = 0 := rfl; omega), (by have z9 : (0 : Int32).toInt = 0 := rfl; omega)⟩ (by first | with_reducible exact q_fe btt0_1 | exact ⟨(by have t1 : -1000000 ≤ t0_1.toInt ∧ t0_1.toInt ≤ 1000000 := btt0_1; omega), (by have t1 : -1000000 ≤ t0_1.toInt ∧ t0_1.toInt ≤ 1000000 := btt0_1; omega)⟩)
  replace hT1 := (hu10 _ (by decide)).trans hT1
  replace hF := q_us hF hu10 (by simp)
  refine lv_lload_n hx hb d_5_3_5 rfl (lv_at hl 1 rfl) ?_
  refine lv_lconst (v := 0) hx hb d_5_3_6 (by decide) ?_
  refine W.lcmp hx hb d_5_3_7 ?_
  obtain ⟨a11, e12⟩ := q_nm (lg_cmp x2 0 : Int32)
  refine q_ti (v := a11) e12 ?_
  have b13 : q_F (-1 ≤ a11.toInt ∧ a11.toInt ≤ 1 ∧ ((a11.toInt = -1 ∧ x2.toInt < 0) ∨ (a11.toInt = 0 ∧ x2.toInt = 0) ∨ (a11.toInt = 1 ∧ 0 < x2.toInt))) := (by rw [← e12]; show -1 ≤ (lg_cmp x2 0 : Int32).toInt ∧ (lg_cmp x2 0 : Int32).toInt ≤ 1 ∧ (((lg_cmp x2 0 : Int32).toInt = -1 ∧ x2.toInt < 0) ∨ ((lg_cmp x2 0 : Int32).toInt = 0 ∧ x2.toInt = 0) ∨ ((lg_cmp x2 0 : Int32).toInt = 1 ∧ 0 < x2.toInt)); exact (by have y1 : (0 : Int64).toInt = 0 := rfl; have z := s_lcmp (a := x2) (b := 0); omega))
  refine q_join (X := Int64) (fun z H locs ls _ => q_F (z.toInt ≤ 0) ∧ q_F (z.toInt ≤ x2.toInt) ∧ q_Wd D g (va_A ws sz) s w9 H locs ∧ lv_has ls 7 [(0, .ref (q 36)), (3, .int x3)] ∧ F_Dig_fillLong_J17 x2 x3 t0_0 t0_1 t1_0 z = (F_Dig_fillLong x2 x3 t0_0 t0_1 t1_0)) (fun z => [.long z]) 17 0 0 ?_ ?_
  ·
    rintro lx14 H locs ls _ ⟨i18, i19, V, hl, hR20⟩
    clear i18
    clear i19
    replace hl : lv_has ls 7 [(0, .ref (q 36)), (3, .int x3)] := hl
    refine lv_lstore (lv' := [(4, .long lx14), (0, .ref (q 36)), (3, .int x3)]) hx hb d_5_3_17 hl (by decide) rfl (fun ls hl => ?_)
    refine lv_iconst (v := 0) hx hb d_5_3_19 (by decide) ?_
    refine lv_istore (lv' := [(6, .int 0), (4, .long lx14), (0, .ref (q 36)), (3, .int x3)]) hx hb d_5_3_20 hl (by decide) rfl (fun ls hl => ?_)
    refine q_loop (X := Int32 × Int64 × Int32 × (Nat → Int32)) (fun z H locs ls w36 => q_F (z.2.2.1.toInt ≤ 20) ∧ q_F (z.2.2.1.toInt ≤ z.1.toInt) ∧ q_F (z.1.toInt ≤ z.2.2.1.toInt) ∧ q_F (0 ≤ z.1.toInt + z.2.2.1.toInt) ∧ q_Wd D g (va_A ws sz) s w36 H locs ∧ lv_has ls 7 [(6, .int z.1), (4, .long z.2.1), (0, .ref (q 36)), (3, .int x3)] ∧ q_I (nsh g q) q w36 ∧ q_un ws w36 [36, 37] ∧ w36[36]? = (some (q 36, .inr (7, [.int z.2.2.1, .int t0_1, .ref (q 37)])) : Option (Nat × va_E)) ∧ w36[37]? = (some (q 37, .inl (g 2, 1026, .inl z.2.2.2)) : Option (Nat × va_E)) ∧ (∃ n, (20 - z.1.toInt).toNat < n ∧ F_Dig_fillLong_L22 x2 x3 t0_0 t0_1 t1_0 lx14 n z.1 z.2.1 z.2.2.1 z.2.2.2 = (F_Dig_fillLong x2 x3 t0_0 t0_1 t1_0))) (fun z => (20 - z.1.toInt).toNat) ?_ ((0 : Int32), (lx14 : Int64), (0 : Int32), (t1_0 : (Nat → Int32))) _ _ _ w9 ⟨(show q_F (0 ≤ 20) from (show 0 ≤ 20 from by omega)), (show q_F (0 ≤ 0) from (show 0 ≤ 0 from by omega)), (show q_F (0 ≤ 0) from (show 0 ≤ 0 from by omega)), (show q_F (0 ≤ 0 + 0) from (show 0 ≤ 0 + 0 from by omega)), V, q_lw hl (q_lw1 0 rfl (q_lw1 1 rfl (q_lw1 2 rfl (q_lw1 3 rfl q_lw0)))), hI, hF, hT0, hT1, ⟨((20 - (0 : Int32).toInt).toNat + 1), Nat.lt_succ_self _, (show F_Dig_fillLong_L22 x2 x3 t0_0 t0_1 t1_0 lx14 ((20 - (0 : Int32).toInt).toNat + 1) 0 lx14 0 t1_0 = (F_Dig_fillLong x2 x3 t0_0 t0_1 t1_0) from Eq.trans (by rw [F_Dig_fillLong_J17.eq_1]) hR20)⟩⟩
    rintro ⟨lx27, lx28, lx29, lx30⟩ H locs ls w36 ⟨i31, i32, i33, i34, V, hl, hI, hF, hO37, hO38, ⟨fu41, hf42, hR39⟩⟩ ih35
    obtain ⟨fm43, rfl⟩ : ∃ m, fu41 = m + 1 := ⟨fu41 - 1, by omega⟩
    replace i31 : q_F (lx29.toInt ≤ 20) := i31
    replace i32 : q_F (lx29.toInt ≤ lx27.toInt) := i32
    replace i33 : q_F (lx27.toInt ≤ lx29.toInt) := i33
    replace i34 : q_F (0 ≤ lx27.toInt + lx29.toInt) := i34
    replace hl : lv_has ls 7 [(6, .int lx27), (4, .long lx28), (0, .ref (q 36)), (3, .int x3)] := hl
    replace hO37 : w36[36]? = (some (q 36, .inr (7, [.int lx29, .int t0_1, .ref (q 37)])) : Option (Nat × va_E)) := hO37
    replace hO38 : w36[37]? = (some (q 37, .inl (g 2, 1026, .inl lx30)) : Option (Nat × va_E)) := hO38
    refine lv_iload hx hb d_5_3_22 (lv_at hl 0 rfl) ?_
    refine lv_bipush (v := 20) hx hb d_5_3_24 (by decide) ?_
    refine lv_icmp_ge (tgt := 78) hx hb d_5_3_26 (by decide) (fun c44 => ?_) (fun c44 => ?_)
    ·
      refine lv_aload_n hx hb d_5_3_78 rfl (lv_at hl 2 rfl) ?_
      refine lv_iload_n hx hb d_5_3_79 rfl (lv_at hl 3 rfl) ?_
      refine q_gov V (q_runV (As := [.int x3]) (rest := []) (d := 1) (mc := 0) (ms := 0) (ci := 7) C0 V rfl LV_Dig_27 (X_Dig_turn_p l D g q w36  x3 hI lx29 t0_1 hO37 lx30 hO38 (by first | with_reducible exact q_fe pre0 | (have t1 : 0 ≤ x3.toInt + 20000 := pre0; omega)) (by first | with_reducible exact q_fe pre1 | (have t1 : x3.toInt ≤ 20000 := pre1; omega)) _) rfl rfl hO37 rfl hl.1 rfl (Nat.le_of_ble_eq_true rfl) ⟨by decide, by decide⟩ ⟨Nat.le_of_ble_eq_true rfl, Nat.le_of_ble_eq_true rfl⟩ d_5_3_80) (fun u46 H locs hp47 V => ?_)
      obtain ⟨hI, hZ9⟩ := hp47
      obtain ⟨hu61, hZ9⟩ := hZ9
      obtain ⟨y49, hZ9⟩ := hZ9
      obtain ⟨y50, hZ9⟩ := hZ9
      obtain ⟨f51, hZ9⟩ := hZ9
      obtain ⟨hO48, hZ9⟩ := hZ9
      obtain ⟨hA52, hZ9⟩ := hZ9
      obtain ⟨b53, hZ9⟩ := hZ9
      obtain ⟨b54, hZ9⟩ := hZ9
      obtain ⟨b55, hZ9⟩ := hZ9
      obtain ⟨b56, hZ9⟩ := hZ9
      obtain ⟨b57, hZ9⟩ := hZ9
      obtain ⟨b58, hZ9⟩ := hZ9
      obtain ⟨b59, hE60⟩ := hZ9
      replace hO48 : u46[36]? = (some (q 36, .inr (7, [.int y49, .int y50, .ref (q 37)])) : Option (Nat × va_E)) := hO48
      replace hA52 : u46[37]? = (some (q 37, .inl (g 2, 1026, .inl f51)) : Option (Nat × va_E)) := hA52
      obtain ⟨p62, e63⟩ : ∃ z, z = (F_Dig_turn_p x3 lx29 t0_1 lx30) := ⟨_, rfl⟩
      have e64 : y49 = p62.1 := congrArg (fun z => z.1) (hE60.trans e63.symm)
      have e65 : y50 = p62.2.1 := congrArg (fun z => z.2.1) (hE60.trans e63.symm)
      have e66 : f51 = p62.2.2 := congrArg (fun z => z.2.2) (hE60.trans e63.symm)
      replace b53 : q_F (0 ≤ y49.toInt) := b53
      replace b54 : q_F (0 ≤ y50.toInt + 20000) := b54
      replace b55 : q_F (y49.toInt ≤ lx29.toInt) := b55
      replace b56 : q_F (y50.toInt ≤ y49.toInt + 19999) := b56
      replace b57 : q_F (y49.toInt ≤ y50.toInt + 20001) := b57
      replace b58 : q_F (0 ≤ y50.toInt + x3.toInt + 20000) := b58
      replace b59 : q_F (y50.toInt + x3.toInt ≤ 20000) := b59
      replace hF := q_uc hF hu61 (by first | exact (q_sk (q_mi 0 rfl) (q_sk (q_mi 1 rfl) q_s0)) | simp)
      have hR67 := (show F_Dig_fillLong_c80 (F_Dig_fillLong_L22 x2 x3 t0_0 t0_1 t1_0 lx14 fm43) x2 x3 t0_0 t0_1 t1_0 lx14 lx27 lx28 lx29 lx30 p62 = (F_Dig_fillLong x2 x3 t0_0 t0_1 t1_0) from Eq.trans (by rw [e63, F_Dig_fillLong_L22.eq_2, if_pos c44]) hR39)
      exact q_retv C0 V (⟨hI, hF, y49, y50, f51, hO48, hA52, (show 0 ≤ y49.toInt from (by first | with_reducible exact q_fe b53 | (have t1 : 0 ≤ y49.toInt := b53; omega))), (show y49.toInt ≤ 20 from (by have t1 : lx29.toInt ≤ 20 := i31; have t2 : y49.toInt ≤ lx29.toInt := b55; omega)), (show 0 ≤ y50.toInt + 20000 from (by first | with_reducible exact q_fe b54 | (have t1 : 0 ≤ y50.toInt + 20000 := b54; omega))), (show y50.toInt ≤ y49.toInt + 19999 from (by first | with_reducible exact q_fe b56 | (have t1 : y50.toInt ≤ y49.toInt + 19999 := b56; omega))), (show y49.toInt ≤ y50.toInt + 20001 from (by first | with_reducible exact q_fe b57 | (have t1 : y49.toInt ≤ y50.toInt + 20001 := b57; omega))), (show 0 ≤ y50.toInt + x3.toInt + 20000 from (by first | with_reducible exact q_fe b58 | (have t1 : 0 ≤ y50.toInt + x3.toInt + 20000 := b58; omega))), (show y50.toInt + x3.toInt ≤ 20000 from (by first | with_reducible exact q_fe b59 | (have t1 : y50.toInt + x3.toInt ≤ 20000 := b59; omega))), (show (y49, y50, f51) = (F_Dig_fillLong x2 x3 t0_0 t0_1 t1_0) from Eq.trans (by rw [e66, e65, e64, F_Dig_fillLong_c80.eq_1]) hR67)⟩) d_5_3_83
    ·
      have b72 : q_F (lx27.toInt < 20) := (q_nleI c44)
      refine lv_lload hx hb d_5_3_29 (lv_at hl 1 rfl) ?_
      refine lv_lconst (v := 0) hx hb d_5_3_31 (by decide) ?_
      refine W.lcmp hx hb d_5_3_32 ?_
      obtain ⟨a73, e74⟩ := q_nm (lg_cmp lx28 0 : Int32)
      refine q_ti (v := a73) e74 ?_
      refine lv_if_eq (tgt := 78) hx hb d_5_3_33 (by decide) (fun c76 => ?_) (fun c76 => ?_)
      ·
        refine lv_aload_n hx hb d_5_3_78 rfl (lv_at hl 2 rfl) ?_
        refine lv_iload_n hx hb d_5_3_79 rfl (lv_at hl 3 rfl) ?_
        refine q_gov V (q_runV (As := [.int x3]) (rest := []) (d := 1) (mc := 0) (ms := 0) (ci := 7) C0 V rfl LV_Dig_27 (X_Dig_turn_p l D g q w36  x3 hI lx29 t0_1 hO37 lx30 hO38 (by first | with_reducible exact q_fe pre0 | (have t1 : 0 ≤ x3.toInt + 20000 := pre0; omega)) (by first | with_reducible exact q_fe pre1 | (have t1 : x3.toInt ≤ 20000 := pre1; omega)) _) rfl rfl hO37 rfl hl.1 rfl (Nat.le_of_ble_eq_true rfl) ⟨by decide, by decide⟩ ⟨Nat.le_of_ble_eq_true rfl, Nat.le_of_ble_eq_true rfl⟩ d_5_3_80) (fun u78 H locs hp79 V => ?_)
        obtain ⟨hI, hZ9⟩ := hp79
        obtain ⟨hu93, hZ9⟩ := hZ9
        obtain ⟨y81, hZ9⟩ := hZ9
        obtain ⟨y82, hZ9⟩ := hZ9
        obtain ⟨f83, hZ9⟩ := hZ9
        obtain ⟨hO80, hZ9⟩ := hZ9
        obtain ⟨hA84, hZ9⟩ := hZ9
        obtain ⟨b85, hZ9⟩ := hZ9
        obtain ⟨b86, hZ9⟩ := hZ9
        obtain ⟨b87, hZ9⟩ := hZ9
        obtain ⟨b88, hZ9⟩ := hZ9
        obtain ⟨b89, hZ9⟩ := hZ9
        obtain ⟨b90, hZ9⟩ := hZ9
        obtain ⟨b91, hE92⟩ := hZ9
        replace hO80 : u78[36]? = (some (q 36, .inr (7, [.int y81, .int y82, .ref (q 37)])) : Option (Nat × va_E)) := hO80
        replace hA84 : u78[37]? = (some (q 37, .inl (g 2, 1026, .inl f83)) : Option (Nat × va_E)) := hA84
        obtain ⟨p94, e95⟩ : ∃ z, z = (F_Dig_turn_p x3 lx29 t0_1 lx30) := ⟨_, rfl⟩
        have e96 : y81 = p94.1 := congrArg (fun z => z.1) (hE92.trans e95.symm)
        have e97 : y82 = p94.2.1 := congrArg (fun z => z.2.1) (hE92.trans e95.symm)
        have e98 : f83 = p94.2.2 := congrArg (fun z => z.2.2) (hE92.trans e95.symm)
        replace b85 : q_F (0 ≤ y81.toInt) := b85
        replace b86 : q_F (0 ≤ y82.toInt + 20000) := b86
        replace b87 : q_F (y81.toInt ≤ lx29.toInt) := b87
        replace b88 : q_F (y82.toInt ≤ y81.toInt + 19999) := b88
        replace b89 : q_F (y81.toInt ≤ y82.toInt + 20001) := b89
        replace b90 : q_F (0 ≤ y82.toInt + x3.toInt + 20000) := b90
        replace b91 : q_F (y82.toInt + x3.toInt ≤ 20000) := b91
        replace hF := q_uc hF hu93 (by first | exact (q_sk (q_mi 0 rfl) (q_sk (q_mi 1 rfl) q_s0)) | simp)
        have hR99 := (show F_Dig_fillLong_c80_4 (F_Dig_fillLong_L22 x2 x3 t0_0 t0_1 t1_0 lx14 fm43) x2 x3 t0_0 t0_1 t1_0 lx14 lx27 lx28 lx29 lx30 p94 = (F_Dig_fillLong x2 x3 t0_0 t0_1 t1_0) from Eq.trans (by have c76x := c76; rw [← e74] at c76x; rw [e95, F_Dig_fillLong_L22.eq_2, if_neg c44, if_pos c76x]) hR39)
        exact q_retv C0 V (⟨hI, hF, y81, y82, f83, hO80, hA84, (show 0 ≤ y81.toInt from (by first | with_reducible exact q_fe b85 | (have t1 : 0 ≤ y81.toInt := b85; omega))), (show y81.toInt ≤ 20 from (by have t1 : lx29.toInt ≤ 20 := i31; have t2 : y81.toInt ≤ lx29.toInt := b87; omega)), (show 0 ≤ y82.toInt + 20000 from (by first | with_reducible exact q_fe b86 | (have t1 : 0 ≤ y82.toInt + 20000 := b86; omega))), (show y82.toInt ≤ y81.toInt + 19999 from (by first | with_reducible exact q_fe b88 | (have t1 : y82.toInt ≤ y81.toInt + 19999 := b88; omega))), (show y81.toInt ≤ y82.toInt + 20001 from (by first | with_reducible exact q_fe b89 | (have t1 : y81.toInt ≤ y82.toInt + 20001 := b89; omega))), (show 0 ≤ y82.toInt + x3.toInt + 20000 from (by first | with_reducible exact q_fe b90 | (have t1 : 0 ≤ y82.toInt + x3.toInt + 20000 := b90; omega))), (show y82.toInt + x3.toInt ≤ 20000 from (by first | with_reducible exact q_fe b91 | (have t1 : y82.toInt + x3.toInt ≤ 20000 := b91; omega))), (show (y81, y82, f83) = (F_Dig_fillLong x2 x3 t0_0 t0_1 t1_0) from Eq.trans (by rw [e98, e97, e96, F_Dig_fillLong_c80_4.eq_1]) hR99)⟩) d_5_3_83
      ·
        refine lv_aload_n hx hb d_5_3_36 rfl (lv_at hl 2 rfl) ?_
        refine q_get (ci := 7) (j := 2) (v := .ref (q 37)) C0 V i_Dig rfl rfl hO37 (by decide) w_269 rfl d_5_3_37 ?_
        refine lv_aload_n hx hb d_5_3_40 rfl (lv_at hl 2 rfl) ?_
        refine q_get (ci := 7) (j := 0) (v := .int lx29) C0 V i_Dig rfl rfl hO37 (by decide) w_264 rfl d_5_3_41 ?_
        refine lv_lload hx hb d_5_3_44 (lv_at hl 1 rfl) ?_
        refine q_ldc2 C0 rfl w_1639 d_5_3_46 ?_
        refine lv_lrem hx hb d_5_3_49 (by decide) ?_
        obtain ⟨j105, e106⟩ := q_nm (lx28 - lx28 / 10 * 10 : Int64)
        refine q_tl (v := j105) e106 ?_
        refine lv_lneg hx hb d_5_3_50 ?_
        obtain ⟨j107, e108⟩ := q_nm (-j105 : Int64)
        refine q_tl (v := j107) e108 ?_
        refine lv_l2i hx hb d_5_3_51 rfl ?_
        obtain ⟨a109, e110⟩ := q_nm (j107.toInt32 : Int32)
        refine q_ti (v := a109) e110 ?_
        refine lv_i2b hx hb d_5_3_52 rfl ?_
        obtain ⟨a111, e112⟩ := q_nm (a109.toInt8.toInt32 : Int32)
        refine q_ti (v := a111) e112 ?_
        refine q_bast C0 V hO38 (q_ix (x := lx29.toInt) rfl (by have t1 : lx27.toInt ≤ lx29.toInt := i33; have t2 : 0 ≤ lx27.toInt + lx29.toInt := i34; omega) (by have t1 : lx27.toInt ≤ lx29.toInt := i33; have t2 : 0 ≤ lx27.toInt + lx29.toInt := i34; have t3 : lx29.toInt ≤ 20 := i31; omega)) d_5_3_53 (fun H locs w113 hu114 hO38 V => ?_)
        replace hI := n_ai' hI (n_s37 g q) hu114 hO38 (q_updB (fun _ => s_bnd) s_bnd)
        replace hO37 := (hu114 _ (by decide)).trans hO37
        replace hF := q_us hF hu114 (by simp)
        obtain ⟨f115, e116⟩ := q_nm (upd lx30 lx29.toNatClampNeg (vp_nar .byte a111) : (Nat → Int32))
        rw [e116] at hO38
        refine lv_lload hx hb d_5_3_54 (lv_at hl 1 rfl) ?_
        refine q_ldc2 C0 rfl w_1639 d_5_3_56 ?_
        refine lv_ldiv hx hb d_5_3_59 (by decide) ?_
        obtain ⟨j117, e118⟩ := q_nm (lx28 / 10 : Int64)
        refine q_tl (v := j117) e118 ?_
        refine lv_lstore (lv' := [(4, .long j117), (6, .int lx27), (0, .ref (q 36)), (3, .int x3)]) hx hb d_5_3_60 hl (by decide) rfl (fun ls hl => ?_)
        refine lv_aload_n hx hb d_5_3_62 rfl (lv_at hl 2 rfl) ?_
        refine lv_dup hx hb d_5_3_63 rfl ?_
        refine q_get (ci := 7) (j := 0) (v := .int lx29) C0 V i_Dig rfl rfl hO37 (by decide) w_264 rfl d_5_3_64 ?_
        refine lv_iconst (v := 1) hx hb d_5_3_67 (by decide) ?_
        refine lv_iadd hx hb d_5_3_68 ?_
        obtain ⟨a119, e120⟩ := q_nm (lx29 + 1 : Int32)
        refine q_ti (v := a119) e120 ?_
        have b121 : q_F (a119.toInt = lx29.toInt + 1) := (by rw [← e120]; show (lx29 + 1 : Int32).toInt = lx29.toInt + 1; exact q_addI (x := lx29.toInt) (y := 1) rfl (by decide) (by have t1 : lx27.toInt ≤ lx29.toInt := i33; have t2 : 0 ≤ lx27.toInt + lx29.toInt := i34; have t3 : lx29.toInt ≤ 20 := i31; omega) (by have t1 : lx27.toInt ≤ lx29.toInt := i33; have t2 : 0 ≤ lx27.toInt + lx29.toInt := i34; have t3 : lx29.toInt ≤ 20 := i31; omega))
        refine q_put (ci := 7) (j := 0) (v := .int a119) (ty := .int) C0 V i_Dig o_Dig n_Dig rfl rfl hO37 (by decide) w_264 rfl rfl rfl rfl (Nat.le_of_ble_eq_true rfl) d_5_3_69 (fun H locs w122 hu123 hO37 V => ?_)
        replace hO37 : w122[36]? = (some (q 36, .inr (7, [.int a119, .int t0_1, .ref (q 37)])) : Option (Nat × va_E)) := hO37
        replace hI := n_p36 hI hu123 hO37 ⟨(by have t1 : lx27.toInt ≤ lx29.toInt := i33; have t2 : 0 ≤ lx27.toInt + lx29.toInt := i34; have t3 : a119.toInt = lx29.toInt + 1 := b121; omega), (by have t1 : lx29.toInt ≤ 20 := i31; have t2 : a119.toInt = lx29.toInt + 1 := b121; omega)⟩ (by first | with_reducible exact q_fe btt0_1 | exact ⟨(by have t1 : -1000000 ≤ t0_1.toInt ∧ t0_1.toInt ≤ 1000000 := btt0_1; omega), (by have t1 : -1000000 ≤ t0_1.toInt ∧ t0_1.toInt ≤ 1000000 := btt0_1; omega)⟩)
        replace hO38 := (hu123 _ (by decide)).trans hO38
        replace hF := q_us hF hu123 (by simp)
        obtain ⟨a124, e125⟩ := q_nm (lx27 + 1 : Int32)
        have b126 : q_F (a124.toInt = lx27.toInt + 1) := (by rw [← e125]; exact q_addI (y := 1) rfl (by decide) (by have t1 : lx29.toInt ≤ lx27.toInt := i32; have t2 : 0 ≤ lx27.toInt + lx29.toInt := i34; have t3 : lx27.toInt < 20 := b72; omega) (by have t1 : lx29.toInt ≤ lx27.toInt := i32; have t2 : 0 ≤ lx27.toInt + lx29.toInt := i34; have t3 : lx27.toInt < 20 := b72; omega))
        refine lv_iinc (v := a124) (lv' := [(6, .int a124), (4, .long j117), (0, .ref (q 36)), (3, .int x3)]) hx hb d_5_3_72 hl (k := 1) rfl (e125) (by decide) rfl (fun ls hl => ?_)
        refine lv_goto (tgt := 22) hx hb d_5_3_75 (by decide) ?_
        exact ih35 ((a124 : Int32), (j117 : Int64), (a119 : Int32), (f115 : (Nat → Int32))) _ _ _ _ (show (20 - a124.toInt).toNat < (20 - lx27.toInt).toNat from by have t1 : a124.toInt = lx27.toInt + 1 := b126; have t2 : lx27.toInt < 20 := b72; omega) ⟨(show q_F (a119.toInt ≤ 20) from (show a119.toInt ≤ 20 from by have t1 : lx29.toInt ≤ lx27.toInt := i32; have t2 : lx27.toInt < 20 := b72; have t3 : a119.toInt = lx29.toInt + 1 := b121; omega)), (show q_F (a119.toInt ≤ a124.toInt) from (show a119.toInt ≤ a124.toInt from by have t1 : lx29.toInt ≤ lx27.toInt := i32; have t2 : a119.toInt = lx29.toInt + 1 := b121; have t3 : a124.toInt = lx27.toInt + 1 := b126; omega)), (show q_F (a124.toInt ≤ a119.toInt) from (show a124.toInt ≤ a119.toInt from by have t1 : lx27.toInt ≤ lx29.toInt := i33; have t2 : a119.toInt = lx29.toInt + 1 := b121; have t3 : a124.toInt = lx27.toInt + 1 := b126; omega)), (show q_F (0 ≤ a124.toInt + a119.toInt) from (show 0 ≤ a124.toInt + a119.toInt from by have t1 : 0 ≤ lx27.toInt + lx29.toInt := i34; have t2 : a119.toInt = lx29.toInt + 1 := b121; have t3 : a124.toInt = lx27.toInt + 1 := b126; omega)), V, q_lw hl (q_lw1 0 rfl (q_lw1 1 rfl (q_lw1 2 rfl (q_lw1 3 rfl q_lw0)))), hI, hF, hO37, hO38, ⟨fm43, Nat.lt_of_lt_of_le (show (20 - a124.toInt).toNat < (20 - lx27.toInt).toNat from by have t1 : a124.toInt = lx27.toInt + 1 := b126; have t2 : lx27.toInt < 20 := b72; omega) (Nat.le_of_lt_succ hf42), (show F_Dig_fillLong_L22 x2 x3 t0_0 t0_1 t1_0 lx14 fm43 a124 j117 a119 f115 = (F_Dig_fillLong x2 x3 t0_0 t0_1 t1_0) from Eq.trans (by have c76x := c76; rw [← e74] at c76x; rw [← e125, ← e120, ← e118, ← e116, ← e112, ← e110, ← e108, ← e106, F_Dig_fillLong_L22.eq_2, if_neg c44, if_neg c76x]) hR39)⟩⟩
  ·
    intro J17
    refine lv_if_le (tgt := 16) hx hb d_5_3_8 (by decide) (fun c127 => ?_) (fun c127 => ?_)
    ·
      have b128 : q_F (a11.toInt ≤ 0) := (q_leI c127)
      refine lv_lload_n hx hb d_5_3_16 rfl (lv_at hl 1 rfl) ?_
      exact J17 ((x2 : Int64)) _ _ _ w9 ⟨(show q_F (x2.toInt ≤ 0) from (show x2.toInt ≤ 0 from by have t1 : -1 ≤ a11.toInt ∧ a11.toInt ≤ 1 ∧ ((a11.toInt = -1 ∧ x2.toInt < 0) ∨ (a11.toInt = 0 ∧ x2.toInt = 0) ∨ (a11.toInt = 1 ∧ 0 < x2.toInt)) := b13; have t2 : a11.toInt ≤ 0 := b128; omega)), (show q_F (x2.toInt ≤ x2.toInt) from (show x2.toInt ≤ x2.toInt from by omega)), V, q_lw hl (q_lw1 0 rfl (q_lw1 2 rfl q_lw0)), (show F_Dig_fillLong_J17 x2 x3 t0_0 t0_1 t1_0 x2 = (F_Dig_fillLong x2 x3 t0_0 t0_1 t1_0) from (by have c127x := c127; rw [← e12] at c127x; rw [F_Dig_fillLong.eq_1, if_pos c127x]))⟩
    ·
      have b129 : q_F (0 < a11.toInt) := (q_nleI c127)
      refine lv_lload_n hx hb d_5_3_11 rfl (lv_at hl 1 rfl) ?_
      refine lv_lneg hx hb d_5_3_12 ?_
      obtain ⟨j130, e131⟩ := q_nm (-x2 : Int64)
      refine q_tl (v := j130) e131 ?_
      have b132 : q_F (j130.toInt = -x2.toInt) := (by rw [← e131]; show (-x2 : Int64).toInt = -x2.toInt; exact n_negL rfl (by have t1 : -1 ≤ a11.toInt ∧ a11.toInt ≤ 1 ∧ ((a11.toInt = -1 ∧ x2.toInt < 0) ∨ (a11.toInt = 0 ∧ x2.toInt = 0) ∨ (a11.toInt = 1 ∧ 0 < x2.toInt)) := b13; have t2 : 0 < a11.toInt := b129; omega))
      refine lv_goto (tgt := 17) hx hb d_5_3_13 (by decide) ?_
      exact J17 ((j130 : Int64)) _ _ _ w9 ⟨(show q_F (j130.toInt ≤ 0) from (show j130.toInt ≤ 0 from by have t1 : -1 ≤ a11.toInt ∧ a11.toInt ≤ 1 ∧ ((a11.toInt = -1 ∧ x2.toInt < 0) ∨ (a11.toInt = 0 ∧ x2.toInt = 0) ∨ (a11.toInt = 1 ∧ 0 < x2.toInt)) := b13; have t2 : 0 < a11.toInt := b129; have t3 : j130.toInt = -x2.toInt := b132; omega)), (show q_F (j130.toInt ≤ x2.toInt) from (show j130.toInt ≤ x2.toInt from by have t1 : -1 ≤ a11.toInt ∧ a11.toInt ≤ 1 ∧ ((a11.toInt = -1 ∧ x2.toInt < 0) ∨ (a11.toInt = 0 ∧ x2.toInt = 0) ∨ (a11.toInt = 1 ∧ 0 < x2.toInt)) := b13; have t2 : 0 < a11.toInt := b129; have t3 : j130.toInt = -x2.toInt := b132; omega)), V, q_lw hl (q_lw1 0 rfl (q_lw1 2 rfl q_lw0)), (show F_Dig_fillLong_J17 x2 x3 t0_0 t0_1 t1_0 j130 = (F_Dig_fillLong x2 x3 t0_0 t0_1 t1_0) from (by have c127x := c127; rw [← e12] at c127x; rw [← e131, F_Dig_fillLong.eq_1, if_neg c127x]))⟩

def F_Dig_goesOutwards_J63 (K_F_Dig_goesOutwards_L26 : Int32 → Int32 → Int32) (x2 : Int32) (x3 : Int32) (t0_0 : Int32) (t0_1 : Int32) (t1_0 : (Nat → Int32)) (a11 : Int32) (lx14 : Int32) (lx32 : Int32) (lx33 : Int32) : Int32 := if (1 : Int32) < x3 then (if a11 = (5 : Int32) then (if lx33 = (0 : Int32) then (if x3 = (2 : Int32) then ((1 : Int32)) else (if (((F_Dig_figure (x2 - 1 : Int32) t0_0 t0_1 t1_0) : Int32) &&& 1 : Int32) = (1 : Int32) then ((1 : Int32)) else ((0 : Int32)))) else ((1 : Int32))) else (if a11 < (5 : Int32) then ((0 : Int32)) else ((1 : Int32)))) else (if x3 = (1 : Int32) then (if a11 = (0 : Int32) then (if lx33 = (0 : Int32) then ((0 : Int32)) else ((1 : Int32))) else ((1 : Int32))) else ((0 : Int32)))
def F_Dig_goesOutwards_L26 (x2 : Int32) (x3 : Int32) (t0_0 : Int32) (t0_1 : Int32) (t1_0 : (Nat → Int32)) (a11 : Int32) (lx14 : Int32) : Nat → Int32 → Int32 → Int32
  | 0, _, _ => default
  | fm + 1, lx32, lx33 => if t0_0 ≤ lx32 then (F_Dig_goesOutwards_J63 (F_Dig_goesOutwards_L26 x2 x3 t0_0 t0_1 t1_0 a11 lx14 fm) x2 x3 t0_0 t0_1 t1_0 a11 lx14 lx32 lx33) else (if lx33 = (0 : Int32) then (if (t1_0 lx32.toNatClampNeg : Int32) = (0 : Int32) then (F_Dig_goesOutwards_L26 x2 x3 t0_0 t0_1 t1_0 a11 lx14 fm (lx32 + 1 : Int32) 0) else (F_Dig_goesOutwards_L26 x2 x3 t0_0 t0_1 t1_0 a11 lx14 fm (lx32 + 1 : Int32) 1)) else (F_Dig_goesOutwards_J63 (F_Dig_goesOutwards_L26 x2 x3 t0_0 t0_1 t1_0 a11 lx14 fm) x2 x3 t0_0 t0_1 t1_0 a11 lx14 lx32 lx33))
def F_Dig_goesOutwards_J15 (x2 : Int32) (x3 : Int32) (t0_0 : Int32) (t0_1 : Int32) (t1_0 : (Nat → Int32)) (a11 : Int32) (lx14 : Int32) : Int32 := F_Dig_goesOutwards_L26 x2 x3 t0_0 t0_1 t1_0 a11 lx14 ((1026 - (if (x2 + 1 : Int32) < 0 then 0 else (x2 + 1 : Int32) : Int32).toInt).toNat + 1) (if (x2 + 1 : Int32) < 0 then 0 else (x2 + 1 : Int32) : Int32) lx14
def F_Dig_goesOutwards (x2 : Int32) (x3 : Int32) (t0_0 : Int32) (t0_1 : Int32) (t1_0 : (Nat → Int32)) : Int32 := if (0 : Int32) ≤ x2 then (F_Dig_goesOutwards_J15 x2 x3 t0_0 t0_1 t1_0 ((F_Dig_figure x2 t0_0 t0_1 t1_0) : Int32) 0) else (F_Dig_goesOutwards_J15 x2 x3 t0_0 t0_1 t1_0 ((F_Dig_figure x2 t0_0 t0_1 t1_0) : Int32) 1)
set_option maxRecDepth 100000 in
set_option maxHeartbeats 4000000 in
theorem X_Dig_goesOutwards (l : Launch) (D : va_G) (g : Nat → ClassId) (q : Nat → Nat) (ws : va_W) (x2 : Int32) (x3 : Int32) (hI : q_I (nsh g q) q ws) (t0_0 : Int32) (t0_1 : Int32) (hT0 : ws[36]? = (some (q 36, .inr (7, [.int t0_0, .int t0_1, .ref (q 37)])) : Option (Nat × va_E))) (t1_0 : (Nat → Int32)) (hT1 : ws[37]? = (some (q 37, .inl (g 2, 1026, .inl t1_0)) : Option (Nat × va_E))) : q_mI l y_Dig_goesOutwards prog_5_method_7_code 6 (.boolean) 2 0 0 D g [.ref (q 36), .int x2, .int x3] ws (fun r u => ws = u ∧ (0 ≤ r.toInt) ∧ (r.toInt ≤ 1) ∧ r = (F_Dig_goesOutwards x2 x3 t0_0 t0_1 t1_0)) := by
  intro sz
  refine q_into (by decide) (Nat.le_of_ble_eq_true rfl) ?_
  intro p e s m below meth c ls hsz C0 V hl
  have hx := C0.1
  have hb := C0.2.1
  have btt0_0 := (n_w36 hI hT0).1
  replace btt0_0 : q_F (0 ≤ t0_0.toInt ∧ t0_0.toInt ≤ 1026) := btt0_0
  have hl : lv_has ls 6 [(0, .ref (q 36)), (1, .int x2), (2, .int x3)] := hl
  refine lv_aload_n hx hb d_5_7_0 rfl (lv_at hl 0 rfl) ?_
  refine lv_iload_n hx hb d_5_7_1 rfl (lv_at hl 1 rfl) ?_
  refine q_goi V (q_runV (As := [.int x2]) (rest := []) (d := 1) (mc := 0) (ms := 0) (ci := 7) C0 V rfl LV_Dig_49 (X_Dig_figure l D g q ws  x2 hI t0_0 t0_1 hT0 t1_0 hT1  _) rfl rfl hT0 rfl hl.1 rfl (Nat.le_of_ble_eq_true rfl) ⟨by decide, by decide⟩ ⟨Nat.le_of_ble_eq_true rfl, Nat.le_of_ble_eq_true rfl⟩ d_5_7_2) (fun a11 u9 H locs hp10 V => ?_)
  obtain ⟨rfl, hE12⟩ := hp10
  have e13 : a11 = (F_Dig_figure x2 t0_0 t0_1 t1_0) := hE12
  refine lv_istore_n (lv' := [(3, .int a11), (0, .ref (q 36)), (1, .int x2), (2, .int x3)]) hx hb d_5_7_5 rfl hl (by decide) rfl (fun ls hl => ?_)
  refine lv_iload_n hx hb d_5_7_6 rfl (lv_at hl 2 rfl) ?_
  refine q_join (X := Int32) (fun z H locs ls _ => q_F (0 ≤ z.toInt) ∧ q_F (z.toInt ≤ 1) ∧ q_Wd D g (va_A ws sz) s ws H locs ∧ lv_has ls 6 [(3, .int a11), (0, .ref (q 36)), (1, .int x2), (2, .int x3)] ∧ F_Dig_goesOutwards_J15 x2 x3 t0_0 t0_1 t1_0 a11 z = (F_Dig_goesOutwards x2 x3 t0_0 t0_1 t1_0)) (fun z => [.int z]) 15 0 0 ?_ ?_
  ·
    rintro lx14 H locs ls _ ⟨i18, i19, V, hl, hR20⟩
    replace i18 : q_F (0 ≤ lx14.toInt) := i18
    replace i19 : q_F (lx14.toInt ≤ 1) := i19
    replace hl : lv_has ls 6 [(3, .int a11), (0, .ref (q 36)), (1, .int x2), (2, .int x3)] := hl
    refine lv_istore (lv' := [(4, .int lx14), (3, .int a11), (0, .ref (q 36)), (1, .int x2), (2, .int x3)]) hx hb d_5_7_15 hl (by decide) rfl (fun ls hl => ?_)
    refine lv_iload_n hx hb d_5_7_17 rfl (lv_at hl 3 rfl) ?_
    refine lv_iconst (v := 1) hx hb d_5_7_18 (by decide) ?_
    refine lv_iadd hx hb d_5_7_19 ?_
    obtain ⟨a25, e26⟩ := q_nm (x2 + 1 : Int32)
    refine q_ti (v := a25) e26 ?_
    refine lv_iconst (v := 0) hx hb d_5_7_20 (by decide) ?_
    refine q_max C0 hl.1 rfl w_1571 w_803 w_7 w_804 ⟨Nat.le_of_ble_eq_true rfl, Nat.le_of_ble_eq_true rfl⟩ ⟨Nat.le_of_ble_eq_true rfl, Nat.le_of_ble_eq_true rfl⟩ d_5_7_21 ?_
    obtain ⟨a27, e28⟩ := q_nm (if a25 < 0 then 0 else a25 : Int32)
    refine q_ti (v := a27) e28 ?_
    have b29 : q_F (a25.toInt ≤ a27.toInt ∧ 0 ≤ a27.toInt ∧ (a27.toInt = a25.toInt ∨ a27.toInt = 0)) := (by rw [← e28]; show a25.toInt ≤ (if a25 < 0 then 0 else a25 : Int32).toInt ∧ 0 ≤ (if a25 < 0 then 0 else a25 : Int32).toInt ∧ ((if a25 < 0 then 0 else a25 : Int32).toInt = a25.toInt ∨ (if a25 < 0 then 0 else a25 : Int32).toInt = 0); exact (by have y1 : (0 : Int32).toInt = 0 := rfl; have z := s_max (a := a25) (b := 0); omega))
    refine lv_istore (lv' := [(5, .int a27), (4, .int lx14), (3, .int a11), (0, .ref (q 36)), (1, .int x2), (2, .int x3)]) hx hb d_5_7_24 hl (by decide) rfl (fun ls hl => ?_)
    refine q_loop (X := Int32 × Int32) (fun z H locs ls _ => q_F (z.2.toInt ≤ 1) ∧ q_F (lx14.toInt ≤ z.2.toInt) ∧ q_F (z.2.toInt + a27.toInt ≤ z.1.toInt + lx14.toInt) ∧ q_Wd D g (va_A ws sz) s ws H locs ∧ lv_has ls 6 [(5, .int z.1), (4, .int z.2), (3, .int a11), (0, .ref (q 36)), (1, .int x2), (2, .int x3)] ∧ (∃ n, (1026 - z.1.toInt).toNat < n ∧ F_Dig_goesOutwards_L26 x2 x3 t0_0 t0_1 t1_0 a11 lx14 n z.1 z.2 = (F_Dig_goesOutwards x2 x3 t0_0 t0_1 t1_0))) (fun z => (1026 - z.1.toInt).toNat) ?_ ((a27 : Int32), (lx14 : Int32)) _ _ _ ws ⟨(show q_F (lx14.toInt ≤ 1) from (show lx14.toInt ≤ 1 from by have t1 : lx14.toInt ≤ 1 := i19; omega)), (show q_F (lx14.toInt ≤ lx14.toInt) from (show lx14.toInt ≤ lx14.toInt from by omega)), (show q_F (lx14.toInt + a27.toInt ≤ a27.toInt + lx14.toInt) from (show lx14.toInt + a27.toInt ≤ a27.toInt + lx14.toInt from by omega)), V, q_lw hl (q_lw1 0 rfl (q_lw1 1 rfl (q_lw1 2 rfl (q_lw1 3 rfl (q_lw1 4 rfl (q_lw1 5 rfl q_lw0)))))), ⟨((1026 - a27.toInt).toNat + 1), Nat.lt_succ_self _, (show F_Dig_goesOutwards_L26 x2 x3 t0_0 t0_1 t1_0 a11 lx14 ((1026 - a27.toInt).toNat + 1) a27 lx14 = (F_Dig_goesOutwards x2 x3 t0_0 t0_1 t1_0) from Eq.trans (by rw [← e28, ← e26, F_Dig_goesOutwards_J15.eq_1]) hR20)⟩⟩
    rintro ⟨lx32, lx33⟩ H locs ls _ ⟨i34, i35, i36, V, hl, ⟨fu40, hf41, hR38⟩⟩ ih37
    obtain ⟨fm42, rfl⟩ : ∃ m, fu40 = m + 1 := ⟨fu40 - 1, by omega⟩
    clear i34
    replace i35 : q_F (lx14.toInt ≤ lx33.toInt) := i35
    replace i36 : q_F (lx33.toInt + a27.toInt ≤ lx32.toInt + lx14.toInt) := i36
    replace hl : lv_has ls 6 [(5, .int lx32), (4, .int lx33), (3, .int a11), (0, .ref (q 36)), (1, .int x2), (2, .int x3)] := hl
    refine lv_iload hx hb d_5_7_26 (lv_at hl 0 rfl) ?_
    refine lv_aload_n hx hb d_5_7_28 rfl (lv_at hl 3 rfl) ?_
    refine q_get (ci := 7) (j := 0) (v := .int t0_0) C0 V i_Dig rfl rfl hT0 (by decide) w_264 rfl d_5_7_29 ?_
    refine q_join (X := Unit) (fun z H locs ls _ => q_Wd D g (va_A ws sz) s ws H locs ∧ lv_has ls 6 [(4, .int lx33), (3, .int a11), (0, .ref (q 36)), (1, .int x2), (2, .int x3)] ∧ F_Dig_goesOutwards_J63 (F_Dig_goesOutwards_L26 x2 x3 t0_0 t0_1 t1_0 a11 lx14 fm42) x2 x3 t0_0 t0_1 t1_0 a11 lx14 lx32 lx33 = (F_Dig_goesOutwards x2 x3 t0_0 t0_1 t1_0)) (fun z => []) 63 0 0 ?_ ?_
    ·
      rintro _ H locs ls _ ⟨V, hl, hR46⟩
      replace hl : lv_has ls 6 [(4, .int lx33), (3, .int a11), (0, .ref (q 36)), (1, .int x2), (2, .int x3)] := hl
      refine lv_iload_n hx hb d_5_7_63 rfl (lv_at hl 4 rfl) ?_
      refine lv_iconst (v := 1) hx hb d_5_7_64 (by decide) ?_
      refine lv_icmp_gt (tgt := 88) hx hb d_5_7_65 (by decide) (fun c51 => ?_) (fun c51 => ?_)
      ·
        refine lv_iload_n hx hb d_5_7_88 rfl (lv_at hl 1 rfl) ?_
        refine lv_iconst (v := 5) hx hb d_5_7_89 (by decide) ?_
        refine lv_icmp_ne (tgt := 98) hx hb d_5_7_90 (by decide) (fun c53 => ?_) (fun c53 => ?_)
        ·
          refine lv_iload_n hx hb d_5_7_98 rfl (lv_at hl 1 rfl) ?_
          refine lv_iconst (v := 5) hx hb d_5_7_99 (by decide) ?_
          refine lv_icmp_lt (tgt := 107) hx hb d_5_7_100 (by decide) (fun c55 => ?_) (fun c55 => ?_)
          ·
            refine lv_iconst (v := 0) hx hb d_5_7_107 (by decide) ?_
            exact q_retz C0 V (by decide) (⟨rfl, (show 0 ≤ (0 : Int32).toInt from (by have z5 : (0 : Int32).toInt = 0 := rfl; omega)), (show (0 : Int32).toInt ≤ 1 from (by have z5 : (0 : Int32).toInt = 0 := rfl; omega)), (show (0 : Int32) = (F_Dig_goesOutwards x2 x3 t0_0 t0_1 t1_0) from Eq.trans (by rw [F_Dig_goesOutwards_J63.eq_1, if_pos c51, if_neg c53, if_pos c55]) hR46)⟩) d_5_7_108
          ·
            refine lv_iconst (v := 1) hx hb d_5_7_103 (by decide) ?_
            refine lv_goto (tgt := 108) hx hb d_5_7_104 (by decide) ?_
            exact q_retz C0 V (by decide) (⟨rfl, (show 0 ≤ (1 : Int32).toInt from (by have z5 : (1 : Int32).toInt = 1 := rfl; omega)), (show (1 : Int32).toInt ≤ 1 from (by have z5 : (1 : Int32).toInt = 1 := rfl; omega)), (show (1 : Int32) = (F_Dig_goesOutwards x2 x3 t0_0 t0_1 t1_0) from Eq.trans (by rw [F_Dig_goesOutwards_J63.eq_1, if_pos c51, if_neg c53, if_neg c55]) hR46)⟩) d_5_7_108
        ·
          have b58 : q_F (a11.toInt = 5) := (q_eqI c53)
          refine lv_iload hx hb d_5_7_93 (lv_at hl 0 rfl) ?_
          refine lv_if_eq (tgt := 109) hx hb d_5_7_95 (by decide) (fun c59 => ?_) (fun c59 => ?_)
          ·
            refine lv_iload_n hx hb d_5_7_109 rfl (lv_at hl 4 rfl) ?_
            refine lv_iconst (v := 2) hx hb d_5_7_110 (by decide) ?_
            refine lv_icmp_eq (tgt := 127) hx hb d_5_7_111 (by decide) (fun c61 => ?_) (fun c61 => ?_)
            ·
              refine lv_iconst (v := 1) hx hb d_5_7_127 (by decide) ?_
              refine lv_goto (tgt := 132) hx hb d_5_7_128 (by decide) ?_
              exact q_retz C0 V (by decide) (⟨rfl, (show 0 ≤ (1 : Int32).toInt from (by have z5 : (1 : Int32).toInt = 1 := rfl; omega)), (show (1 : Int32).toInt ≤ 1 from (by have z5 : (1 : Int32).toInt = 1 := rfl; omega)), (show (1 : Int32) = (F_Dig_goesOutwards x2 x3 t0_0 t0_1 t1_0) from Eq.trans (by rw [F_Dig_goesOutwards_J63.eq_1, if_pos c51, if_pos c53, if_pos c59, if_pos c61]) hR46)⟩) d_5_7_132
            ·
              refine lv_aload_n hx hb d_5_7_114 rfl (lv_at hl 2 rfl) ?_
              refine lv_iload_n hx hb d_5_7_115 rfl (lv_at hl 3 rfl) ?_
              refine lv_iconst (v := 1) hx hb d_5_7_116 (by decide) ?_
              refine lv_isub hx hb d_5_7_117 ?_
              obtain ⟨a64, e65⟩ := q_nm (x2 - 1 : Int32)
              refine q_ti (v := a64) e65 ?_
              refine q_goi V (q_runV (As := [.int a64]) (rest := []) (d := 1) (mc := 0) (ms := 0) (ci := 7) C0 V rfl LV_Dig_49 (X_Dig_figure l D g q ws  a64 hI t0_0 t0_1 hT0 t1_0 hT1  _) rfl rfl hT0 rfl hl.1 rfl (Nat.le_of_ble_eq_true rfl) ⟨by decide, by decide⟩ ⟨Nat.le_of_ble_eq_true rfl, Nat.le_of_ble_eq_true rfl⟩ d_5_7_118) (fun a68 u66 H locs hp67 V => ?_)
              obtain ⟨rfl, hE69⟩ := hp67
              have e70 : a68 = (F_Dig_figure a64 t0_0 t0_1 t1_0) := hE69
              refine lv_iconst (v := 1) hx hb d_5_7_121 (by decide) ?_
              refine lv_iand hx hb d_5_7_122 ?_
              obtain ⟨a71, e72⟩ := q_nm (a68 &&& 1 : Int32)
              refine q_ti (v := a71) e72 ?_
              refine lv_iconst (v := 1) hx hb d_5_7_123 (by decide) ?_
              refine lv_icmp_ne (tgt := 131) hx hb d_5_7_124 (by decide) (fun c74 => ?_) (fun c74 => ?_)
              ·
                refine lv_iconst (v := 0) hx hb d_5_7_131 (by decide) ?_
                exact q_retz C0 V (by decide) (⟨rfl, (show 0 ≤ (0 : Int32).toInt from (by have z5 : (0 : Int32).toInt = 0 := rfl; omega)), (show (0 : Int32).toInt ≤ 1 from (by have z5 : (0 : Int32).toInt = 0 := rfl; omega)), (show (0 : Int32) = (F_Dig_goesOutwards x2 x3 t0_0 t0_1 t1_0) from Eq.trans (by have c74x := c74; rw [← e72, e70, ← e65] at c74x; rw [F_Dig_goesOutwards_J63.eq_1, if_pos c51, if_pos c53, if_pos c59, if_neg c61, if_neg c74x]) hR46)⟩) d_5_7_132
              ·
                refine lv_iconst (v := 1) hx hb d_5_7_127 (by decide) ?_
                refine lv_goto (tgt := 132) hx hb d_5_7_128 (by decide) ?_
                exact q_retz C0 V (by decide) (⟨rfl, (show 0 ≤ (1 : Int32).toInt from (by have z5 : (1 : Int32).toInt = 1 := rfl; omega)), (show (1 : Int32).toInt ≤ 1 from (by have z5 : (1 : Int32).toInt = 1 := rfl; omega)), (show (1 : Int32) = (F_Dig_goesOutwards x2 x3 t0_0 t0_1 t1_0) from Eq.trans (by have c74x := c74; rw [← e72, e70, ← e65] at c74x; rw [F_Dig_goesOutwards_J63.eq_1, if_pos c51, if_pos c53, if_pos c59, if_neg c61, if_pos c74x]) hR46)⟩) d_5_7_132
          ·
            refine lv_iload_n hx hb d_5_7_98 rfl (lv_at hl 1 rfl) ?_
            refine lv_iconst (v := 5) hx hb d_5_7_99 (by decide) ?_
            refine lv_icmp_lt (tgt := 107) hx hb d_5_7_100 (by decide) (fun c78 => absurd (show a11.toInt < 5 from q_ltI c78) (by first | with_reducible exact q_fe b58 | (have t1 : a11.toInt = 5 := b58; omega))) (fun c78 => ?_)
            refine lv_iconst (v := 1) hx hb d_5_7_103 (by decide) ?_
            refine lv_goto (tgt := 108) hx hb d_5_7_104 (by decide) ?_
            exact q_retz C0 V (by decide) (⟨rfl, (show 0 ≤ (1 : Int32).toInt from (by have z5 : (1 : Int32).toInt = 1 := rfl; omega)), (show (1 : Int32).toInt ≤ 1 from (by have z5 : (1 : Int32).toInt = 1 := rfl; omega)), (show (1 : Int32) = (F_Dig_goesOutwards x2 x3 t0_0 t0_1 t1_0) from Eq.trans (by rw [F_Dig_goesOutwards_J63.eq_1, if_pos c51, if_pos c53, if_neg c59]) hR46)⟩) d_5_7_108
      ·
        refine lv_iload_n hx hb d_5_7_68 rfl (lv_at hl 4 rfl) ?_
        refine lv_iconst (v := 1) hx hb d_5_7_69 (by decide) ?_
        refine lv_icmp_ne (tgt := 86) hx hb d_5_7_70 (by decide) (fun c80 => ?_) (fun c80 => ?_)
        ·
          refine lv_iconst (v := 0) hx hb d_5_7_86 (by decide) ?_
          exact q_retz C0 V (by decide) (⟨rfl, (show 0 ≤ (0 : Int32).toInt from (by have z5 : (0 : Int32).toInt = 0 := rfl; omega)), (show (0 : Int32).toInt ≤ 1 from (by have z5 : (0 : Int32).toInt = 0 := rfl; omega)), (show (0 : Int32) = (F_Dig_goesOutwards x2 x3 t0_0 t0_1 t1_0) from Eq.trans (by rw [F_Dig_goesOutwards_J63.eq_1, if_neg c51, if_neg c80]) hR46)⟩) d_5_7_87
        ·
          refine lv_iload_n hx hb d_5_7_73 rfl (lv_at hl 1 rfl) ?_
          refine lv_if_ne (tgt := 82) hx hb d_5_7_74 (by decide) (fun c83 => ?_) (fun c83 => ?_)
          ·
            refine lv_iconst (v := 1) hx hb d_5_7_82 (by decide) ?_
            refine lv_goto (tgt := 87) hx hb d_5_7_83 (by decide) ?_
            exact q_retz C0 V (by decide) (⟨rfl, (show 0 ≤ (1 : Int32).toInt from (by have z5 : (1 : Int32).toInt = 1 := rfl; omega)), (show (1 : Int32).toInt ≤ 1 from (by have z5 : (1 : Int32).toInt = 1 := rfl; omega)), (show (1 : Int32) = (F_Dig_goesOutwards x2 x3 t0_0 t0_1 t1_0) from Eq.trans (by rw [F_Dig_goesOutwards_J63.eq_1, if_neg c51, if_pos c80, if_neg c83]) hR46)⟩) d_5_7_87
          ·
            refine lv_iload hx hb d_5_7_77 (lv_at hl 0 rfl) ?_
            refine lv_if_eq (tgt := 86) hx hb d_5_7_79 (by decide) (fun c86 => ?_) (fun c86 => ?_)
            ·
              refine lv_iconst (v := 0) hx hb d_5_7_86 (by decide) ?_
              exact q_retz C0 V (by decide) (⟨rfl, (show 0 ≤ (0 : Int32).toInt from (by have z5 : (0 : Int32).toInt = 0 := rfl; omega)), (show (0 : Int32).toInt ≤ 1 from (by have z5 : (0 : Int32).toInt = 0 := rfl; omega)), (show (0 : Int32) = (F_Dig_goesOutwards x2 x3 t0_0 t0_1 t1_0) from Eq.trans (by rw [F_Dig_goesOutwards_J63.eq_1, if_neg c51, if_pos c80, if_pos c83, if_pos c86]) hR46)⟩) d_5_7_87
            ·
              refine lv_iconst (v := 1) hx hb d_5_7_82 (by decide) ?_
              refine lv_goto (tgt := 87) hx hb d_5_7_83 (by decide) ?_
              exact q_retz C0 V (by decide) (⟨rfl, (show 0 ≤ (1 : Int32).toInt from (by have z5 : (1 : Int32).toInt = 1 := rfl; omega)), (show (1 : Int32).toInt ≤ 1 from (by have z5 : (1 : Int32).toInt = 1 := rfl; omega)), (show (1 : Int32) = (F_Dig_goesOutwards x2 x3 t0_0 t0_1 t1_0) from Eq.trans (by rw [F_Dig_goesOutwards_J63.eq_1, if_neg c51, if_pos c80, if_pos c83, if_neg c86]) hR46)⟩) d_5_7_87
    ·
      intro J45
      refine lv_icmp_ge (tgt := 63) hx hb d_5_7_32 (by decide) (fun c89 => ?_) (fun c89 => ?_)
      ·
        exact J45 (()) _ _ _ ws ⟨V, q_lw hl (q_lw1 1 rfl (q_lw1 2 rfl (q_lw1 3 rfl (q_lw1 4 rfl (q_lw1 5 rfl q_lw0))))), (show F_Dig_goesOutwards_J63 (F_Dig_goesOutwards_L26 x2 x3 t0_0 t0_1 t1_0 a11 lx14 fm42) x2 x3 t0_0 t0_1 t1_0 a11 lx14 lx32 lx33 = (F_Dig_goesOutwards x2 x3 t0_0 t0_1 t1_0) from Eq.trans (by rw [F_Dig_goesOutwards_L26.eq_2, if_pos c89]) hR38)⟩
      ·
        have b91 : q_F (lx32.toInt < t0_0.toInt) := (q_nleI c89)
        refine lv_iload hx hb d_5_7_35 (lv_at hl 1 rfl) ?_
        refine lv_if_ne (tgt := 63) hx hb d_5_7_37 (by decide) (fun c92 => ?_) (fun c92 => ?_)
        ·
          exact J45 (()) _ _ _ ws ⟨V, q_lw hl (q_lw1 1 rfl (q_lw1 2 rfl (q_lw1 3 rfl (q_lw1 4 rfl (q_lw1 5 rfl q_lw0))))), (show F_Dig_goesOutwards_J63 (F_Dig_goesOutwards_L26 x2 x3 t0_0 t0_1 t1_0 a11 lx14 fm42) x2 x3 t0_0 t0_1 t1_0 a11 lx14 lx32 lx33 = (F_Dig_goesOutwards x2 x3 t0_0 t0_1 t1_0) from Eq.trans (by rw [F_Dig_goesOutwards_L26.eq_2, if_neg c89, if_neg c92]) hR38)⟩
        ·
          have b94 : q_F (lx33.toInt = 0) := (q_eqI c92)
          refine lv_aload_n hx hb d_5_7_40 rfl (lv_at hl 3 rfl) ?_
          refine q_get (ci := 7) (j := 2) (v := .ref (q 37)) C0 V i_Dig rfl rfl hT0 (by decide) w_269 rfl d_5_7_41 ?_
          refine lv_iload hx hb d_5_7_44 (lv_at hl 0 rfl) ?_
          refine q_bald C0 V hT1 (q_ix (x := lx32.toInt) rfl (by have t1 : a25.toInt ≤ a27.toInt ∧ 0 ≤ a27.toInt ∧ (a27.toInt = a25.toInt ∨ a27.toInt = 0) := b29; have t2 : lx14.toInt ≤ lx33.toInt := i35; have t3 : lx33.toInt + a27.toInt ≤ lx32.toInt + lx14.toInt := i36; omega) (by have t1 : a25.toInt ≤ a27.toInt ∧ 0 ≤ a27.toInt ∧ (a27.toInt = a25.toInt ∨ a27.toInt = 0) := b29; have t2 : lx14.toInt ≤ lx33.toInt := i35; have t3 : lx33.toInt + a27.toInt ≤ lx32.toInt + lx14.toInt := i36; have t4 : 0 ≤ t0_0.toInt ∧ t0_0.toInt ≤ 1026 := btt0_0; have t5 : lx32.toInt < t0_0.toInt := b91; omega)) d_5_7_46 ?_
          obtain ⟨a95, e96⟩ := q_nm (t1_0 lx32.toNatClampNeg : Int32)
          refine q_ti (v := a95) e96 ?_
          refine lv_if_eq (tgt := 54) hx hb d_5_7_47 (by decide) (fun c97 => ?_) (fun c97 => ?_)
          ·
            refine lv_iconst (v := 0) hx hb d_5_7_54 (by decide) ?_
            refine lv_istore (lv' := [(4, .int 0), (5, .int lx32), (3, .int a11), (0, .ref (q 36)), (1, .int x2), (2, .int x3)]) hx hb d_5_7_55 hl (by decide) rfl (fun ls hl => ?_)
            obtain ⟨a99, e100⟩ := q_nm (lx32 + 1 : Int32)
            have b101 : q_F (a99.toInt = lx32.toInt + 1) := (by rw [← e100]; exact q_addI (y := 1) rfl (by decide) (by have _ := q_lo32 (x := lx32); have _ := q_hi32 (x := lx32); have t1 : lx32.toInt < t0_0.toInt := b91; have _ := q_lo32 (x := t0_0); have _ := q_hi32 (x := t0_0); omega) (by have _ := q_lo32 (x := lx32); have _ := q_hi32 (x := lx32); have t1 : lx32.toInt < t0_0.toInt := b91; have _ := q_lo32 (x := t0_0); have _ := q_hi32 (x := t0_0); omega))
            refine lv_iinc (v := a99) (lv' := [(5, .int a99), (4, .int 0), (3, .int a11), (0, .ref (q 36)), (1, .int x2), (2, .int x3)]) hx hb d_5_7_57 hl (k := 1) rfl (e100) (by decide) rfl (fun ls hl => ?_)
            refine lv_goto (tgt := 26) hx hb d_5_7_60 (by decide) ?_
            exact ih37 ((a99 : Int32), (0 : Int32)) _ _ _ ws (show (1026 - a99.toInt).toNat < (1026 - lx32.toInt).toNat from by have t1 : a99.toInt = lx32.toInt + 1 := b101; have t2 : 0 ≤ t0_0.toInt ∧ t0_0.toInt ≤ 1026 := btt0_0; have t3 : lx32.toInt < t0_0.toInt := b91; omega) ⟨(show q_F (0 ≤ 1) from (show 0 ≤ 1 from by omega)), (show q_F (lx14.toInt ≤ 0) from (show lx14.toInt ≤ 0 from by have t1 : lx14.toInt ≤ lx33.toInt := i35; have t2 : lx33.toInt = 0 := b94; omega)), (show q_F (0 + a27.toInt ≤ a99.toInt + lx14.toInt) from (show 0 + a27.toInt ≤ a99.toInt + lx14.toInt from by have t1 : 0 ≤ lx14.toInt := i18; have t2 : lx14.toInt ≤ lx33.toInt := i35; have t3 : lx33.toInt + a27.toInt ≤ lx32.toInt + lx14.toInt := i36; have t4 : a99.toInt = lx32.toInt + 1 := b101; omega)), V, q_lw hl (q_lw1 0 rfl (q_lw1 1 rfl (q_lw1 2 rfl (q_lw1 3 rfl (q_lw1 4 rfl (q_lw1 5 rfl q_lw0)))))), ⟨fm42, Nat.lt_of_lt_of_le (show (1026 - a99.toInt).toNat < (1026 - lx32.toInt).toNat from by have t1 : a99.toInt = lx32.toInt + 1 := b101; have t2 : 0 ≤ t0_0.toInt ∧ t0_0.toInt ≤ 1026 := btt0_0; have t3 : lx32.toInt < t0_0.toInt := b91; omega) (Nat.le_of_lt_succ hf41), (show F_Dig_goesOutwards_L26 x2 x3 t0_0 t0_1 t1_0 a11 lx14 fm42 a99 0 = (F_Dig_goesOutwards x2 x3 t0_0 t0_1 t1_0) from Eq.trans (by have c97x := c97; rw [← e96] at c97x; rw [← e100, F_Dig_goesOutwards_L26.eq_2, if_neg c89, if_pos c92, if_pos c97x]) hR38)⟩⟩
          ·
            refine lv_iconst (v := 1) hx hb d_5_7_50 (by decide) ?_
            refine lv_goto (tgt := 55) hx hb d_5_7_51 (by decide) ?_
            refine lv_istore (lv' := [(4, .int 1), (5, .int lx32), (3, .int a11), (0, .ref (q 36)), (1, .int x2), (2, .int x3)]) hx hb d_5_7_55 hl (by decide) rfl (fun ls hl => ?_)
            obtain ⟨a103, e104⟩ := q_nm (lx32 + 1 : Int32)
            have b105 : q_F (a103.toInt = lx32.toInt + 1) := (by rw [← e104]; exact q_addI (y := 1) rfl (by decide) (by have _ := q_lo32 (x := lx32); have _ := q_hi32 (x := lx32); have t1 : lx32.toInt < t0_0.toInt := b91; have _ := q_lo32 (x := t0_0); have _ := q_hi32 (x := t0_0); omega) (by have _ := q_lo32 (x := lx32); have _ := q_hi32 (x := lx32); have t1 : lx32.toInt < t0_0.toInt := b91; have _ := q_lo32 (x := t0_0); have _ := q_hi32 (x := t0_0); omega))
            refine lv_iinc (v := a103) (lv' := [(5, .int a103), (4, .int 1), (3, .int a11), (0, .ref (q 36)), (1, .int x2), (2, .int x3)]) hx hb d_5_7_57 hl (k := 1) rfl (e104) (by decide) rfl (fun ls hl => ?_)
            refine lv_goto (tgt := 26) hx hb d_5_7_60 (by decide) ?_
            exact ih37 ((a103 : Int32), (1 : Int32)) _ _ _ ws (show (1026 - a103.toInt).toNat < (1026 - lx32.toInt).toNat from by have t1 : a103.toInt = lx32.toInt + 1 := b105; have t2 : 0 ≤ t0_0.toInt ∧ t0_0.toInt ≤ 1026 := btt0_0; have t3 : lx32.toInt < t0_0.toInt := b91; omega) ⟨(show q_F (1 ≤ 1) from (show 1 ≤ 1 from by omega)), (show q_F (lx14.toInt ≤ 1) from (show lx14.toInt ≤ 1 from by have t1 : lx14.toInt ≤ 1 := i19; omega)), (show q_F (1 + a27.toInt ≤ a103.toInt + lx14.toInt) from (show 1 + a27.toInt ≤ a103.toInt + lx14.toInt from by have t1 : 0 ≤ lx14.toInt := i18; have t2 : lx14.toInt ≤ lx33.toInt := i35; have t3 : lx33.toInt + a27.toInt ≤ lx32.toInt + lx14.toInt := i36; have t4 : a103.toInt = lx32.toInt + 1 := b105; omega)), V, q_lw hl (q_lw1 0 rfl (q_lw1 1 rfl (q_lw1 2 rfl (q_lw1 3 rfl (q_lw1 4 rfl (q_lw1 5 rfl q_lw0)))))), ⟨fm42, Nat.lt_of_lt_of_le (show (1026 - a103.toInt).toNat < (1026 - lx32.toInt).toNat from by have t1 : a103.toInt = lx32.toInt + 1 := b105; have t2 : 0 ≤ t0_0.toInt ∧ t0_0.toInt ≤ 1026 := btt0_0; have t3 : lx32.toInt < t0_0.toInt := b91; omega) (Nat.le_of_lt_succ hf41), (show F_Dig_goesOutwards_L26 x2 x3 t0_0 t0_1 t1_0 a11 lx14 fm42 a103 1 = (F_Dig_goesOutwards x2 x3 t0_0 t0_1 t1_0) from Eq.trans (by have c97x := c97; rw [← e96] at c97x; rw [← e104, F_Dig_goesOutwards_L26.eq_2, if_neg c89, if_pos c92, if_neg c97x]) hR38)⟩⟩
  ·
    intro J17
    refine lv_if_ge (tgt := 14) hx hb d_5_7_7 (by decide) (fun c106 => ?_) (fun c106 => ?_)
    ·
      refine lv_iconst (v := 0) hx hb d_5_7_14 (by decide) ?_
      exact J17 ((0 : Int32)) _ _ _ ws ⟨(show q_F (0 ≤ 0) from (show 0 ≤ 0 from by omega)), (show q_F (0 ≤ 1) from (show 0 ≤ 1 from by omega)), V, q_lw hl (q_lw1 0 rfl (q_lw1 1 rfl (q_lw1 2 rfl (q_lw1 3 rfl q_lw0)))), (show F_Dig_goesOutwards_J15 x2 x3 t0_0 t0_1 t1_0 a11 0 = (F_Dig_goesOutwards x2 x3 t0_0 t0_1 t1_0) from (by rw [e13, F_Dig_goesOutwards.eq_1, if_pos c106]))⟩
    ·
      refine lv_iconst (v := 1) hx hb d_5_7_10 (by decide) ?_
      refine lv_goto (tgt := 15) hx hb d_5_7_11 (by decide) ?_
      exact J17 ((1 : Int32)) _ _ _ ws ⟨(show q_F (0 ≤ 1) from (show 0 ≤ 1 from by omega)), (show q_F (1 ≤ 1) from (show 1 ≤ 1 from by omega)), V, q_lw hl (q_lw1 0 rfl (q_lw1 1 rfl (q_lw1 2 rfl (q_lw1 3 rfl q_lw0)))), (show F_Dig_goesOutwards_J15 x2 x3 t0_0 t0_1 t1_0 a11 1 = (F_Dig_goesOutwards x2 x3 t0_0 t0_1 t1_0) from (by rw [e13, F_Dig_goesOutwards.eq_1, if_neg c106]))⟩
def F_Dig_stepOutwards_J28 (K_F_Dig_stepOutwards_L7 : Int32 → (Int32 × Int32 × (Nat → Int32))) (x2 : Int32) (t0_0 : Int32) (t0_1 : Int32) (t1_0 : (Nat → Int32)) (lx13 : Int32) : Int32 × Int32 × (Nat → Int32) := if lx13 < (0 : Int32) then (if x2 ≤ (0 : Int32) then (((1 : Int32), (t0_1 + (1 - x2 : Int32) : Int32), (upd t1_0 (0 : Int32).toNatClampNeg (vp_nar .byte 1) : (Nat → Int32)))) else (((1 : Int32), (t0_1 + 1 : Int32), (upd t1_0 (0 : Int32).toNatClampNeg (vp_nar .byte 1) : (Nat → Int32))))) else (((lx13 + 1 : Int32), t0_1, (upd t1_0 lx13.toNatClampNeg (vp_nar .byte (((t1_0 lx13.toNatClampNeg : Int32) + 1 : Int32).toInt8.toInt32 : Int32)) : (Nat → Int32))))
def F_Dig_stepOutwards_L7 (x2 : Int32) (t0_0 : Int32) (t0_1 : Int32) (t1_0 : (Nat → Int32)) : Nat → Int32 → (Int32 × Int32 × (Nat → Int32))
  | 0, _ => default
  | fm + 1, lx13 => if lx13 < (0 : Int32) then (F_Dig_stepOutwards_J28 (F_Dig_stepOutwards_L7 x2 t0_0 t0_1 t1_0 fm) x2 t0_0 t0_1 t1_0 lx13) else (if (t1_0 lx13.toNatClampNeg : Int32) = (9 : Int32) then (F_Dig_stepOutwards_L7 x2 t0_0 t0_1 t1_0 fm (lx13 + (-1) : Int32)) else (F_Dig_stepOutwards_J28 (F_Dig_stepOutwards_L7 x2 t0_0 t0_1 t1_0 fm) x2 t0_0 t0_1 t1_0 lx13))
def F_Dig_stepOutwards (x2 : Int32) (t0_0 : Int32) (t0_1 : Int32) (t1_0 : (Nat → Int32)) : Int32 × Int32 × (Nat → Int32) := F_Dig_stepOutwards_L7 x2 t0_0 t0_1 t1_0 (((t0_0 - 1 : Int32).toInt - ((-1000000))).toNat + 1) (t0_0 - 1 : Int32)
set_option maxRecDepth 100000 in
set_option maxHeartbeats 4000000 in
theorem X_Dig_stepOutwards (l : Launch) (D : va_G) (g : Nat → ClassId) (q : Nat → Nat) (ws : va_W) (x2 : Int32) (hI : q_I (nsh g q) q ws) (t0_0 : Int32) (t0_1 : Int32) (hT0 : ws[36]? = (some (q 36, .inr (7, [.int t0_0, .int t0_1, .ref (q 37)])) : Option (Nat × va_E))) (t1_0 : (Nat → Int32)) (hT1 : ws[37]? = (some (q 37, .inl (g 2, 1026, .inl t1_0)) : Option (Nat × va_E))) (pre0 : 0 ≤ x2.toInt + 100000) (pre1 : x2.toInt ≤ 100000) (pre2 : 0 ≤ t0_1.toInt + 200000) (pre3 : t0_1.toInt ≤ 200000) : q_mV l y_Dig_stepOutwards prog_5_method_8_code 3 1 0 0 D g [.ref (q 36), .int x2] ws (fun u => q_I (nsh g q) q u ∧ q_un ws u [36, 37] ∧ ∃ (u0_0 : Int32) (u0_1 : Int32) (u1_0 : (Nat → Int32)), u[36]? = (some (q 36, .inr (7, [.int u0_0, .int u0_1, .ref (q 37)])) : Option (Nat × va_E)) ∧ u[37]? = (some (q 37, .inl (g 2, 1026, .inl u1_0)) : Option (Nat × va_E)) ∧ (1 ≤ u0_0.toInt) ∧ (u0_0.toInt ≤ 1026) ∧ (u0_0.toInt ≤ t0_0.toInt + 1) ∧ (t0_1.toInt ≤ u0_1.toInt) ∧ (u0_1.toInt ≤ t0_1.toInt + 100001) ∧ (u0_0, u0_1, u1_0) = (F_Dig_stepOutwards x2 t0_0 t0_1 t1_0)) := by
  intro sz
  refine q_into (by decide) (Nat.le_of_ble_eq_true rfl) ?_
  intro p e s m below meth c ls hsz C0 V hl
  have hx := C0.1
  have hb := C0.2.1
  obtain ⟨btt0_0, btt0_1⟩ := n_w36 hI hT0
  replace btt0_0 : q_F (0 ≤ t0_0.toInt ∧ t0_0.toInt ≤ 1026) := btt0_0
  replace btt0_1 : q_F (-1000000 ≤ t0_1.toInt ∧ t0_1.toInt ≤ 1000000) := btt0_1
  replace pre0 : q_F (0 ≤ x2.toInt + 100000) := pre0
  replace pre1 : q_F (x2.toInt ≤ 100000) := pre1
  replace pre2 : q_F (0 ≤ t0_1.toInt + 200000) := pre2
  replace pre3 : q_F (t0_1.toInt ≤ 200000) := pre3
  have hF : q_un ws ws [36, 37] := q_u0
  have hl : lv_has ls 3 [(0, .ref (q 36)), (1, .int x2)] := hl
  refine lv_aload_n hx hb d_5_8_0 rfl (lv_at hl 0 rfl) ?_
  refine q_get (ci := 7) (j := 0) (v := .int t0_0) C0 V i_Dig rfl rfl hT0 (by decide) w_264 rfl d_5_8_1 ?_
  refine lv_iconst (v := 1) hx hb d_5_8_4 (by decide) ?_
  refine lv_isub hx hb d_5_8_5 ?_
  obtain ⟨a9, e10⟩ := q_nm (t0_0 - 1 : Int32)
  refine q_ti (v := a9) e10 ?_
  have b11 : q_F (a9.toInt = t0_0.toInt - 1) := (by rw [← e10]; show (t0_0 - 1 : Int32).toInt = t0_0.toInt - 1; exact q_subI (x := t0_0.toInt) (y := 1) rfl (by decide) (by first | with_reducible exact (q_fe btt0_0).2 | with_reducible exact (q_fe btt0_0).1 | (have t1 : 0 ≤ t0_0.toInt ∧ t0_0.toInt ≤ 1026 := btt0_0; omega)) (by first | with_reducible exact (q_fe btt0_0).2 | with_reducible exact (q_fe btt0_0).1 | (have t1 : 0 ≤ t0_0.toInt ∧ t0_0.toInt ≤ 1026 := btt0_0; omega)))
  refine lv_istore_n (lv' := [(2, .int a9), (0, .ref (q 36)), (1, .int x2)]) hx hb d_5_8_6 rfl hl (by decide) rfl (fun ls hl => ?_)
  refine q_loop (X := Int32) (fun z H locs ls _ => q_F (0 ≤ z.toInt + 1) ∧ q_F (z.toInt + 1 ≤ t0_0.toInt) ∧ q_Wd D g (va_A ws sz) s ws H locs ∧ lv_has ls 3 [(2, .int z), (0, .ref (q 36)), (1, .int x2)] ∧ (∃ n, (z.toInt - ((-1000000))).toNat < n ∧ F_Dig_stepOutwards_L7 x2 t0_0 t0_1 t1_0 n z = (F_Dig_stepOutwards x2 t0_0 t0_1 t1_0))) (fun z => (z.toInt - ((-1000000))).toNat) ?_ ((a9 : Int32)) _ _ _ ws ⟨(show q_F (0 ≤ a9.toInt + 1) from (show 0 ≤ a9.toInt + 1 from by have t1 : 0 ≤ t0_0.toInt ∧ t0_0.toInt ≤ 1026 := btt0_0; have t2 : a9.toInt = t0_0.toInt - 1 := b11; omega)), (show q_F (a9.toInt + 1 ≤ t0_0.toInt) from (show a9.toInt + 1 ≤ t0_0.toInt from by have t1 : a9.toInt = t0_0.toInt - 1 := b11; omega)), V, q_lw hl (q_lw1 0 rfl (q_lw1 1 rfl (q_lw1 2 rfl q_lw0))), ⟨((a9.toInt - ((-1000000))).toNat + 1), Nat.lt_succ_self _, (show F_Dig_stepOutwards_L7 x2 t0_0 t0_1 t1_0 ((a9.toInt - ((-1000000))).toNat + 1) a9 = (F_Dig_stepOutwards x2 t0_0 t0_1 t1_0) from (by rw [← e10, F_Dig_stepOutwards.eq_1]))⟩⟩
  rintro lx13 H locs ls _ ⟨i14, i15, V, hl, ⟨fu19, hf20, hR17⟩⟩ ih16
  obtain ⟨fm21, rfl⟩ : ∃ m, fu19 = m + 1 := ⟨fu19 - 1, by omega⟩
  replace i14 : q_F (0 ≤ lx13.toInt + 1) := i14
  replace i15 : q_F (lx13.toInt + 1 ≤ t0_0.toInt) := i15
  replace hl : lv_has ls 3 [(2, .int lx13), (0, .ref (q 36)), (1, .int x2)] := hl
  refine lv_iload_n hx hb d_5_8_7 rfl (lv_at hl 0 rfl) ?_
  refine q_join (X := Unit) (fun z H locs ls _ => q_Wd D g (va_A ws sz) s ws H locs ∧ lv_has ls 3 [(2, .int lx13), (0, .ref (q 36)), (1, .int x2)] ∧ F_Dig_stepOutwards_J28 (F_Dig_stepOutwards_L7 x2 t0_0 t0_1 t1_0 fm21) x2 t0_0 t0_1 t1_0 lx13 = (F_Dig_stepOutwards x2 t0_0 t0_1 t1_0)) (fun z => []) 28 0 0 ?_ ?_
  ·
    rintro _ H locs ls _ ⟨V, hl, hR25⟩
    replace hl : lv_has ls 3 [(2, .int lx13), (0, .ref (q 36)), (1, .int x2)] := hl
    refine lv_iload_n hx hb d_5_8_28 rfl (lv_at hl 0 rfl) ?_
    refine lv_if_lt (tgt := 51) hx hb d_5_8_29 (by decide) (fun c30 => ?_) (fun c30 => ?_)
    ·
      refine lv_aload_n hx hb d_5_8_51 rfl (lv_at hl 1 rfl) ?_
      refine lv_dup hx hb d_5_8_52 rfl ?_
      refine q_get (ci := 7) (j := 1) (v := .int t0_1) C0 V i_Dig rfl rfl hT0 (by decide) w_266 rfl d_5_8_53 ?_
      refine lv_iload_n hx hb d_5_8_56 rfl (lv_at hl 2 rfl) ?_
      refine lv_if_le (tgt := 64) hx hb d_5_8_57 (by decide) (fun c32 => ?_) (fun c32 => ?_)
      ·
        have b33 : q_F (x2.toInt ≤ 0) := (q_leI c32)
        refine lv_iconst (v := 1) hx hb d_5_8_64 (by decide) ?_
        refine lv_iload_n hx hb d_5_8_65 rfl (lv_at hl 2 rfl) ?_
        refine lv_isub hx hb d_5_8_66 ?_
        obtain ⟨a34, e35⟩ := q_nm (1 - x2 : Int32)
        refine q_ti (v := a34) e35 ?_
        have b36 : q_F (a34.toInt = 1 - x2.toInt) := (by rw [← e35]; show (1 - x2 : Int32).toInt = 1 - x2.toInt; exact q_subI (x := 1) (y := x2.toInt) (by decide) rfl (by have t1 : x2.toInt ≤ 100000 := pre1; have t2 : 0 ≤ x2.toInt + 100000 := pre0; omega) (by have t1 : x2.toInt ≤ 100000 := pre1; have t2 : 0 ≤ x2.toInt + 100000 := pre0; omega))
        refine lv_iadd hx hb d_5_8_67 ?_
        obtain ⟨a37, e38⟩ := q_nm (t0_1 + a34 : Int32)
        refine q_ti (v := a37) e38 ?_
        have b39 : q_F (a37.toInt = t0_1.toInt + a34.toInt) := (by rw [← e38]; show (t0_1 + a34 : Int32).toInt = t0_1.toInt + a34.toInt; exact q_addI (x := t0_1.toInt) (y := a34.toInt) rfl rfl (by have t1 : -1000000 ≤ t0_1.toInt ∧ t0_1.toInt ≤ 1000000 := btt0_1; have t2 : x2.toInt ≤ 100000 := pre1; have t3 : a34.toInt = 1 - x2.toInt := b36; have t4 : 0 ≤ x2.toInt + 100000 := pre0; omega) (by have t1 : -1000000 ≤ t0_1.toInt ∧ t0_1.toInt ≤ 1000000 := btt0_1; have t2 : x2.toInt ≤ 100000 := pre1; have t3 : a34.toInt = 1 - x2.toInt := b36; have t4 : 0 ≤ x2.toInt + 100000 := pre0; omega))
        refine q_put (ci := 7) (j := 1) (v := .int a37) (ty := .int) C0 V i_Dig o_Dig n_Dig rfl rfl hT0 (by decide) w_266 rfl rfl rfl rfl (Nat.le_of_ble_eq_true rfl) d_5_8_68 (fun H locs w40 hu41 hT0 V => ?_)
        replace hT0 : w40[36]? = (some (q 36, .inr (7, [.int t0_0, .int a37, .ref (q 37)])) : Option (Nat × va_E)) := hT0
        replace hI := n_p36 hI hu41 hT0 (by first | with_reducible exact q_fe btt0_0 | exact ⟨(by have t1 : 0 ≤ t0_0.toInt ∧ t0_0.toInt ≤ 1026 := btt0_0; omega), (by have t1 : 0 ≤ t0_0.toInt ∧ t0_0.toInt ≤ 1026 := btt0_0; omega)⟩) ⟨(by have t1 : x2.toInt ≤ 100000 := pre1; have t2 : 0 ≤ t0_1.toInt + 200000 := pre2; have t3 : a34.toInt = 1 - x2.toInt := b36; have t4 : a37.toInt = t0_1.toInt + a34.toInt := b39; omega), (by have t1 : 0 ≤ x2.toInt + 100000 := pre0; have t2 : t0_1.toInt ≤ 200000 := pre3; have t3 : a34.toInt = 1 - x2.toInt := b36; have t4 : a37.toInt = t0_1.toInt + a34.toInt := b39; omega)⟩
        replace hT1 := (hu41 _ (by decide)).trans hT1
        replace hF := q_us hF hu41 (by simp)
        refine lv_aload_n hx hb d_5_8_71 rfl (lv_at hl 1 rfl) ?_
        refine q_get (ci := 7) (j := 2) (v := .ref (q 37)) C0 V i_Dig rfl rfl hT0 (by decide) w_269 rfl d_5_8_72 ?_
        refine lv_iconst (v := 0) hx hb d_5_8_75 (by decide) ?_
        refine lv_iconst (v := 1) hx hb d_5_8_76 (by decide) ?_
        refine q_bast C0 V hT1 (q_ix (x := 0) (by decide) (by omega) (by omega)) d_5_8_77 (fun H locs w42 hu43 hT1 V => ?_)
        replace hI := n_ai' hI (n_s37 g q) hu43 hT1 (q_updB (fun _ => s_bnd) s_bnd)
        replace hT0 := (hu43 _ (by decide)).trans hT0
        replace hF := q_us hF hu43 (by simp)
        obtain ⟨f44, e45⟩ := q_nm (upd t1_0 (0 : Int32).toNatClampNeg (vp_nar .byte 1) : (Nat → Int32))
        rw [e45] at hT1
        refine lv_aload_n hx hb d_5_8_78 rfl (lv_at hl 1 rfl) ?_
        refine lv_iconst (v := 1) hx hb d_5_8_79 (by decide) ?_
        refine q_put (ci := 7) (j := 0) (v := .int 1) (ty := .int) C0 V i_Dig o_Dig n_Dig rfl rfl hT0 (by decide) w_264 rfl rfl rfl rfl (Nat.le_of_ble_eq_true rfl) d_5_8_80 (fun H locs w46 hu47 hT0 V => ?_)
        replace hT0 : w46[36]? = (some (q 36, .inr (7, [.int 1, .int a37, .ref (q 37)])) : Option (Nat × va_E)) := hT0
        replace hI := n_p36 hI hu47 hT0 ⟨(by have z9 : (1 : Int32).toInt = 1 := rfl; omega), (by have z9 : (1 : Int32).toInt = 1 := rfl; omega)⟩ ⟨(by have t1 : x2.toInt ≤ 100000 := pre1; have t2 : 0 ≤ t0_1.toInt + 200000 := pre2; have t3 : a34.toInt = 1 - x2.toInt := b36; have t4 : a37.toInt = t0_1.toInt + a34.toInt := b39; omega), (by have t1 : 0 ≤ x2.toInt + 100000 := pre0; have t2 : t0_1.toInt ≤ 200000 := pre3; have t3 : a34.toInt = 1 - x2.toInt := b36; have t4 : a37.toInt = t0_1.toInt + a34.toInt := b39; omega)⟩
        replace hT1 := (hu47 _ (by decide)).trans hT1
        replace hF := q_us hF hu47 (by simp)
        exact q_retv C0 V (⟨hI, hF, 1, a37, f44, hT0, hT1, (show 1 ≤ (1 : Int32).toInt from (by have z4 : (1 : Int32).toInt = 1 := rfl; omega)), (show (1 : Int32).toInt ≤ 1026 from (by have z4 : (1 : Int32).toInt = 1 := rfl; omega)), (show (1 : Int32).toInt ≤ t0_0.toInt + 1 from (by have z4 : (1 : Int32).toInt = 1 := rfl; have t1 : 0 ≤ t0_0.toInt ∧ t0_0.toInt ≤ 1026 := btt0_0; omega)), (show t0_1.toInt ≤ a37.toInt from (by have z4 : (1 : Int32).toInt = 1 := rfl; have t1 : x2.toInt ≤ 0 := b33; have t2 : a34.toInt = 1 - x2.toInt := b36; have t3 : a37.toInt = t0_1.toInt + a34.toInt := b39; omega)), (show a37.toInt ≤ t0_1.toInt + 100001 from (by have z4 : (1 : Int32).toInt = 1 := rfl; have t1 : 0 ≤ x2.toInt + 100000 := pre0; have t2 : a34.toInt = 1 - x2.toInt := b36; have t3 : a37.toInt = t0_1.toInt + a34.toInt := b39; omega)), (show ((1 : Int32), a37, f44) = (F_Dig_stepOutwards x2 t0_0 t0_1 t1_0) from Eq.trans (by rw [← e45, ← e38, ← e35, F_Dig_stepOutwards_J28.eq_1, if_pos c30, if_pos c32]) hR25)⟩) d_5_8_83
      ·
        refine lv_iconst (v := 1) hx hb d_5_8_60 (by decide) ?_
        refine lv_goto (tgt := 67) hx hb d_5_8_61 (by decide) ?_
        refine lv_iadd hx hb d_5_8_67 ?_
        obtain ⟨a49, e50⟩ := q_nm (t0_1 + 1 : Int32)
        refine q_ti (v := a49) e50 ?_
        have b51 : q_F (a49.toInt = t0_1.toInt + 1) := (by rw [← e50]; show (t0_1 + 1 : Int32).toInt = t0_1.toInt + 1; exact q_addI (x := t0_1.toInt) (y := 1) rfl (by decide) (by first | with_reducible exact (q_fe btt0_1).2 | with_reducible exact (q_fe btt0_1).1 | (have t1 : -1000000 ≤ t0_1.toInt ∧ t0_1.toInt ≤ 1000000 := btt0_1; omega)) (by first | with_reducible exact (q_fe btt0_1).2 | with_reducible exact (q_fe btt0_1).1 | (have t1 : -1000000 ≤ t0_1.toInt ∧ t0_1.toInt ≤ 1000000 := btt0_1; omega)))
        refine q_put (ci := 7) (j := 1) (v := .int a49) (ty := .int) C0 V i_Dig o_Dig n_Dig rfl rfl hT0 (by decide) w_266 rfl rfl rfl rfl (Nat.le_of_ble_eq_true rfl) d_5_8_68 (fun H locs w52 hu53 hT0 V => ?_)
        replace hT0 : w52[36]? = (some (q 36, .inr (7, [.int t0_0, .int a49, .ref (q 37)])) : Option (Nat × va_E)) := hT0
        replace hI := n_p36 hI hu53 hT0 (by first | with_reducible exact q_fe btt0_0 | exact ⟨(by have t1 : 0 ≤ t0_0.toInt ∧ t0_0.toInt ≤ 1026 := btt0_0; omega), (by have t1 : 0 ≤ t0_0.toInt ∧ t0_0.toInt ≤ 1026 := btt0_0; omega)⟩) ⟨(by have t1 : -1000000 ≤ t0_1.toInt ∧ t0_1.toInt ≤ 1000000 := btt0_1; have t2 : a49.toInt = t0_1.toInt + 1 := b51; omega), (by have t1 : t0_1.toInt ≤ 200000 := pre3; have t2 : a49.toInt = t0_1.toInt + 1 := b51; omega)⟩
        replace hT1 := (hu53 _ (by decide)).trans hT1
        replace hF := q_us hF hu53 (by simp)
        refine lv_aload_n hx hb d_5_8_71 rfl (lv_at hl 1 rfl) ?_
        refine q_get (ci := 7) (j := 2) (v := .ref (q 37)) C0 V i_Dig rfl rfl hT0 (by decide) w_269 rfl d_5_8_72 ?_
        refine lv_iconst (v := 0) hx hb d_5_8_75 (by decide) ?_
        refine lv_iconst (v := 1) hx hb d_5_8_76 (by decide) ?_
        refine q_bast C0 V hT1 (q_ix (x := 0) (by decide) (by omega) (by omega)) d_5_8_77 (fun H locs w54 hu55 hT1 V => ?_)
        replace hI := n_ai' hI (n_s37 g q) hu55 hT1 (q_updB (fun _ => s_bnd) s_bnd)
        replace hT0 := (hu55 _ (by decide)).trans hT0
        replace hF := q_us hF hu55 (by simp)
        obtain ⟨f56, e57⟩ := q_nm (upd t1_0 (0 : Int32).toNatClampNeg (vp_nar .byte 1) : (Nat → Int32))
        rw [e57] at hT1
        refine lv_aload_n hx hb d_5_8_78 rfl (lv_at hl 1 rfl) ?_
        refine lv_iconst (v := 1) hx hb d_5_8_79 (by decide) ?_
        refine q_put (ci := 7) (j := 0) (v := .int 1) (ty := .int) C0 V i_Dig o_Dig n_Dig rfl rfl hT0 (by decide) w_264 rfl rfl rfl rfl (Nat.le_of_ble_eq_true rfl) d_5_8_80 (fun H locs w58 hu59 hT0 V => ?_)
        replace hT0 : w58[36]? = (some (q 36, .inr (7, [.int 1, .int a49, .ref (q 37)])) : Option (Nat × va_E)) := hT0
        replace hI := n_p36 hI hu59 hT0 ⟨(by have z9 : (1 : Int32).toInt = 1 := rfl; omega), (by have z9 : (1 : Int32).toInt = 1 := rfl; omega)⟩ ⟨(by have t1 : -1000000 ≤ t0_1.toInt ∧ t0_1.toInt ≤ 1000000 := btt0_1; have t2 : a49.toInt = t0_1.toInt + 1 := b51; omega), (by have t1 : t0_1.toInt ≤ 200000 := pre3; have t2 : a49.toInt = t0_1.toInt + 1 := b51; omega)⟩
        replace hT1 := (hu59 _ (by decide)).trans hT1
        replace hF := q_us hF hu59 (by simp)
        exact q_retv C0 V (⟨hI, hF, 1, a49, f56, hT0, hT1, (show 1 ≤ (1 : Int32).toInt from (by have z4 : (1 : Int32).toInt = 1 := rfl; omega)), (show (1 : Int32).toInt ≤ 1026 from (by have z4 : (1 : Int32).toInt = 1 := rfl; omega)), (show (1 : Int32).toInt ≤ t0_0.toInt + 1 from (by have z4 : (1 : Int32).toInt = 1 := rfl; have t1 : 0 ≤ t0_0.toInt ∧ t0_0.toInt ≤ 1026 := btt0_0; omega)), (show t0_1.toInt ≤ a49.toInt from (by have z4 : (1 : Int32).toInt = 1 := rfl; have t1 : a49.toInt = t0_1.toInt + 1 := b51; omega)), (show a49.toInt ≤ t0_1.toInt + 100001 from (by have z4 : (1 : Int32).toInt = 1 := rfl; have t1 : a49.toInt = t0_1.toInt + 1 := b51; omega)), (show ((1 : Int32), a49, f56) = (F_Dig_stepOutwards x2 t0_0 t0_1 t1_0) from Eq.trans (by rw [← e57, ← e50, F_Dig_stepOutwards_J28.eq_1, if_pos c30, if_neg c32]) hR25)⟩) d_5_8_83
    ·
      have b60 : q_F (0 ≤ lx13.toInt) := (q_nltI c30)
      refine lv_aload_n hx hb d_5_8_32 rfl (lv_at hl 1 rfl) ?_
      refine q_get (ci := 7) (j := 2) (v := .ref (q 37)) C0 V i_Dig rfl rfl hT0 (by decide) w_269 rfl d_5_8_33 ?_
      refine lv_iload_n hx hb d_5_8_36 rfl (lv_at hl 0 rfl) ?_
      refine lv_dup2_11 hx hb d_5_8_37 rfl rfl ?_
      refine q_bald C0 V hT1 (q_ix (x := lx13.toInt) rfl (by first | with_reducible exact q_fe b60 | (have t1 : 0 ≤ lx13.toInt := b60; omega)) (by have t1 : 0 ≤ lx13.toInt := b60; have t2 : 0 ≤ t0_0.toInt ∧ t0_0.toInt ≤ 1026 := btt0_0; have t3 : lx13.toInt + 1 ≤ t0_0.toInt := i15; omega)) d_5_8_38 ?_
      obtain ⟨a61, e62⟩ := q_nm (t1_0 lx13.toNatClampNeg : Int32)
      refine q_ti (v := a61) e62 ?_
      refine lv_iconst (v := 1) hx hb d_5_8_39 (by decide) ?_
      refine lv_iadd hx hb d_5_8_40 ?_
      obtain ⟨a63, e64⟩ := q_nm (a61 + 1 : Int32)
      refine q_ti (v := a63) e64 ?_
      refine lv_i2b hx hb d_5_8_41 rfl ?_
      obtain ⟨a65, e66⟩ := q_nm (a63.toInt8.toInt32 : Int32)
      refine q_ti (v := a65) e66 ?_
      refine q_bast C0 V hT1 (q_ix (x := lx13.toInt) rfl (by first | with_reducible exact q_fe b60 | (have t1 : 0 ≤ lx13.toInt := b60; omega)) (by have t1 : 0 ≤ lx13.toInt := b60; have t2 : 0 ≤ t0_0.toInt ∧ t0_0.toInt ≤ 1026 := btt0_0; have t3 : lx13.toInt + 1 ≤ t0_0.toInt := i15; omega)) d_5_8_42 (fun H locs w67 hu68 hT1 V => ?_)
      replace hI := n_ai' hI (n_s37 g q) hu68 hT1 (q_updB (fun _ => s_bnd) s_bnd)
      replace hT0 := (hu68 _ (by decide)).trans hT0
      replace hF := q_us hF hu68 (by simp)
      obtain ⟨f69, e70⟩ := q_nm (upd t1_0 lx13.toNatClampNeg (vp_nar .byte a65) : (Nat → Int32))
      rw [e70] at hT1
      refine lv_aload_n hx hb d_5_8_43 rfl (lv_at hl 1 rfl) ?_
      refine lv_iload_n hx hb d_5_8_44 rfl (lv_at hl 0 rfl) ?_
      refine lv_iconst (v := 1) hx hb d_5_8_45 (by decide) ?_
      refine lv_iadd hx hb d_5_8_46 ?_
      obtain ⟨a71, e72⟩ := q_nm (lx13 + 1 : Int32)
      refine q_ti (v := a71) e72 ?_
      have b73 : q_F (a71.toInt = lx13.toInt + 1) := (by rw [← e72]; show (lx13 + 1 : Int32).toInt = lx13.toInt + 1; exact q_addI (x := lx13.toInt) (y := 1) rfl (by decide) (by have t1 : 0 ≤ lx13.toInt + 1 := i14; have t2 : lx13.toInt + 1 ≤ t0_0.toInt := i15; have _ := q_lo32 (x := t0_0); have _ := q_hi32 (x := t0_0); omega) (by have t1 : 0 ≤ lx13.toInt + 1 := i14; have t2 : lx13.toInt + 1 ≤ t0_0.toInt := i15; have _ := q_lo32 (x := t0_0); have _ := q_hi32 (x := t0_0); omega))
      refine q_put (ci := 7) (j := 0) (v := .int a71) (ty := .int) C0 V i_Dig o_Dig n_Dig rfl rfl hT0 (by decide) w_264 rfl rfl rfl rfl (Nat.le_of_ble_eq_true rfl) d_5_8_47 (fun H locs w74 hu75 hT0 V => ?_)
      replace hT0 : w74[36]? = (some (q 36, .inr (7, [.int a71, .int t0_1, .ref (q 37)])) : Option (Nat × va_E)) := hT0
      replace hI := n_p36 hI hu75 hT0 ⟨(by have t1 : 0 ≤ lx13.toInt + 1 := i14; have t2 : a71.toInt = lx13.toInt + 1 := b73; omega), (by have t1 : 0 ≤ t0_0.toInt ∧ t0_0.toInt ≤ 1026 := btt0_0; have t2 : lx13.toInt + 1 ≤ t0_0.toInt := i15; have t3 : a71.toInt = lx13.toInt + 1 := b73; omega)⟩ (by first | with_reducible exact q_fe btt0_1 | exact ⟨(by have t1 : -1000000 ≤ t0_1.toInt ∧ t0_1.toInt ≤ 1000000 := btt0_1; omega), (by have t1 : -1000000 ≤ t0_1.toInt ∧ t0_1.toInt ≤ 1000000 := btt0_1; omega)⟩)
      replace hT1 := (hu75 _ (by decide)).trans hT1
      replace hF := q_us hF hu75 (by simp)
      exact q_retv C0 V (⟨hI, hF, a71, t0_1, f69, hT0, hT1, (show 1 ≤ a71.toInt from (by have t1 : 0 ≤ lx13.toInt := b60; have t2 : a71.toInt = lx13.toInt + 1 := b73; omega)), (show a71.toInt ≤ 1026 from (by have t1 : 0 ≤ t0_0.toInt ∧ t0_0.toInt ≤ 1026 := btt0_0; have t2 : lx13.toInt + 1 ≤ t0_0.toInt := i15; have t3 : a71.toInt = lx13.toInt + 1 := b73; omega)), (show a71.toInt ≤ t0_0.toInt + 1 from (by have t1 : lx13.toInt + 1 ≤ t0_0.toInt := i15; have t2 : a71.toInt = lx13.toInt + 1 := b73; omega)), (show t0_1.toInt ≤ t0_1.toInt from (by omega)), (show t0_1.toInt ≤ t0_1.toInt + 100001 from (by omega)), (show (a71, t0_1, f69) = (F_Dig_stepOutwards x2 t0_0 t0_1 t1_0) from Eq.trans (by rw [← e72, ← e70, ← e66, ← e64, ← e62, F_Dig_stepOutwards_J28.eq_1, if_neg c30]) hR25)⟩) d_5_8_50
  ·
    intro J24
    refine lv_if_lt (tgt := 28) hx hb d_5_8_8 (by decide) (fun c76 => ?_) (fun c76 => ?_)
    ·
      exact J24 (()) _ _ _ ws ⟨V, q_lw hl (q_lw1 0 rfl (q_lw1 1 rfl (q_lw1 2 rfl q_lw0))), (show F_Dig_stepOutwards_J28 (F_Dig_stepOutwards_L7 x2 t0_0 t0_1 t1_0 fm21) x2 t0_0 t0_1 t1_0 lx13 = (F_Dig_stepOutwards x2 t0_0 t0_1 t1_0) from Eq.trans (by rw [F_Dig_stepOutwards_L7.eq_2, if_pos c76]) hR17)⟩
    ·
      have b78 : q_F (0 ≤ lx13.toInt) := (q_nltI c76)
      refine lv_aload_n hx hb d_5_8_11 rfl (lv_at hl 1 rfl) ?_
      refine q_get (ci := 7) (j := 2) (v := .ref (q 37)) C0 V i_Dig rfl rfl hT0 (by decide) w_269 rfl d_5_8_12 ?_
      refine lv_iload_n hx hb d_5_8_15 rfl (lv_at hl 0 rfl) ?_
      refine q_bald C0 V hT1 (q_ix (x := lx13.toInt) rfl (by first | with_reducible exact q_fe b78 | (have t1 : 0 ≤ lx13.toInt := b78; omega)) (by have t1 : 0 ≤ lx13.toInt := b78; have t2 : 0 ≤ t0_0.toInt ∧ t0_0.toInt ≤ 1026 := btt0_0; have t3 : lx13.toInt + 1 ≤ t0_0.toInt := i15; omega)) d_5_8_16 ?_
      obtain ⟨a79, e80⟩ := q_nm (t1_0 lx13.toNatClampNeg : Int32)
      refine q_ti (v := a79) e80 ?_
      refine lv_bipush (v := 9) hx hb d_5_8_17 (by decide) ?_
      refine lv_icmp_ne (tgt := 28) hx hb d_5_8_19 (by decide) (fun c81 => ?_) (fun c81 => ?_)
      ·
        exact J24 (()) _ _ _ ws ⟨V, q_lw hl (q_lw1 0 rfl (q_lw1 1 rfl (q_lw1 2 rfl q_lw0))), (show F_Dig_stepOutwards_J28 (F_Dig_stepOutwards_L7 x2 t0_0 t0_1 t1_0 fm21) x2 t0_0 t0_1 t1_0 lx13 = (F_Dig_stepOutwards x2 t0_0 t0_1 t1_0) from Eq.trans (by have c81x := c81; rw [← e80] at c81x; rw [F_Dig_stepOutwards_L7.eq_2, if_neg c76, if_neg c81x]) hR17)⟩
      ·
        obtain ⟨a84, e85⟩ := q_nm (lx13 + (-1) : Int32)
        have b86 : q_F (a84.toInt = lx13.toInt + (-1)) := (by rw [← e85]; exact q_addI (y := (-1)) rfl (by decide) (by have t1 : 0 ≤ lx13.toInt + 1 := i14; have _ := q_lo32 (x := lx13); have _ := q_hi32 (x := lx13); omega) (by have t1 : 0 ≤ lx13.toInt + 1 := i14; have _ := q_lo32 (x := lx13); have _ := q_hi32 (x := lx13); omega))
        refine lv_iinc (v := a84) (lv' := [(2, .int a84), (0, .ref (q 36)), (1, .int x2)]) hx hb d_5_8_22 hl (k := 0) rfl (e85) (by decide) rfl (fun ls hl => ?_)
        refine lv_goto (tgt := 7) hx hb d_5_8_25 (by decide) ?_
        exact ih16 ((a84 : Int32)) _ _ _ ws (show (a84.toInt - ((-1000000))).toNat < (lx13.toInt - ((-1000000))).toNat from by have t1 : a84.toInt = lx13.toInt + (-1) := b86; have t2 : 0 ≤ lx13.toInt + 1 := i14; omega) ⟨(show q_F (0 ≤ a84.toInt + 1) from (show 0 ≤ a84.toInt + 1 from by have t1 : 0 ≤ lx13.toInt := b78; have t2 : a84.toInt = lx13.toInt + (-1) := b86; omega)), (show q_F (a84.toInt + 1 ≤ t0_0.toInt) from (show a84.toInt + 1 ≤ t0_0.toInt from by have t1 : lx13.toInt + 1 ≤ t0_0.toInt := i15; have t2 : a84.toInt = lx13.toInt + (-1) := b86; omega)), V, q_lw hl (q_lw1 0 rfl (q_lw1 1 rfl (q_lw1 2 rfl q_lw0))), ⟨fm21, Nat.lt_of_lt_of_le (show (a84.toInt - ((-1000000))).toNat < (lx13.toInt - ((-1000000))).toNat from by have t1 : a84.toInt = lx13.toInt + (-1) := b86; have t2 : 0 ≤ lx13.toInt + 1 := i14; omega) (Nat.le_of_lt_succ hf20), (show F_Dig_stepOutwards_L7 x2 t0_0 t0_1 t1_0 fm21 a84 = (F_Dig_stepOutwards x2 t0_0 t0_1 t1_0) from Eq.trans (by have c81x := c81; rw [← e80] at c81x; rw [← e85, F_Dig_stepOutwards_L7.eq_2, if_neg c76, if_pos c81x]) hR17)⟩⟩
def F_Dig_round_c31 (x2 : Int32) (x3 : Int32) (t0_0 : Int32) (t0_1 : Int32) (t1_0 : (Nat → Int32)) (a13 : Int32) (p45 : (Int32 × Int32 × (Nat → Int32))) : Int32 × Int32 × (Nat → Int32) := ((p45.1 : Int32), (p45.2.1 : Int32), (p45.2.2 : (Nat → Int32)))
def F_Dig_round (x2 : Int32) (x3 : Int32) (t0_0 : Int32) (t0_1 : Int32) (t1_0 : (Nat → Int32)) : Int32 × Int32 × (Nat → Int32) := if x2 < t0_0 then (if ((F_Dig_goesOutwards x2 x3 t0_0 t0_1 t1_0) : Int32) = (0 : Int32) then (if (if x2 < 0 then 0 else x2 : Int32) = (0 : Int32) then (((if x2 < 0 then 0 else x2 : Int32), (0 : Int32), t1_0)) else (((if x2 < 0 then 0 else x2 : Int32), t0_1, t1_0))) else (F_Dig_round_c31 x2 x3 t0_0 t0_1 t1_0 ((F_Dig_goesOutwards x2 x3 t0_0 t0_1 t1_0) : Int32) ((F_Dig_stepOutwards x2 (if x2 < 0 then 0 else x2 : Int32) t0_1 t1_0) : (Int32 × Int32 × (Nat → Int32))))) else ((t0_0, t0_1, t1_0))
set_option maxRecDepth 100000 in
set_option maxHeartbeats 4000000 in
theorem X_Dig_round (l : Launch) (D : va_G) (g : Nat → ClassId) (q : Nat → Nat) (ws : va_W) (x2 : Int32) (x3 : Int32) (hI : q_I (nsh g q) q ws) (t0_0 : Int32) (t0_1 : Int32) (hT0 : ws[36]? = (some (q 36, .inr (7, [.int t0_0, .int t0_1, .ref (q 37)])) : Option (Nat × va_E))) (t1_0 : (Nat → Int32)) (hT1 : ws[37]? = (some (q 37, .inl (g 2, 1026, .inl t1_0)) : Option (Nat × va_E))) (pre0 : 0 ≤ x2.toInt + 100000) (pre1 : x2.toInt ≤ 100000) (pre2 : 0 ≤ t0_1.toInt + 200000) (pre3 : t0_1.toInt ≤ 200000) : q_mV l y_Dig_round prog_5_method_6_code 4 3 0 0 D g [.ref (q 36), .int x2, .int x3] ws (fun u => q_I (nsh g q) q u ∧ q_un ws u [36, 37] ∧ ∃ (u0_0 : Int32) (u0_1 : Int32) (u1_0 : (Nat → Int32)), u[36]? = (some (q 36, .inr (7, [.int u0_0, .int u0_1, .ref (q 37)])) : Option (Nat × va_E)) ∧ u[37]? = (some (q 37, .inl (g 2, 1026, .inl u1_0)) : Option (Nat × va_E)) ∧ (0 ≤ u0_0.toInt) ∧ (u0_0.toInt ≤ 1026) ∧ (0 ≤ u0_1.toInt + 200000) ∧ (u0_1.toInt ≤ 300001) ∧ (u0_0.toInt ≤ x2.toInt + 100001) ∧ (u0_0.toInt ≤ t0_0.toInt + 1) ∧ (t0_1.toInt ≤ u0_1.toInt + 200000) ∧ (u0_1.toInt ≤ t0_1.toInt + 200000) ∧ (u0_1.toInt ≤ u0_0.toInt + 300000) ∧ (u0_0, u0_1, u1_0) = (F_Dig_round x2 x3 t0_0 t0_1 t1_0)) := by
  intro sz
  refine q_into (by decide) (Nat.le_of_ble_eq_true rfl) ?_
  intro p e s m below meth c ls hsz C0 V hl
  have hx := C0.1
  have hb := C0.2.1
  obtain ⟨btt0_0, btt0_1⟩ := n_w36 hI hT0
  replace btt0_0 : q_F (0 ≤ t0_0.toInt ∧ t0_0.toInt ≤ 1026) := btt0_0
  replace btt0_1 : q_F (-1000000 ≤ t0_1.toInt ∧ t0_1.toInt ≤ 1000000) := btt0_1
  replace pre0 : q_F (0 ≤ x2.toInt + 100000) := pre0
  replace pre1 : q_F (x2.toInt ≤ 100000) := pre1
  replace pre2 : q_F (0 ≤ t0_1.toInt + 200000) := pre2
  replace pre3 : q_F (t0_1.toInt ≤ 200000) := pre3
  have hF : q_un ws ws [36, 37] := q_u0
  have hl : lv_has ls 4 [(0, .ref (q 36)), (1, .int x2), (2, .int x3)] := hl
  refine lv_iload_n hx hb d_5_6_0 rfl (lv_at hl 1 rfl) ?_
  refine lv_aload_n hx hb d_5_6_1 rfl (lv_at hl 0 rfl) ?_
  refine q_get (ci := 7) (j := 0) (v := .int t0_0) C0 V i_Dig rfl rfl hT0 (by decide) w_264 rfl d_5_6_2 ?_
  refine lv_icmp_lt (tgt := 9) hx hb d_5_6_5 (by decide) (fun c9 => ?_) (fun c9 => ?_)
  ·
    have b10 : q_F (x2.toInt < t0_0.toInt) := (q_ltI c9)
    refine lv_aload_n hx hb d_5_6_9 rfl (lv_at hl 0 rfl) ?_
    refine lv_iload_n hx hb d_5_6_10 rfl (lv_at hl 1 rfl) ?_
    refine lv_iload_n hx hb d_5_6_11 rfl (lv_at hl 2 rfl) ?_
    refine q_goi V (q_runV (As := [.int x2, .int x3]) (rest := []) (d := 2) (mc := 0) (ms := 0) (ci := 7) C0 V rfl LV_Dig_36 (X_Dig_goesOutwards l D g q ws  x2 x3 hI t0_0 t0_1 hT0 t1_0 hT1  _) rfl rfl hT0 rfl hl.1 rfl (Nat.le_of_ble_eq_true rfl) ⟨by decide, by decide⟩ ⟨Nat.le_of_ble_eq_true rfl, Nat.le_of_ble_eq_true rfl⟩ d_5_6_12) (fun a13 u11 H locs hp12 V => ?_)
    obtain ⟨rfl, b14, b15, hE16⟩ := hp12
    have e17 : a13 = (F_Dig_goesOutwards x2 x3 t0_0 t0_1 t1_0) := hE16
    clear b14
    clear b15
    refine lv_istore_n (lv' := [(3, .int a13), (0, .ref (q 36)), (1, .int x2), (2, .int x3)]) hx hb d_5_6_15 rfl hl (by decide) rfl (fun ls hl => ?_)
    refine lv_aload_n hx hb d_5_6_16 rfl (lv_at hl 1 rfl) ?_
    refine lv_iload_n hx hb d_5_6_17 rfl (lv_at hl 2 rfl) ?_
    refine lv_iconst (v := 0) hx hb d_5_6_18 (by decide) ?_
    refine q_max C0 hl.1 rfl w_1571 w_803 w_7 w_804 ⟨Nat.le_of_ble_eq_true rfl, Nat.le_of_ble_eq_true rfl⟩ ⟨Nat.le_of_ble_eq_true rfl, Nat.le_of_ble_eq_true rfl⟩ d_5_6_19 ?_
    obtain ⟨a18, e19⟩ := q_nm (if x2 < 0 then 0 else x2 : Int32)
    refine q_ti (v := a18) e19 ?_
    have b20 : q_F (x2.toInt ≤ a18.toInt ∧ 0 ≤ a18.toInt ∧ (a18.toInt = x2.toInt ∨ a18.toInt = 0)) := (by rw [← e19]; show x2.toInt ≤ (if x2 < 0 then 0 else x2 : Int32).toInt ∧ 0 ≤ (if x2 < 0 then 0 else x2 : Int32).toInt ∧ ((if x2 < 0 then 0 else x2 : Int32).toInt = x2.toInt ∨ (if x2 < 0 then 0 else x2 : Int32).toInt = 0); exact (by have y1 : (0 : Int32).toInt = 0 := rfl; have z := s_max (a := x2) (b := 0); omega))
    refine q_put (ci := 7) (j := 0) (v := .int a18) (ty := .int) C0 V i_Dig o_Dig n_Dig rfl rfl hT0 (by decide) w_264 rfl rfl rfl rfl (Nat.le_of_ble_eq_true rfl) d_5_6_22 (fun H locs w21 hu22 hT0 V => ?_)
    replace hT0 : w21[36]? = (some (q 36, .inr (7, [.int a18, .int t0_1, .ref (q 37)])) : Option (Nat × va_E)) := hT0
    replace hI := n_p36 hI hu22 hT0 ⟨(by have t1 : x2.toInt ≤ a18.toInt ∧ 0 ≤ a18.toInt ∧ (a18.toInt = x2.toInt ∨ a18.toInt = 0) := b20; omega), (by have t1 : 0 ≤ t0_0.toInt ∧ t0_0.toInt ≤ 1026 := btt0_0; have t2 : x2.toInt < t0_0.toInt := b10; have t3 : x2.toInt ≤ a18.toInt ∧ 0 ≤ a18.toInt ∧ (a18.toInt = x2.toInt ∨ a18.toInt = 0) := b20; omega)⟩ (by first | with_reducible exact q_fe btt0_1 | exact ⟨(by have t1 : -1000000 ≤ t0_1.toInt ∧ t0_1.toInt ≤ 1000000 := btt0_1; omega), (by have t1 : -1000000 ≤ t0_1.toInt ∧ t0_1.toInt ≤ 1000000 := btt0_1; omega)⟩)
    replace hT1 := (hu22 _ (by decide)).trans hT1
    replace hF := q_us hF hu22 (by simp)
    refine lv_iload_n hx hb d_5_6_25 rfl (lv_at hl 0 rfl) ?_
    refine lv_if_eq (tgt := 34) hx hb d_5_6_26 (by decide) (fun c23 => ?_) (fun c23 => ?_)
    ·
      refine lv_aload_n hx hb d_5_6_34 rfl (lv_at hl 1 rfl) ?_
      refine q_get (ci := 7) (j := 0) (v := .int a18) C0 V i_Dig rfl rfl hT0 (by decide) w_264 rfl d_5_6_35 ?_
      refine lv_if_ne (tgt := 46) hx hb d_5_6_38 (by decide) (fun c25 => ?_) (fun c25 => ?_)
      ·
        exact q_retv C0 V (⟨hI, hF, a18, t0_1, t1_0, hT0, hT1, (show 0 ≤ a18.toInt from (by have t1 : x2.toInt ≤ a18.toInt ∧ 0 ≤ a18.toInt ∧ (a18.toInt = x2.toInt ∨ a18.toInt = 0) := b20; omega)), (show a18.toInt ≤ 1026 from (by have t1 : 0 ≤ t0_0.toInt ∧ t0_0.toInt ≤ 1026 := btt0_0; have t2 : x2.toInt < t0_0.toInt := b10; have t3 : x2.toInt ≤ a18.toInt ∧ 0 ≤ a18.toInt ∧ (a18.toInt = x2.toInt ∨ a18.toInt = 0) := b20; omega)), (show 0 ≤ t0_1.toInt + 200000 from (by first | with_reducible exact q_fe pre2 | (have t1 : 0 ≤ t0_1.toInt + 200000 := pre2; omega))), (show t0_1.toInt ≤ 300001 from (by first | with_reducible exact q_fe pre3 | (have t1 : t0_1.toInt ≤ 200000 := pre3; omega))), (show a18.toInt ≤ x2.toInt + 100001 from (by have t1 : 0 ≤ x2.toInt + 100000 := pre0; have t2 : x2.toInt ≤ a18.toInt ∧ 0 ≤ a18.toInt ∧ (a18.toInt = x2.toInt ∨ a18.toInt = 0) := b20; omega)), (show a18.toInt ≤ t0_0.toInt + 1 from (by have t1 : 0 ≤ t0_0.toInt ∧ t0_0.toInt ≤ 1026 := btt0_0; have t2 : x2.toInt < t0_0.toInt := b10; have t3 : x2.toInt ≤ a18.toInt ∧ 0 ≤ a18.toInt ∧ (a18.toInt = x2.toInt ∨ a18.toInt = 0) := b20; omega)), (show t0_1.toInt ≤ t0_1.toInt + 200000 from (by omega)), (show t0_1.toInt ≤ t0_1.toInt + 200000 from (by omega)), (show t0_1.toInt ≤ a18.toInt + 300000 from (by have t1 : t0_1.toInt ≤ 200000 := pre3; have t2 : x2.toInt ≤ a18.toInt ∧ 0 ≤ a18.toInt ∧ (a18.toInt = x2.toInt ∨ a18.toInt = 0) := b20; omega)), (show (a18, t0_1, t1_0) = (F_Dig_round x2 x3 t0_0 t0_1 t1_0) from (by have c23x := c23; rw [e17] at c23x; have c25x := c25; rw [← e19] at c25x; rw [← e19, F_Dig_round.eq_1, if_pos c9, if_pos c23x, if_neg c25x]))⟩) d_5_6_46
      ·
        have b27 : q_F (a18.toInt = 0) := (q_eqI c25)
        refine lv_aload_n hx hb d_5_6_41 rfl (lv_at hl 1 rfl) ?_
        refine lv_iconst (v := 0) hx hb d_5_6_42 (by decide) ?_
        refine q_put (ci := 7) (j := 1) (v := .int 0) (ty := .int) C0 V i_Dig o_Dig n_Dig rfl rfl hT0 (by decide) w_266 rfl rfl rfl rfl (Nat.le_of_ble_eq_true rfl) d_5_6_43 (fun H locs w28 hu29 hT0 V => ?_)
        replace hT0 : w28[36]? = (some (q 36, .inr (7, [.int a18, .int 0, .ref (q 37)])) : Option (Nat × va_E)) := hT0
        replace hI := n_p36 hI hu29 hT0 ⟨(by have t1 : x2.toInt ≤ a18.toInt ∧ 0 ≤ a18.toInt ∧ (a18.toInt = x2.toInt ∨ a18.toInt = 0) := b20; omega), (by first | with_reducible exact q_fe b27 | (have t1 : a18.toInt = 0 := b27; omega))⟩ ⟨(by have z9 : (0 : Int32).toInt = 0 := rfl; omega), (by have z9 : (0 : Int32).toInt = 0 := rfl; omega)⟩
        replace hT1 := (hu29 _ (by decide)).trans hT1
        replace hF := q_us hF hu29 (by simp)
        exact q_retv C0 V (⟨hI, hF, a18, 0, t1_0, hT0, hT1, (show 0 ≤ a18.toInt from (by have z6 : (0 : Int32).toInt = 0 := rfl; have t1 : x2.toInt ≤ a18.toInt ∧ 0 ≤ a18.toInt ∧ (a18.toInt = x2.toInt ∨ a18.toInt = 0) := b20; omega)), (show a18.toInt ≤ 1026 from (by have z6 : (0 : Int32).toInt = 0 := rfl; have t1 : a18.toInt = 0 := b27; omega)), (show 0 ≤ (0 : Int32).toInt + 200000 from (by have z6 : (0 : Int32).toInt = 0 := rfl; omega)), (show (0 : Int32).toInt ≤ 300001 from (by have z6 : (0 : Int32).toInt = 0 := rfl; omega)), (show a18.toInt ≤ x2.toInt + 100001 from (by have z6 : (0 : Int32).toInt = 0 := rfl; have t1 : 0 ≤ x2.toInt + 100000 := pre0; have t2 : x2.toInt ≤ a18.toInt ∧ 0 ≤ a18.toInt ∧ (a18.toInt = x2.toInt ∨ a18.toInt = 0) := b20; omega)), (show a18.toInt ≤ t0_0.toInt + 1 from (by have z6 : (0 : Int32).toInt = 0 := rfl; have t1 : 0 ≤ t0_0.toInt ∧ t0_0.toInt ≤ 1026 := btt0_0; have t2 : x2.toInt < t0_0.toInt := b10; have t3 : x2.toInt ≤ a18.toInt ∧ 0 ≤ a18.toInt ∧ (a18.toInt = x2.toInt ∨ a18.toInt = 0) := b20; omega)), (show t0_1.toInt ≤ (0 : Int32).toInt + 200000 from (by have z6 : (0 : Int32).toInt = 0 := rfl; have t1 : t0_1.toInt ≤ 200000 := pre3; omega)), (show (0 : Int32).toInt ≤ t0_1.toInt + 200000 from (by have z6 : (0 : Int32).toInt = 0 := rfl; have t1 : 0 ≤ t0_1.toInt + 200000 := pre2; omega)), (show (0 : Int32).toInt ≤ a18.toInt + 300000 from (by have z6 : (0 : Int32).toInt = 0 := rfl; have t1 : x2.toInt ≤ a18.toInt ∧ 0 ≤ a18.toInt ∧ (a18.toInt = x2.toInt ∨ a18.toInt = 0) := b20; omega)), (show (a18, (0 : Int32), t1_0) = (F_Dig_round x2 x3 t0_0 t0_1 t1_0) from (by have c23x := c23; rw [e17] at c23x; have c25x := c25; rw [← e19] at c25x; rw [← e19, F_Dig_round.eq_1, if_pos c9, if_pos c23x, if_pos c25x]))⟩) d_5_6_46
    ·
      refine lv_aload_n hx hb d_5_6_29 rfl (lv_at hl 1 rfl) ?_
      refine lv_iload_n hx hb d_5_6_30 rfl (lv_at hl 2 rfl) ?_
      refine q_gov V (q_runV (As := [.int x2]) (rest := []) (d := 1) (mc := 0) (ms := 0) (ci := 7) C0 V rfl LV_Dig_46 (X_Dig_stepOutwards l D g q w21  x2 hI a18 t0_1 hT0 t1_0 hT1 (by first | with_reducible exact q_fe pre0 | (have t1 : 0 ≤ x2.toInt + 100000 := pre0; omega)) (by first | with_reducible exact q_fe pre1 | (have t1 : x2.toInt ≤ 100000 := pre1; omega)) (by first | with_reducible exact q_fe pre2 | (have t1 : 0 ≤ t0_1.toInt + 200000 := pre2; omega)) (by first | with_reducible exact q_fe pre3 | (have t1 : t0_1.toInt ≤ 200000 := pre3; omega)) _) rfl rfl hT0 rfl hl.1 rfl (Nat.le_of_ble_eq_true rfl) ⟨by decide, by decide⟩ ⟨Nat.le_of_ble_eq_true rfl, Nat.le_of_ble_eq_true rfl⟩ d_5_6_31) (fun u31 H locs hp32 V => ?_)
      obtain ⟨hI, hZ9⟩ := hp32
      obtain ⟨hu44, hZ9⟩ := hZ9
      obtain ⟨y34, hZ9⟩ := hZ9
      obtain ⟨y35, hZ9⟩ := hZ9
      obtain ⟨f36, hZ9⟩ := hZ9
      obtain ⟨hO33, hZ9⟩ := hZ9
      obtain ⟨hA37, hZ9⟩ := hZ9
      obtain ⟨b38, hZ9⟩ := hZ9
      obtain ⟨b39, hZ9⟩ := hZ9
      obtain ⟨b40, hZ9⟩ := hZ9
      obtain ⟨b41, hZ9⟩ := hZ9
      obtain ⟨b42, hE43⟩ := hZ9
      replace hO33 : u31[36]? = (some (q 36, .inr (7, [.int y34, .int y35, .ref (q 37)])) : Option (Nat × va_E)) := hO33
      replace hA37 : u31[37]? = (some (q 37, .inl (g 2, 1026, .inl f36)) : Option (Nat × va_E)) := hA37
      obtain ⟨p45, e46⟩ : ∃ z, z = (F_Dig_stepOutwards x2 a18 t0_1 t1_0) := ⟨_, rfl⟩
      have e47 : y34 = p45.1 := congrArg (fun z => z.1) (hE43.trans e46.symm)
      have e48 : y35 = p45.2.1 := congrArg (fun z => z.2.1) (hE43.trans e46.symm)
      have e49 : f36 = p45.2.2 := congrArg (fun z => z.2.2) (hE43.trans e46.symm)
      replace b38 : q_F (1 ≤ y34.toInt) := b38
      replace b39 : q_F (y34.toInt ≤ 1026) := b39
      replace b40 : q_F (y34.toInt ≤ a18.toInt + 1) := b40
      replace b41 : q_F (t0_1.toInt ≤ y35.toInt) := b41
      replace b42 : q_F (y35.toInt ≤ t0_1.toInt + 100001) := b42
      replace hF := q_uc hF hu44 (by first | exact (q_sk (q_mi 0 rfl) (q_sk (q_mi 1 rfl) q_s0)) | simp)
      have hR50 := (show F_Dig_round_c31 x2 x3 t0_0 t0_1 t1_0 a13 p45 = (F_Dig_round x2 x3 t0_0 t0_1 t1_0) from (by have c23x := c23; rw [e17] at c23x; rw [e46, ← e19, e17, F_Dig_round.eq_1, if_pos c9, if_neg c23x]))
      refine lv_aload_n hx hb d_5_6_34 rfl (lv_at hl 1 rfl) ?_
      refine q_get (ci := 7) (j := 0) (v := .int y34) C0 V i_Dig rfl rfl hO33 (by decide) w_264 rfl d_5_6_35 ?_
      refine lv_if_ne (tgt := 46) hx hb d_5_6_38 (by decide) (fun c55 => ?_) (fun c55 => absurd (show y34.toInt = 0 from q_eqI c55) (by first | with_reducible exact q_fe b38 | (have t1 : 1 ≤ y34.toInt := b38; omega)))
      exact q_retv C0 V (⟨hI, hF, y34, y35, f36, hO33, hA37, (show 0 ≤ y34.toInt from (by first | with_reducible exact q_fe b38 | (have t1 : 1 ≤ y34.toInt := b38; omega))), (show y34.toInt ≤ 1026 from (by first | with_reducible exact q_fe b39 | (have t1 : y34.toInt ≤ 1026 := b39; omega))), (show 0 ≤ y35.toInt + 200000 from (by have t1 : 0 ≤ t0_1.toInt + 200000 := pre2; have t2 : t0_1.toInt ≤ y35.toInt := b41; omega)), (show y35.toInt ≤ 300001 from (by have t1 : t0_1.toInt ≤ 200000 := pre3; have t2 : y35.toInt ≤ t0_1.toInt + 100001 := b42; omega)), (show y34.toInt ≤ x2.toInt + 100001 from (by have t1 : 0 ≤ x2.toInt + 100000 := pre0; have t2 : x2.toInt ≤ a18.toInt ∧ 0 ≤ a18.toInt ∧ (a18.toInt = x2.toInt ∨ a18.toInt = 0) := b20; have t3 : y34.toInt ≤ a18.toInt + 1 := b40; omega)), (show y34.toInt ≤ t0_0.toInt + 1 from (by have t1 : 0 ≤ t0_0.toInt ∧ t0_0.toInt ≤ 1026 := btt0_0; have t2 : x2.toInt < t0_0.toInt := b10; have t3 : x2.toInt ≤ a18.toInt ∧ 0 ≤ a18.toInt ∧ (a18.toInt = x2.toInt ∨ a18.toInt = 0) := b20; have t4 : y34.toInt ≤ a18.toInt + 1 := b40; omega)), (show t0_1.toInt ≤ y35.toInt + 200000 from (by first | with_reducible exact q_fe b41 | (have t1 : t0_1.toInt ≤ y35.toInt := b41; omega))), (show y35.toInt ≤ t0_1.toInt + 200000 from (by first | with_reducible exact q_fe b42 | (have t1 : y35.toInt ≤ t0_1.toInt + 100001 := b42; omega))), (show y35.toInt ≤ y34.toInt + 300000 from (by have t1 : t0_1.toInt ≤ 200000 := pre3; have t2 : 1 ≤ y34.toInt := b38; have t3 : y35.toInt ≤ t0_1.toInt + 100001 := b42; omega)), (show (y34, y35, f36) = (F_Dig_round x2 x3 t0_0 t0_1 t1_0) from Eq.trans (by rw [e49, e48, e47, F_Dig_round_c31.eq_1]) hR50)⟩) d_5_6_46
  ·
    have b56 : q_F (t0_0.toInt ≤ x2.toInt) := (q_nltI c9)
    exact q_retv C0 V (⟨hI, hF, t0_0, t0_1, t1_0, hT0, hT1, (show 0 ≤ t0_0.toInt from (by first | with_reducible exact (q_fe btt0_0).2 | with_reducible exact (q_fe btt0_0).1 | (have t1 : 0 ≤ t0_0.toInt ∧ t0_0.toInt ≤ 1026 := btt0_0; omega))), (show t0_0.toInt ≤ 1026 from (by first | with_reducible exact (q_fe btt0_0).2 | with_reducible exact (q_fe btt0_0).1 | (have t1 : 0 ≤ t0_0.toInt ∧ t0_0.toInt ≤ 1026 := btt0_0; omega))), (show 0 ≤ t0_1.toInt + 200000 from (by first | with_reducible exact q_fe pre2 | (have t1 : 0 ≤ t0_1.toInt + 200000 := pre2; omega))), (show t0_1.toInt ≤ 300001 from (by first | with_reducible exact q_fe pre3 | (have t1 : t0_1.toInt ≤ 200000 := pre3; omega))), (show t0_0.toInt ≤ x2.toInt + 100001 from (by first | with_reducible exact q_fe b56 | (have t1 : t0_0.toInt ≤ x2.toInt := b56; omega))), (show t0_0.toInt ≤ t0_0.toInt + 1 from (by omega)), (show t0_1.toInt ≤ t0_1.toInt + 200000 from (by omega)), (show t0_1.toInt ≤ t0_1.toInt + 200000 from (by omega)), (show t0_1.toInt ≤ t0_0.toInt + 300000 from (by have t1 : 0 ≤ t0_0.toInt ∧ t0_0.toInt ≤ 1026 := btt0_0; have t2 : t0_1.toInt ≤ 200000 := pre3; omega)), (show (t0_0, t0_1, t1_0) = (F_Dig_round x2 x3 t0_0 t0_1 t1_0) from (by rw [F_Dig_round.eq_1, if_neg c9]))⟩) d_5_6_8
def F_Dig_writePlain_c100 (K_F_Dig_writePlain_L10 : Int32 → Int32 → (Nat → Int64) → (Int32 × (Nat → Int64))) (K_F_Dig_writePlain_L79 : Int32 → Int32 → (Nat → Int64) → (Int32 × (Nat → Int64))) (R : Int32) (N : Int32) (K : Int32) (x3 : Int32) (x4 : Int32) (x5 : Int32) (t0_0 : Int32) (t0_1 : Int32) (t1_0 : (Nat → Int32)) (t2_0 : Int32) (t3_0 : (Nat → Int64)) (lx21 : Int32) (lx22 : Int32) (lx23 : (Nat → Int64)) (lx40 : Int32) (lx41 : (Nat → Int64)) (lx58 : Int32) (lx59 : Int32) (lx60 : (Nat → Int64)) (p99 : (Int32 × (Nat → Int64))) : Int32 × (Nat → Int64) := K_F_Dig_writePlain_L79 (lx58 + 1 : Int32) (p99.1 : Int32) (p99.2 : (Nat → Int64))
def F_Dig_writePlain_L79 (K_F_Dig_writePlain_L10 : Int32 → Int32 → (Nat → Int64) → (Int32 × (Nat → Int64))) (R : Int32) (N : Int32) (K : Int32) (x3 : Int32) (x4 : Int32) (x5 : Int32) (t0_0 : Int32) (t0_1 : Int32) (t1_0 : (Nat → Int32)) (t2_0 : Int32) (t3_0 : (Nat → Int64)) (lx21 : Int32) (lx22 : Int32) (lx23 : (Nat → Int64)) (lx40 : Int32) (lx41 : (Nat → Int64)) : Nat → Int32 → Int32 → (Nat → Int64) → (Int32 × (Nat → Int64))
  | 0, _, _, _ => default
  | fm + 1, lx58, lx59, lx60 => if x3 < lx58 then ((lx59, lx60)) else (F_Dig_writePlain_c100 K_F_Dig_writePlain_L10 (F_Dig_writePlain_L79 K_F_Dig_writePlain_L10 R N K x3 x4 x5 t0_0 t0_1 t1_0 t2_0 t3_0 lx21 lx22 lx23 lx40 lx41 fm) R N K x3 x4 x5 t0_0 t0_1 t1_0 t2_0 t3_0 lx21 lx22 lx23 lx40 lx41 lx58 lx59 lx60 ((F_She_add_p R N K (48 + ((F_Dig_figure (t0_1 + lx58 : Int32) t0_0 t0_1 t1_0) : Int32) : Int32) lx59 lx60) : (Int32 × (Nat → Int64))))
def F_Dig_writePlain_J76 (K_F_Dig_writePlain_L10 : Int32 → Int32 → (Nat → Int64) → (Int32 × (Nat → Int64))) (R : Int32) (N : Int32) (K : Int32) (x3 : Int32) (x4 : Int32) (x5 : Int32) (t0_0 : Int32) (t0_1 : Int32) (t1_0 : (Nat → Int32)) (t2_0 : Int32) (t3_0 : (Nat → Int64)) (lx21 : Int32) (lx22 : Int32) (lx23 : (Nat → Int64)) (lx40 : Int32) (lx41 : (Nat → Int64)) : Int32 × (Nat → Int64) := F_Dig_writePlain_L79 K_F_Dig_writePlain_L10 R N K x3 x4 x5 t0_0 t0_1 t1_0 t2_0 t3_0 lx21 lx22 lx23 lx40 lx41 ((200000 - (1 : Int32).toInt).toNat + 1) 1 lx40 lx41
def F_Dig_writePlain_c73 (K_F_Dig_writePlain_L10 : Int32 → Int32 → (Nat → Int64) → (Int32 × (Nat → Int64))) (R : Int32) (N : Int32) (K : Int32) (x3 : Int32) (x4 : Int32) (x5 : Int32) (t0_0 : Int32) (t0_1 : Int32) (t1_0 : (Nat → Int32)) (t2_0 : Int32) (t3_0 : (Nat → Int64)) (lx21 : Int32) (lx22 : Int32) (lx23 : (Nat → Int64)) (p131 : (Int32 × (Nat → Int64))) : Int32 × (Nat → Int64) := F_Dig_writePlain_J76 K_F_Dig_writePlain_L10 R N K x3 x4 x5 t0_0 t0_1 t1_0 t2_0 t3_0 lx21 lx22 lx23 (p131.1 : Int32) (p131.2 : (Nat → Int64))
def F_Dig_writePlain_J70 (K_F_Dig_writePlain_L10 : Int32 → Int32 → (Nat → Int64) → (Int32 × (Nat → Int64))) (R : Int32) (N : Int32) (K : Int32) (x3 : Int32) (x4 : Int32) (x5 : Int32) (t0_0 : Int32) (t0_1 : Int32) (t1_0 : (Nat → Int32)) (t2_0 : Int32) (t3_0 : (Nat → Int64)) (lx21 : Int32) (lx22 : Int32) (lx23 : (Nat → Int64)) : Int32 × (Nat → Int64) := F_Dig_writePlain_c73 K_F_Dig_writePlain_L10 R N K x3 x4 x5 t0_0 t0_1 t1_0 t2_0 t3_0 lx21 lx22 lx23 ((F_She_add_p R N K (46 : Int32) lx22 lx23) : (Int32 × (Nat → Int64)))
def F_Dig_writePlain_c52 (K_F_Dig_writePlain_L10 : Int32 → Int32 → (Nat → Int64) → (Int32 × (Nat → Int64))) (R : Int32) (N : Int32) (K : Int32) (x3 : Int32) (x4 : Int32) (x5 : Int32) (t0_0 : Int32) (t0_1 : Int32) (t1_0 : (Nat → Int32)) (t2_0 : Int32) (t3_0 : (Nat → Int64)) (lx21 : Int32) (lx22 : Int32) (lx23 : (Nat → Int64)) (p167 : (Int32 × (Nat → Int64))) (p207 : (Int32 × (Nat → Int64))) : Int32 × (Nat → Int64) := K_F_Dig_writePlain_L10 (lx21 + (-1) : Int32) (p207.1 : Int32) (p207.2 : (Nat → Int64))
def F_Dig_writePlain_c30 (K_F_Dig_writePlain_L10 : Int32 → Int32 → (Nat → Int64) → (Int32 × (Nat → Int64))) (R : Int32) (N : Int32) (K : Int32) (x3 : Int32) (x4 : Int32) (x5 : Int32) (t0_0 : Int32) (t0_1 : Int32) (t1_0 : (Nat → Int32)) (t2_0 : Int32) (t3_0 : (Nat → Int64)) (lx21 : Int32) (lx22 : Int32) (lx23 : (Nat → Int64)) (p167 : (Int32 × (Nat → Int64))) : Int32 × (Nat → Int64) := if x4 = (0 : Int32) then (K_F_Dig_writePlain_L10 (lx21 + (-1) : Int32) (p167.1 : Int32) (p167.2 : (Nat → Int64))) else (if lx21 ≤ (0 : Int32) then (K_F_Dig_writePlain_L10 (lx21 + (-1) : Int32) (p167.1 : Int32) (p167.2 : (Nat → Int64))) else (if (lx21 - lx21 / 3 * 3 : Int32) = (0 : Int32) then (F_Dig_writePlain_c52 K_F_Dig_writePlain_L10 R N K x3 x4 x5 t0_0 t0_1 t1_0 t2_0 t3_0 lx21 lx22 lx23 p167 ((F_She_add_p R N K (44 : Int32) (p167.1 : Int32) (p167.2 : (Nat → Int64))) : (Int32 × (Nat → Int64)))) else (K_F_Dig_writePlain_L10 (lx21 + (-1) : Int32) (p167.1 : Int32) (p167.2 : (Nat → Int64)))))
def F_Dig_writePlain_L10 (R : Int32) (N : Int32) (K : Int32) (x3 : Int32) (x4 : Int32) (x5 : Int32) (t0_0 : Int32) (t0_1 : Int32) (t1_0 : (Nat → Int32)) (t2_0 : Int32) (t3_0 : (Nat → Int64)) : Nat → Int32 → Int32 → (Nat → Int64) → (Int32 × (Nat → Int64))
  | 0, _, _, _ => default
  | fm + 1, lx21, lx22, lx23 => if lx21 < (0 : Int32) then (if (0 : Int32) < x3 then (F_Dig_writePlain_J70 (F_Dig_writePlain_L10 R N K x3 x4 x5 t0_0 t0_1 t1_0 t2_0 t3_0 fm) R N K x3 x4 x5 t0_0 t0_1 t1_0 t2_0 t3_0 lx21 lx22 lx23) else (if x5 = (0 : Int32) then (F_Dig_writePlain_J76 (F_Dig_writePlain_L10 R N K x3 x4 x5 t0_0 t0_1 t1_0 t2_0 t3_0 fm) R N K x3 x4 x5 t0_0 t0_1 t1_0 t2_0 t3_0 lx21 lx22 lx23 lx22 lx23) else (F_Dig_writePlain_J70 (F_Dig_writePlain_L10 R N K x3 x4 x5 t0_0 t0_1 t1_0 t2_0 t3_0 fm) R N K x3 x4 x5 t0_0 t0_1 t1_0 t2_0 t3_0 lx21 lx22 lx23))) else (F_Dig_writePlain_c30 (F_Dig_writePlain_L10 R N K x3 x4 x5 t0_0 t0_1 t1_0 t2_0 t3_0 fm) R N K x3 x4 x5 t0_0 t0_1 t1_0 t2_0 t3_0 lx21 lx22 lx23 ((F_She_add_p R N K (48 + ((F_Dig_figure (t0_1 - lx21 : Int32) t0_0 t0_1 t1_0) : Int32) : Int32) lx22 lx23) : (Int32 × (Nat → Int64))))
def F_Dig_writePlain (R : Int32) (N : Int32) (K : Int32) (x3 : Int32) (x4 : Int32) (x5 : Int32) (t0_0 : Int32) (t0_1 : Int32) (t1_0 : (Nat → Int32)) (t2_0 : Int32) (t3_0 : (Nat → Int64)) : Int32 × (Nat → Int64) := F_Dig_writePlain_L10 R N K x3 x4 x5 t0_0 t0_1 t1_0 t2_0 t3_0 (((if t0_1 < 0 then 0 else t0_1 : Int32).toInt - ((-1000000))).toNat + 1) (if t0_1 < 0 then 0 else t0_1 : Int32) t2_0 t3_0
set_option maxRecDepth 100000 in
set_option maxHeartbeats 4000000 in
theorem X_Dig_writePlain (l : Launch) (D : va_G) (g : Nat → ClassId) (q : Nat → Nat) (ws : va_W) (k2 : Nat) (R N K : Int32) (hB2 : q_isShe (nsh g q) g q k2 R N K) (x3 : Int32) (x4 : Int32) (x5 : Int32) (hI : q_I (nsh g q) q ws) (t0_0 : Int32) (t0_1 : Int32) (hT0 : ws[36]? = (some (q 36, .inr (7, [.int t0_0, .int t0_1, .ref (q 37)])) : Option (Nat × va_E))) (t1_0 : (Nat → Int32)) (hT1 : ws[37]? = (some (q 37, .inl (g 2, 1026, .inl t1_0)) : Option (Nat × va_E))) (t2_0 : Int32) (hT2 : ws[k2]? = (some (q k2, .inr (1, [.ref (q (k2 + 1)), .int R, .int t2_0])) : Option (Nat × va_E))) (t3_0 : (Nat → Int64)) (hT3 : ws[k2 + 1]? = (some (q (k2 + 1), .inl (g 1, N.toNatClampNeg, .inr (.inl t3_0))) : Option (Nat × va_E))) (hzx4 : 0 ≤ x4.toInt ∧ x4.toInt ≤ 1) (hzx5 : 0 ≤ x5.toInt ∧ x5.toInt ≤ 1) (pre0 : t0_1.toInt ≤ 200000) (pre1 : x3.toInt ≤ 20000) (pre2 : t2_0.toInt ≤ 400000) (pre3 : 1000000 ≤ K.toInt) : q_mV l y_Dig_writePlain prog_5_method_9_code 6 2 0 0 D g [.ref (q 36), .ref (q k2), .int x3, .int x4, .int x5] ws (fun u => q_I (nsh g q) q u ∧ q_un ws u [k2, k2 + 1] ∧ ∃ (u2_0 : Int32) (u3_0 : (Nat → Int64)), u[k2]? = (some (q k2, .inr (1, [.ref (q (k2 + 1)), .int R, .int u2_0])) : Option (Nat × va_E)) ∧ u[k2 + 1]? = (some (q (k2 + 1), .inl (g 1, N.toNatClampNeg, .inr (.inl u3_0))) : Option (Nat × va_E)) ∧ (x3.toInt + 1 ≤ u2_0.toInt) ∧ (x5.toInt + 1 ≤ u2_0.toInt) ∧ (t0_1.toInt + 1 ≤ u2_0.toInt) ∧ (u2_0.toInt ≤ t0_1.toInt + 1420003) ∧ (t2_0.toInt + 1 ≤ u2_0.toInt) ∧ (u2_0.toInt ≤ t2_0.toInt + 420003) ∧ (u2_0, u3_0) = (F_Dig_writePlain R N K x3 x4 x5 t0_0 t0_1 t1_0 t2_0 t3_0)) := by
  intro sz
  refine q_into (by decide) (Nat.le_of_ble_eq_true rfl) ?_
  intro p e s m below meth c ls hsz C0 V hl
  have hx := C0.1
  have hb := C0.2.1
  clear hzx4
  replace hzx5 : q_F (0 ≤ x5.toInt ∧ x5.toInt ≤ 1) := hzx5
  have btt0_1 := (n_w36 hI hT0).2
  replace btt0_1 : q_F (-1000000 ≤ t0_1.toInt ∧ t0_1.toInt ≤ 1000000) := btt0_1
  have btt2_0 := n_shW hI hB2 hT2
  replace btt2_0 : q_F (0 ≤ t2_0.toInt ∧ t2_0.toInt ≤ K.toInt) := btt2_0
  replace pre0 : q_F (t0_1.toInt ≤ 200000) := pre0
  replace pre1 : q_F (x3.toInt ≤ 20000) := pre1
  replace pre2 : q_F (t2_0.toInt ≤ 400000) := pre2
  replace pre3 : q_F (1000000 ≤ K.toInt) := pre3
  have hF : q_un ws ws [k2, k2 + 1] := q_u0
  have hl : lv_has ls 6 [(0, .ref (q 36)), (1, .ref (q k2)), (2, .int x3), (3, .int x4), (4, .int x5)] := hl
  refine lv_aload_n hx hb d_5_9_0 rfl (lv_at hl 0 rfl) ?_
  refine q_get (ci := 7) (j := 1) (v := .int t0_1) C0 V i_Dig rfl rfl hT0 (by decide) w_266 rfl d_5_9_1 ?_
  refine lv_iconst (v := 0) hx hb d_5_9_4 (by decide) ?_
  refine q_max C0 hl.1 rfl w_1571 w_803 w_7 w_804 ⟨Nat.le_of_ble_eq_true rfl, Nat.le_of_ble_eq_true rfl⟩ ⟨Nat.le_of_ble_eq_true rfl, Nat.le_of_ble_eq_true rfl⟩ d_5_9_5 ?_
  obtain ⟨a14, e15⟩ := q_nm (if t0_1 < 0 then 0 else t0_1 : Int32)
  refine q_ti (v := a14) e15 ?_
  have b16 : q_F (t0_1.toInt ≤ a14.toInt ∧ 0 ≤ a14.toInt ∧ (a14.toInt = t0_1.toInt ∨ a14.toInt = 0)) := (by rw [← e15]; show t0_1.toInt ≤ (if t0_1 < 0 then 0 else t0_1 : Int32).toInt ∧ 0 ≤ (if t0_1 < 0 then 0 else t0_1 : Int32).toInt ∧ ((if t0_1 < 0 then 0 else t0_1 : Int32).toInt = t0_1.toInt ∨ (if t0_1 < 0 then 0 else t0_1 : Int32).toInt = 0); exact (by have y1 : (0 : Int32).toInt = 0 := rfl; have z := s_max (a := t0_1) (b := 0); omega))
  refine lv_istore (lv' := [(5, .int a14), (0, .ref (q 36)), (1, .ref (q k2)), (2, .int x3), (3, .int x4), (4, .int x5)]) hx hb d_5_9_8 hl (by decide) rfl (fun ls hl => ?_)
  refine q_loop (X := Int32 × Int32 × (Nat → Int64)) (fun z H locs ls w28 => q_F (0 ≤ z.1.toInt + 1) ∧ q_F (a14.toInt + t2_0.toInt ≤ z.1.toInt + z.2.1.toInt) ∧ q_F (z.2.1.toInt + 2 * z.1.toInt ≤ t2_0.toInt + 2 * a14.toInt) ∧ q_Wd D g (va_A ws sz) s w28 H locs ∧ lv_has ls 6 [(5, .int z.1), (0, .ref (q 36)), (1, .ref (q k2)), (2, .int x3), (3, .int x4), (4, .int x5)] ∧ q_I (nsh g q) q w28 ∧ q_un ws w28 [k2, k2 + 1] ∧ w28[36]? = (some (q 36, .inr (7, [.int t0_0, .int t0_1, .ref (q 37)])) : Option (Nat × va_E)) ∧ w28[37]? = (some (q 37, .inl (g 2, 1026, .inl t1_0)) : Option (Nat × va_E)) ∧ w28[k2]? = (some (q k2, .inr (1, [.ref (q (k2 + 1)), .int R, .int z.2.1])) : Option (Nat × va_E)) ∧ w28[k2 + 1]? = (some (q (k2 + 1), .inl (g 1, N.toNatClampNeg, .inr (.inl z.2.2))) : Option (Nat × va_E)) ∧ (∃ n, (z.1.toInt - ((-1000000))).toNat < n ∧ F_Dig_writePlain_L10 R N K x3 x4 x5 t0_0 t0_1 t1_0 t2_0 t3_0 n z.1 z.2.1 z.2.2 = (F_Dig_writePlain R N K x3 x4 x5 t0_0 t0_1 t1_0 t2_0 t3_0))) (fun z => (z.1.toInt - ((-1000000))).toNat) ?_ ((a14 : Int32), (t2_0 : Int32), (t3_0 : (Nat → Int64))) _ _ _ ws ⟨(show q_F (0 ≤ a14.toInt + 1) from (show 0 ≤ a14.toInt + 1 from by have t1 : t0_1.toInt ≤ a14.toInt ∧ 0 ≤ a14.toInt ∧ (a14.toInt = t0_1.toInt ∨ a14.toInt = 0) := b16; omega)), (show q_F (a14.toInt + t2_0.toInt ≤ a14.toInt + t2_0.toInt) from (show a14.toInt + t2_0.toInt ≤ a14.toInt + t2_0.toInt from by omega)), (show q_F (t2_0.toInt + 2 * a14.toInt ≤ t2_0.toInt + 2 * a14.toInt) from (show t2_0.toInt + 2 * a14.toInt ≤ t2_0.toInt + 2 * a14.toInt from by omega)), V, q_lw hl (q_lw1 0 rfl (q_lw1 1 rfl (q_lw1 2 rfl (q_lw1 3 rfl (q_lw1 4 rfl (q_lw1 5 rfl q_lw0)))))), hI, hF, hT0, hT1, hT2, hT3, ⟨((a14.toInt - ((-1000000))).toNat + 1), Nat.lt_succ_self _, (show F_Dig_writePlain_L10 R N K x3 x4 x5 t0_0 t0_1 t1_0 t2_0 t3_0 ((a14.toInt - ((-1000000))).toNat + 1) a14 t2_0 t3_0 = (F_Dig_writePlain R N K x3 x4 x5 t0_0 t0_1 t1_0 t2_0 t3_0) from (by rw [← e15, F_Dig_writePlain.eq_1]))⟩⟩
  rintro ⟨lx21, lx22, lx23⟩ H locs ls w28 ⟨i24, i25, i26, V, hl, hI, hF, hO29, hO30, hO31, hO32, ⟨fu35, hf36, hR33⟩⟩ ih27
  obtain ⟨fm37, rfl⟩ : ∃ m, fu35 = m + 1 := ⟨fu35 - 1, by omega⟩
  replace i24 : q_F (0 ≤ lx21.toInt + 1) := i24
  replace i25 : q_F (a14.toInt + t2_0.toInt ≤ lx21.toInt + lx22.toInt) := i25
  replace i26 : q_F (lx22.toInt + 2 * lx21.toInt ≤ t2_0.toInt + 2 * a14.toInt) := i26
  replace hl : lv_has ls 6 [(5, .int lx21), (0, .ref (q 36)), (1, .ref (q k2)), (2, .int x3), (3, .int x4), (4, .int x5)] := hl
  replace hO29 : w28[36]? = (some (q 36, .inr (7, [.int t0_0, .int t0_1, .ref (q 37)])) : Option (Nat × va_E)) := hO29
  replace hO30 : w28[37]? = (some (q 37, .inl (g 2, 1026, .inl t1_0)) : Option (Nat × va_E)) := hO30
  replace hO31 : w28[k2]? = (some (q k2, .inr (1, [.ref (q (k2 + 1)), .int R, .int lx22])) : Option (Nat × va_E)) := hO31
  replace hO32 : w28[k2 + 1]? = (some (q (k2 + 1), .inl (g 1, N.toNatClampNeg, .inr (.inl lx23))) : Option (Nat × va_E)) := hO32
  refine lv_iload hx hb d_5_9_10 (lv_at hl 0 rfl) ?_
  refine lv_if_lt (tgt := 61) hx hb d_5_9_12 (by decide) (fun c38 => ?_) (fun c38 => ?_)
  ·
    have b39 : q_F (lx21.toInt < 0) := (q_ltI c38)
    refine lv_iload_n hx hb d_5_9_61 rfl (lv_at hl 3 rfl) ?_
    refine q_join (X := Int32 × (Nat → Int64)) (fun z H locs ls w51 => q_F (x3.toInt ≤ z.1.toInt + 19998) ∧ q_F (x5.toInt + 1 ≤ z.1.toInt) ∧ q_F (lx22.toInt ≤ z.1.toInt) ∧ q_F (z.1.toInt ≤ lx22.toInt + 1) ∧ q_Wd D g (va_A ws sz) s w51 H locs ∧ lv_has ls 6 [(0, .ref (q 36)), (1, .ref (q k2)), (2, .int x3)] ∧ q_I (nsh g q) q w51 ∧ q_un ws w51 [k2, k2 + 1] ∧ w51[36]? = (some (q 36, .inr (7, [.int t0_0, .int t0_1, .ref (q 37)])) : Option (Nat × va_E)) ∧ w51[37]? = (some (q 37, .inl (g 2, 1026, .inl t1_0)) : Option (Nat × va_E)) ∧ w51[k2]? = (some (q k2, .inr (1, [.ref (q (k2 + 1)), .int R, .int z.1])) : Option (Nat × va_E)) ∧ w51[k2 + 1]? = (some (q (k2 + 1), .inl (g 1, N.toNatClampNeg, .inr (.inl z.2))) : Option (Nat × va_E)) ∧ F_Dig_writePlain_J76 (F_Dig_writePlain_L10 R N K x3 x4 x5 t0_0 t0_1 t1_0 t2_0 t3_0 fm37) R N K x3 x4 x5 t0_0 t0_1 t1_0 t2_0 t3_0 lx21 lx22 lx23 z.1 z.2 = (F_Dig_writePlain R N K x3 x4 x5 t0_0 t0_1 t1_0 t2_0 t3_0)) (fun z => []) 76 0 0 ?_ ?_
    ·
      rintro ⟨lx40, lx41⟩ H locs ls w51 ⟨i47, i48, i49, i50, V, hl, hI, hF, hO42, hA43, hO44, hA45, hR52⟩
      clear i47
      replace i48 : q_F (x5.toInt + 1 ≤ lx40.toInt) := i48
      replace i49 : q_F (lx22.toInt ≤ lx40.toInt) := i49
      replace i50 : q_F (lx40.toInt ≤ lx22.toInt + 1) := i50
      replace hl : lv_has ls 6 [(0, .ref (q 36)), (1, .ref (q k2)), (2, .int x3)] := hl
      replace hO42 : w51[36]? = (some (q 36, .inr (7, [.int t0_0, .int t0_1, .ref (q 37)])) : Option (Nat × va_E)) := hO42
      replace hA43 : w51[37]? = (some (q 37, .inl (g 2, 1026, .inl t1_0)) : Option (Nat × va_E)) := hA43
      replace hO44 : w51[k2]? = (some (q k2, .inr (1, [.ref (q (k2 + 1)), .int R, .int lx40])) : Option (Nat × va_E)) := hO44
      replace hA45 : w51[k2 + 1]? = (some (q (k2 + 1), .inl (g 1, N.toNatClampNeg, .inr (.inl lx41))) : Option (Nat × va_E)) := hA45
      refine lv_iconst (v := 1) hx hb d_5_9_76 (by decide) ?_
      refine lv_istore (lv' := [(5, .int 1), (0, .ref (q 36)), (1, .ref (q k2)), (2, .int x3)]) hx hb d_5_9_77 hl (by decide) rfl (fun ls hl => ?_)
      refine q_loop (X := Int32 × Int32 × (Nat → Int64)) (fun z H locs ls w66 => q_F (z.1.toInt ≤ 20001) ∧ q_F (lx40.toInt + 1 ≤ z.1.toInt + z.2.1.toInt) ∧ q_F (z.2.1.toInt + 1 ≤ z.1.toInt + lx40.toInt) ∧ q_F (z.1.toInt + lx40.toInt ≤ z.2.1.toInt + 1) ∧ q_Wd D g (va_A ws sz) s w66 H locs ∧ lv_has ls 6 [(5, .int z.1), (0, .ref (q 36)), (1, .ref (q k2)), (2, .int x3)] ∧ q_I (nsh g q) q w66 ∧ q_un ws w66 [k2, k2 + 1] ∧ w66[36]? = (some (q 36, .inr (7, [.int t0_0, .int t0_1, .ref (q 37)])) : Option (Nat × va_E)) ∧ w66[37]? = (some (q 37, .inl (g 2, 1026, .inl t1_0)) : Option (Nat × va_E)) ∧ w66[k2]? = (some (q k2, .inr (1, [.ref (q (k2 + 1)), .int R, .int z.2.1])) : Option (Nat × va_E)) ∧ w66[k2 + 1]? = (some (q (k2 + 1), .inl (g 1, N.toNatClampNeg, .inr (.inl z.2.2))) : Option (Nat × va_E)) ∧ (∃ n, (200000 - z.1.toInt).toNat < n ∧ F_Dig_writePlain_L79 (F_Dig_writePlain_L10 R N K x3 x4 x5 t0_0 t0_1 t1_0 t2_0 t3_0 fm37) R N K x3 x4 x5 t0_0 t0_1 t1_0 t2_0 t3_0 lx21 lx22 lx23 lx40 lx41 n z.1 z.2.1 z.2.2 = (F_Dig_writePlain R N K x3 x4 x5 t0_0 t0_1 t1_0 t2_0 t3_0))) (fun z => (200000 - z.1.toInt).toNat) ?_ ((1 : Int32), (lx40 : Int32), (lx41 : (Nat → Int64))) _ _ _ w51 ⟨(show q_F (1 ≤ 20001) from (show 1 ≤ 20001 from by omega)), (show q_F (lx40.toInt + 1 ≤ 1 + lx40.toInt) from (show lx40.toInt + 1 ≤ 1 + lx40.toInt from by omega)), (show q_F (lx40.toInt + 1 ≤ 1 + lx40.toInt) from (show lx40.toInt + 1 ≤ 1 + lx40.toInt from by omega)), (show q_F (1 + lx40.toInt ≤ lx40.toInt + 1) from (show 1 + lx40.toInt ≤ lx40.toInt + 1 from by omega)), V, q_lw hl (q_lw1 0 rfl (q_lw1 1 rfl (q_lw1 2 rfl (q_lw1 3 rfl q_lw0)))), hI, hF, hO42, hA43, hO44, hA45, ⟨((200000 - (1 : Int32).toInt).toNat + 1), Nat.lt_succ_self _, (show F_Dig_writePlain_L79 (F_Dig_writePlain_L10 R N K x3 x4 x5 t0_0 t0_1 t1_0 t2_0 t3_0 fm37) R N K x3 x4 x5 t0_0 t0_1 t1_0 t2_0 t3_0 lx21 lx22 lx23 lx40 lx41 ((200000 - (1 : Int32).toInt).toNat + 1) 1 lx40 lx41 = (F_Dig_writePlain R N K x3 x4 x5 t0_0 t0_1 t1_0 t2_0 t3_0) from Eq.trans (by rw [F_Dig_writePlain_J76.eq_1]) hR52)⟩⟩
      rintro ⟨lx58, lx59, lx60⟩ H locs ls w66 ⟨i61, i62, i63, i64, V, hl, hI, hF, hO67, hO68, hO69, hO70, ⟨fu73, hf74, hR71⟩⟩ ih65
      obtain ⟨fm75, rfl⟩ : ∃ m, fu73 = m + 1 := ⟨fu73 - 1, by omega⟩
      replace i61 : q_F (lx58.toInt ≤ 20001) := i61
      replace i62 : q_F (lx40.toInt + 1 ≤ lx58.toInt + lx59.toInt) := i62
      replace i63 : q_F (lx59.toInt + 1 ≤ lx58.toInt + lx40.toInt) := i63
      replace i64 : q_F (lx58.toInt + lx40.toInt ≤ lx59.toInt + 1) := i64
      replace hl : lv_has ls 6 [(5, .int lx58), (0, .ref (q 36)), (1, .ref (q k2)), (2, .int x3)] := hl
      replace hO67 : w66[36]? = (some (q 36, .inr (7, [.int t0_0, .int t0_1, .ref (q 37)])) : Option (Nat × va_E)) := hO67
      replace hO68 : w66[37]? = (some (q 37, .inl (g 2, 1026, .inl t1_0)) : Option (Nat × va_E)) := hO68
      replace hO69 : w66[k2]? = (some (q k2, .inr (1, [.ref (q (k2 + 1)), .int R, .int lx59])) : Option (Nat × va_E)) := hO69
      replace hO70 : w66[k2 + 1]? = (some (q (k2 + 1), .inl (g 1, N.toNatClampNeg, .inr (.inl lx60))) : Option (Nat × va_E)) := hO70
      refine lv_iload hx hb d_5_9_79 (lv_at hl 0 rfl) ?_
      refine lv_iload_n hx hb d_5_9_81 rfl (lv_at hl 3 rfl) ?_
      refine lv_icmp_gt (tgt := 109) hx hb d_5_9_82 (by decide) (fun c76 => ?_) (fun c76 => ?_)
      ·
        have b77 : q_F (x3.toInt < lx58.toInt) := (q_ltI c76)
        exact q_retv C0 V (⟨hI, hF, lx59, lx60, hO69, hO70, (show x3.toInt + 1 ≤ lx59.toInt from (by have t1 : 0 ≤ x5.toInt ∧ x5.toInt ≤ 1 := hzx5; have t2 : x5.toInt + 1 ≤ lx40.toInt := i48; have t3 : lx58.toInt + lx40.toInt ≤ lx59.toInt + 1 := i64; have t4 : x3.toInt < lx58.toInt := b77; omega)), (show x5.toInt + 1 ≤ lx59.toInt from (by have t1 : x5.toInt + 1 ≤ lx40.toInt := i48; have t2 : lx40.toInt + 1 ≤ lx58.toInt + lx59.toInt := i62; have t3 : lx58.toInt + lx40.toInt ≤ lx59.toInt + 1 := i64; omega)), (show t0_1.toInt + 1 ≤ lx59.toInt from (by have t1 : 0 ≤ t2_0.toInt ∧ t2_0.toInt ≤ K.toInt := btt2_0; have t2 : t0_1.toInt ≤ a14.toInt ∧ 0 ≤ a14.toInt ∧ (a14.toInt = t0_1.toInt ∨ a14.toInt = 0) := b16; have t3 : a14.toInt + t2_0.toInt ≤ lx21.toInt + lx22.toInt := i25; have t4 : lx21.toInt < 0 := b39; have t5 : lx22.toInt ≤ lx40.toInt := i49; have t6 : lx40.toInt + 1 ≤ lx58.toInt + lx59.toInt := i62; have t7 : lx58.toInt + lx40.toInt ≤ lx59.toInt + 1 := i64; omega)), (show lx59.toInt ≤ t0_1.toInt + 1420003 from (by have t1 : -1000000 ≤ t0_1.toInt ∧ t0_1.toInt ≤ 1000000 := btt0_1; have t2 : t2_0.toInt ≤ 400000 := pre2; have t3 : t0_1.toInt ≤ a14.toInt ∧ 0 ≤ a14.toInt ∧ (a14.toInt = t0_1.toInt ∨ a14.toInt = 0) := b16; have t4 : 0 ≤ lx21.toInt + 1 := i24; have t5 : lx22.toInt + 2 * lx21.toInt ≤ t2_0.toInt + 2 * a14.toInt := i26; have t6 : lx40.toInt ≤ lx22.toInt + 1 := i50; have t7 : lx58.toInt ≤ 20001 := i61; have t8 : lx59.toInt + 1 ≤ lx58.toInt + lx40.toInt := i63; omega)), (show t2_0.toInt + 1 ≤ lx59.toInt from (by have t1 : t0_1.toInt ≤ a14.toInt ∧ 0 ≤ a14.toInt ∧ (a14.toInt = t0_1.toInt ∨ a14.toInt = 0) := b16; have t2 : a14.toInt + t2_0.toInt ≤ lx21.toInt + lx22.toInt := i25; have t3 : lx21.toInt < 0 := b39; have t4 : lx22.toInt ≤ lx40.toInt := i49; have t5 : lx40.toInt + 1 ≤ lx58.toInt + lx59.toInt := i62; have t6 : lx58.toInt + lx40.toInt ≤ lx59.toInt + 1 := i64; omega)), (show lx59.toInt ≤ t2_0.toInt + 420003 from (by have t1 : t0_1.toInt ≤ 200000 := pre0; have t2 : t0_1.toInt ≤ a14.toInt ∧ 0 ≤ a14.toInt ∧ (a14.toInt = t0_1.toInt ∨ a14.toInt = 0) := b16; have t3 : 0 ≤ lx21.toInt + 1 := i24; have t4 : lx22.toInt + 2 * lx21.toInt ≤ t2_0.toInt + 2 * a14.toInt := i26; have t5 : lx40.toInt ≤ lx22.toInt + 1 := i50; have t6 : lx58.toInt ≤ 20001 := i61; have t7 : lx59.toInt + 1 ≤ lx58.toInt + lx40.toInt := i63; omega)), (show (lx59, lx60) = (F_Dig_writePlain R N K x3 x4 x5 t0_0 t0_1 t1_0 t2_0 t3_0) from Eq.trans (by rw [F_Dig_writePlain_L79.eq_2, if_pos c76]) hR71)⟩) d_5_9_109
      ·
        have b78 : q_F (lx58.toInt ≤ x3.toInt) := (q_nltI c76)
        refine lv_aload_n hx hb d_5_9_85 rfl (lv_at hl 2 rfl) ?_
        refine lv_bipush (v := 48) hx hb d_5_9_86 (by decide) ?_
        refine lv_aload_n hx hb d_5_9_88 rfl (lv_at hl 1 rfl) ?_
        refine lv_aload_n hx hb d_5_9_89 rfl (lv_at hl 1 rfl) ?_
        refine q_get (ci := 7) (j := 1) (v := .int t0_1) C0 V i_Dig rfl rfl hO67 (by decide) w_266 rfl d_5_9_90 ?_
        refine lv_iload hx hb d_5_9_93 (lv_at hl 0 rfl) ?_
        refine lv_iadd hx hb d_5_9_95 ?_
        obtain ⟨a79, e80⟩ := q_nm (t0_1 + lx58 : Int32)
        refine q_ti (v := a79) e80 ?_
        refine q_goi V (q_runV (As := [.int a79]) (rest := [.int 48, .ref (q k2)]) (d := 1) (mc := 0) (ms := 0) (ci := 7) C0 V rfl LV_Dig_49 (X_Dig_figure l D g q w66  a79 hI t0_0 t0_1 hO67 t1_0 hO68  _) rfl rfl hO67 rfl hl.1 rfl (Nat.le_of_ble_eq_true rfl) ⟨by decide, by decide⟩ ⟨Nat.le_of_ble_eq_true rfl, Nat.le_of_ble_eq_true rfl⟩ d_5_9_96) (fun a84 u82 H locs hp83 V => ?_)
        obtain ⟨rfl, hE85⟩ := hp83
        have e86 : a84 = (F_Dig_figure a79 t0_0 t0_1 t1_0) := hE85
        refine lv_iadd hx hb d_5_9_99 ?_
        obtain ⟨a87, e88⟩ := q_nm (48 + a84 : Int32)
        refine q_ti (v := a87) e88 ?_
        refine q_gov V (q_runV (As := [.int a87]) (rest := []) (d := 1) (mc := 0) (ms := 0) (ci := 1) C0 V rfl LV_Dig_52 (X_She_add_p l D g q w66 k2 R N K hB2 a87 hI lx59 hO69 lx60 hO70 (by have t1 : t0_1.toInt ≤ 200000 := pre0; have t2 : t2_0.toInt ≤ 400000 := pre2; have t3 : 1000000 ≤ K.toInt := pre3; have t4 : t0_1.toInt ≤ a14.toInt ∧ 0 ≤ a14.toInt ∧ (a14.toInt = t0_1.toInt ∨ a14.toInt = 0) := b16; have t5 : 0 ≤ lx21.toInt + 1 := i24; have t6 : lx22.toInt + 2 * lx21.toInt ≤ t2_0.toInt + 2 * a14.toInt := i26; have t7 : lx40.toInt ≤ lx22.toInt + 1 := i50; have t8 : lx58.toInt ≤ 20001 := i61; have t9 : lx59.toInt + 1 ≤ lx58.toInt + lx40.toInt := i63; omega) _) rfl rfl hO69 rfl hl.1 rfl (Nat.le_of_ble_eq_true rfl) ⟨by decide, by decide⟩ ⟨Nat.le_of_ble_eq_true rfl, Nat.le_of_ble_eq_true rfl⟩ d_5_9_100) (fun u89 H locs hp90 V => ?_)
        obtain ⟨hI, hZ9⟩ := hp90
        obtain ⟨hu98, hZ9⟩ := hZ9
        obtain ⟨y92, hZ9⟩ := hZ9
        obtain ⟨f93, hZ9⟩ := hZ9
        obtain ⟨hO91, hZ9⟩ := hZ9
        obtain ⟨hA94, hZ9⟩ := hZ9
        obtain ⟨b95, hZ9⟩ := hZ9
        obtain ⟨b96, hE97⟩ := hZ9
        replace hO91 : u89[k2]? = (some (q k2, .inr (1, [.ref (q (k2 + 1)), .int R, .int y92])) : Option (Nat × va_E)) := hO91
        replace hA94 : u89[k2 + 1]? = (some (q (k2 + 1), .inl (g 1, N.toNatClampNeg, .inr (.inl f93))) : Option (Nat × va_E)) := hA94
        obtain ⟨p99, e100⟩ : ∃ z, z = (F_She_add_p R N K a87 lx59 lx60) := ⟨_, rfl⟩
        have e101 : y92 = p99.1 := congrArg (fun z => z.1) (hE97.trans e100.symm)
        have e102 : f93 = p99.2 := congrArg (fun z => z.2) (hE97.trans e100.symm)
        replace b95 : q_F (lx59.toInt + 1 ≤ y92.toInt) := b95
        replace b96 : q_F (y92.toInt ≤ lx59.toInt + 1) := b96
        replace hO67 := (hu98 _ (by have z0 := hB2.2.2.2; simp only [List.mem_cons, List.not_mem_nil, or_false, not_or]; omega)).trans hO67
        replace hO68 := (hu98 _ (by have z0 := hB2.2.2.2; simp only [List.mem_cons, List.not_mem_nil, or_false, not_or]; omega)).trans hO68
        replace hF := q_uc hF hu98 (by first | exact (q_sk (q_mi 0 rfl) (q_sk (q_mi 1 rfl) q_s0)) | simp)
        have hR103 := (show F_Dig_writePlain_c100 (F_Dig_writePlain_L10 R N K x3 x4 x5 t0_0 t0_1 t1_0 t2_0 t3_0 fm37) (F_Dig_writePlain_L79 (F_Dig_writePlain_L10 R N K x3 x4 x5 t0_0 t0_1 t1_0 t2_0 t3_0 fm37) R N K x3 x4 x5 t0_0 t0_1 t1_0 t2_0 t3_0 lx21 lx22 lx23 lx40 lx41 fm75) R N K x3 x4 x5 t0_0 t0_1 t1_0 t2_0 t3_0 lx21 lx22 lx23 lx40 lx41 lx58 lx59 lx60 p99 = (F_Dig_writePlain R N K x3 x4 x5 t0_0 t0_1 t1_0 t2_0 t3_0) from Eq.trans (by rw [e100, ← e88, e86, ← e80, F_Dig_writePlain_L79.eq_2, if_neg c76]) hR71)
        obtain ⟨a108, e109⟩ := q_nm (lx58 + 1 : Int32)
        have b110 : q_F (a108.toInt = lx58.toInt + 1) := (by rw [← e109]; exact q_addI (y := 1) rfl (by decide) (by have t1 : lx40.toInt + 1 ≤ lx58.toInt + lx59.toInt := i62; have t2 : lx59.toInt + 1 ≤ lx58.toInt + lx40.toInt := i63; have t3 : lx58.toInt ≤ 20001 := i61; omega) (by have t1 : lx40.toInt + 1 ≤ lx58.toInt + lx59.toInt := i62; have t2 : lx59.toInt + 1 ≤ lx58.toInt + lx40.toInt := i63; have t3 : lx58.toInt ≤ 20001 := i61; omega))
        refine lv_iinc (v := a108) (lv' := [(5, .int a108), (0, .ref (q 36)), (1, .ref (q k2)), (2, .int x3)]) hx hb d_5_9_103 hl (k := 0) rfl (e109) (by decide) rfl (fun ls hl => ?_)
        refine lv_goto (tgt := 79) hx hb d_5_9_106 (by decide) ?_
        exact ih65 ((a108 : Int32), (y92 : Int32), (f93 : (Nat → Int64))) _ _ _ _ (show (200000 - a108.toInt).toNat < (200000 - lx58.toInt).toNat from by have t1 : a108.toInt = lx58.toInt + 1 := b110; have t2 : lx58.toInt ≤ 20001 := i61; omega) ⟨(show q_F (a108.toInt ≤ 20001) from (show a108.toInt ≤ 20001 from by have t1 : x3.toInt ≤ 20000 := pre1; have t2 : lx58.toInt ≤ x3.toInt := b78; have t3 : a108.toInt = lx58.toInt + 1 := b110; omega)), (show q_F (lx40.toInt + 1 ≤ a108.toInt + y92.toInt) from (show lx40.toInt + 1 ≤ a108.toInt + y92.toInt from by have t1 : lx40.toInt + 1 ≤ lx58.toInt + lx59.toInt := i62; have t2 : lx59.toInt + 1 ≤ y92.toInt := b95; have t3 : a108.toInt = lx58.toInt + 1 := b110; omega)), (show q_F (y92.toInt + 1 ≤ a108.toInt + lx40.toInt) from (show y92.toInt + 1 ≤ a108.toInt + lx40.toInt from by have t1 : lx59.toInt + 1 ≤ lx58.toInt + lx40.toInt := i63; have t2 : y92.toInt ≤ lx59.toInt + 1 := b96; have t3 : a108.toInt = lx58.toInt + 1 := b110; omega)), (show q_F (a108.toInt + lx40.toInt ≤ y92.toInt + 1) from (show a108.toInt + lx40.toInt ≤ y92.toInt + 1 from by have t1 : lx58.toInt + lx40.toInt ≤ lx59.toInt + 1 := i64; have t2 : lx59.toInt + 1 ≤ y92.toInt := b95; have t3 : a108.toInt = lx58.toInt + 1 := b110; omega)), V, q_lw hl (q_lw1 0 rfl (q_lw1 1 rfl (q_lw1 2 rfl (q_lw1 3 rfl q_lw0)))), hI, hF, hO67, hO68, hO91, hA94, ⟨fm75, Nat.lt_of_lt_of_le (show (200000 - a108.toInt).toNat < (200000 - lx58.toInt).toNat from by have t1 : a108.toInt = lx58.toInt + 1 := b110; have t2 : lx58.toInt ≤ 20001 := i61; omega) (Nat.le_of_lt_succ hf74), (show F_Dig_writePlain_L79 (F_Dig_writePlain_L10 R N K x3 x4 x5 t0_0 t0_1 t1_0 t2_0 t3_0 fm37) R N K x3 x4 x5 t0_0 t0_1 t1_0 t2_0 t3_0 lx21 lx22 lx23 lx40 lx41 fm75 a108 y92 f93 = (F_Dig_writePlain R N K x3 x4 x5 t0_0 t0_1 t1_0 t2_0 t3_0) from Eq.trans (by rw [← e109, e102, e101, F_Dig_writePlain_c100.eq_1]) hR103)⟩⟩
    ·
      intro J46
      refine q_join (X := Unit) (fun z H locs ls _ => q_Wd D g (va_A ws sz) s w28 H locs ∧ lv_has ls 6 [(0, .ref (q 36)), (1, .ref (q k2)), (2, .int x3)] ∧ F_Dig_writePlain_J70 (F_Dig_writePlain_L10 R N K x3 x4 x5 t0_0 t0_1 t1_0 t2_0 t3_0 fm37) R N K x3 x4 x5 t0_0 t0_1 t1_0 t2_0 t3_0 lx21 lx22 lx23 = (F_Dig_writePlain R N K x3 x4 x5 t0_0 t0_1 t1_0 t2_0 t3_0)) (fun z => []) 70 0 0 ?_ ?_
      ·
        rintro _ H locs ls _ ⟨V, hl, hR116⟩
        replace hl : lv_has ls 6 [(0, .ref (q 36)), (1, .ref (q k2)), (2, .int x3)] := hl
        refine lv_aload_n hx hb d_5_9_70 rfl (lv_at hl 1 rfl) ?_
        refine lv_bipush (v := 46) hx hb d_5_9_71 (by decide) ?_
        refine q_gov V (q_runV (As := [.int 46]) (rest := []) (d := 1) (mc := 0) (ms := 0) (ci := 1) C0 V rfl LV_Dig_52 (X_She_add_p l D g q w28 k2 R N K hB2 46 hI lx22 hO31 lx23 hO32 (by have y0 : (46 : Int32).toInt = 46 := rfl; have t1 : t0_1.toInt ≤ 200000 := pre0; have t2 : t2_0.toInt ≤ 400000 := pre2; have t3 : 1000000 ≤ K.toInt := pre3; have t4 : t0_1.toInt ≤ a14.toInt ∧ 0 ≤ a14.toInt ∧ (a14.toInt = t0_1.toInt ∨ a14.toInt = 0) := b16; have t5 : 0 ≤ lx21.toInt + 1 := i24; have t6 : lx22.toInt + 2 * lx21.toInt ≤ t2_0.toInt + 2 * a14.toInt := i26; omega) _) rfl rfl hO31 rfl hl.1 rfl (Nat.le_of_ble_eq_true rfl) ⟨by decide, by decide⟩ ⟨Nat.le_of_ble_eq_true rfl, Nat.le_of_ble_eq_true rfl⟩ d_5_9_73) (fun u121 H locs hp122 V => ?_)
        obtain ⟨hI, hZ9⟩ := hp122
        obtain ⟨hu130, hZ9⟩ := hZ9
        obtain ⟨y124, hZ9⟩ := hZ9
        obtain ⟨f125, hZ9⟩ := hZ9
        obtain ⟨hO123, hZ9⟩ := hZ9
        obtain ⟨hA126, hZ9⟩ := hZ9
        obtain ⟨b127, hZ9⟩ := hZ9
        obtain ⟨b128, hE129⟩ := hZ9
        replace hO123 : u121[k2]? = (some (q k2, .inr (1, [.ref (q (k2 + 1)), .int R, .int y124])) : Option (Nat × va_E)) := hO123
        replace hA126 : u121[k2 + 1]? = (some (q (k2 + 1), .inl (g 1, N.toNatClampNeg, .inr (.inl f125))) : Option (Nat × va_E)) := hA126
        obtain ⟨p131, e132⟩ : ∃ z, z = (F_She_add_p R N K (46 : Int32) lx22 lx23) := ⟨_, rfl⟩
        have e133 : y124 = p131.1 := congrArg (fun z => z.1) (hE129.trans e132.symm)
        have e134 : f125 = p131.2 := congrArg (fun z => z.2) (hE129.trans e132.symm)
        replace b127 : q_F (lx22.toInt + 1 ≤ y124.toInt) := b127
        replace b128 : q_F (y124.toInt ≤ lx22.toInt + 1) := b128
        replace hO29 := (hu130 _ (by have z0 := hB2.2.2.2; simp only [List.mem_cons, List.not_mem_nil, or_false, not_or]; omega)).trans hO29
        replace hO30 := (hu130 _ (by have z0 := hB2.2.2.2; simp only [List.mem_cons, List.not_mem_nil, or_false, not_or]; omega)).trans hO30
        replace hF := q_uc hF hu130 (by first | exact (q_sk (q_mi 0 rfl) (q_sk (q_mi 1 rfl) q_s0)) | simp)
        have hR135 := (show F_Dig_writePlain_c73 (F_Dig_writePlain_L10 R N K x3 x4 x5 t0_0 t0_1 t1_0 t2_0 t3_0 fm37) R N K x3 x4 x5 t0_0 t0_1 t1_0 t2_0 t3_0 lx21 lx22 lx23 p131 = (F_Dig_writePlain R N K x3 x4 x5 t0_0 t0_1 t1_0 t2_0 t3_0) from Eq.trans (by rw [e132, F_Dig_writePlain_J70.eq_1]) hR116)
        exact J46 ((y124 : Int32), (f125 : (Nat → Int64))) _ _ _ _ ⟨(show q_F (x3.toInt ≤ y124.toInt + 19998) from (show x3.toInt ≤ y124.toInt + 19998 from by have t1 : 0 ≤ t2_0.toInt ∧ t2_0.toInt ≤ K.toInt := btt2_0; have t2 : x3.toInt ≤ 20000 := pre1; have t3 : t0_1.toInt ≤ a14.toInt ∧ 0 ≤ a14.toInt ∧ (a14.toInt = t0_1.toInt ∨ a14.toInt = 0) := b16; have t4 : a14.toInt + t2_0.toInt ≤ lx21.toInt + lx22.toInt := i25; have t5 : lx21.toInt < 0 := b39; have t6 : lx22.toInt + 1 ≤ y124.toInt := b127; omega)), (show q_F (x5.toInt + 1 ≤ y124.toInt) from (show x5.toInt + 1 ≤ y124.toInt from by have t1 : 0 ≤ x5.toInt ∧ x5.toInt ≤ 1 := hzx5; have t2 : 0 ≤ t2_0.toInt ∧ t2_0.toInt ≤ K.toInt := btt2_0; have t3 : t0_1.toInt ≤ a14.toInt ∧ 0 ≤ a14.toInt ∧ (a14.toInt = t0_1.toInt ∨ a14.toInt = 0) := b16; have t4 : a14.toInt + t2_0.toInt ≤ lx21.toInt + lx22.toInt := i25; have t5 : lx21.toInt < 0 := b39; have t6 : lx22.toInt + 1 ≤ y124.toInt := b127; omega)), (show q_F (lx22.toInt ≤ y124.toInt) from (show lx22.toInt ≤ y124.toInt from by have t1 : lx22.toInt + 1 ≤ y124.toInt := b127; omega)), (show q_F (y124.toInt ≤ lx22.toInt + 1) from (show y124.toInt ≤ lx22.toInt + 1 from by have t1 : y124.toInt ≤ lx22.toInt + 1 := b128; omega)), V, q_lw hl (q_lw1 0 rfl (q_lw1 1 rfl (q_lw1 2 rfl q_lw0))), hI, hF, hO29, hO30, hO123, hA126, (show F_Dig_writePlain_J76 (F_Dig_writePlain_L10 R N K x3 x4 x5 t0_0 t0_1 t1_0 t2_0 t3_0 fm37) R N K x3 x4 x5 t0_0 t0_1 t1_0 t2_0 t3_0 lx21 lx22 lx23 y124 f125 = (F_Dig_writePlain R N K x3 x4 x5 t0_0 t0_1 t1_0 t2_0 t3_0) from Eq.trans (by rw [e134, e133, F_Dig_writePlain_c73.eq_1]) hR135)⟩
      ·
        intro J115
        refine lv_if_gt (tgt := 70) hx hb d_5_9_62 (by decide) (fun c140 => ?_) (fun c140 => ?_)
        ·
          exact J115 (()) _ _ _ w28 ⟨V, q_lw hl (q_lw1 1 rfl (q_lw1 2 rfl (q_lw1 3 rfl q_lw0))), (show F_Dig_writePlain_J70 (F_Dig_writePlain_L10 R N K x3 x4 x5 t0_0 t0_1 t1_0 t2_0 t3_0 fm37) R N K x3 x4 x5 t0_0 t0_1 t1_0 t2_0 t3_0 lx21 lx22 lx23 = (F_Dig_writePlain R N K x3 x4 x5 t0_0 t0_1 t1_0 t2_0 t3_0) from Eq.trans (by rw [F_Dig_writePlain_L10.eq_2, if_pos c38, if_pos c140]) hR33)⟩
        ·
          have b142 : q_F (x3.toInt ≤ 0) := (q_nltI c140)
          refine lv_iload hx hb d_5_9_65 (lv_at hl 5 rfl) ?_
          refine lv_if_eq (tgt := 76) hx hb d_5_9_67 (by decide) (fun c143 => ?_) (fun c143 => ?_)
          ·
            have b144 : q_F (x5.toInt = 0) := (q_eqI c143)
            exact J46 ((lx22 : Int32), (lx23 : (Nat → Int64))) _ _ _ _ ⟨(show q_F (x3.toInt ≤ lx22.toInt + 19998) from (show x3.toInt ≤ lx22.toInt + 19998 from by have t1 : 0 ≤ t2_0.toInt ∧ t2_0.toInt ≤ K.toInt := btt2_0; have t2 : a14.toInt + t2_0.toInt ≤ lx21.toInt + lx22.toInt := i25; have t3 : lx22.toInt + 2 * lx21.toInt ≤ t2_0.toInt + 2 * a14.toInt := i26; have t4 : x3.toInt ≤ 0 := b142; omega)), (show q_F (x5.toInt + 1 ≤ lx22.toInt) from (show x5.toInt + 1 ≤ lx22.toInt from by have t1 : 0 ≤ t2_0.toInt ∧ t2_0.toInt ≤ K.toInt := btt2_0; have t2 : t0_1.toInt ≤ a14.toInt ∧ 0 ≤ a14.toInt ∧ (a14.toInt = t0_1.toInt ∨ a14.toInt = 0) := b16; have t3 : a14.toInt + t2_0.toInt ≤ lx21.toInt + lx22.toInt := i25; have t4 : lx21.toInt < 0 := b39; have t5 : x5.toInt = 0 := b144; omega)), (show q_F (lx22.toInt ≤ lx22.toInt) from (show lx22.toInt ≤ lx22.toInt from by omega)), (show q_F (lx22.toInt ≤ lx22.toInt + 1) from (show lx22.toInt ≤ lx22.toInt + 1 from by omega)), V, q_lw hl (q_lw1 1 rfl (q_lw1 2 rfl (q_lw1 3 rfl q_lw0))), hI, hF, hO29, hO30, hO31, hO32, (show F_Dig_writePlain_J76 (F_Dig_writePlain_L10 R N K x3 x4 x5 t0_0 t0_1 t1_0 t2_0 t3_0 fm37) R N K x3 x4 x5 t0_0 t0_1 t1_0 t2_0 t3_0 lx21 lx22 lx23 lx22 lx23 = (F_Dig_writePlain R N K x3 x4 x5 t0_0 t0_1 t1_0 t2_0 t3_0) from Eq.trans (by rw [F_Dig_writePlain_L10.eq_2, if_pos c38, if_neg c140, if_pos c143]) hR33)⟩
          ·
            exact J115 (()) _ _ _ w28 ⟨V, q_lw hl (q_lw1 1 rfl (q_lw1 2 rfl (q_lw1 3 rfl q_lw0))), (show F_Dig_writePlain_J70 (F_Dig_writePlain_L10 R N K x3 x4 x5 t0_0 t0_1 t1_0 t2_0 t3_0 fm37) R N K x3 x4 x5 t0_0 t0_1 t1_0 t2_0 t3_0 lx21 lx22 lx23 = (F_Dig_writePlain R N K x3 x4 x5 t0_0 t0_1 t1_0 t2_0 t3_0) from Eq.trans (by rw [F_Dig_writePlain_L10.eq_2, if_pos c38, if_neg c140, if_neg c143]) hR33)⟩
  ·
    have b146 : q_F (0 ≤ lx21.toInt) := (q_nltI c38)
    refine lv_aload_n hx hb d_5_9_15 rfl (lv_at hl 2 rfl) ?_
    refine lv_bipush (v := 48) hx hb d_5_9_16 (by decide) ?_
    refine lv_aload_n hx hb d_5_9_18 rfl (lv_at hl 1 rfl) ?_
    refine lv_aload_n hx hb d_5_9_19 rfl (lv_at hl 1 rfl) ?_
    refine q_get (ci := 7) (j := 1) (v := .int t0_1) C0 V i_Dig rfl rfl hO29 (by decide) w_266 rfl d_5_9_20 ?_
    refine lv_iload hx hb d_5_9_23 (lv_at hl 0 rfl) ?_
    refine lv_isub hx hb d_5_9_25 ?_
    obtain ⟨a147, e148⟩ := q_nm (t0_1 - lx21 : Int32)
    refine q_ti (v := a147) e148 ?_
    refine q_goi V (q_runV (As := [.int a147]) (rest := [.int 48, .ref (q k2)]) (d := 1) (mc := 0) (ms := 0) (ci := 7) C0 V rfl LV_Dig_49 (X_Dig_figure l D g q w28  a147 hI t0_0 t0_1 hO29 t1_0 hO30  _) rfl rfl hO29 rfl hl.1 rfl (Nat.le_of_ble_eq_true rfl) ⟨by decide, by decide⟩ ⟨Nat.le_of_ble_eq_true rfl, Nat.le_of_ble_eq_true rfl⟩ d_5_9_26) (fun a152 u150 H locs hp151 V => ?_)
    obtain ⟨rfl, hE153⟩ := hp151
    have e154 : a152 = (F_Dig_figure a147 t0_0 t0_1 t1_0) := hE153
    refine lv_iadd hx hb d_5_9_29 ?_
    obtain ⟨a155, e156⟩ := q_nm (48 + a152 : Int32)
    refine q_ti (v := a155) e156 ?_
    refine q_gov V (q_runV (As := [.int a155]) (rest := []) (d := 1) (mc := 0) (ms := 0) (ci := 1) C0 V rfl LV_Dig_52 (X_She_add_p l D g q w28 k2 R N K hB2 a155 hI lx22 hO31 lx23 hO32 (by have t1 : t0_1.toInt ≤ 200000 := pre0; have t2 : t2_0.toInt ≤ 400000 := pre2; have t3 : 1000000 ≤ K.toInt := pre3; have t4 : t0_1.toInt ≤ a14.toInt ∧ 0 ≤ a14.toInt ∧ (a14.toInt = t0_1.toInt ∨ a14.toInt = 0) := b16; have t5 : 0 ≤ lx21.toInt + 1 := i24; have t6 : lx22.toInt + 2 * lx21.toInt ≤ t2_0.toInt + 2 * a14.toInt := i26; omega) _) rfl rfl hO31 rfl hl.1 rfl (Nat.le_of_ble_eq_true rfl) ⟨by decide, by decide⟩ ⟨Nat.le_of_ble_eq_true rfl, Nat.le_of_ble_eq_true rfl⟩ d_5_9_30) (fun u157 H locs hp158 V => ?_)
    obtain ⟨hI, hZ9⟩ := hp158
    obtain ⟨hu166, hZ9⟩ := hZ9
    obtain ⟨y160, hZ9⟩ := hZ9
    obtain ⟨f161, hZ9⟩ := hZ9
    obtain ⟨hO159, hZ9⟩ := hZ9
    obtain ⟨hA162, hZ9⟩ := hZ9
    obtain ⟨b163, hZ9⟩ := hZ9
    obtain ⟨b164, hE165⟩ := hZ9
    replace hO159 : u157[k2]? = (some (q k2, .inr (1, [.ref (q (k2 + 1)), .int R, .int y160])) : Option (Nat × va_E)) := hO159
    replace hA162 : u157[k2 + 1]? = (some (q (k2 + 1), .inl (g 1, N.toNatClampNeg, .inr (.inl f161))) : Option (Nat × va_E)) := hA162
    obtain ⟨p167, e168⟩ : ∃ z, z = (F_She_add_p R N K a155 lx22 lx23) := ⟨_, rfl⟩
    have e169 : y160 = p167.1 := congrArg (fun z => z.1) (hE165.trans e168.symm)
    have e170 : f161 = p167.2 := congrArg (fun z => z.2) (hE165.trans e168.symm)
    replace b163 : q_F (lx22.toInt + 1 ≤ y160.toInt) := b163
    replace b164 : q_F (y160.toInt ≤ lx22.toInt + 1) := b164
    replace hO29 := (hu166 _ (by have z0 := hB2.2.2.2; simp only [List.mem_cons, List.not_mem_nil, or_false, not_or]; omega)).trans hO29
    replace hO30 := (hu166 _ (by have z0 := hB2.2.2.2; simp only [List.mem_cons, List.not_mem_nil, or_false, not_or]; omega)).trans hO30
    replace hF := q_uc hF hu166 (by first | exact (q_sk (q_mi 0 rfl) (q_sk (q_mi 1 rfl) q_s0)) | simp)
    have hR171 := (show F_Dig_writePlain_c30 (F_Dig_writePlain_L10 R N K x3 x4 x5 t0_0 t0_1 t1_0 t2_0 t3_0 fm37) R N K x3 x4 x5 t0_0 t0_1 t1_0 t2_0 t3_0 lx21 lx22 lx23 p167 = (F_Dig_writePlain R N K x3 x4 x5 t0_0 t0_1 t1_0 t2_0 t3_0) from Eq.trans (by rw [e168, ← e156, e154, ← e148, F_Dig_writePlain_L10.eq_2, if_neg c38]) hR33)
    refine lv_iload_n hx hb d_5_9_33 rfl (lv_at hl 4 rfl) ?_
    refine lv_if_eq (tgt := 55) hx hb d_5_9_34 (by decide) (fun c176 => ?_) (fun c176 => ?_)
    ·
      obtain ⟨a178, e179⟩ := q_nm (lx21 + (-1) : Int32)
      have b180 : q_F (a178.toInt = lx21.toInt + (-1)) := (by rw [← e179]; exact q_addI (y := (-1)) rfl (by decide) (by have t1 : 0 ≤ lx21.toInt + 1 := i24; have t2 : a14.toInt + t2_0.toInt ≤ lx21.toInt + lx22.toInt := i25; have t3 : lx22.toInt + 2 * lx21.toInt ≤ t2_0.toInt + 2 * a14.toInt := i26; have _ := q_lo32 (x := a14); have _ := q_hi32 (x := a14); omega) (by have t1 : 0 ≤ lx21.toInt + 1 := i24; have t2 : a14.toInt + t2_0.toInt ≤ lx21.toInt + lx22.toInt := i25; have t3 : lx22.toInt + 2 * lx21.toInt ≤ t2_0.toInt + 2 * a14.toInt := i26; have _ := q_lo32 (x := a14); have _ := q_hi32 (x := a14); omega))
      refine lv_iinc (v := a178) (lv' := [(5, .int a178), (0, .ref (q 36)), (1, .ref (q k2)), (2, .int x3), (3, .int x4), (4, .int x5)]) hx hb d_5_9_55 hl (k := 0) rfl (e179) (by decide) rfl (fun ls hl => ?_)
      refine lv_goto (tgt := 10) hx hb d_5_9_58 (by decide) ?_
      exact ih27 ((a178 : Int32), (y160 : Int32), (f161 : (Nat → Int64))) _ _ _ _ (show (a178.toInt - ((-1000000))).toNat < (lx21.toInt - ((-1000000))).toNat from by have t1 : a178.toInt = lx21.toInt + (-1) := b180; have t2 : 0 ≤ lx21.toInt + 1 := i24; omega) ⟨(show q_F (0 ≤ a178.toInt + 1) from (show 0 ≤ a178.toInt + 1 from by have t1 : 0 ≤ lx21.toInt := b146; have t2 : a178.toInt = lx21.toInt + (-1) := b180; omega)), (show q_F (a14.toInt + t2_0.toInt ≤ a178.toInt + y160.toInt) from (show a14.toInt + t2_0.toInt ≤ a178.toInt + y160.toInt from by have t1 : a14.toInt + t2_0.toInt ≤ lx21.toInt + lx22.toInt := i25; have t2 : lx22.toInt + 1 ≤ y160.toInt := b163; have t3 : a178.toInt = lx21.toInt + (-1) := b180; omega)), (show q_F (y160.toInt + 2 * a178.toInt ≤ t2_0.toInt + 2 * a14.toInt) from (show y160.toInt + 2 * a178.toInt ≤ t2_0.toInt + 2 * a14.toInt from by have t1 : lx22.toInt + 2 * lx21.toInt ≤ t2_0.toInt + 2 * a14.toInt := i26; have t2 : y160.toInt ≤ lx22.toInt + 1 := b164; have t3 : a178.toInt = lx21.toInt + (-1) := b180; omega)), V, q_lw hl (q_lw1 0 rfl (q_lw1 1 rfl (q_lw1 2 rfl (q_lw1 3 rfl (q_lw1 4 rfl (q_lw1 5 rfl q_lw0)))))), hI, hF, hO29, hO30, hO159, hA162, ⟨fm37, Nat.lt_of_lt_of_le (show (a178.toInt - ((-1000000))).toNat < (lx21.toInt - ((-1000000))).toNat from by have t1 : a178.toInt = lx21.toInt + (-1) := b180; have t2 : 0 ≤ lx21.toInt + 1 := i24; omega) (Nat.le_of_lt_succ hf36), (show F_Dig_writePlain_L10 R N K x3 x4 x5 t0_0 t0_1 t1_0 t2_0 t3_0 fm37 a178 y160 f161 = (F_Dig_writePlain R N K x3 x4 x5 t0_0 t0_1 t1_0 t2_0 t3_0) from Eq.trans (by rw [← e179, e170, e169, F_Dig_writePlain_c30.eq_1, if_pos c176]) hR171)⟩⟩
    ·
      refine lv_iload hx hb d_5_9_37 (lv_at hl 0 rfl) ?_
      refine lv_if_le (tgt := 55) hx hb d_5_9_39 (by decide) (fun c182 => ?_) (fun c182 => ?_)
      ·
        have b183 : q_F (lx21.toInt ≤ 0) := (q_leI c182)
        obtain ⟨a184, e185⟩ := q_nm (lx21 + (-1) : Int32)
        have b186 : q_F (a184.toInt = lx21.toInt + (-1)) := (by rw [← e185]; exact q_addI (y := (-1)) rfl (by decide) (by have t1 : 0 ≤ lx21.toInt + 1 := i24; have t2 : lx21.toInt ≤ 0 := b183; omega) (by have t1 : 0 ≤ lx21.toInt + 1 := i24; have t2 : lx21.toInt ≤ 0 := b183; omega))
        refine lv_iinc (v := a184) (lv' := [(5, .int a184), (0, .ref (q 36)), (1, .ref (q k2)), (2, .int x3), (3, .int x4), (4, .int x5)]) hx hb d_5_9_55 hl (k := 0) rfl (e185) (by decide) rfl (fun ls hl => ?_)
        refine lv_goto (tgt := 10) hx hb d_5_9_58 (by decide) ?_
        exact ih27 ((a184 : Int32), (y160 : Int32), (f161 : (Nat → Int64))) _ _ _ _ (show (a184.toInt - ((-1000000))).toNat < (lx21.toInt - ((-1000000))).toNat from by have t1 : a184.toInt = lx21.toInt + (-1) := b186; have t2 : 0 ≤ lx21.toInt + 1 := i24; omega) ⟨(show q_F (0 ≤ a184.toInt + 1) from (show 0 ≤ a184.toInt + 1 from by have t1 : 0 ≤ lx21.toInt := b146; have t2 : a184.toInt = lx21.toInt + (-1) := b186; omega)), (show q_F (a14.toInt + t2_0.toInt ≤ a184.toInt + y160.toInt) from (show a14.toInt + t2_0.toInt ≤ a184.toInt + y160.toInt from by have t1 : a14.toInt + t2_0.toInt ≤ lx21.toInt + lx22.toInt := i25; have t2 : lx22.toInt + 1 ≤ y160.toInt := b163; have t3 : a184.toInt = lx21.toInt + (-1) := b186; omega)), (show q_F (y160.toInt + 2 * a184.toInt ≤ t2_0.toInt + 2 * a14.toInt) from (show y160.toInt + 2 * a184.toInt ≤ t2_0.toInt + 2 * a14.toInt from by have t1 : lx22.toInt + 2 * lx21.toInt ≤ t2_0.toInt + 2 * a14.toInt := i26; have t2 : y160.toInt ≤ lx22.toInt + 1 := b164; have t3 : a184.toInt = lx21.toInt + (-1) := b186; omega)), V, q_lw hl (q_lw1 0 rfl (q_lw1 1 rfl (q_lw1 2 rfl (q_lw1 3 rfl (q_lw1 4 rfl (q_lw1 5 rfl q_lw0)))))), hI, hF, hO29, hO30, hO159, hA162, ⟨fm37, Nat.lt_of_lt_of_le (show (a184.toInt - ((-1000000))).toNat < (lx21.toInt - ((-1000000))).toNat from by have t1 : a184.toInt = lx21.toInt + (-1) := b186; have t2 : 0 ≤ lx21.toInt + 1 := i24; omega) (Nat.le_of_lt_succ hf36), (show F_Dig_writePlain_L10 R N K x3 x4 x5 t0_0 t0_1 t1_0 t2_0 t3_0 fm37 a184 y160 f161 = (F_Dig_writePlain R N K x3 x4 x5 t0_0 t0_1 t1_0 t2_0 t3_0) from Eq.trans (by rw [← e185, e170, e169, F_Dig_writePlain_c30.eq_1, if_neg c176, if_pos c182]) hR171)⟩⟩
      ·
        refine lv_iload hx hb d_5_9_42 (lv_at hl 0 rfl) ?_
        refine lv_iconst (v := 3) hx hb d_5_9_44 (by decide) ?_
        refine lv_irem hx hb d_5_9_45 (by decide) ?_
        obtain ⟨a188, e189⟩ := q_nm (lx21 - lx21 / 3 * 3 : Int32)
        refine q_ti (v := a188) e189 ?_
        refine lv_if_ne (tgt := 55) hx hb d_5_9_46 (by decide) (fun c191 => ?_) (fun c191 => ?_)
        ·
          obtain ⟨a193, e194⟩ := q_nm (lx21 + (-1) : Int32)
          have b195 : q_F (a193.toInt = lx21.toInt + (-1)) := (by rw [← e194]; exact q_addI (y := (-1)) rfl (by decide) (by have t1 : 0 ≤ lx21.toInt + 1 := i24; have t2 : a14.toInt + t2_0.toInt ≤ lx21.toInt + lx22.toInt := i25; have t3 : lx22.toInt + 2 * lx21.toInt ≤ t2_0.toInt + 2 * a14.toInt := i26; have _ := q_lo32 (x := a14); have _ := q_hi32 (x := a14); omega) (by have t1 : 0 ≤ lx21.toInt + 1 := i24; have t2 : a14.toInt + t2_0.toInt ≤ lx21.toInt + lx22.toInt := i25; have t3 : lx22.toInt + 2 * lx21.toInt ≤ t2_0.toInt + 2 * a14.toInt := i26; have _ := q_lo32 (x := a14); have _ := q_hi32 (x := a14); omega))
          refine lv_iinc (v := a193) (lv' := [(5, .int a193), (0, .ref (q 36)), (1, .ref (q k2)), (2, .int x3), (3, .int x4), (4, .int x5)]) hx hb d_5_9_55 hl (k := 0) rfl (e194) (by decide) rfl (fun ls hl => ?_)
          refine lv_goto (tgt := 10) hx hb d_5_9_58 (by decide) ?_
          exact ih27 ((a193 : Int32), (y160 : Int32), (f161 : (Nat → Int64))) _ _ _ _ (show (a193.toInt - ((-1000000))).toNat < (lx21.toInt - ((-1000000))).toNat from by have t1 : a193.toInt = lx21.toInt + (-1) := b195; have t2 : 0 ≤ lx21.toInt + 1 := i24; omega) ⟨(show q_F (0 ≤ a193.toInt + 1) from (show 0 ≤ a193.toInt + 1 from by have t1 : 0 ≤ lx21.toInt := b146; have t2 : a193.toInt = lx21.toInt + (-1) := b195; omega)), (show q_F (a14.toInt + t2_0.toInt ≤ a193.toInt + y160.toInt) from (show a14.toInt + t2_0.toInt ≤ a193.toInt + y160.toInt from by have t1 : a14.toInt + t2_0.toInt ≤ lx21.toInt + lx22.toInt := i25; have t2 : lx22.toInt + 1 ≤ y160.toInt := b163; have t3 : a193.toInt = lx21.toInt + (-1) := b195; omega)), (show q_F (y160.toInt + 2 * a193.toInt ≤ t2_0.toInt + 2 * a14.toInt) from (show y160.toInt + 2 * a193.toInt ≤ t2_0.toInt + 2 * a14.toInt from by have t1 : lx22.toInt + 2 * lx21.toInt ≤ t2_0.toInt + 2 * a14.toInt := i26; have t2 : y160.toInt ≤ lx22.toInt + 1 := b164; have t3 : a193.toInt = lx21.toInt + (-1) := b195; omega)), V, q_lw hl (q_lw1 0 rfl (q_lw1 1 rfl (q_lw1 2 rfl (q_lw1 3 rfl (q_lw1 4 rfl (q_lw1 5 rfl q_lw0)))))), hI, hF, hO29, hO30, hO159, hA162, ⟨fm37, Nat.lt_of_lt_of_le (show (a193.toInt - ((-1000000))).toNat < (lx21.toInt - ((-1000000))).toNat from by have t1 : a193.toInt = lx21.toInt + (-1) := b195; have t2 : 0 ≤ lx21.toInt + 1 := i24; omega) (Nat.le_of_lt_succ hf36), (show F_Dig_writePlain_L10 R N K x3 x4 x5 t0_0 t0_1 t1_0 t2_0 t3_0 fm37 a193 y160 f161 = (F_Dig_writePlain R N K x3 x4 x5 t0_0 t0_1 t1_0 t2_0 t3_0) from Eq.trans (by have c191x := c191; rw [← e189] at c191x; rw [← e194, e170, e169, F_Dig_writePlain_c30.eq_1, if_neg c176, if_neg c182, if_neg c191x]) hR171)⟩⟩
        ·
          refine lv_aload_n hx hb d_5_9_49 rfl (lv_at hl 2 rfl) ?_
          refine lv_bipush (v := 44) hx hb d_5_9_50 (by decide) ?_
          refine q_gov V (q_runV (As := [.int 44]) (rest := []) (d := 1) (mc := 0) (ms := 0) (ci := 1) C0 V rfl LV_Dig_52 (X_She_add_p l D g q u157 k2 R N K hB2 44 hI y160 hO159 f161 hA162 (by have y0 : (44 : Int32).toInt = 44 := rfl; have t1 : t0_1.toInt ≤ 200000 := pre0; have t2 : t2_0.toInt ≤ 400000 := pre2; have t3 : 1000000 ≤ K.toInt := pre3; have t4 : t0_1.toInt ≤ a14.toInt ∧ 0 ≤ a14.toInt ∧ (a14.toInt = t0_1.toInt ∨ a14.toInt = 0) := b16; have t5 : 0 ≤ lx21.toInt + 1 := i24; have t6 : lx22.toInt + 2 * lx21.toInt ≤ t2_0.toInt + 2 * a14.toInt := i26; have t7 : y160.toInt ≤ lx22.toInt + 1 := b164; omega) _) rfl rfl hO159 rfl hl.1 rfl (Nat.le_of_ble_eq_true rfl) ⟨by decide, by decide⟩ ⟨Nat.le_of_ble_eq_true rfl, Nat.le_of_ble_eq_true rfl⟩ d_5_9_52) (fun u197 H locs hp198 V => ?_)
          obtain ⟨hI, hZ9⟩ := hp198
          obtain ⟨hu206, hZ9⟩ := hZ9
          obtain ⟨y200, hZ9⟩ := hZ9
          obtain ⟨f201, hZ9⟩ := hZ9
          obtain ⟨hO199, hZ9⟩ := hZ9
          obtain ⟨hA202, hZ9⟩ := hZ9
          obtain ⟨b203, hZ9⟩ := hZ9
          obtain ⟨b204, hE205⟩ := hZ9
          replace hO199 : u197[k2]? = (some (q k2, .inr (1, [.ref (q (k2 + 1)), .int R, .int y200])) : Option (Nat × va_E)) := hO199
          replace hA202 : u197[k2 + 1]? = (some (q (k2 + 1), .inl (g 1, N.toNatClampNeg, .inr (.inl f201))) : Option (Nat × va_E)) := hA202
          obtain ⟨p207, e208⟩ : ∃ z, z = (F_She_add_p R N K (44 : Int32) y160 f161) := ⟨_, rfl⟩
          have e209 : y200 = p207.1 := congrArg (fun z => z.1) (hE205.trans e208.symm)
          have e210 : f201 = p207.2 := congrArg (fun z => z.2) (hE205.trans e208.symm)
          replace b203 : q_F (y160.toInt + 1 ≤ y200.toInt) := b203
          replace b204 : q_F (y200.toInt ≤ y160.toInt + 1) := b204
          replace hO29 := (hu206 _ (by have z0 := hB2.2.2.2; simp only [List.mem_cons, List.not_mem_nil, or_false, not_or]; omega)).trans hO29
          replace hO30 := (hu206 _ (by have z0 := hB2.2.2.2; simp only [List.mem_cons, List.not_mem_nil, or_false, not_or]; omega)).trans hO30
          replace hF := q_uc hF hu206 (by first | exact (q_sk (q_mi 0 rfl) (q_sk (q_mi 1 rfl) q_s0)) | simp)
          have hR211 := (show F_Dig_writePlain_c52 (F_Dig_writePlain_L10 R N K x3 x4 x5 t0_0 t0_1 t1_0 t2_0 t3_0 fm37) R N K x3 x4 x5 t0_0 t0_1 t1_0 t2_0 t3_0 lx21 lx22 lx23 p167 p207 = (F_Dig_writePlain R N K x3 x4 x5 t0_0 t0_1 t1_0 t2_0 t3_0) from Eq.trans (by have c191x := c191; rw [← e189] at c191x; rw [e208, e170, e169, F_Dig_writePlain_c30.eq_1, if_neg c176, if_neg c182, if_pos c191x]) hR171)
          obtain ⟨a216, e217⟩ := q_nm (lx21 + (-1) : Int32)
          have b218 : q_F (a216.toInt = lx21.toInt + (-1)) := (by rw [← e217]; exact q_addI (y := (-1)) rfl (by decide) (by have t1 : 0 ≤ lx21.toInt + 1 := i24; have t2 : a14.toInt + t2_0.toInt ≤ lx21.toInt + lx22.toInt := i25; have t3 : lx22.toInt + 2 * lx21.toInt ≤ t2_0.toInt + 2 * a14.toInt := i26; have _ := q_lo32 (x := a14); have _ := q_hi32 (x := a14); omega) (by have t1 : 0 ≤ lx21.toInt + 1 := i24; have t2 : a14.toInt + t2_0.toInt ≤ lx21.toInt + lx22.toInt := i25; have t3 : lx22.toInt + 2 * lx21.toInt ≤ t2_0.toInt + 2 * a14.toInt := i26; have _ := q_lo32 (x := a14); have _ := q_hi32 (x := a14); omega))
          refine lv_iinc (v := a216) (lv' := [(5, .int a216), (0, .ref (q 36)), (1, .ref (q k2)), (2, .int x3), (3, .int x4), (4, .int x5)]) hx hb d_5_9_55 hl (k := 0) rfl (e217) (by decide) rfl (fun ls hl => ?_)
          refine lv_goto (tgt := 10) hx hb d_5_9_58 (by decide) ?_
          exact ih27 ((a216 : Int32), (y200 : Int32), (f201 : (Nat → Int64))) _ _ _ _ (show (a216.toInt - ((-1000000))).toNat < (lx21.toInt - ((-1000000))).toNat from by have t1 : a216.toInt = lx21.toInt + (-1) := b218; have t2 : 0 ≤ lx21.toInt + 1 := i24; omega) ⟨(show q_F (0 ≤ a216.toInt + 1) from (show 0 ≤ a216.toInt + 1 from by have t1 : 0 ≤ lx21.toInt := b146; have t2 : a216.toInt = lx21.toInt + (-1) := b218; omega)), (show q_F (a14.toInt + t2_0.toInt ≤ a216.toInt + y200.toInt) from (show a14.toInt + t2_0.toInt ≤ a216.toInt + y200.toInt from by have t1 : a14.toInt + t2_0.toInt ≤ lx21.toInt + lx22.toInt := i25; have t2 : lx22.toInt + 1 ≤ y160.toInt := b163; have t3 : y160.toInt + 1 ≤ y200.toInt := b203; have t4 : a216.toInt = lx21.toInt + (-1) := b218; omega)), (show q_F (y200.toInt + 2 * a216.toInt ≤ t2_0.toInt + 2 * a14.toInt) from (show y200.toInt + 2 * a216.toInt ≤ t2_0.toInt + 2 * a14.toInt from by have t1 : lx22.toInt + 2 * lx21.toInt ≤ t2_0.toInt + 2 * a14.toInt := i26; have t2 : y160.toInt ≤ lx22.toInt + 1 := b164; have t3 : y200.toInt ≤ y160.toInt + 1 := b204; have t4 : a216.toInt = lx21.toInt + (-1) := b218; omega)), V, q_lw hl (q_lw1 0 rfl (q_lw1 1 rfl (q_lw1 2 rfl (q_lw1 3 rfl (q_lw1 4 rfl (q_lw1 5 rfl q_lw0)))))), hI, hF, hO29, hO30, hO199, hA202, ⟨fm37, Nat.lt_of_lt_of_le (show (a216.toInt - ((-1000000))).toNat < (lx21.toInt - ((-1000000))).toNat from by have t1 : a216.toInt = lx21.toInt + (-1) := b218; have t2 : 0 ≤ lx21.toInt + 1 := i24; omega) (Nat.le_of_lt_succ hf36), (show F_Dig_writePlain_L10 R N K x3 x4 x5 t0_0 t0_1 t1_0 t2_0 t3_0 fm37 a216 y200 f201 = (F_Dig_writePlain R N K x3 x4 x5 t0_0 t0_1 t1_0 t2_0 t3_0) from Eq.trans (by rw [← e217, e210, e209, F_Dig_writePlain_c52.eq_1]) hR211)⟩⟩

