def F_jStr_length_25 : Int32 := (7 : Int32)
set_option maxRecDepth 100000 in
set_option maxHeartbeats 4000000 in
theorem X_jStr_length_25 (l : Launch) (D : va_G) (g : Nat → ClassId) (q : Nat → Nat) (ws : va_W) (hI : q_I (nsh g q) q ws) : q_mI l y_jStr_length prog_31_method_54_code 1 (.int) 2 0 0 D g [.ref (g (8 + 2 * 25))] ws (fun r u => ws = u ∧ (7 ≤ r.toInt) ∧ (r.toInt ≤ 7) ∧ r = (F_jStr_length_25)) := by
  intro sz
  refine q_into (by decide) (Nat.le_of_ble_eq_true rfl) ?_
  intro p e s m below meth c ls hsz C0 V hl
  have hx := C0.1
  have hb := C0.2.1
  have hl : lv_has ls 1 [(0, .ref (g (8 + 2 * 25)))] := hl
  refine lv_aload_n hx hb d_31_54_0 rfl (lv_at hl 0 rfl) ?_
  refine q_sval (i := 25) C0 V rfl rfl w_1018 d_31_54_1 ?_
  refine q_slen (i := 25) (v := 7) C0 V rfl (by decide) d_31_54_4 ?_
  refine lv_aload_n hx hb d_31_54_5 rfl (lv_at hl 0 rfl) ?_
  refine q_goi V (q_runVs (As := []) (rest := [.int 7]) (d := 1) (mc := 0) (ms := 0) (i := 25) C0 V rfl LV_jStr_335 (T_jStr_coder_25 l D g q ws   hI   _) rfl rfl rfl hl.1 rfl (Nat.le_of_ble_eq_true rfl) ⟨by decide, by decide⟩ ⟨Nat.le_of_ble_eq_true rfl, Nat.le_of_ble_eq_true rfl⟩ d_31_54_6) (fun a3 u1 H locs hp2 V => ?_)
  obtain ⟨rfl, b4, b5⟩ := hp2
  replace b4 : q_F (0 ≤ a3.toInt) := b4
  replace b5 : q_F (a3.toInt ≤ 0) := b5
  obtain rfl : a3 = (0 : Int32) := q_Ieq (x := a3.toInt) (y := 0) rfl (by decide) (by have t1 : 0 ≤ a3.toInt := b4; have t2 : a3.toInt ≤ 0 := b5; omega)
  refine lv_ishr hx hb d_31_54_9 ?_
  refine q_ti (v := 7) (by decide) ?_
  exact q_reti C0 V (⟨rfl, (show 7 ≤ (7 : Int32).toInt from (by have z0 : (7 : Int32).toInt = 7 := rfl; omega)), (show (7 : Int32).toInt ≤ 7 from (by have z0 : (7 : Int32).toInt = 7 := rfl; omega)), (show (7 : Int32) = (F_jStr_length_25) from (by rw [F_jStr_length_25.eq_1]))⟩) d_31_54_10
def F_jLat_charAt_25 (x2 : Int32) : Int32 := (((((([48, 120, 48, 46, 48, 112, 48] : List Int32).getD x2.toNatClampNeg 0) : Int32) &&& 255 : Int32).toUInt32 % 65536).toInt32 : Int32)
set_option maxRecDepth 100000 in
set_option maxHeartbeats 4000000 in
theorem X_jLat_charAt_25 (l : Launch) (D : va_G) (g : Nat → ClassId) (q : Nat → Nat) (ws : va_W) (x2 : Int32) (hI : q_I (nsh g q) q ws) (pre0 : 0 ≤ x2.toInt) (pre1 : x2.toInt ≤ 6) : q_mI l y_jLat_charAt prog_33_method_2_code 2 (.char) 3 0 0 D g [.ref (g (9 + 2 * 25)), .int x2] ws (fun r u => ws = u ∧ (0 ≤ r.toInt) ∧ (r.toInt ≤ 255) ∧ r = (F_jLat_charAt_25 x2)) := by
  intro sz
  refine q_into (by decide) (Nat.le_of_ble_eq_true rfl) ?_
  intro p e s m below meth c ls hsz C0 V hl
  have hx := C0.1
  have hb := C0.2.1
  replace pre0 : q_F (0 ≤ x2.toInt) := pre0
  replace pre1 : q_F (x2.toInt ≤ 6) := pre1
  have hl : lv_has ls 2 [(0, .ref (g (9 + 2 * 25))), (1, .int x2)] := hl
  refine lv_iload_n hx hb d_33_2_0 rfl (lv_at hl 1 rfl) ?_
  refine lv_aload_n hx hb d_33_2_1 rfl (lv_at hl 0 rfl) ?_
  refine q_slen (i := 25) (v := 7) C0 V rfl (by decide) d_33_2_2 ?_
  refine q_gov V (q_runS (As := [.int x2, .int 7]) (rest := []) (d := 2) (mc := 0) (ms := 0) C0 V rfl LS_jLat_9 (T_jStr_checkIndex l D g q ws  x2 7 hI  (by have y0 : (7 : Int32).toInt = 7 := rfl; have t1 : 0 ≤ x2.toInt := pre0; omega) (by have y0 : (7 : Int32).toInt = 7 := rfl; have t1 : x2.toInt ≤ 6 := pre1; omega) _) rfl hl.1 rfl (Nat.le_of_ble_eq_true rfl) ⟨by decide, by decide⟩ ⟨Nat.le_of_ble_eq_true rfl, Nat.le_of_ble_eq_true rfl⟩ d_33_2_3) (fun u1 H locs hp2 V => ?_)
  obtain ⟨rfl, -⟩ := hp2
  refine lv_aload_n hx hb d_33_2_6 rfl (lv_at hl 0 rfl) ?_
  refine lv_iload_n hx hb d_33_2_7 rfl (lv_at hl 1 rfl) ?_
  refine q_sbal (i := 25) (v := (([48, 120, 48, 46, 48, 112, 48] : List Int32).getD x2.toNatClampNeg 0)) C0 V rfl (show vp_in x2 7 from q_ix (x := x2.toInt) rfl (by have t1 : 0 ≤ x2.toInt := pre0; omega) (by have t1 : 0 ≤ x2.toInt := pre0; have t2 : x2.toInt ≤ 6 := pre1; omega)) rfl d_33_2_8 ?_
  obtain ⟨a4, e5⟩ := q_nm ((([48, 120, 48, 46, 48, 112, 48] : List Int32).getD x2.toNatClampNeg 0) : Int32)
  refine q_ti (v := a4) e5 ?_
  refine lv_sipush (v := 255) hx hb d_33_2_9 (by decide) ?_
  refine lv_iand hx hb d_33_2_12 ?_
  obtain ⟨a6, e7⟩ := q_nm (a4 &&& 255 : Int32)
  refine q_ti (v := a6) e7 ?_
  have b8 : q_F (0 ≤ a6.toInt ∧ a6.toInt ≤ 255) := (by rw [← e7]; show 0 ≤ (a4 &&& 255 : Int32).toInt ∧ (a4 &&& 255 : Int32).toInt ≤ 255; exact s_and (by decide))
  refine lv_i2c hx hb d_33_2_13 rfl ?_
  obtain ⟨a9, e10⟩ := q_nm ((a6.toUInt32 % 65536).toInt32 : Int32)
  refine q_ti (v := a9) e10 ?_
  have b11 : q_F (a9.toInt = a6.toInt) := (by rw [← e10]; show ((a6.toUInt32 % 65536).toInt32 : Int32).toInt = a6.toInt; exact (n_i2c (x := a6)).2.2 (by have t1 : 0 ≤ a6.toInt ∧ a6.toInt ≤ 255 := b8; omega) (by have t1 : 0 ≤ a6.toInt ∧ a6.toInt ≤ 255 := b8; omega))
  exact q_retn C0 V (n_chr (by have t1 : 0 ≤ a6.toInt ∧ a6.toInt ≤ 255 := b8; have t2 : a9.toInt = a6.toInt := b11; omega) (by have t1 : 0 ≤ a6.toInt ∧ a6.toInt ≤ 255 := b8; have t2 : a9.toInt = a6.toInt := b11; omega)) (⟨rfl, (show 0 ≤ a9.toInt from (by have t1 : 0 ≤ a6.toInt ∧ a6.toInt ≤ 255 := b8; have t2 : a9.toInt = a6.toInt := b11; omega)), (show a9.toInt ≤ 255 from (by have t1 : 0 ≤ a6.toInt ∧ a6.toInt ≤ 255 := b8; have t2 : a9.toInt = a6.toInt := b11; omega)), (show a9 = (F_jLat_charAt_25 x2) from (by rw [← e10, ← e7, ← e5, F_jLat_charAt_25.eq_1]))⟩) d_33_2_14
def F_jStr_charAt_25 (x2 : Int32) : Int32 := ((F_jLat_charAt_25 x2) : Int32)
set_option maxRecDepth 100000 in
set_option maxHeartbeats 4000000 in
theorem X_jStr_charAt_25 (l : Launch) (D : va_G) (g : Nat → ClassId) (q : Nat → Nat) (ws : va_W) (x2 : Int32) (hI : q_I (nsh g q) q ws) (pre0 : 0 ≤ x2.toInt) (pre1 : x2.toInt ≤ 6) : q_mI l y_jStr_charAt prog_31_method_56_code 2 (.char) 4 0 0 D g [.ref (g (8 + 2 * 25)), .int x2] ws (fun r u => ws = u ∧ (0 ≤ r.toInt) ∧ (r.toInt ≤ 255) ∧ r = (F_jStr_charAt_25 x2)) := by
  intro sz
  refine q_into (by decide) (Nat.le_of_ble_eq_true rfl) ?_
  intro p e s m below meth c ls hsz C0 V hl
  have hx := C0.1
  have hb := C0.2.1
  replace pre0 : q_F (0 ≤ x2.toInt) := pre0
  replace pre1 : q_F (x2.toInt ≤ 6) := pre1
  have hl : lv_has ls 2 [(0, .ref (g (8 + 2 * 25))), (1, .int x2)] := hl
  refine lv_aload_n hx hb d_31_56_0 rfl (lv_at hl 0 rfl) ?_
  refine q_goi V (q_runVs (As := []) (rest := []) (d := 1) (mc := 0) (ms := 0) (i := 25) C0 V rfl LV_jStr_492 (T_jStr_isLatin1_25 l D g q ws   hI   _) rfl rfl rfl hl.1 rfl (Nat.le_of_ble_eq_true rfl) ⟨by decide, by decide⟩ ⟨Nat.le_of_ble_eq_true rfl, Nat.le_of_ble_eq_true rfl⟩ d_31_56_1) (fun a3 u1 H locs hp2 V => ?_)
  obtain ⟨rfl, b4, b5⟩ := hp2
  replace b4 : q_F (1 ≤ a3.toInt) := b4
  replace b5 : q_F (a3.toInt ≤ 1) := b5
  obtain rfl : a3 = (1 : Int32) := q_Ieq (x := a3.toInt) (y := 1) rfl (by decide) (by have t1 : 1 ≤ a3.toInt := b4; have t2 : a3.toInt ≤ 1 := b5; omega)
  refine lv_if_eq (tgt := 16) hx hb d_31_56_4 (by decide) (fun c7 => absurd c7 (by decide)) (fun c7 => ?_)
  refine lv_aload_n hx hb d_31_56_7 rfl (lv_at hl 0 rfl) ?_
  refine q_sval (i := 25) C0 V rfl rfl w_1018 d_31_56_8 ?_
  refine lv_iload_n hx hb d_31_56_11 rfl (lv_at hl 1 rfl) ?_
  refine q_goi V (q_runS (As := [.ref (g (9 + 2 * 25)), .int x2]) (rest := []) (d := 3) (mc := 0) (ms := 0) C0 V rfl LS_jStr_495 (X_jLat_charAt_25 l D g q ws  x2 hI  (by have t1 : 0 ≤ x2.toInt := pre0; omega) (by have t1 : x2.toInt ≤ 6 := pre1; omega) _) rfl hl.1 rfl (Nat.le_of_ble_eq_true rfl) ⟨by decide, by decide⟩ ⟨Nat.le_of_ble_eq_true rfl, Nat.le_of_ble_eq_true rfl⟩ d_31_56_12) (fun a10 u8 H locs hp9 V => ?_)
  obtain ⟨rfl, b11, b12, hE13⟩ := hp9
  have e14 : a10 = (F_jLat_charAt_25 x2) := hE13
  replace b11 : q_F (0 ≤ a10.toInt) := b11
  replace b12 : q_F (a10.toInt ≤ 255) := b12
  exact q_retn C0 V (n_chr (by have t1 : 0 ≤ a10.toInt := b11; omega) (by have t1 : a10.toInt ≤ 255 := b12; omega)) (⟨rfl, (show 0 ≤ a10.toInt from (by have t1 : 0 ≤ a10.toInt := b11; omega)), (show a10.toInt ≤ 255 from (by have t1 : a10.toInt ≤ 255 := b12; omega)), (show a10 = (F_jStr_charAt_25 x2) from (by rw [e14, F_jStr_charAt_25.eq_1]))⟩) d_31_56_15
def F_She_addText_25_c16 (K_F_She_addText_25_L2 : Int32 → Int32 → (Nat → Int64) → (Int32 × (Nat → Int64))) (R : Int32) (N : Int32) (K : Int32) (t0_0 : Int32) (t1_0 : (Nat → Int64)) (lx7 : Int32) (lx8 : Int32) (lx9 : (Nat → Int64)) (p50 : (Int32 × (Nat → Int64))) : Int32 × (Nat → Int64) := K_F_She_addText_25_L2 (lx7 + 1 : Int32) (p50.1 : Int32) (p50.2 : (Nat → Int64))
def F_She_addText_25_L2 (R : Int32) (N : Int32) (K : Int32) (t0_0 : Int32) (t1_0 : (Nat → Int64)) : Nat → Int32 → Int32 → (Nat → Int64) → (Int32 × (Nat → Int64))
  | 0, _, _, _ => default
  | fm + 1, lx7, lx8, lx9 => if (7 : Int32) ≤ lx7 then ((lx8, lx9)) else (F_She_addText_25_c16 (F_She_addText_25_L2 R N K t0_0 t1_0 fm) R N K t0_0 t1_0 lx7 lx8 lx9 ((F_She_add_p R N K ((F_jStr_charAt_25 lx7) : Int32) lx8 lx9) : (Int32 × (Nat → Int64))))
def F_She_addText_25 (R : Int32) (N : Int32) (K : Int32) (t0_0 : Int32) (t1_0 : (Nat → Int64)) : Int32 × (Nat → Int64) := F_She_addText_25_L2 R N K t0_0 t1_0 ((7 - (0 : Int32).toInt).toNat + 1) 0 t0_0 t1_0
set_option maxRecDepth 100000 in
set_option maxHeartbeats 4000000 in
theorem X_She_addText_25 (l : Launch) (D : va_G) (g : Nat → ClassId) (q : Nat → Nat) (ws : va_W) (k1 : Nat) (R N K : Int32) (hB1 : q_isShe (nsh g q) g q k1 R N K) (hI : q_I (nsh g q) q ws) (t0_0 : Int32) (hT0 : ws[k1]? = (some (q k1, .inr (1, [.ref (q (k1 + 1)), .int R, .int t0_0])) : Option (Nat × va_E))) (t1_0 : (Nat → Int64)) (hT1 : ws[k1 + 1]? = (some (q (k1 + 1), .inl (g 1, N.toNatClampNeg, .inr (.inl t1_0))) : Option (Nat × va_E))) (pre0 : t0_0.toInt + 20 ≤ K.toInt) : q_mV l y_She_addText prog_11_method_4_code 3 5 0 0 D g [.ref (q k1), .ref (g (8 + 2 * 25))] ws (fun u => q_I (nsh g q) q u ∧ q_un ws u [k1, k1 + 1] ∧ ∃ (u0_0 : Int32) (u1_0 : (Nat → Int64)), u[k1]? = (some (q k1, .inr (1, [.ref (q (k1 + 1)), .int R, .int u0_0])) : Option (Nat × va_E)) ∧ u[k1 + 1]? = (some (q (k1 + 1), .inl (g 1, N.toNatClampNeg, .inr (.inl u1_0))) : Option (Nat × va_E)) ∧ (t0_0.toInt + 7 ≤ u0_0.toInt) ∧ (u0_0.toInt ≤ t0_0.toInt + 7) ∧ (u0_0, u1_0) = (F_She_addText_25 R N K t0_0 t1_0)) := by
  intro sz
  refine q_into (by decide) (Nat.le_of_ble_eq_true rfl) ?_
  intro p e s m below meth c ls hsz C0 V hl
  have hx := C0.1
  have hb := C0.2.1
  have hfk10 : q_F (0 ≤ R.toInt ∧ R.toInt ≤ 8 * N.toInt ∧ 0 ≤ N.toInt ∧ N.toInt ≤ 1376 ∧ 64 ≤ R.toInt ∧ 64 ≤ K.toInt ∧ K.toInt ≤ 1000000) := hB1.2.2.1
  obtain ⟨yy0_0, hh0, btt0_0⟩ := n_shO hI hB1
  obtain ⟨rfl⟩ : t0_0 = yy0_0 := by have z := Option.some.inj (hT0.symm.trans hh0); simpa using z
  replace btt0_0 : q_F (0 ≤ t0_0.toInt ∧ t0_0.toInt ≤ K.toInt) := btt0_0
  replace pre0 : q_F (t0_0.toInt + 20 ≤ K.toInt) := pre0
  have hF : q_un ws ws [k1, k1 + 1] := q_u0
  have hl : lv_has ls 3 [(0, .ref (q k1)), (1, .ref (g (8 + 2 * 25)))] := hl
  refine lv_iconst (v := 0) hx hb d_11_4_0 (by decide) ?_
  refine lv_istore_n (lv' := [(2, .int 0), (0, .ref (q k1)), (1, .ref (g (8 + 2 * 25)))]) hx hb d_11_4_1 rfl hl (by decide) rfl (fun ls hl => ?_)
  refine q_loop (X := Int32 × Int32 × (Nat → Int64)) (fun z H locs ls w15 => q_F (z.1.toInt ≤ 7) ∧ q_F (t0_0.toInt ≤ z.1.toInt + z.2.1.toInt) ∧ q_F (z.2.1.toInt ≤ z.1.toInt + t0_0.toInt) ∧ q_F (z.1.toInt + t0_0.toInt ≤ z.2.1.toInt) ∧ q_Wd D g (va_A ws sz) s w15 H locs ∧ lv_has ls 3 [(2, .int z.1), (0, .ref (q k1)), (1, .ref (g (8 + 2 * 25)))] ∧ q_I (nsh g q) q w15 ∧ q_un ws w15 [k1, k1 + 1] ∧ w15[k1]? = (some (q k1, .inr (1, [.ref (q (k1 + 1)), .int R, .int z.2.1])) : Option (Nat × va_E)) ∧ w15[k1 + 1]? = (some (q (k1 + 1), .inl (g 1, N.toNatClampNeg, .inr (.inl z.2.2))) : Option (Nat × va_E)) ∧ (∃ n, (7 - z.1.toInt).toNat < n ∧ F_She_addText_25_L2 R N K t0_0 t1_0 n z.1 z.2.1 z.2.2 = (F_She_addText_25 R N K t0_0 t1_0))) (fun z => (7 - z.1.toInt).toNat) ?_ ((0 : Int32), (t0_0 : Int32), (t1_0 : (Nat → Int64))) _ _ _ ws ⟨(show q_F (0 ≤ 7) from (show 0 ≤ 7 from by omega)), (show q_F (t0_0.toInt ≤ 0 + t0_0.toInt) from (show t0_0.toInt ≤ 0 + t0_0.toInt from by omega)), (show q_F (t0_0.toInt ≤ 0 + t0_0.toInt) from (show t0_0.toInt ≤ 0 + t0_0.toInt from by omega)), (show q_F (0 + t0_0.toInt ≤ t0_0.toInt) from (show 0 + t0_0.toInt ≤ t0_0.toInt from by omega)), V, q_lw hl (q_lw1 0 rfl (q_lw1 1 rfl (q_lw1 2 rfl q_lw0))), hI, hF, hT0, hT1, ⟨((7 - (0 : Int32).toInt).toNat + 1), Nat.lt_succ_self _, (show F_She_addText_25_L2 R N K t0_0 t1_0 ((7 - (0 : Int32).toInt).toNat + 1) 0 t0_0 t1_0 = (F_She_addText_25 R N K t0_0 t1_0) from (by rw [F_She_addText_25.eq_1]))⟩⟩
  rintro ⟨lx7, lx8, lx9⟩ H locs ls w15 ⟨i10, i11, i12, i13, V, hl, hI, hF, hO16, hO17, ⟨fu20, hf21, hR18⟩⟩ ih14
  obtain ⟨fm22, rfl⟩ : ∃ m, fu20 = m + 1 := ⟨fu20 - 1, by omega⟩
  replace i10 : q_F (lx7.toInt ≤ 7) := i10
  replace i11 : q_F (t0_0.toInt ≤ lx7.toInt + lx8.toInt) := i11
  replace i12 : q_F (lx8.toInt ≤ lx7.toInt + t0_0.toInt) := i12
  replace i13 : q_F (lx7.toInt + t0_0.toInt ≤ lx8.toInt) := i13
  replace hl : lv_has ls 3 [(2, .int lx7), (0, .ref (q k1)), (1, .ref (g (8 + 2 * 25)))] := hl
  replace hO16 : w15[k1]? = (some (q k1, .inr (1, [.ref (q (k1 + 1)), .int R, .int lx8])) : Option (Nat × va_E)) := hO16
  replace hO17 : w15[k1 + 1]? = (some (q (k1 + 1), .inl (g 1, N.toNatClampNeg, .inr (.inl lx9))) : Option (Nat × va_E)) := hO17
  refine lv_iload_n hx hb d_11_4_2 rfl (lv_at hl 0 rfl) ?_
  refine lv_aload_n hx hb d_11_4_3 rfl (lv_at hl 2 rfl) ?_
  refine q_goi V (q_runVs (As := []) (rest := [.int lx7]) (d := 2) (mc := 0) (ms := 0) (i := 25) C0 V rfl LV_She_24 (X_jStr_length_25 l D g q w15   hI   _) rfl rfl rfl hl.1 rfl (Nat.le_of_ble_eq_true rfl) ⟨by decide, by decide⟩ ⟨Nat.le_of_ble_eq_true rfl, Nat.le_of_ble_eq_true rfl⟩ d_11_4_4) (fun a25 u23 H locs hp24 V => ?_)
  obtain ⟨rfl, b26, b27, hE28⟩ := hp24
  have e29 : a25 = (F_jStr_length_25) := hE28
  replace b26 : q_F (7 ≤ a25.toInt) := b26
  replace b27 : q_F (a25.toInt ≤ 7) := b27
  obtain rfl : a25 = (7 : Int32) := q_Ieq (x := a25.toInt) (y := 7) rfl (by decide) (by have t1 : 7 ≤ a25.toInt := b26; have t2 : a25.toInt ≤ 7 := b27; omega)
  refine lv_icmp_ge (tgt := 25) hx hb d_11_4_7 (by decide) (fun c30 => ?_) (fun c30 => ?_)
  ·
    have b31 : q_F (7 ≤ lx7.toInt) := (q_leI c30)
    exact q_retv C0 V (⟨hI, hF, lx8, lx9, hO16, hO17, (show t0_0.toInt + 7 ≤ lx8.toInt from (by have t1 : lx7.toInt + t0_0.toInt ≤ lx8.toInt := i13; have t2 : 7 ≤ lx7.toInt := b31; omega)), (show lx8.toInt ≤ t0_0.toInt + 7 from (by have t1 : lx7.toInt ≤ 7 := i10; have t2 : lx8.toInt ≤ lx7.toInt + t0_0.toInt := i12; omega)), (show (lx8, lx9) = (F_She_addText_25 R N K t0_0 t1_0) from Eq.trans (by rw [F_She_addText_25_L2.eq_2, if_pos c30]) hR18)⟩) d_11_4_25
  ·
    have b32 : q_F (lx7.toInt < 7) := (q_nleI c30)
    refine lv_aload_n hx hb d_11_4_10 rfl (lv_at hl 1 rfl) ?_
    refine lv_aload_n hx hb d_11_4_11 rfl (lv_at hl 2 rfl) ?_
    refine lv_iload_n hx hb d_11_4_12 rfl (lv_at hl 0 rfl) ?_
    refine q_goi V (q_runVs (As := [.int lx7]) (rest := [.ref (q k1)]) (d := 4) (mc := 0) (ms := 0) (i := 25) C0 V rfl LV_She_30 (X_jStr_charAt_25 l D g q w15  lx7 hI  (by have t1 : t0_0.toInt ≤ lx7.toInt + lx8.toInt := i11; have t2 : lx8.toInt ≤ lx7.toInt + t0_0.toInt := i12; omega) (by have t1 : lx7.toInt < 7 := b32; omega) _) rfl rfl rfl hl.1 rfl (Nat.le_of_ble_eq_true rfl) ⟨by decide, by decide⟩ ⟨Nat.le_of_ble_eq_true rfl, Nat.le_of_ble_eq_true rfl⟩ d_11_4_13) (fun a35 u33 H locs hp34 V => ?_)
    obtain ⟨rfl, b36, b37, hE38⟩ := hp34
    have e39 : a35 = (F_jStr_charAt_25 lx7) := hE38
    replace b36 : q_F (0 ≤ a35.toInt) := b36
    replace b37 : q_F (a35.toInt ≤ 255) := b37
    refine q_gov V (q_runV (As := [.int a35]) (rest := []) (d := 1) (mc := 0) (ms := 0) (ci := 1) C0 V rfl LV_She_34 (X_She_add_p l D g q w15 k1 R N K hB1 a35 hI lx8 hO16 lx9 hO17 (by have t1 : t0_0.toInt + 20 ≤ K.toInt := pre0; have t2 : lx7.toInt ≤ 7 := i10; have t3 : lx8.toInt ≤ lx7.toInt + t0_0.toInt := i12; omega) _) rfl rfl hO16 rfl hl.1 rfl (Nat.le_of_ble_eq_true rfl) ⟨by decide, by decide⟩ ⟨Nat.le_of_ble_eq_true rfl, Nat.le_of_ble_eq_true rfl⟩ d_11_4_16) (fun u40 H locs hp41 V => ?_)
    obtain ⟨hI, hu49, y43, f44, hO42, hA45, b46, b47, hE48⟩ := hp41
    replace hO42 : u40[k1]? = (some (q k1, .inr (1, [.ref (q (k1 + 1)), .int R, .int y43])) : Option (Nat × va_E)) := hO42
    replace hA45 : u40[k1 + 1]? = (some (q (k1 + 1), .inl (g 1, N.toNatClampNeg, .inr (.inl f44))) : Option (Nat × va_E)) := hA45
    obtain ⟨p50, e51⟩ : ∃ z, z = (F_She_add_p R N K a35 lx8 lx9) := ⟨_, rfl⟩
    have e52 : y43 = p50.1 := congrArg (fun z => z.1) (hE48.trans e51.symm)
    have e53 : f44 = p50.2 := congrArg (fun z => z.2) (hE48.trans e51.symm)
    replace b46 : q_F (lx8.toInt + 1 ≤ y43.toInt) := b46
    replace b47 : q_F (y43.toInt ≤ lx8.toInt + 1) := b47
    replace hF := q_uc hF hu49 (by simp)
    have hR54 := (show F_She_addText_25_c16 (F_She_addText_25_L2 R N K t0_0 t1_0 fm22) R N K t0_0 t1_0 lx7 lx8 lx9 p50 = (F_She_addText_25 R N K t0_0 t1_0) from Eq.trans (by rw [e51, e39, F_She_addText_25_L2.eq_2, if_neg c30]) hR18)
    obtain ⟨a59, e60⟩ := q_nm (lx7 + 1 : Int32)
    have b61 : q_F (a59.toInt = lx7.toInt + 1) := (by rw [← e60]; exact q_addI (y := 1) rfl (by decide) (by have t1 : t0_0.toInt ≤ lx7.toInt + lx8.toInt := i11; have t2 : lx8.toInt ≤ lx7.toInt + t0_0.toInt := i12; have t3 : lx7.toInt ≤ 7 := i10; omega) (by have t1 : t0_0.toInt ≤ lx7.toInt + lx8.toInt := i11; have t2 : lx8.toInt ≤ lx7.toInt + t0_0.toInt := i12; have t3 : lx7.toInt ≤ 7 := i10; omega))
    refine lv_iinc (v := a59) (lv' := [(2, .int a59), (0, .ref (q k1)), (1, .ref (g (8 + 2 * 25)))]) hx hb d_11_4_19 hl (k := 0) rfl (e60) (by decide) rfl (fun ls hl => ?_)
    refine lv_goto (tgt := 2) hx hb d_11_4_22 (by decide) ?_
    exact ih14 ((a59 : Int32), (y43 : Int32), (f44 : (Nat → Int64))) _ _ _ _ (show (7 - a59.toInt).toNat < (7 - lx7.toInt).toNat from by have t1 : a59.toInt = lx7.toInt + 1 := b61; have t2 : lx7.toInt ≤ 7 := i10; have t3 : lx7.toInt < 7 := b32; omega) ⟨(show q_F (a59.toInt ≤ 7) from (show a59.toInt ≤ 7 from by have t1 : lx7.toInt < 7 := b32; have t2 : a59.toInt = lx7.toInt + 1 := b61; omega)), (show q_F (t0_0.toInt ≤ a59.toInt + y43.toInt) from (show t0_0.toInt ≤ a59.toInt + y43.toInt from by have t1 : t0_0.toInt ≤ lx7.toInt + lx8.toInt := i11; have t2 : lx8.toInt + 1 ≤ y43.toInt := b46; have t3 : a59.toInt = lx7.toInt + 1 := b61; omega)), (show q_F (y43.toInt ≤ a59.toInt + t0_0.toInt) from (show y43.toInt ≤ a59.toInt + t0_0.toInt from by have t1 : lx8.toInt ≤ lx7.toInt + t0_0.toInt := i12; have t2 : y43.toInt ≤ lx8.toInt + 1 := b47; have t3 : a59.toInt = lx7.toInt + 1 := b61; omega)), (show q_F (a59.toInt + t0_0.toInt ≤ y43.toInt) from (show a59.toInt + t0_0.toInt ≤ y43.toInt from by have t1 : lx7.toInt + t0_0.toInt ≤ lx8.toInt := i13; have t2 : lx8.toInt + 1 ≤ y43.toInt := b46; have t3 : a59.toInt = lx7.toInt + 1 := b61; omega)), V, q_lw hl (q_lw1 0 rfl (q_lw1 1 rfl (q_lw1 2 rfl q_lw0))), hI, hF, hO42, hA45, ⟨fm22, Nat.lt_of_lt_of_le (show (7 - a59.toInt).toNat < (7 - lx7.toInt).toNat from by have t1 : a59.toInt = lx7.toInt + 1 := b61; have t2 : lx7.toInt ≤ 7 := i10; have t3 : lx7.toInt < 7 := b32; omega) (Nat.le_of_lt_succ hf21), (show F_She_addText_25_L2 R N K t0_0 t1_0 fm22 a59 y43 f44 = (F_She_addText_25 R N K t0_0 t1_0) from Eq.trans (by rw [← e60, e53, e52, F_She_addText_25_c16.eq_1]) hR54)⟩⟩
def F_jStr_length_26 : Int32 := (3 : Int32)
set_option maxRecDepth 100000 in
set_option maxHeartbeats 4000000 in
theorem X_jStr_length_26 (l : Launch) (D : va_G) (g : Nat → ClassId) (q : Nat → Nat) (ws : va_W) (hI : q_I (nsh g q) q ws) : q_mI l y_jStr_length prog_31_method_54_code 1 (.int) 2 0 0 D g [.ref (g (8 + 2 * 26))] ws (fun r u => ws = u ∧ (3 ≤ r.toInt) ∧ (r.toInt ≤ 3) ∧ r = (F_jStr_length_26)) := by
  intro sz
  refine q_into (by decide) (Nat.le_of_ble_eq_true rfl) ?_
  intro p e s m below meth c ls hsz C0 V hl
  have hx := C0.1
  have hb := C0.2.1
  have hl : lv_has ls 1 [(0, .ref (g (8 + 2 * 26)))] := hl
  refine lv_aload_n hx hb d_31_54_0 rfl (lv_at hl 0 rfl) ?_
  refine q_sval (i := 26) C0 V rfl rfl w_1018 d_31_54_1 ?_
  refine q_slen (i := 26) (v := 3) C0 V rfl (by decide) d_31_54_4 ?_
  refine lv_aload_n hx hb d_31_54_5 rfl (lv_at hl 0 rfl) ?_
  refine q_goi V (q_runVs (As := []) (rest := [.int 3]) (d := 1) (mc := 0) (ms := 0) (i := 26) C0 V rfl LV_jStr_335 (T_jStr_coder_26 l D g q ws   hI   _) rfl rfl rfl hl.1 rfl (Nat.le_of_ble_eq_true rfl) ⟨by decide, by decide⟩ ⟨Nat.le_of_ble_eq_true rfl, Nat.le_of_ble_eq_true rfl⟩ d_31_54_6) (fun a3 u1 H locs hp2 V => ?_)
  obtain ⟨rfl, b4, b5⟩ := hp2
  replace b4 : q_F (0 ≤ a3.toInt) := b4
  replace b5 : q_F (a3.toInt ≤ 0) := b5
  obtain rfl : a3 = (0 : Int32) := q_Ieq (x := a3.toInt) (y := 0) rfl (by decide) (by have t1 : 0 ≤ a3.toInt := b4; have t2 : a3.toInt ≤ 0 := b5; omega)
  refine lv_ishr hx hb d_31_54_9 ?_
  refine q_ti (v := 3) (by decide) ?_
  exact q_reti C0 V (⟨rfl, (show 3 ≤ (3 : Int32).toInt from (by have z0 : (3 : Int32).toInt = 3 := rfl; omega)), (show (3 : Int32).toInt ≤ 3 from (by have z0 : (3 : Int32).toInt = 3 := rfl; omega)), (show (3 : Int32) = (F_jStr_length_26) from (by rw [F_jStr_length_26.eq_1]))⟩) d_31_54_10
def F_jLat_charAt_26 (x2 : Int32) : Int32 := (((((([48, 46, 48] : List Int32).getD x2.toNatClampNeg 0) : Int32) &&& 255 : Int32).toUInt32 % 65536).toInt32 : Int32)
set_option maxRecDepth 100000 in
set_option maxHeartbeats 4000000 in
theorem X_jLat_charAt_26 (l : Launch) (D : va_G) (g : Nat → ClassId) (q : Nat → Nat) (ws : va_W) (x2 : Int32) (hI : q_I (nsh g q) q ws) (pre0 : 0 ≤ x2.toInt) (pre1 : x2.toInt ≤ 2) : q_mI l y_jLat_charAt prog_33_method_2_code 2 (.char) 3 0 0 D g [.ref (g (9 + 2 * 26)), .int x2] ws (fun r u => ws = u ∧ (0 ≤ r.toInt) ∧ (r.toInt ≤ 255) ∧ r = (F_jLat_charAt_26 x2)) := by
  intro sz
  refine q_into (by decide) (Nat.le_of_ble_eq_true rfl) ?_
  intro p e s m below meth c ls hsz C0 V hl
  have hx := C0.1
  have hb := C0.2.1
  replace pre0 : q_F (0 ≤ x2.toInt) := pre0
  replace pre1 : q_F (x2.toInt ≤ 2) := pre1
  have hl : lv_has ls 2 [(0, .ref (g (9 + 2 * 26))), (1, .int x2)] := hl
  refine lv_iload_n hx hb d_33_2_0 rfl (lv_at hl 1 rfl) ?_
  refine lv_aload_n hx hb d_33_2_1 rfl (lv_at hl 0 rfl) ?_
  refine q_slen (i := 26) (v := 3) C0 V rfl (by decide) d_33_2_2 ?_
  refine q_gov V (q_runS (As := [.int x2, .int 3]) (rest := []) (d := 2) (mc := 0) (ms := 0) C0 V rfl LS_jLat_9 (T_jStr_checkIndex l D g q ws  x2 3 hI  (by have y0 : (3 : Int32).toInt = 3 := rfl; have t1 : 0 ≤ x2.toInt := pre0; omega) (by have y0 : (3 : Int32).toInt = 3 := rfl; have t1 : x2.toInt ≤ 2 := pre1; omega) _) rfl hl.1 rfl (Nat.le_of_ble_eq_true rfl) ⟨by decide, by decide⟩ ⟨Nat.le_of_ble_eq_true rfl, Nat.le_of_ble_eq_true rfl⟩ d_33_2_3) (fun u1 H locs hp2 V => ?_)
  obtain ⟨rfl, -⟩ := hp2
  refine lv_aload_n hx hb d_33_2_6 rfl (lv_at hl 0 rfl) ?_
  refine lv_iload_n hx hb d_33_2_7 rfl (lv_at hl 1 rfl) ?_
  refine q_sbal (i := 26) (v := (([48, 46, 48] : List Int32).getD x2.toNatClampNeg 0)) C0 V rfl (show vp_in x2 3 from q_ix (x := x2.toInt) rfl (by have t1 : 0 ≤ x2.toInt := pre0; omega) (by have t1 : 0 ≤ x2.toInt := pre0; have t2 : x2.toInt ≤ 2 := pre1; omega)) rfl d_33_2_8 ?_
  obtain ⟨a4, e5⟩ := q_nm ((([48, 46, 48] : List Int32).getD x2.toNatClampNeg 0) : Int32)
  refine q_ti (v := a4) e5 ?_
  refine lv_sipush (v := 255) hx hb d_33_2_9 (by decide) ?_
  refine lv_iand hx hb d_33_2_12 ?_
  obtain ⟨a6, e7⟩ := q_nm (a4 &&& 255 : Int32)
  refine q_ti (v := a6) e7 ?_
  have b8 : q_F (0 ≤ a6.toInt ∧ a6.toInt ≤ 255) := (by rw [← e7]; show 0 ≤ (a4 &&& 255 : Int32).toInt ∧ (a4 &&& 255 : Int32).toInt ≤ 255; exact s_and (by decide))
  refine lv_i2c hx hb d_33_2_13 rfl ?_
  obtain ⟨a9, e10⟩ := q_nm ((a6.toUInt32 % 65536).toInt32 : Int32)
  refine q_ti (v := a9) e10 ?_
  have b11 : q_F (a9.toInt = a6.toInt) := (by rw [← e10]; show ((a6.toUInt32 % 65536).toInt32 : Int32).toInt = a6.toInt; exact (n_i2c (x := a6)).2.2 (by have t1 : 0 ≤ a6.toInt ∧ a6.toInt ≤ 255 := b8; omega) (by have t1 : 0 ≤ a6.toInt ∧ a6.toInt ≤ 255 := b8; omega))
  exact q_retn C0 V (n_chr (by have t1 : 0 ≤ a6.toInt ∧ a6.toInt ≤ 255 := b8; have t2 : a9.toInt = a6.toInt := b11; omega) (by have t1 : 0 ≤ a6.toInt ∧ a6.toInt ≤ 255 := b8; have t2 : a9.toInt = a6.toInt := b11; omega)) (⟨rfl, (show 0 ≤ a9.toInt from (by have t1 : 0 ≤ a6.toInt ∧ a6.toInt ≤ 255 := b8; have t2 : a9.toInt = a6.toInt := b11; omega)), (show a9.toInt ≤ 255 from (by have t1 : 0 ≤ a6.toInt ∧ a6.toInt ≤ 255 := b8; have t2 : a9.toInt = a6.toInt := b11; omega)), (show a9 = (F_jLat_charAt_26 x2) from (by rw [← e10, ← e7, ← e5, F_jLat_charAt_26.eq_1]))⟩) d_33_2_14
def F_jStr_charAt_26 (x2 : Int32) : Int32 := ((F_jLat_charAt_26 x2) : Int32)
set_option maxRecDepth 100000 in
set_option maxHeartbeats 4000000 in
theorem X_jStr_charAt_26 (l : Launch) (D : va_G) (g : Nat → ClassId) (q : Nat → Nat) (ws : va_W) (x2 : Int32) (hI : q_I (nsh g q) q ws) (pre0 : 0 ≤ x2.toInt) (pre1 : x2.toInt ≤ 2) : q_mI l y_jStr_charAt prog_31_method_56_code 2 (.char) 4 0 0 D g [.ref (g (8 + 2 * 26)), .int x2] ws (fun r u => ws = u ∧ (0 ≤ r.toInt) ∧ (r.toInt ≤ 255) ∧ r = (F_jStr_charAt_26 x2)) := by
  intro sz
  refine q_into (by decide) (Nat.le_of_ble_eq_true rfl) ?_
  intro p e s m below meth c ls hsz C0 V hl
  have hx := C0.1
  have hb := C0.2.1
  replace pre0 : q_F (0 ≤ x2.toInt) := pre0
  replace pre1 : q_F (x2.toInt ≤ 2) := pre1
  have hl : lv_has ls 2 [(0, .ref (g (8 + 2 * 26))), (1, .int x2)] := hl
  refine lv_aload_n hx hb d_31_56_0 rfl (lv_at hl 0 rfl) ?_
  refine q_goi V (q_runVs (As := []) (rest := []) (d := 1) (mc := 0) (ms := 0) (i := 26) C0 V rfl LV_jStr_492 (T_jStr_isLatin1_26 l D g q ws   hI   _) rfl rfl rfl hl.1 rfl (Nat.le_of_ble_eq_true rfl) ⟨by decide, by decide⟩ ⟨Nat.le_of_ble_eq_true rfl, Nat.le_of_ble_eq_true rfl⟩ d_31_56_1) (fun a3 u1 H locs hp2 V => ?_)
  obtain ⟨rfl, b4, b5⟩ := hp2
  replace b4 : q_F (1 ≤ a3.toInt) := b4
  replace b5 : q_F (a3.toInt ≤ 1) := b5
  obtain rfl : a3 = (1 : Int32) := q_Ieq (x := a3.toInt) (y := 1) rfl (by decide) (by have t1 : 1 ≤ a3.toInt := b4; have t2 : a3.toInt ≤ 1 := b5; omega)
  refine lv_if_eq (tgt := 16) hx hb d_31_56_4 (by decide) (fun c7 => absurd c7 (by decide)) (fun c7 => ?_)
  refine lv_aload_n hx hb d_31_56_7 rfl (lv_at hl 0 rfl) ?_
  refine q_sval (i := 26) C0 V rfl rfl w_1018 d_31_56_8 ?_
  refine lv_iload_n hx hb d_31_56_11 rfl (lv_at hl 1 rfl) ?_
  refine q_goi V (q_runS (As := [.ref (g (9 + 2 * 26)), .int x2]) (rest := []) (d := 3) (mc := 0) (ms := 0) C0 V rfl LS_jStr_495 (X_jLat_charAt_26 l D g q ws  x2 hI  (by have t1 : 0 ≤ x2.toInt := pre0; omega) (by have t1 : x2.toInt ≤ 2 := pre1; omega) _) rfl hl.1 rfl (Nat.le_of_ble_eq_true rfl) ⟨by decide, by decide⟩ ⟨Nat.le_of_ble_eq_true rfl, Nat.le_of_ble_eq_true rfl⟩ d_31_56_12) (fun a10 u8 H locs hp9 V => ?_)
  obtain ⟨rfl, b11, b12, hE13⟩ := hp9
  have e14 : a10 = (F_jLat_charAt_26 x2) := hE13
  replace b11 : q_F (0 ≤ a10.toInt) := b11
  replace b12 : q_F (a10.toInt ≤ 255) := b12
  exact q_retn C0 V (n_chr (by have t1 : 0 ≤ a10.toInt := b11; omega) (by have t1 : a10.toInt ≤ 255 := b12; omega)) (⟨rfl, (show 0 ≤ a10.toInt from (by have t1 : 0 ≤ a10.toInt := b11; omega)), (show a10.toInt ≤ 255 from (by have t1 : a10.toInt ≤ 255 := b12; omega)), (show a10 = (F_jStr_charAt_26 x2) from (by rw [e14, F_jStr_charAt_26.eq_1]))⟩) d_31_56_15
def F_She_addText_26_c16 (K_F_She_addText_26_L2 : Int32 → Int32 → (Nat → Int64) → (Int32 × (Nat → Int64))) (R : Int32) (N : Int32) (K : Int32) (t0_0 : Int32) (t1_0 : (Nat → Int64)) (lx7 : Int32) (lx8 : Int32) (lx9 : (Nat → Int64)) (p50 : (Int32 × (Nat → Int64))) : Int32 × (Nat → Int64) := K_F_She_addText_26_L2 (lx7 + 1 : Int32) (p50.1 : Int32) (p50.2 : (Nat → Int64))
def F_She_addText_26_L2 (R : Int32) (N : Int32) (K : Int32) (t0_0 : Int32) (t1_0 : (Nat → Int64)) : Nat → Int32 → Int32 → (Nat → Int64) → (Int32 × (Nat → Int64))
  | 0, _, _, _ => default
  | fm + 1, lx7, lx8, lx9 => if (3 : Int32) ≤ lx7 then ((lx8, lx9)) else (F_She_addText_26_c16 (F_She_addText_26_L2 R N K t0_0 t1_0 fm) R N K t0_0 t1_0 lx7 lx8 lx9 ((F_She_add_p R N K ((F_jStr_charAt_26 lx7) : Int32) lx8 lx9) : (Int32 × (Nat → Int64))))
def F_She_addText_26 (R : Int32) (N : Int32) (K : Int32) (t0_0 : Int32) (t1_0 : (Nat → Int64)) : Int32 × (Nat → Int64) := F_She_addText_26_L2 R N K t0_0 t1_0 ((3 - (0 : Int32).toInt).toNat + 1) 0 t0_0 t1_0
set_option maxRecDepth 100000 in
set_option maxHeartbeats 4000000 in
theorem X_She_addText_26 (l : Launch) (D : va_G) (g : Nat → ClassId) (q : Nat → Nat) (ws : va_W) (k1 : Nat) (R N K : Int32) (hB1 : q_isShe (nsh g q) g q k1 R N K) (hI : q_I (nsh g q) q ws) (t0_0 : Int32) (hT0 : ws[k1]? = (some (q k1, .inr (1, [.ref (q (k1 + 1)), .int R, .int t0_0])) : Option (Nat × va_E))) (t1_0 : (Nat → Int64)) (hT1 : ws[k1 + 1]? = (some (q (k1 + 1), .inl (g 1, N.toNatClampNeg, .inr (.inl t1_0))) : Option (Nat × va_E))) (pre0 : t0_0.toInt + 20 ≤ K.toInt) : q_mV l y_She_addText prog_11_method_4_code 3 5 0 0 D g [.ref (q k1), .ref (g (8 + 2 * 26))] ws (fun u => q_I (nsh g q) q u ∧ q_un ws u [k1, k1 + 1] ∧ ∃ (u0_0 : Int32) (u1_0 : (Nat → Int64)), u[k1]? = (some (q k1, .inr (1, [.ref (q (k1 + 1)), .int R, .int u0_0])) : Option (Nat × va_E)) ∧ u[k1 + 1]? = (some (q (k1 + 1), .inl (g 1, N.toNatClampNeg, .inr (.inl u1_0))) : Option (Nat × va_E)) ∧ (t0_0.toInt + 3 ≤ u0_0.toInt) ∧ (u0_0.toInt ≤ t0_0.toInt + 3) ∧ (u0_0, u1_0) = (F_She_addText_26 R N K t0_0 t1_0)) := by
  intro sz
  refine q_into (by decide) (Nat.le_of_ble_eq_true rfl) ?_
  intro p e s m below meth c ls hsz C0 V hl
  have hx := C0.1
  have hb := C0.2.1
  have hfk10 : q_F (0 ≤ R.toInt ∧ R.toInt ≤ 8 * N.toInt ∧ 0 ≤ N.toInt ∧ N.toInt ≤ 1376 ∧ 64 ≤ R.toInt ∧ 64 ≤ K.toInt ∧ K.toInt ≤ 1000000) := hB1.2.2.1
  obtain ⟨yy0_0, hh0, btt0_0⟩ := n_shO hI hB1
  obtain ⟨rfl⟩ : t0_0 = yy0_0 := by have z := Option.some.inj (hT0.symm.trans hh0); simpa using z
  replace btt0_0 : q_F (0 ≤ t0_0.toInt ∧ t0_0.toInt ≤ K.toInt) := btt0_0
  replace pre0 : q_F (t0_0.toInt + 20 ≤ K.toInt) := pre0
  have hF : q_un ws ws [k1, k1 + 1] := q_u0
  have hl : lv_has ls 3 [(0, .ref (q k1)), (1, .ref (g (8 + 2 * 26)))] := hl
  refine lv_iconst (v := 0) hx hb d_11_4_0 (by decide) ?_
  refine lv_istore_n (lv' := [(2, .int 0), (0, .ref (q k1)), (1, .ref (g (8 + 2 * 26)))]) hx hb d_11_4_1 rfl hl (by decide) rfl (fun ls hl => ?_)
  refine q_loop (X := Int32 × Int32 × (Nat → Int64)) (fun z H locs ls w15 => q_F (z.1.toInt ≤ 3) ∧ q_F (t0_0.toInt ≤ z.1.toInt + z.2.1.toInt) ∧ q_F (z.2.1.toInt ≤ z.1.toInt + t0_0.toInt) ∧ q_F (z.1.toInt + t0_0.toInt ≤ z.2.1.toInt) ∧ q_Wd D g (va_A ws sz) s w15 H locs ∧ lv_has ls 3 [(2, .int z.1), (0, .ref (q k1)), (1, .ref (g (8 + 2 * 26)))] ∧ q_I (nsh g q) q w15 ∧ q_un ws w15 [k1, k1 + 1] ∧ w15[k1]? = (some (q k1, .inr (1, [.ref (q (k1 + 1)), .int R, .int z.2.1])) : Option (Nat × va_E)) ∧ w15[k1 + 1]? = (some (q (k1 + 1), .inl (g 1, N.toNatClampNeg, .inr (.inl z.2.2))) : Option (Nat × va_E)) ∧ (∃ n, (3 - z.1.toInt).toNat < n ∧ F_She_addText_26_L2 R N K t0_0 t1_0 n z.1 z.2.1 z.2.2 = (F_She_addText_26 R N K t0_0 t1_0))) (fun z => (3 - z.1.toInt).toNat) ?_ ((0 : Int32), (t0_0 : Int32), (t1_0 : (Nat → Int64))) _ _ _ ws ⟨(show q_F (0 ≤ 3) from (show 0 ≤ 3 from by omega)), (show q_F (t0_0.toInt ≤ 0 + t0_0.toInt) from (show t0_0.toInt ≤ 0 + t0_0.toInt from by omega)), (show q_F (t0_0.toInt ≤ 0 + t0_0.toInt) from (show t0_0.toInt ≤ 0 + t0_0.toInt from by omega)), (show q_F (0 + t0_0.toInt ≤ t0_0.toInt) from (show 0 + t0_0.toInt ≤ t0_0.toInt from by omega)), V, q_lw hl (q_lw1 0 rfl (q_lw1 1 rfl (q_lw1 2 rfl q_lw0))), hI, hF, hT0, hT1, ⟨((3 - (0 : Int32).toInt).toNat + 1), Nat.lt_succ_self _, (show F_She_addText_26_L2 R N K t0_0 t1_0 ((3 - (0 : Int32).toInt).toNat + 1) 0 t0_0 t1_0 = (F_She_addText_26 R N K t0_0 t1_0) from (by rw [F_She_addText_26.eq_1]))⟩⟩
  rintro ⟨lx7, lx8, lx9⟩ H locs ls w15 ⟨i10, i11, i12, i13, V, hl, hI, hF, hO16, hO17, ⟨fu20, hf21, hR18⟩⟩ ih14
  obtain ⟨fm22, rfl⟩ : ∃ m, fu20 = m + 1 := ⟨fu20 - 1, by omega⟩
  replace i10 : q_F (lx7.toInt ≤ 3) := i10
  replace i11 : q_F (t0_0.toInt ≤ lx7.toInt + lx8.toInt) := i11
  replace i12 : q_F (lx8.toInt ≤ lx7.toInt + t0_0.toInt) := i12
  replace i13 : q_F (lx7.toInt + t0_0.toInt ≤ lx8.toInt) := i13
  replace hl : lv_has ls 3 [(2, .int lx7), (0, .ref (q k1)), (1, .ref (g (8 + 2 * 26)))] := hl
  replace hO16 : w15[k1]? = (some (q k1, .inr (1, [.ref (q (k1 + 1)), .int R, .int lx8])) : Option (Nat × va_E)) := hO16
  replace hO17 : w15[k1 + 1]? = (some (q (k1 + 1), .inl (g 1, N.toNatClampNeg, .inr (.inl lx9))) : Option (Nat × va_E)) := hO17
  refine lv_iload_n hx hb d_11_4_2 rfl (lv_at hl 0 rfl) ?_
  refine lv_aload_n hx hb d_11_4_3 rfl (lv_at hl 2 rfl) ?_
  refine q_goi V (q_runVs (As := []) (rest := [.int lx7]) (d := 2) (mc := 0) (ms := 0) (i := 26) C0 V rfl LV_She_24 (X_jStr_length_26 l D g q w15   hI   _) rfl rfl rfl hl.1 rfl (Nat.le_of_ble_eq_true rfl) ⟨by decide, by decide⟩ ⟨Nat.le_of_ble_eq_true rfl, Nat.le_of_ble_eq_true rfl⟩ d_11_4_4) (fun a25 u23 H locs hp24 V => ?_)
  obtain ⟨rfl, b26, b27, hE28⟩ := hp24
  have e29 : a25 = (F_jStr_length_26) := hE28
  replace b26 : q_F (3 ≤ a25.toInt) := b26
  replace b27 : q_F (a25.toInt ≤ 3) := b27
  obtain rfl : a25 = (3 : Int32) := q_Ieq (x := a25.toInt) (y := 3) rfl (by decide) (by have t1 : 3 ≤ a25.toInt := b26; have t2 : a25.toInt ≤ 3 := b27; omega)
  refine lv_icmp_ge (tgt := 25) hx hb d_11_4_7 (by decide) (fun c30 => ?_) (fun c30 => ?_)
  ·
    have b31 : q_F (3 ≤ lx7.toInt) := (q_leI c30)
    exact q_retv C0 V (⟨hI, hF, lx8, lx9, hO16, hO17, (show t0_0.toInt + 3 ≤ lx8.toInt from (by have t1 : lx7.toInt + t0_0.toInt ≤ lx8.toInt := i13; have t2 : 3 ≤ lx7.toInt := b31; omega)), (show lx8.toInt ≤ t0_0.toInt + 3 from (by have t1 : lx7.toInt ≤ 3 := i10; have t2 : lx8.toInt ≤ lx7.toInt + t0_0.toInt := i12; omega)), (show (lx8, lx9) = (F_She_addText_26 R N K t0_0 t1_0) from Eq.trans (by rw [F_She_addText_26_L2.eq_2, if_pos c30]) hR18)⟩) d_11_4_25
  ·
    have b32 : q_F (lx7.toInt < 3) := (q_nleI c30)
    refine lv_aload_n hx hb d_11_4_10 rfl (lv_at hl 1 rfl) ?_
    refine lv_aload_n hx hb d_11_4_11 rfl (lv_at hl 2 rfl) ?_
    refine lv_iload_n hx hb d_11_4_12 rfl (lv_at hl 0 rfl) ?_
    refine q_goi V (q_runVs (As := [.int lx7]) (rest := [.ref (q k1)]) (d := 4) (mc := 0) (ms := 0) (i := 26) C0 V rfl LV_She_30 (X_jStr_charAt_26 l D g q w15  lx7 hI  (by have t1 : t0_0.toInt ≤ lx7.toInt + lx8.toInt := i11; have t2 : lx8.toInt ≤ lx7.toInt + t0_0.toInt := i12; omega) (by have t1 : lx7.toInt < 3 := b32; omega) _) rfl rfl rfl hl.1 rfl (Nat.le_of_ble_eq_true rfl) ⟨by decide, by decide⟩ ⟨Nat.le_of_ble_eq_true rfl, Nat.le_of_ble_eq_true rfl⟩ d_11_4_13) (fun a35 u33 H locs hp34 V => ?_)
    obtain ⟨rfl, b36, b37, hE38⟩ := hp34
    have e39 : a35 = (F_jStr_charAt_26 lx7) := hE38
    replace b36 : q_F (0 ≤ a35.toInt) := b36
    replace b37 : q_F (a35.toInt ≤ 255) := b37
    refine q_gov V (q_runV (As := [.int a35]) (rest := []) (d := 1) (mc := 0) (ms := 0) (ci := 1) C0 V rfl LV_She_34 (X_She_add_p l D g q w15 k1 R N K hB1 a35 hI lx8 hO16 lx9 hO17 (by have t1 : t0_0.toInt + 20 ≤ K.toInt := pre0; have t2 : lx7.toInt ≤ 3 := i10; have t3 : lx8.toInt ≤ lx7.toInt + t0_0.toInt := i12; omega) _) rfl rfl hO16 rfl hl.1 rfl (Nat.le_of_ble_eq_true rfl) ⟨by decide, by decide⟩ ⟨Nat.le_of_ble_eq_true rfl, Nat.le_of_ble_eq_true rfl⟩ d_11_4_16) (fun u40 H locs hp41 V => ?_)
    obtain ⟨hI, hu49, y43, f44, hO42, hA45, b46, b47, hE48⟩ := hp41
    replace hO42 : u40[k1]? = (some (q k1, .inr (1, [.ref (q (k1 + 1)), .int R, .int y43])) : Option (Nat × va_E)) := hO42
    replace hA45 : u40[k1 + 1]? = (some (q (k1 + 1), .inl (g 1, N.toNatClampNeg, .inr (.inl f44))) : Option (Nat × va_E)) := hA45
    obtain ⟨p50, e51⟩ : ∃ z, z = (F_She_add_p R N K a35 lx8 lx9) := ⟨_, rfl⟩
    have e52 : y43 = p50.1 := congrArg (fun z => z.1) (hE48.trans e51.symm)
    have e53 : f44 = p50.2 := congrArg (fun z => z.2) (hE48.trans e51.symm)
    replace b46 : q_F (lx8.toInt + 1 ≤ y43.toInt) := b46
    replace b47 : q_F (y43.toInt ≤ lx8.toInt + 1) := b47
    replace hF := q_uc hF hu49 (by simp)
    have hR54 := (show F_She_addText_26_c16 (F_She_addText_26_L2 R N K t0_0 t1_0 fm22) R N K t0_0 t1_0 lx7 lx8 lx9 p50 = (F_She_addText_26 R N K t0_0 t1_0) from Eq.trans (by rw [e51, e39, F_She_addText_26_L2.eq_2, if_neg c30]) hR18)
    obtain ⟨a59, e60⟩ := q_nm (lx7 + 1 : Int32)
    have b61 : q_F (a59.toInt = lx7.toInt + 1) := (by rw [← e60]; exact q_addI (y := 1) rfl (by decide) (by have t1 : t0_0.toInt ≤ lx7.toInt + lx8.toInt := i11; have t2 : lx8.toInt ≤ lx7.toInt + t0_0.toInt := i12; have t3 : lx7.toInt ≤ 3 := i10; omega) (by have t1 : t0_0.toInt ≤ lx7.toInt + lx8.toInt := i11; have t2 : lx8.toInt ≤ lx7.toInt + t0_0.toInt := i12; have t3 : lx7.toInt ≤ 3 := i10; omega))
    refine lv_iinc (v := a59) (lv' := [(2, .int a59), (0, .ref (q k1)), (1, .ref (g (8 + 2 * 26)))]) hx hb d_11_4_19 hl (k := 0) rfl (e60) (by decide) rfl (fun ls hl => ?_)
    refine lv_goto (tgt := 2) hx hb d_11_4_22 (by decide) ?_
    exact ih14 ((a59 : Int32), (y43 : Int32), (f44 : (Nat → Int64))) _ _ _ _ (show (3 - a59.toInt).toNat < (3 - lx7.toInt).toNat from by have t1 : a59.toInt = lx7.toInt + 1 := b61; have t2 : lx7.toInt ≤ 3 := i10; have t3 : lx7.toInt < 3 := b32; omega) ⟨(show q_F (a59.toInt ≤ 3) from (show a59.toInt ≤ 3 from by have t1 : lx7.toInt < 3 := b32; have t2 : a59.toInt = lx7.toInt + 1 := b61; omega)), (show q_F (t0_0.toInt ≤ a59.toInt + y43.toInt) from (show t0_0.toInt ≤ a59.toInt + y43.toInt from by have t1 : t0_0.toInt ≤ lx7.toInt + lx8.toInt := i11; have t2 : lx8.toInt + 1 ≤ y43.toInt := b46; have t3 : a59.toInt = lx7.toInt + 1 := b61; omega)), (show q_F (y43.toInt ≤ a59.toInt + t0_0.toInt) from (show y43.toInt ≤ a59.toInt + t0_0.toInt from by have t1 : lx8.toInt ≤ lx7.toInt + t0_0.toInt := i12; have t2 : y43.toInt ≤ lx8.toInt + 1 := b47; have t3 : a59.toInt = lx7.toInt + 1 := b61; omega)), (show q_F (a59.toInt + t0_0.toInt ≤ y43.toInt) from (show a59.toInt + t0_0.toInt ≤ y43.toInt from by have t1 : lx7.toInt + t0_0.toInt ≤ lx8.toInt := i13; have t2 : lx8.toInt + 1 ≤ y43.toInt := b46; have t3 : a59.toInt = lx7.toInt + 1 := b61; omega)), V, q_lw hl (q_lw1 0 rfl (q_lw1 1 rfl (q_lw1 2 rfl q_lw0))), hI, hF, hO42, hA45, ⟨fm22, Nat.lt_of_lt_of_le (show (3 - a59.toInt).toNat < (3 - lx7.toInt).toNat from by have t1 : a59.toInt = lx7.toInt + 1 := b61; have t2 : lx7.toInt ≤ 3 := i10; have t3 : lx7.toInt < 3 := b32; omega) (Nat.le_of_lt_succ hf21), (show F_She_addText_26_L2 R N K t0_0 t1_0 fm22 a59 y43 f44 = (F_She_addText_26 R N K t0_0 t1_0) from Eq.trans (by rw [← e60, e53, e52, F_She_addText_26_c16.eq_1]) hR54)⟩⟩
def F_jStr_length_27 : Int32 := (4 : Int32)
set_option maxRecDepth 100000 in
set_option maxHeartbeats 4000000 in
theorem X_jStr_length_27 (l : Launch) (D : va_G) (g : Nat → ClassId) (q : Nat → Nat) (ws : va_W) (hI : q_I (nsh g q) q ws) : q_mI l y_jStr_length prog_31_method_54_code 1 (.int) 2 0 0 D g [.ref (g (8 + 2 * 27))] ws (fun r u => ws = u ∧ (4 ≤ r.toInt) ∧ (r.toInt ≤ 4) ∧ r = (F_jStr_length_27)) := by
  intro sz
  refine q_into (by decide) (Nat.le_of_ble_eq_true rfl) ?_
  intro p e s m below meth c ls hsz C0 V hl
  have hx := C0.1
  have hb := C0.2.1
  have hl : lv_has ls 1 [(0, .ref (g (8 + 2 * 27)))] := hl
  refine lv_aload_n hx hb d_31_54_0 rfl (lv_at hl 0 rfl) ?_
  refine q_sval (i := 27) C0 V rfl rfl w_1018 d_31_54_1 ?_
  refine q_slen (i := 27) (v := 4) C0 V rfl (by decide) d_31_54_4 ?_
  refine lv_aload_n hx hb d_31_54_5 rfl (lv_at hl 0 rfl) ?_
  refine q_goi V (q_runVs (As := []) (rest := [.int 4]) (d := 1) (mc := 0) (ms := 0) (i := 27) C0 V rfl LV_jStr_335 (T_jStr_coder_27 l D g q ws   hI   _) rfl rfl rfl hl.1 rfl (Nat.le_of_ble_eq_true rfl) ⟨by decide, by decide⟩ ⟨Nat.le_of_ble_eq_true rfl, Nat.le_of_ble_eq_true rfl⟩ d_31_54_6) (fun a3 u1 H locs hp2 V => ?_)
  obtain ⟨rfl, b4, b5⟩ := hp2
  replace b4 : q_F (0 ≤ a3.toInt) := b4
  replace b5 : q_F (a3.toInt ≤ 0) := b5
  obtain rfl : a3 = (0 : Int32) := q_Ieq (x := a3.toInt) (y := 0) rfl (by decide) (by have t1 : 0 ≤ a3.toInt := b4; have t2 : a3.toInt ≤ 0 := b5; omega)
  refine lv_ishr hx hb d_31_54_9 ?_
  refine q_ti (v := 4) (by decide) ?_
  exact q_reti C0 V (⟨rfl, (show 4 ≤ (4 : Int32).toInt from (by have z0 : (4 : Int32).toInt = 4 := rfl; omega)), (show (4 : Int32).toInt ≤ 4 from (by have z0 : (4 : Int32).toInt = 4 := rfl; omega)), (show (4 : Int32) = (F_jStr_length_27) from (by rw [F_jStr_length_27.eq_1]))⟩) d_31_54_10
def F_jLat_charAt_27 (x2 : Int32) : Int32 := (((((([48, 120, 49, 46] : List Int32).getD x2.toNatClampNeg 0) : Int32) &&& 255 : Int32).toUInt32 % 65536).toInt32 : Int32)
set_option maxRecDepth 100000 in
set_option maxHeartbeats 4000000 in
theorem X_jLat_charAt_27 (l : Launch) (D : va_G) (g : Nat → ClassId) (q : Nat → Nat) (ws : va_W) (x2 : Int32) (hI : q_I (nsh g q) q ws) (pre0 : 0 ≤ x2.toInt) (pre1 : x2.toInt ≤ 3) : q_mI l y_jLat_charAt prog_33_method_2_code 2 (.char) 3 0 0 D g [.ref (g (9 + 2 * 27)), .int x2] ws (fun r u => ws = u ∧ (0 ≤ r.toInt) ∧ (r.toInt ≤ 255) ∧ r = (F_jLat_charAt_27 x2)) := by
  intro sz
  refine q_into (by decide) (Nat.le_of_ble_eq_true rfl) ?_
  intro p e s m below meth c ls hsz C0 V hl
  have hx := C0.1
  have hb := C0.2.1
  replace pre0 : q_F (0 ≤ x2.toInt) := pre0
  replace pre1 : q_F (x2.toInt ≤ 3) := pre1
  have hl : lv_has ls 2 [(0, .ref (g (9 + 2 * 27))), (1, .int x2)] := hl
  refine lv_iload_n hx hb d_33_2_0 rfl (lv_at hl 1 rfl) ?_
  refine lv_aload_n hx hb d_33_2_1 rfl (lv_at hl 0 rfl) ?_
  refine q_slen (i := 27) (v := 4) C0 V rfl (by decide) d_33_2_2 ?_
  refine q_gov V (q_runS (As := [.int x2, .int 4]) (rest := []) (d := 2) (mc := 0) (ms := 0) C0 V rfl LS_jLat_9 (T_jStr_checkIndex l D g q ws  x2 4 hI  (by have y0 : (4 : Int32).toInt = 4 := rfl; have t1 : 0 ≤ x2.toInt := pre0; omega) (by have y0 : (4 : Int32).toInt = 4 := rfl; have t1 : x2.toInt ≤ 3 := pre1; omega) _) rfl hl.1 rfl (Nat.le_of_ble_eq_true rfl) ⟨by decide, by decide⟩ ⟨Nat.le_of_ble_eq_true rfl, Nat.le_of_ble_eq_true rfl⟩ d_33_2_3) (fun u1 H locs hp2 V => ?_)
  obtain ⟨rfl, -⟩ := hp2
  refine lv_aload_n hx hb d_33_2_6 rfl (lv_at hl 0 rfl) ?_
  refine lv_iload_n hx hb d_33_2_7 rfl (lv_at hl 1 rfl) ?_
  refine q_sbal (i := 27) (v := (([48, 120, 49, 46] : List Int32).getD x2.toNatClampNeg 0)) C0 V rfl (show vp_in x2 4 from q_ix (x := x2.toInt) rfl (by have t1 : 0 ≤ x2.toInt := pre0; omega) (by have t1 : 0 ≤ x2.toInt := pre0; have t2 : x2.toInt ≤ 3 := pre1; omega)) rfl d_33_2_8 ?_
  obtain ⟨a4, e5⟩ := q_nm ((([48, 120, 49, 46] : List Int32).getD x2.toNatClampNeg 0) : Int32)
  refine q_ti (v := a4) e5 ?_
  refine lv_sipush (v := 255) hx hb d_33_2_9 (by decide) ?_
  refine lv_iand hx hb d_33_2_12 ?_
  obtain ⟨a6, e7⟩ := q_nm (a4 &&& 255 : Int32)
  refine q_ti (v := a6) e7 ?_
  have b8 : q_F (0 ≤ a6.toInt ∧ a6.toInt ≤ 255) := (by rw [← e7]; show 0 ≤ (a4 &&& 255 : Int32).toInt ∧ (a4 &&& 255 : Int32).toInt ≤ 255; exact s_and (by decide))
  refine lv_i2c hx hb d_33_2_13 rfl ?_
  obtain ⟨a9, e10⟩ := q_nm ((a6.toUInt32 % 65536).toInt32 : Int32)
  refine q_ti (v := a9) e10 ?_
  have b11 : q_F (a9.toInt = a6.toInt) := (by rw [← e10]; show ((a6.toUInt32 % 65536).toInt32 : Int32).toInt = a6.toInt; exact (n_i2c (x := a6)).2.2 (by have t1 : 0 ≤ a6.toInt ∧ a6.toInt ≤ 255 := b8; omega) (by have t1 : 0 ≤ a6.toInt ∧ a6.toInt ≤ 255 := b8; omega))
  exact q_retn C0 V (n_chr (by have t1 : 0 ≤ a6.toInt ∧ a6.toInt ≤ 255 := b8; have t2 : a9.toInt = a6.toInt := b11; omega) (by have t1 : 0 ≤ a6.toInt ∧ a6.toInt ≤ 255 := b8; have t2 : a9.toInt = a6.toInt := b11; omega)) (⟨rfl, (show 0 ≤ a9.toInt from (by have t1 : 0 ≤ a6.toInt ∧ a6.toInt ≤ 255 := b8; have t2 : a9.toInt = a6.toInt := b11; omega)), (show a9.toInt ≤ 255 from (by have t1 : 0 ≤ a6.toInt ∧ a6.toInt ≤ 255 := b8; have t2 : a9.toInt = a6.toInt := b11; omega)), (show a9 = (F_jLat_charAt_27 x2) from (by rw [← e10, ← e7, ← e5, F_jLat_charAt_27.eq_1]))⟩) d_33_2_14
def F_jStr_charAt_27 (x2 : Int32) : Int32 := ((F_jLat_charAt_27 x2) : Int32)
set_option maxRecDepth 100000 in
set_option maxHeartbeats 4000000 in
theorem X_jStr_charAt_27 (l : Launch) (D : va_G) (g : Nat → ClassId) (q : Nat → Nat) (ws : va_W) (x2 : Int32) (hI : q_I (nsh g q) q ws) (pre0 : 0 ≤ x2.toInt) (pre1 : x2.toInt ≤ 3) : q_mI l y_jStr_charAt prog_31_method_56_code 2 (.char) 4 0 0 D g [.ref (g (8 + 2 * 27)), .int x2] ws (fun r u => ws = u ∧ (0 ≤ r.toInt) ∧ (r.toInt ≤ 255) ∧ r = (F_jStr_charAt_27 x2)) := by
  intro sz
  refine q_into (by decide) (Nat.le_of_ble_eq_true rfl) ?_
  intro p e s m below meth c ls hsz C0 V hl
  have hx := C0.1
  have hb := C0.2.1
  replace pre0 : q_F (0 ≤ x2.toInt) := pre0
  replace pre1 : q_F (x2.toInt ≤ 3) := pre1
  have hl : lv_has ls 2 [(0, .ref (g (8 + 2 * 27))), (1, .int x2)] := hl
  refine lv_aload_n hx hb d_31_56_0 rfl (lv_at hl 0 rfl) ?_
  refine q_goi V (q_runVs (As := []) (rest := []) (d := 1) (mc := 0) (ms := 0) (i := 27) C0 V rfl LV_jStr_492 (T_jStr_isLatin1_27 l D g q ws   hI   _) rfl rfl rfl hl.1 rfl (Nat.le_of_ble_eq_true rfl) ⟨by decide, by decide⟩ ⟨Nat.le_of_ble_eq_true rfl, Nat.le_of_ble_eq_true rfl⟩ d_31_56_1) (fun a3 u1 H locs hp2 V => ?_)
  obtain ⟨rfl, b4, b5⟩ := hp2
  replace b4 : q_F (1 ≤ a3.toInt) := b4
  replace b5 : q_F (a3.toInt ≤ 1) := b5
  obtain rfl : a3 = (1 : Int32) := q_Ieq (x := a3.toInt) (y := 1) rfl (by decide) (by have t1 : 1 ≤ a3.toInt := b4; have t2 : a3.toInt ≤ 1 := b5; omega)
  refine lv_if_eq (tgt := 16) hx hb d_31_56_4 (by decide) (fun c7 => absurd c7 (by decide)) (fun c7 => ?_)
  refine lv_aload_n hx hb d_31_56_7 rfl (lv_at hl 0 rfl) ?_
  refine q_sval (i := 27) C0 V rfl rfl w_1018 d_31_56_8 ?_
  refine lv_iload_n hx hb d_31_56_11 rfl (lv_at hl 1 rfl) ?_
  refine q_goi V (q_runS (As := [.ref (g (9 + 2 * 27)), .int x2]) (rest := []) (d := 3) (mc := 0) (ms := 0) C0 V rfl LS_jStr_495 (X_jLat_charAt_27 l D g q ws  x2 hI  (by have t1 : 0 ≤ x2.toInt := pre0; omega) (by have t1 : x2.toInt ≤ 3 := pre1; omega) _) rfl hl.1 rfl (Nat.le_of_ble_eq_true rfl) ⟨by decide, by decide⟩ ⟨Nat.le_of_ble_eq_true rfl, Nat.le_of_ble_eq_true rfl⟩ d_31_56_12) (fun a10 u8 H locs hp9 V => ?_)
  obtain ⟨rfl, b11, b12, hE13⟩ := hp9
  have e14 : a10 = (F_jLat_charAt_27 x2) := hE13
  replace b11 : q_F (0 ≤ a10.toInt) := b11
  replace b12 : q_F (a10.toInt ≤ 255) := b12
  exact q_retn C0 V (n_chr (by have t1 : 0 ≤ a10.toInt := b11; omega) (by have t1 : a10.toInt ≤ 255 := b12; omega)) (⟨rfl, (show 0 ≤ a10.toInt from (by have t1 : 0 ≤ a10.toInt := b11; omega)), (show a10.toInt ≤ 255 from (by have t1 : a10.toInt ≤ 255 := b12; omega)), (show a10 = (F_jStr_charAt_27 x2) from (by rw [e14, F_jStr_charAt_27.eq_1]))⟩) d_31_56_15
def F_She_addText_27_c16 (K_F_She_addText_27_L2 : Int32 → Int32 → (Nat → Int64) → (Int32 × (Nat → Int64))) (R : Int32) (N : Int32) (K : Int32) (t0_0 : Int32) (t1_0 : (Nat → Int64)) (lx7 : Int32) (lx8 : Int32) (lx9 : (Nat → Int64)) (p50 : (Int32 × (Nat → Int64))) : Int32 × (Nat → Int64) := K_F_She_addText_27_L2 (lx7 + 1 : Int32) (p50.1 : Int32) (p50.2 : (Nat → Int64))
def F_She_addText_27_L2 (R : Int32) (N : Int32) (K : Int32) (t0_0 : Int32) (t1_0 : (Nat → Int64)) : Nat → Int32 → Int32 → (Nat → Int64) → (Int32 × (Nat → Int64))
  | 0, _, _, _ => default
  | fm + 1, lx7, lx8, lx9 => if (4 : Int32) ≤ lx7 then ((lx8, lx9)) else (F_She_addText_27_c16 (F_She_addText_27_L2 R N K t0_0 t1_0 fm) R N K t0_0 t1_0 lx7 lx8 lx9 ((F_She_add_p R N K ((F_jStr_charAt_27 lx7) : Int32) lx8 lx9) : (Int32 × (Nat → Int64))))
def F_She_addText_27 (R : Int32) (N : Int32) (K : Int32) (t0_0 : Int32) (t1_0 : (Nat → Int64)) : Int32 × (Nat → Int64) := F_She_addText_27_L2 R N K t0_0 t1_0 ((4 - (0 : Int32).toInt).toNat + 1) 0 t0_0 t1_0
set_option maxRecDepth 100000 in
set_option maxHeartbeats 4000000 in
theorem X_She_addText_27 (l : Launch) (D : va_G) (g : Nat → ClassId) (q : Nat → Nat) (ws : va_W) (k1 : Nat) (R N K : Int32) (hB1 : q_isShe (nsh g q) g q k1 R N K) (hI : q_I (nsh g q) q ws) (t0_0 : Int32) (hT0 : ws[k1]? = (some (q k1, .inr (1, [.ref (q (k1 + 1)), .int R, .int t0_0])) : Option (Nat × va_E))) (t1_0 : (Nat → Int64)) (hT1 : ws[k1 + 1]? = (some (q (k1 + 1), .inl (g 1, N.toNatClampNeg, .inr (.inl t1_0))) : Option (Nat × va_E))) (pre0 : t0_0.toInt + 20 ≤ K.toInt) : q_mV l y_She_addText prog_11_method_4_code 3 5 0 0 D g [.ref (q k1), .ref (g (8 + 2 * 27))] ws (fun u => q_I (nsh g q) q u ∧ q_un ws u [k1, k1 + 1] ∧ ∃ (u0_0 : Int32) (u1_0 : (Nat → Int64)), u[k1]? = (some (q k1, .inr (1, [.ref (q (k1 + 1)), .int R, .int u0_0])) : Option (Nat × va_E)) ∧ u[k1 + 1]? = (some (q (k1 + 1), .inl (g 1, N.toNatClampNeg, .inr (.inl u1_0))) : Option (Nat × va_E)) ∧ (t0_0.toInt + 4 ≤ u0_0.toInt) ∧ (u0_0.toInt ≤ t0_0.toInt + 4) ∧ (u0_0, u1_0) = (F_She_addText_27 R N K t0_0 t1_0)) := by
  intro sz
  refine q_into (by decide) (Nat.le_of_ble_eq_true rfl) ?_
  intro p e s m below meth c ls hsz C0 V hl
  have hx := C0.1
  have hb := C0.2.1
  have hfk10 : q_F (0 ≤ R.toInt ∧ R.toInt ≤ 8 * N.toInt ∧ 0 ≤ N.toInt ∧ N.toInt ≤ 1376 ∧ 64 ≤ R.toInt ∧ 64 ≤ K.toInt ∧ K.toInt ≤ 1000000) := hB1.2.2.1
  obtain ⟨yy0_0, hh0, btt0_0⟩ := n_shO hI hB1
  obtain ⟨rfl⟩ : t0_0 = yy0_0 := by have z := Option.some.inj (hT0.symm.trans hh0); simpa using z
  replace btt0_0 : q_F (0 ≤ t0_0.toInt ∧ t0_0.toInt ≤ K.toInt) := btt0_0
  replace pre0 : q_F (t0_0.toInt + 20 ≤ K.toInt) := pre0
  have hF : q_un ws ws [k1, k1 + 1] := q_u0
  have hl : lv_has ls 3 [(0, .ref (q k1)), (1, .ref (g (8 + 2 * 27)))] := hl
  refine lv_iconst (v := 0) hx hb d_11_4_0 (by decide) ?_
  refine lv_istore_n (lv' := [(2, .int 0), (0, .ref (q k1)), (1, .ref (g (8 + 2 * 27)))]) hx hb d_11_4_1 rfl hl (by decide) rfl (fun ls hl => ?_)
  refine q_loop (X := Int32 × Int32 × (Nat → Int64)) (fun z H locs ls w15 => q_F (z.1.toInt ≤ 4) ∧ q_F (t0_0.toInt ≤ z.1.toInt + z.2.1.toInt) ∧ q_F (z.2.1.toInt ≤ z.1.toInt + t0_0.toInt) ∧ q_F (z.1.toInt + t0_0.toInt ≤ z.2.1.toInt) ∧ q_Wd D g (va_A ws sz) s w15 H locs ∧ lv_has ls 3 [(2, .int z.1), (0, .ref (q k1)), (1, .ref (g (8 + 2 * 27)))] ∧ q_I (nsh g q) q w15 ∧ q_un ws w15 [k1, k1 + 1] ∧ w15[k1]? = (some (q k1, .inr (1, [.ref (q (k1 + 1)), .int R, .int z.2.1])) : Option (Nat × va_E)) ∧ w15[k1 + 1]? = (some (q (k1 + 1), .inl (g 1, N.toNatClampNeg, .inr (.inl z.2.2))) : Option (Nat × va_E)) ∧ (∃ n, (4 - z.1.toInt).toNat < n ∧ F_She_addText_27_L2 R N K t0_0 t1_0 n z.1 z.2.1 z.2.2 = (F_She_addText_27 R N K t0_0 t1_0))) (fun z => (4 - z.1.toInt).toNat) ?_ ((0 : Int32), (t0_0 : Int32), (t1_0 : (Nat → Int64))) _ _ _ ws ⟨(show q_F (0 ≤ 4) from (show 0 ≤ 4 from by omega)), (show q_F (t0_0.toInt ≤ 0 + t0_0.toInt) from (show t0_0.toInt ≤ 0 + t0_0.toInt from by omega)), (show q_F (t0_0.toInt ≤ 0 + t0_0.toInt) from (show t0_0.toInt ≤ 0 + t0_0.toInt from by omega)), (show q_F (0 + t0_0.toInt ≤ t0_0.toInt) from (show 0 + t0_0.toInt ≤ t0_0.toInt from by omega)), V, q_lw hl (q_lw1 0 rfl (q_lw1 1 rfl (q_lw1 2 rfl q_lw0))), hI, hF, hT0, hT1, ⟨((4 - (0 : Int32).toInt).toNat + 1), Nat.lt_succ_self _, (show F_She_addText_27_L2 R N K t0_0 t1_0 ((4 - (0 : Int32).toInt).toNat + 1) 0 t0_0 t1_0 = (F_She_addText_27 R N K t0_0 t1_0) from (by rw [F_She_addText_27.eq_1]))⟩⟩
  rintro ⟨lx7, lx8, lx9⟩ H locs ls w15 ⟨i10, i11, i12, i13, V, hl, hI, hF, hO16, hO17, ⟨fu20, hf21, hR18⟩⟩ ih14
  obtain ⟨fm22, rfl⟩ : ∃ m, fu20 = m + 1 := ⟨fu20 - 1, by omega⟩
  replace i10 : q_F (lx7.toInt ≤ 4) := i10
  replace i11 : q_F (t0_0.toInt ≤ lx7.toInt + lx8.toInt) := i11
  replace i12 : q_F (lx8.toInt ≤ lx7.toInt + t0_0.toInt) := i12
  replace i13 : q_F (lx7.toInt + t0_0.toInt ≤ lx8.toInt) := i13
  replace hl : lv_has ls 3 [(2, .int lx7), (0, .ref (q k1)), (1, .ref (g (8 + 2 * 27)))] := hl
  replace hO16 : w15[k1]? = (some (q k1, .inr (1, [.ref (q (k1 + 1)), .int R, .int lx8])) : Option (Nat × va_E)) := hO16
  replace hO17 : w15[k1 + 1]? = (some (q (k1 + 1), .inl (g 1, N.toNatClampNeg, .inr (.inl lx9))) : Option (Nat × va_E)) := hO17
  refine lv_iload_n hx hb d_11_4_2 rfl (lv_at hl 0 rfl) ?_
  refine lv_aload_n hx hb d_11_4_3 rfl (lv_at hl 2 rfl) ?_
  refine q_goi V (q_runVs (As := []) (rest := [.int lx7]) (d := 2) (mc := 0) (ms := 0) (i := 27) C0 V rfl LV_She_24 (X_jStr_length_27 l D g q w15   hI   _) rfl rfl rfl hl.1 rfl (Nat.le_of_ble_eq_true rfl) ⟨by decide, by decide⟩ ⟨Nat.le_of_ble_eq_true rfl, Nat.le_of_ble_eq_true rfl⟩ d_11_4_4) (fun a25 u23 H locs hp24 V => ?_)
  obtain ⟨rfl, b26, b27, hE28⟩ := hp24
  have e29 : a25 = (F_jStr_length_27) := hE28
  replace b26 : q_F (4 ≤ a25.toInt) := b26
  replace b27 : q_F (a25.toInt ≤ 4) := b27
  obtain rfl : a25 = (4 : Int32) := q_Ieq (x := a25.toInt) (y := 4) rfl (by decide) (by have t1 : 4 ≤ a25.toInt := b26; have t2 : a25.toInt ≤ 4 := b27; omega)
  refine lv_icmp_ge (tgt := 25) hx hb d_11_4_7 (by decide) (fun c30 => ?_) (fun c30 => ?_)
  ·
    have b31 : q_F (4 ≤ lx7.toInt) := (q_leI c30)
    exact q_retv C0 V (⟨hI, hF, lx8, lx9, hO16, hO17, (show t0_0.toInt + 4 ≤ lx8.toInt from (by have t1 : lx7.toInt + t0_0.toInt ≤ lx8.toInt := i13; have t2 : 4 ≤ lx7.toInt := b31; omega)), (show lx8.toInt ≤ t0_0.toInt + 4 from (by have t1 : lx7.toInt ≤ 4 := i10; have t2 : lx8.toInt ≤ lx7.toInt + t0_0.toInt := i12; omega)), (show (lx8, lx9) = (F_She_addText_27 R N K t0_0 t1_0) from Eq.trans (by rw [F_She_addText_27_L2.eq_2, if_pos c30]) hR18)⟩) d_11_4_25
  ·
    have b32 : q_F (lx7.toInt < 4) := (q_nleI c30)
    refine lv_aload_n hx hb d_11_4_10 rfl (lv_at hl 1 rfl) ?_
    refine lv_aload_n hx hb d_11_4_11 rfl (lv_at hl 2 rfl) ?_
    refine lv_iload_n hx hb d_11_4_12 rfl (lv_at hl 0 rfl) ?_
    refine q_goi V (q_runVs (As := [.int lx7]) (rest := [.ref (q k1)]) (d := 4) (mc := 0) (ms := 0) (i := 27) C0 V rfl LV_She_30 (X_jStr_charAt_27 l D g q w15  lx7 hI  (by have t1 : t0_0.toInt ≤ lx7.toInt + lx8.toInt := i11; have t2 : lx8.toInt ≤ lx7.toInt + t0_0.toInt := i12; omega) (by have t1 : lx7.toInt < 4 := b32; omega) _) rfl rfl rfl hl.1 rfl (Nat.le_of_ble_eq_true rfl) ⟨by decide, by decide⟩ ⟨Nat.le_of_ble_eq_true rfl, Nat.le_of_ble_eq_true rfl⟩ d_11_4_13) (fun a35 u33 H locs hp34 V => ?_)
    obtain ⟨rfl, b36, b37, hE38⟩ := hp34
    have e39 : a35 = (F_jStr_charAt_27 lx7) := hE38
    replace b36 : q_F (0 ≤ a35.toInt) := b36
    replace b37 : q_F (a35.toInt ≤ 255) := b37
    refine q_gov V (q_runV (As := [.int a35]) (rest := []) (d := 1) (mc := 0) (ms := 0) (ci := 1) C0 V rfl LV_She_34 (X_She_add_p l D g q w15 k1 R N K hB1 a35 hI lx8 hO16 lx9 hO17 (by have t1 : t0_0.toInt + 20 ≤ K.toInt := pre0; have t2 : lx7.toInt ≤ 4 := i10; have t3 : lx8.toInt ≤ lx7.toInt + t0_0.toInt := i12; omega) _) rfl rfl hO16 rfl hl.1 rfl (Nat.le_of_ble_eq_true rfl) ⟨by decide, by decide⟩ ⟨Nat.le_of_ble_eq_true rfl, Nat.le_of_ble_eq_true rfl⟩ d_11_4_16) (fun u40 H locs hp41 V => ?_)
    obtain ⟨hI, hu49, y43, f44, hO42, hA45, b46, b47, hE48⟩ := hp41
    replace hO42 : u40[k1]? = (some (q k1, .inr (1, [.ref (q (k1 + 1)), .int R, .int y43])) : Option (Nat × va_E)) := hO42
    replace hA45 : u40[k1 + 1]? = (some (q (k1 + 1), .inl (g 1, N.toNatClampNeg, .inr (.inl f44))) : Option (Nat × va_E)) := hA45
    obtain ⟨p50, e51⟩ : ∃ z, z = (F_She_add_p R N K a35 lx8 lx9) := ⟨_, rfl⟩
    have e52 : y43 = p50.1 := congrArg (fun z => z.1) (hE48.trans e51.symm)
    have e53 : f44 = p50.2 := congrArg (fun z => z.2) (hE48.trans e51.symm)
    replace b46 : q_F (lx8.toInt + 1 ≤ y43.toInt) := b46
    replace b47 : q_F (y43.toInt ≤ lx8.toInt + 1) := b47
    replace hF := q_uc hF hu49 (by simp)
    have hR54 := (show F_She_addText_27_c16 (F_She_addText_27_L2 R N K t0_0 t1_0 fm22) R N K t0_0 t1_0 lx7 lx8 lx9 p50 = (F_She_addText_27 R N K t0_0 t1_0) from Eq.trans (by rw [e51, e39, F_She_addText_27_L2.eq_2, if_neg c30]) hR18)
    obtain ⟨a59, e60⟩ := q_nm (lx7 + 1 : Int32)
    have b61 : q_F (a59.toInt = lx7.toInt + 1) := (by rw [← e60]; exact q_addI (y := 1) rfl (by decide) (by have t1 : t0_0.toInt ≤ lx7.toInt + lx8.toInt := i11; have t2 : lx8.toInt ≤ lx7.toInt + t0_0.toInt := i12; have t3 : lx7.toInt ≤ 4 := i10; omega) (by have t1 : t0_0.toInt ≤ lx7.toInt + lx8.toInt := i11; have t2 : lx8.toInt ≤ lx7.toInt + t0_0.toInt := i12; have t3 : lx7.toInt ≤ 4 := i10; omega))
    refine lv_iinc (v := a59) (lv' := [(2, .int a59), (0, .ref (q k1)), (1, .ref (g (8 + 2 * 27)))]) hx hb d_11_4_19 hl (k := 0) rfl (e60) (by decide) rfl (fun ls hl => ?_)
    refine lv_goto (tgt := 2) hx hb d_11_4_22 (by decide) ?_
    exact ih14 ((a59 : Int32), (y43 : Int32), (f44 : (Nat → Int64))) _ _ _ _ (show (4 - a59.toInt).toNat < (4 - lx7.toInt).toNat from by have t1 : a59.toInt = lx7.toInt + 1 := b61; have t2 : lx7.toInt ≤ 4 := i10; have t3 : lx7.toInt < 4 := b32; omega) ⟨(show q_F (a59.toInt ≤ 4) from (show a59.toInt ≤ 4 from by have t1 : lx7.toInt < 4 := b32; have t2 : a59.toInt = lx7.toInt + 1 := b61; omega)), (show q_F (t0_0.toInt ≤ a59.toInt + y43.toInt) from (show t0_0.toInt ≤ a59.toInt + y43.toInt from by have t1 : t0_0.toInt ≤ lx7.toInt + lx8.toInt := i11; have t2 : lx8.toInt + 1 ≤ y43.toInt := b46; have t3 : a59.toInt = lx7.toInt + 1 := b61; omega)), (show q_F (y43.toInt ≤ a59.toInt + t0_0.toInt) from (show y43.toInt ≤ a59.toInt + t0_0.toInt from by have t1 : lx8.toInt ≤ lx7.toInt + t0_0.toInt := i12; have t2 : y43.toInt ≤ lx8.toInt + 1 := b47; have t3 : a59.toInt = lx7.toInt + 1 := b61; omega)), (show q_F (a59.toInt + t0_0.toInt ≤ y43.toInt) from (show a59.toInt + t0_0.toInt ≤ y43.toInt from by have t1 : lx7.toInt + t0_0.toInt ≤ lx8.toInt := i13; have t2 : lx8.toInt + 1 ≤ y43.toInt := b46; have t3 : a59.toInt = lx7.toInt + 1 := b61; omega)), V, q_lw hl (q_lw1 0 rfl (q_lw1 1 rfl (q_lw1 2 rfl q_lw0))), hI, hF, hO42, hA45, ⟨fm22, Nat.lt_of_lt_of_le (show (4 - a59.toInt).toNat < (4 - lx7.toInt).toNat from by have t1 : a59.toInt = lx7.toInt + 1 := b61; have t2 : lx7.toInt ≤ 4 := i10; have t3 : lx7.toInt < 4 := b32; omega) (Nat.le_of_lt_succ hf21), (show F_She_addText_27_L2 R N K t0_0 t1_0 fm22 a59 y43 f44 = (F_She_addText_27 R N K t0_0 t1_0) from Eq.trans (by rw [← e60, e53, e52, F_She_addText_27_c16.eq_1]) hR54)⟩⟩
def F_jStr_length_28 : Int32 := (4 : Int32)
set_option maxRecDepth 100000 in
set_option maxHeartbeats 4000000 in
theorem X_jStr_length_28 (l : Launch) (D : va_G) (g : Nat → ClassId) (q : Nat → Nat) (ws : va_W) (hI : q_I (nsh g q) q ws) : q_mI l y_jStr_length prog_31_method_54_code 1 (.int) 2 0 0 D g [.ref (g (8 + 2 * 28))] ws (fun r u => ws = u ∧ (4 ≤ r.toInt) ∧ (r.toInt ≤ 4) ∧ r = (F_jStr_length_28)) := by
  intro sz
  refine q_into (by decide) (Nat.le_of_ble_eq_true rfl) ?_
  intro p e s m below meth c ls hsz C0 V hl
  have hx := C0.1
  have hb := C0.2.1
  have hl : lv_has ls 1 [(0, .ref (g (8 + 2 * 28)))] := hl
  refine lv_aload_n hx hb d_31_54_0 rfl (lv_at hl 0 rfl) ?_
  refine q_sval (i := 28) C0 V rfl rfl w_1018 d_31_54_1 ?_
  refine q_slen (i := 28) (v := 4) C0 V rfl (by decide) d_31_54_4 ?_
  refine lv_aload_n hx hb d_31_54_5 rfl (lv_at hl 0 rfl) ?_
  refine q_goi V (q_runVs (As := []) (rest := [.int 4]) (d := 1) (mc := 0) (ms := 0) (i := 28) C0 V rfl LV_jStr_335 (T_jStr_coder_28 l D g q ws   hI   _) rfl rfl rfl hl.1 rfl (Nat.le_of_ble_eq_true rfl) ⟨by decide, by decide⟩ ⟨Nat.le_of_ble_eq_true rfl, Nat.le_of_ble_eq_true rfl⟩ d_31_54_6) (fun a3 u1 H locs hp2 V => ?_)
  obtain ⟨rfl, b4, b5⟩ := hp2
  replace b4 : q_F (0 ≤ a3.toInt) := b4
  replace b5 : q_F (a3.toInt ≤ 0) := b5
  obtain rfl : a3 = (0 : Int32) := q_Ieq (x := a3.toInt) (y := 0) rfl (by decide) (by have t1 : 0 ≤ a3.toInt := b4; have t2 : a3.toInt ≤ 0 := b5; omega)
  refine lv_ishr hx hb d_31_54_9 ?_
  refine q_ti (v := 4) (by decide) ?_
  exact q_reti C0 V (⟨rfl, (show 4 ≤ (4 : Int32).toInt from (by have z0 : (4 : Int32).toInt = 4 := rfl; omega)), (show (4 : Int32).toInt ≤ 4 from (by have z0 : (4 : Int32).toInt = 4 := rfl; omega)), (show (4 : Int32) = (F_jStr_length_28) from (by rw [F_jStr_length_28.eq_1]))⟩) d_31_54_10
def F_jLat_charAt_28 (x2 : Int32) : Int32 := (((((([48, 120, 48, 46] : List Int32).getD x2.toNatClampNeg 0) : Int32) &&& 255 : Int32).toUInt32 % 65536).toInt32 : Int32)
set_option maxRecDepth 100000 in
set_option maxHeartbeats 4000000 in
theorem X_jLat_charAt_28 (l : Launch) (D : va_G) (g : Nat → ClassId) (q : Nat → Nat) (ws : va_W) (x2 : Int32) (hI : q_I (nsh g q) q ws) (pre0 : 0 ≤ x2.toInt) (pre1 : x2.toInt ≤ 3) : q_mI l y_jLat_charAt prog_33_method_2_code 2 (.char) 3 0 0 D g [.ref (g (9 + 2 * 28)), .int x2] ws (fun r u => ws = u ∧ (0 ≤ r.toInt) ∧ (r.toInt ≤ 255) ∧ r = (F_jLat_charAt_28 x2)) := by
  intro sz
  refine q_into (by decide) (Nat.le_of_ble_eq_true rfl) ?_
  intro p e s m below meth c ls hsz C0 V hl
  have hx := C0.1
  have hb := C0.2.1
  replace pre0 : q_F (0 ≤ x2.toInt) := pre0
  replace pre1 : q_F (x2.toInt ≤ 3) := pre1
  have hl : lv_has ls 2 [(0, .ref (g (9 + 2 * 28))), (1, .int x2)] := hl
  refine lv_iload_n hx hb d_33_2_0 rfl (lv_at hl 1 rfl) ?_
  refine lv_aload_n hx hb d_33_2_1 rfl (lv_at hl 0 rfl) ?_
  refine q_slen (i := 28) (v := 4) C0 V rfl (by decide) d_33_2_2 ?_
  refine q_gov V (q_runS (As := [.int x2, .int 4]) (rest := []) (d := 2) (mc := 0) (ms := 0) C0 V rfl LS_jLat_9 (T_jStr_checkIndex l D g q ws  x2 4 hI  (by have y0 : (4 : Int32).toInt = 4 := rfl; have t1 : 0 ≤ x2.toInt := pre0; omega) (by have y0 : (4 : Int32).toInt = 4 := rfl; have t1 : x2.toInt ≤ 3 := pre1; omega) _) rfl hl.1 rfl (Nat.le_of_ble_eq_true rfl) ⟨by decide, by decide⟩ ⟨Nat.le_of_ble_eq_true rfl, Nat.le_of_ble_eq_true rfl⟩ d_33_2_3) (fun u1 H locs hp2 V => ?_)
  obtain ⟨rfl, -⟩ := hp2
  refine lv_aload_n hx hb d_33_2_6 rfl (lv_at hl 0 rfl) ?_
  refine lv_iload_n hx hb d_33_2_7 rfl (lv_at hl 1 rfl) ?_
  refine q_sbal (i := 28) (v := (([48, 120, 48, 46] : List Int32).getD x2.toNatClampNeg 0)) C0 V rfl (show vp_in x2 4 from q_ix (x := x2.toInt) rfl (by have t1 : 0 ≤ x2.toInt := pre0; omega) (by have t1 : 0 ≤ x2.toInt := pre0; have t2 : x2.toInt ≤ 3 := pre1; omega)) rfl d_33_2_8 ?_
  obtain ⟨a4, e5⟩ := q_nm ((([48, 120, 48, 46] : List Int32).getD x2.toNatClampNeg 0) : Int32)
  refine q_ti (v := a4) e5 ?_
  refine lv_sipush (v := 255) hx hb d_33_2_9 (by decide) ?_
  refine lv_iand hx hb d_33_2_12 ?_
  obtain ⟨a6, e7⟩ := q_nm (a4 &&& 255 : Int32)
  refine q_ti (v := a6) e7 ?_
  have b8 : q_F (0 ≤ a6.toInt ∧ a6.toInt ≤ 255) := (by rw [← e7]; show 0 ≤ (a4 &&& 255 : Int32).toInt ∧ (a4 &&& 255 : Int32).toInt ≤ 255; exact s_and (by decide))
  refine lv_i2c hx hb d_33_2_13 rfl ?_
  obtain ⟨a9, e10⟩ := q_nm ((a6.toUInt32 % 65536).toInt32 : Int32)
  refine q_ti (v := a9) e10 ?_
  have b11 : q_F (a9.toInt = a6.toInt) := (by rw [← e10]; show ((a6.toUInt32 % 65536).toInt32 : Int32).toInt = a6.toInt; exact (n_i2c (x := a6)).2.2 (by have t1 : 0 ≤ a6.toInt ∧ a6.toInt ≤ 255 := b8; omega) (by have t1 : 0 ≤ a6.toInt ∧ a6.toInt ≤ 255 := b8; omega))
  exact q_retn C0 V (n_chr (by have t1 : 0 ≤ a6.toInt ∧ a6.toInt ≤ 255 := b8; have t2 : a9.toInt = a6.toInt := b11; omega) (by have t1 : 0 ≤ a6.toInt ∧ a6.toInt ≤ 255 := b8; have t2 : a9.toInt = a6.toInt := b11; omega)) (⟨rfl, (show 0 ≤ a9.toInt from (by have t1 : 0 ≤ a6.toInt ∧ a6.toInt ≤ 255 := b8; have t2 : a9.toInt = a6.toInt := b11; omega)), (show a9.toInt ≤ 255 from (by have t1 : 0 ≤ a6.toInt ∧ a6.toInt ≤ 255 := b8; have t2 : a9.toInt = a6.toInt := b11; omega)), (show a9 = (F_jLat_charAt_28 x2) from (by rw [← e10, ← e7, ← e5, F_jLat_charAt_28.eq_1]))⟩) d_33_2_14
def F_jStr_charAt_28 (x2 : Int32) : Int32 := ((F_jLat_charAt_28 x2) : Int32)
set_option maxRecDepth 100000 in
set_option maxHeartbeats 4000000 in
theorem X_jStr_charAt_28 (l : Launch) (D : va_G) (g : Nat → ClassId) (q : Nat → Nat) (ws : va_W) (x2 : Int32) (hI : q_I (nsh g q) q ws) (pre0 : 0 ≤ x2.toInt) (pre1 : x2.toInt ≤ 3) : q_mI l y_jStr_charAt prog_31_method_56_code 2 (.char) 4 0 0 D g [.ref (g (8 + 2 * 28)), .int x2] ws (fun r u => ws = u ∧ (0 ≤ r.toInt) ∧ (r.toInt ≤ 255) ∧ r = (F_jStr_charAt_28 x2)) := by
  intro sz
  refine q_into (by decide) (Nat.le_of_ble_eq_true rfl) ?_
  intro p e s m below meth c ls hsz C0 V hl
  have hx := C0.1
  have hb := C0.2.1
  replace pre0 : q_F (0 ≤ x2.toInt) := pre0
  replace pre1 : q_F (x2.toInt ≤ 3) := pre1
  have hl : lv_has ls 2 [(0, .ref (g (8 + 2 * 28))), (1, .int x2)] := hl
  refine lv_aload_n hx hb d_31_56_0 rfl (lv_at hl 0 rfl) ?_
  refine q_goi V (q_runVs (As := []) (rest := []) (d := 1) (mc := 0) (ms := 0) (i := 28) C0 V rfl LV_jStr_492 (T_jStr_isLatin1_28 l D g q ws   hI   _) rfl rfl rfl hl.1 rfl (Nat.le_of_ble_eq_true rfl) ⟨by decide, by decide⟩ ⟨Nat.le_of_ble_eq_true rfl, Nat.le_of_ble_eq_true rfl⟩ d_31_56_1) (fun a3 u1 H locs hp2 V => ?_)
  obtain ⟨rfl, b4, b5⟩ := hp2
  replace b4 : q_F (1 ≤ a3.toInt) := b4
  replace b5 : q_F (a3.toInt ≤ 1) := b5
  obtain rfl : a3 = (1 : Int32) := q_Ieq (x := a3.toInt) (y := 1) rfl (by decide) (by have t1 : 1 ≤ a3.toInt := b4; have t2 : a3.toInt ≤ 1 := b5; omega)
  refine lv_if_eq (tgt := 16) hx hb d_31_56_4 (by decide) (fun c7 => absurd c7 (by decide)) (fun c7 => ?_)
  refine lv_aload_n hx hb d_31_56_7 rfl (lv_at hl 0 rfl) ?_
  refine q_sval (i := 28) C0 V rfl rfl w_1018 d_31_56_8 ?_
  refine lv_iload_n hx hb d_31_56_11 rfl (lv_at hl 1 rfl) ?_
  refine q_goi V (q_runS (As := [.ref (g (9 + 2 * 28)), .int x2]) (rest := []) (d := 3) (mc := 0) (ms := 0) C0 V rfl LS_jStr_495 (X_jLat_charAt_28 l D g q ws  x2 hI  (by have t1 : 0 ≤ x2.toInt := pre0; omega) (by have t1 : x2.toInt ≤ 3 := pre1; omega) _) rfl hl.1 rfl (Nat.le_of_ble_eq_true rfl) ⟨by decide, by decide⟩ ⟨Nat.le_of_ble_eq_true rfl, Nat.le_of_ble_eq_true rfl⟩ d_31_56_12) (fun a10 u8 H locs hp9 V => ?_)
  obtain ⟨rfl, b11, b12, hE13⟩ := hp9
  have e14 : a10 = (F_jLat_charAt_28 x2) := hE13
  replace b11 : q_F (0 ≤ a10.toInt) := b11
  replace b12 : q_F (a10.toInt ≤ 255) := b12
  exact q_retn C0 V (n_chr (by have t1 : 0 ≤ a10.toInt := b11; omega) (by have t1 : a10.toInt ≤ 255 := b12; omega)) (⟨rfl, (show 0 ≤ a10.toInt from (by have t1 : 0 ≤ a10.toInt := b11; omega)), (show a10.toInt ≤ 255 from (by have t1 : a10.toInt ≤ 255 := b12; omega)), (show a10 = (F_jStr_charAt_28 x2) from (by rw [e14, F_jStr_charAt_28.eq_1]))⟩) d_31_56_15
def F_She_addText_28_c16 (K_F_She_addText_28_L2 : Int32 → Int32 → (Nat → Int64) → (Int32 × (Nat → Int64))) (R : Int32) (N : Int32) (K : Int32) (t0_0 : Int32) (t1_0 : (Nat → Int64)) (lx7 : Int32) (lx8 : Int32) (lx9 : (Nat → Int64)) (p50 : (Int32 × (Nat → Int64))) : Int32 × (Nat → Int64) := K_F_She_addText_28_L2 (lx7 + 1 : Int32) (p50.1 : Int32) (p50.2 : (Nat → Int64))
def F_She_addText_28_L2 (R : Int32) (N : Int32) (K : Int32) (t0_0 : Int32) (t1_0 : (Nat → Int64)) : Nat → Int32 → Int32 → (Nat → Int64) → (Int32 × (Nat → Int64))
  | 0, _, _, _ => default
  | fm + 1, lx7, lx8, lx9 => if (4 : Int32) ≤ lx7 then ((lx8, lx9)) else (F_She_addText_28_c16 (F_She_addText_28_L2 R N K t0_0 t1_0 fm) R N K t0_0 t1_0 lx7 lx8 lx9 ((F_She_add_p R N K ((F_jStr_charAt_28 lx7) : Int32) lx8 lx9) : (Int32 × (Nat → Int64))))
def F_She_addText_28 (R : Int32) (N : Int32) (K : Int32) (t0_0 : Int32) (t1_0 : (Nat → Int64)) : Int32 × (Nat → Int64) := F_She_addText_28_L2 R N K t0_0 t1_0 ((4 - (0 : Int32).toInt).toNat + 1) 0 t0_0 t1_0
set_option maxRecDepth 100000 in
set_option maxHeartbeats 4000000 in
theorem X_She_addText_28 (l : Launch) (D : va_G) (g : Nat → ClassId) (q : Nat → Nat) (ws : va_W) (k1 : Nat) (R N K : Int32) (hB1 : q_isShe (nsh g q) g q k1 R N K) (hI : q_I (nsh g q) q ws) (t0_0 : Int32) (hT0 : ws[k1]? = (some (q k1, .inr (1, [.ref (q (k1 + 1)), .int R, .int t0_0])) : Option (Nat × va_E))) (t1_0 : (Nat → Int64)) (hT1 : ws[k1 + 1]? = (some (q (k1 + 1), .inl (g 1, N.toNatClampNeg, .inr (.inl t1_0))) : Option (Nat × va_E))) (pre0 : t0_0.toInt + 20 ≤ K.toInt) : q_mV l y_She_addText prog_11_method_4_code 3 5 0 0 D g [.ref (q k1), .ref (g (8 + 2 * 28))] ws (fun u => q_I (nsh g q) q u ∧ q_un ws u [k1, k1 + 1] ∧ ∃ (u0_0 : Int32) (u1_0 : (Nat → Int64)), u[k1]? = (some (q k1, .inr (1, [.ref (q (k1 + 1)), .int R, .int u0_0])) : Option (Nat × va_E)) ∧ u[k1 + 1]? = (some (q (k1 + 1), .inl (g 1, N.toNatClampNeg, .inr (.inl u1_0))) : Option (Nat × va_E)) ∧ (t0_0.toInt + 4 ≤ u0_0.toInt) ∧ (u0_0.toInt ≤ t0_0.toInt + 4) ∧ (u0_0, u1_0) = (F_She_addText_28 R N K t0_0 t1_0)) := by
  intro sz
  refine q_into (by decide) (Nat.le_of_ble_eq_true rfl) ?_
  intro p e s m below meth c ls hsz C0 V hl
  have hx := C0.1
  have hb := C0.2.1
  have hfk10 : q_F (0 ≤ R.toInt ∧ R.toInt ≤ 8 * N.toInt ∧ 0 ≤ N.toInt ∧ N.toInt ≤ 1376 ∧ 64 ≤ R.toInt ∧ 64 ≤ K.toInt ∧ K.toInt ≤ 1000000) := hB1.2.2.1
  obtain ⟨yy0_0, hh0, btt0_0⟩ := n_shO hI hB1
  obtain ⟨rfl⟩ : t0_0 = yy0_0 := by have z := Option.some.inj (hT0.symm.trans hh0); simpa using z
  replace btt0_0 : q_F (0 ≤ t0_0.toInt ∧ t0_0.toInt ≤ K.toInt) := btt0_0
  replace pre0 : q_F (t0_0.toInt + 20 ≤ K.toInt) := pre0
  have hF : q_un ws ws [k1, k1 + 1] := q_u0
  have hl : lv_has ls 3 [(0, .ref (q k1)), (1, .ref (g (8 + 2 * 28)))] := hl
  refine lv_iconst (v := 0) hx hb d_11_4_0 (by decide) ?_
  refine lv_istore_n (lv' := [(2, .int 0), (0, .ref (q k1)), (1, .ref (g (8 + 2 * 28)))]) hx hb d_11_4_1 rfl hl (by decide) rfl (fun ls hl => ?_)
  refine q_loop (X := Int32 × Int32 × (Nat → Int64)) (fun z H locs ls w15 => q_F (z.1.toInt ≤ 4) ∧ q_F (t0_0.toInt ≤ z.1.toInt + z.2.1.toInt) ∧ q_F (z.2.1.toInt ≤ z.1.toInt + t0_0.toInt) ∧ q_F (z.1.toInt + t0_0.toInt ≤ z.2.1.toInt) ∧ q_Wd D g (va_A ws sz) s w15 H locs ∧ lv_has ls 3 [(2, .int z.1), (0, .ref (q k1)), (1, .ref (g (8 + 2 * 28)))] ∧ q_I (nsh g q) q w15 ∧ q_un ws w15 [k1, k1 + 1] ∧ w15[k1]? = (some (q k1, .inr (1, [.ref (q (k1 + 1)), .int R, .int z.2.1])) : Option (Nat × va_E)) ∧ w15[k1 + 1]? = (some (q (k1 + 1), .inl (g 1, N.toNatClampNeg, .inr (.inl z.2.2))) : Option (Nat × va_E)) ∧ (∃ n, (4 - z.1.toInt).toNat < n ∧ F_She_addText_28_L2 R N K t0_0 t1_0 n z.1 z.2.1 z.2.2 = (F_She_addText_28 R N K t0_0 t1_0))) (fun z => (4 - z.1.toInt).toNat) ?_ ((0 : Int32), (t0_0 : Int32), (t1_0 : (Nat → Int64))) _ _ _ ws ⟨(show q_F (0 ≤ 4) from (show 0 ≤ 4 from by omega)), (show q_F (t0_0.toInt ≤ 0 + t0_0.toInt) from (show t0_0.toInt ≤ 0 + t0_0.toInt from by omega)), (show q_F (t0_0.toInt ≤ 0 + t0_0.toInt) from (show t0_0.toInt ≤ 0 + t0_0.toInt from by omega)), (show q_F (0 + t0_0.toInt ≤ t0_0.toInt) from (show 0 + t0_0.toInt ≤ t0_0.toInt from by omega)), V, q_lw hl (q_lw1 0 rfl (q_lw1 1 rfl (q_lw1 2 rfl q_lw0))), hI, hF, hT0, hT1, ⟨((4 - (0 : Int32).toInt).toNat + 1), Nat.lt_succ_self _, (show F_She_addText_28_L2 R N K t0_0 t1_0 ((4 - (0 : Int32).toInt).toNat + 1) 0 t0_0 t1_0 = (F_She_addText_28 R N K t0_0 t1_0) from (by rw [F_She_addText_28.eq_1]))⟩⟩
  rintro ⟨lx7, lx8, lx9⟩ H locs ls w15 ⟨i10, i11, i12, i13, V, hl, hI, hF, hO16, hO17, ⟨fu20, hf21, hR18⟩⟩ ih14
  obtain ⟨fm22, rfl⟩ : ∃ m, fu20 = m + 1 := ⟨fu20 - 1, by omega⟩
  replace i10 : q_F (lx7.toInt ≤ 4) := i10
  replace i11 : q_F (t0_0.toInt ≤ lx7.toInt + lx8.toInt) := i11
  replace i12 : q_F (lx8.toInt ≤ lx7.toInt + t0_0.toInt) := i12
  replace i13 : q_F (lx7.toInt + t0_0.toInt ≤ lx8.toInt) := i13
  replace hl : lv_has ls 3 [(2, .int lx7), (0, .ref (q k1)), (1, .ref (g (8 + 2 * 28)))] := hl
  replace hO16 : w15[k1]? = (some (q k1, .inr (1, [.ref (q (k1 + 1)), .int R, .int lx8])) : Option (Nat × va_E)) := hO16
  replace hO17 : w15[k1 + 1]? = (some (q (k1 + 1), .inl (g 1, N.toNatClampNeg, .inr (.inl lx9))) : Option (Nat × va_E)) := hO17
  refine lv_iload_n hx hb d_11_4_2 rfl (lv_at hl 0 rfl) ?_
  refine lv_aload_n hx hb d_11_4_3 rfl (lv_at hl 2 rfl) ?_
  refine q_goi V (q_runVs (As := []) (rest := [.int lx7]) (d := 2) (mc := 0) (ms := 0) (i := 28) C0 V rfl LV_She_24 (X_jStr_length_28 l D g q w15   hI   _) rfl rfl rfl hl.1 rfl (Nat.le_of_ble_eq_true rfl) ⟨by decide, by decide⟩ ⟨Nat.le_of_ble_eq_true rfl, Nat.le_of_ble_eq_true rfl⟩ d_11_4_4) (fun a25 u23 H locs hp24 V => ?_)
  obtain ⟨rfl, b26, b27, hE28⟩ := hp24
  have e29 : a25 = (F_jStr_length_28) := hE28
  replace b26 : q_F (4 ≤ a25.toInt) := b26
  replace b27 : q_F (a25.toInt ≤ 4) := b27
  obtain rfl : a25 = (4 : Int32) := q_Ieq (x := a25.toInt) (y := 4) rfl (by decide) (by have t1 : 4 ≤ a25.toInt := b26; have t2 : a25.toInt ≤ 4 := b27; omega)
  refine lv_icmp_ge (tgt := 25) hx hb d_11_4_7 (by decide) (fun c30 => ?_) (fun c30 => ?_)
  ·
    have b31 : q_F (4 ≤ lx7.toInt) := (q_leI c30)
    exact q_retv C0 V (⟨hI, hF, lx8, lx9, hO16, hO17, (show t0_0.toInt + 4 ≤ lx8.toInt from (by have t1 : lx7.toInt + t0_0.toInt ≤ lx8.toInt := i13; have t2 : 4 ≤ lx7.toInt := b31; omega)), (show lx8.toInt ≤ t0_0.toInt + 4 from (by have t1 : lx7.toInt ≤ 4 := i10; have t2 : lx8.toInt ≤ lx7.toInt + t0_0.toInt := i12; omega)), (show (lx8, lx9) = (F_She_addText_28 R N K t0_0 t1_0) from Eq.trans (by rw [F_She_addText_28_L2.eq_2, if_pos c30]) hR18)⟩) d_11_4_25
  ·
    have b32 : q_F (lx7.toInt < 4) := (q_nleI c30)
    refine lv_aload_n hx hb d_11_4_10 rfl (lv_at hl 1 rfl) ?_
    refine lv_aload_n hx hb d_11_4_11 rfl (lv_at hl 2 rfl) ?_
    refine lv_iload_n hx hb d_11_4_12 rfl (lv_at hl 0 rfl) ?_
    refine q_goi V (q_runVs (As := [.int lx7]) (rest := [.ref (q k1)]) (d := 4) (mc := 0) (ms := 0) (i := 28) C0 V rfl LV_She_30 (X_jStr_charAt_28 l D g q w15  lx7 hI  (by have t1 : t0_0.toInt ≤ lx7.toInt + lx8.toInt := i11; have t2 : lx8.toInt ≤ lx7.toInt + t0_0.toInt := i12; omega) (by have t1 : lx7.toInt < 4 := b32; omega) _) rfl rfl rfl hl.1 rfl (Nat.le_of_ble_eq_true rfl) ⟨by decide, by decide⟩ ⟨Nat.le_of_ble_eq_true rfl, Nat.le_of_ble_eq_true rfl⟩ d_11_4_13) (fun a35 u33 H locs hp34 V => ?_)
    obtain ⟨rfl, b36, b37, hE38⟩ := hp34
    have e39 : a35 = (F_jStr_charAt_28 lx7) := hE38
    replace b36 : q_F (0 ≤ a35.toInt) := b36
    replace b37 : q_F (a35.toInt ≤ 255) := b37
    refine q_gov V (q_runV (As := [.int a35]) (rest := []) (d := 1) (mc := 0) (ms := 0) (ci := 1) C0 V rfl LV_She_34 (X_She_add_p l D g q w15 k1 R N K hB1 a35 hI lx8 hO16 lx9 hO17 (by have t1 : t0_0.toInt + 20 ≤ K.toInt := pre0; have t2 : lx7.toInt ≤ 4 := i10; have t3 : lx8.toInt ≤ lx7.toInt + t0_0.toInt := i12; omega) _) rfl rfl hO16 rfl hl.1 rfl (Nat.le_of_ble_eq_true rfl) ⟨by decide, by decide⟩ ⟨Nat.le_of_ble_eq_true rfl, Nat.le_of_ble_eq_true rfl⟩ d_11_4_16) (fun u40 H locs hp41 V => ?_)
    obtain ⟨hI, hu49, y43, f44, hO42, hA45, b46, b47, hE48⟩ := hp41
    replace hO42 : u40[k1]? = (some (q k1, .inr (1, [.ref (q (k1 + 1)), .int R, .int y43])) : Option (Nat × va_E)) := hO42
    replace hA45 : u40[k1 + 1]? = (some (q (k1 + 1), .inl (g 1, N.toNatClampNeg, .inr (.inl f44))) : Option (Nat × va_E)) := hA45
    obtain ⟨p50, e51⟩ : ∃ z, z = (F_She_add_p R N K a35 lx8 lx9) := ⟨_, rfl⟩
    have e52 : y43 = p50.1 := congrArg (fun z => z.1) (hE48.trans e51.symm)
    have e53 : f44 = p50.2 := congrArg (fun z => z.2) (hE48.trans e51.symm)
    replace b46 : q_F (lx8.toInt + 1 ≤ y43.toInt) := b46
    replace b47 : q_F (y43.toInt ≤ lx8.toInt + 1) := b47
    replace hF := q_uc hF hu49 (by simp)
    have hR54 := (show F_She_addText_28_c16 (F_She_addText_28_L2 R N K t0_0 t1_0 fm22) R N K t0_0 t1_0 lx7 lx8 lx9 p50 = (F_She_addText_28 R N K t0_0 t1_0) from Eq.trans (by rw [e51, e39, F_She_addText_28_L2.eq_2, if_neg c30]) hR18)
    obtain ⟨a59, e60⟩ := q_nm (lx7 + 1 : Int32)
    have b61 : q_F (a59.toInt = lx7.toInt + 1) := (by rw [← e60]; exact q_addI (y := 1) rfl (by decide) (by have t1 : t0_0.toInt ≤ lx7.toInt + lx8.toInt := i11; have t2 : lx8.toInt ≤ lx7.toInt + t0_0.toInt := i12; have t3 : lx7.toInt ≤ 4 := i10; omega) (by have t1 : t0_0.toInt ≤ lx7.toInt + lx8.toInt := i11; have t2 : lx8.toInt ≤ lx7.toInt + t0_0.toInt := i12; have t3 : lx7.toInt ≤ 4 := i10; omega))
    refine lv_iinc (v := a59) (lv' := [(2, .int a59), (0, .ref (q k1)), (1, .ref (g (8 + 2 * 28)))]) hx hb d_11_4_19 hl (k := 0) rfl (e60) (by decide) rfl (fun ls hl => ?_)
    refine lv_goto (tgt := 2) hx hb d_11_4_22 (by decide) ?_
    exact ih14 ((a59 : Int32), (y43 : Int32), (f44 : (Nat → Int64))) _ _ _ _ (show (4 - a59.toInt).toNat < (4 - lx7.toInt).toNat from by have t1 : a59.toInt = lx7.toInt + 1 := b61; have t2 : lx7.toInt ≤ 4 := i10; have t3 : lx7.toInt < 4 := b32; omega) ⟨(show q_F (a59.toInt ≤ 4) from (show a59.toInt ≤ 4 from by have t1 : lx7.toInt < 4 := b32; have t2 : a59.toInt = lx7.toInt + 1 := b61; omega)), (show q_F (t0_0.toInt ≤ a59.toInt + y43.toInt) from (show t0_0.toInt ≤ a59.toInt + y43.toInt from by have t1 : t0_0.toInt ≤ lx7.toInt + lx8.toInt := i11; have t2 : lx8.toInt + 1 ≤ y43.toInt := b46; have t3 : a59.toInt = lx7.toInt + 1 := b61; omega)), (show q_F (y43.toInt ≤ a59.toInt + t0_0.toInt) from (show y43.toInt ≤ a59.toInt + t0_0.toInt from by have t1 : lx8.toInt ≤ lx7.toInt + t0_0.toInt := i12; have t2 : y43.toInt ≤ lx8.toInt + 1 := b47; have t3 : a59.toInt = lx7.toInt + 1 := b61; omega)), (show q_F (a59.toInt + t0_0.toInt ≤ y43.toInt) from (show a59.toInt + t0_0.toInt ≤ y43.toInt from by have t1 : lx7.toInt + t0_0.toInt ≤ lx8.toInt := i13; have t2 : lx8.toInt + 1 ≤ y43.toInt := b46; have t3 : a59.toInt = lx7.toInt + 1 := b61; omega)), V, q_lw hl (q_lw1 0 rfl (q_lw1 1 rfl (q_lw1 2 rfl q_lw0))), hI, hF, hO42, hA45, ⟨fm22, Nat.lt_of_lt_of_le (show (4 - a59.toInt).toNat < (4 - lx7.toInt).toNat from by have t1 : a59.toInt = lx7.toInt + 1 := b61; have t2 : lx7.toInt ≤ 4 := i10; have t3 : lx7.toInt < 4 := b32; omega) (Nat.le_of_lt_succ hf21), (show F_She_addText_28_L2 R N K t0_0 t1_0 fm22 a59 y43 f44 = (F_She_addText_28 R N K t0_0 t1_0) from Eq.trans (by rw [← e60, e53, e52, F_She_addText_28_c16.eq_1]) hR54)⟩⟩
def F_Dig_turn_p_L43 (K_F_Dig_turn_p_L0 : Int32 → (Int32 × Int32 × (Nat → Int32))) (x2 : Int32) (t0_0 : Int32) (t0_1 : Int32) (t1_0 : (Nat → Int32)) (lx9 : Int32) : Nat → Int32 → Int32 → (Nat → Int32) → (Int32 × Int32 × (Nat → Int32))
  | 0, _, _, _ => default
  | fm + 1, lx34, lx35, lx36 => if lx34 ≤ lx35 then (if lx9 = (0 : Int32) then ((lx9, (0 : Int32), lx36)) else ((lx9, ((lx9 - 1 : Int32) - x2 : Int32), lx36))) else (F_Dig_turn_p_L43 K_F_Dig_turn_p_L0 x2 t0_0 t0_1 t1_0 lx9 fm (lx34 + (-1) : Int32) (lx35 + 1 : Int32) (upd (upd lx36 lx35.toNatClampNeg (vp_nar .byte (lx36 lx34.toNatClampNeg : Int32)) : (Nat → Int32)) lx34.toNatClampNeg (vp_nar .byte (lx36 lx35.toNatClampNeg : Int32)) : (Nat → Int32)))
def F_Dig_turn_p_J34 (K_F_Dig_turn_p_L0 : Int32 → (Int32 × Int32 × (Nat → Int32))) (x2 : Int32) (t0_0 : Int32) (t0_1 : Int32) (t1_0 : (Nat → Int32)) (lx9 : Int32) : Int32 × Int32 × (Nat → Int32) := F_Dig_turn_p_L43 K_F_Dig_turn_p_L0 x2 t0_0 t0_1 t1_0 lx9 (((lx9 - 1 : Int32).toInt - ((-1000000))).toNat + 1) (lx9 - 1 : Int32) 0 t1_0
def F_Dig_turn_p_L0 (x2 : Int32) (t0_0 : Int32) (t0_1 : Int32) (t1_0 : (Nat → Int32)) : Nat → Int32 → (Int32 × Int32 × (Nat → Int32))
  | 0, _ => default
  | fm + 1, lx9 => if lx9 ≤ (0 : Int32) then (F_Dig_turn_p_J34 (F_Dig_turn_p_L0 x2 t0_0 t0_1 t1_0 fm) x2 t0_0 t0_1 t1_0 lx9) else (if (t1_0 (lx9 - 1 : Int32).toNatClampNeg : Int32) = (0 : Int32) then (F_Dig_turn_p_L0 x2 t0_0 t0_1 t1_0 fm (lx9 - 1 : Int32)) else (F_Dig_turn_p_J34 (F_Dig_turn_p_L0 x2 t0_0 t0_1 t1_0 fm) x2 t0_0 t0_1 t1_0 lx9))
def F_Dig_turn_p (x2 : Int32) (t0_0 : Int32) (t0_1 : Int32) (t1_0 : (Nat → Int32)) : Int32 × Int32 × (Nat → Int32) := F_Dig_turn_p_L0 x2 t0_0 t0_1 t1_0 ((t0_0.toInt - ((-1000000))).toNat + 1) t0_0
set_option maxRecDepth 100000 in
set_option maxHeartbeats 4000000 in
theorem X_Dig_turn_p (l : Launch) (D : va_G) (g : Nat → ClassId) (q : Nat → Nat) (ws : va_W) (x2 : Int32) (hI : q_I (nsh g q) q ws) (t0_0 : Int32) (t0_1 : Int32) (hT0 : ws[36]? = (some (q 36, .inr (7, [.int t0_0, .int t0_1, .ref (q 37)])) : Option (Nat × va_E))) (t1_0 : (Nat → Int32)) (hT1 : ws[37]? = (some (q 37, .inl (g 2, 1026, .inl t1_0)) : Option (Nat × va_E))) (pre0 : 0 ≤ x2.toInt + 20000) (pre1 : x2.toInt ≤ 20000) : q_mV l y_Dig_turn prog_5_method_4_code 5 1 0 0 D g [.ref (q 36), .int x2] ws (fun u => q_I (nsh g q) q u ∧ q_un ws u [36, 37] ∧ ∃ (u0_0 : Int32) (u0_1 : Int32) (u1_0 : (Nat → Int32)), u[36]? = (some (q 36, .inr (7, [.int u0_0, .int u0_1, .ref (q 37)])) : Option (Nat × va_E)) ∧ u[37]? = (some (q 37, .inl (g 2, 1026, .inl u1_0)) : Option (Nat × va_E)) ∧ (0 ≤ u0_0.toInt) ∧ (0 ≤ u0_1.toInt + 20000) ∧ (u0_0.toInt ≤ t0_0.toInt) ∧ (u0_1.toInt ≤ u0_0.toInt + 19999) ∧ (u0_0.toInt ≤ u0_1.toInt + 20001) ∧ (0 ≤ u0_1.toInt + x2.toInt + 20000) ∧ (u0_1.toInt + x2.toInt ≤ 20000) ∧ (u0_0, u0_1, u1_0) = (F_Dig_turn_p x2 t0_0 t0_1 t1_0)) := by
  intro sz
  refine q_into (by decide) (Nat.le_of_ble_eq_true rfl) ?_
  intro p e s m below meth c ls hsz C0 V hl
  have hx := C0.1
  have hb := C0.2.1
  obtain ⟨yy0_0, yy0_1, hh0, btt0_0, btt0_1⟩ := n_o36 hI
  obtain ⟨rfl, rfl⟩ : t0_0 = yy0_0 ∧ t0_1 = yy0_1 := by have z := Option.some.inj (hT0.symm.trans hh0); simpa using z
  replace btt0_0 : q_F (0 ≤ t0_0.toInt ∧ t0_0.toInt ≤ 1026) := btt0_0
  replace btt0_1 : q_F (-1000000 ≤ t0_1.toInt ∧ t0_1.toInt ≤ 1000000) := btt0_1
  replace pre0 : q_F (0 ≤ x2.toInt + 20000) := pre0
  replace pre1 : q_F (x2.toInt ≤ 20000) := pre1
  have hF : q_un ws ws [36, 37] := q_u0
  have hl : lv_has ls 5 [(0, .ref (q 36)), (1, .int x2)] := hl
  refine q_loop (X := Int32) (fun z H locs ls w13 => q_F (0 ≤ z.toInt) ∧ q_F (z.toInt ≤ t0_0.toInt) ∧ q_Wd D g (va_A ws sz) s w13 H locs ∧ lv_has ls 5 [(0, .ref (q 36)), (1, .int x2)] ∧ q_I (nsh g q) q w13 ∧ q_un ws w13 [36, 37] ∧ w13[36]? = (some (q 36, .inr (7, [.int z, .int t0_1, .ref (q 37)])) : Option (Nat × va_E)) ∧ w13[37]? = (some (q 37, .inl (g 2, 1026, .inl t1_0)) : Option (Nat × va_E)) ∧ (∃ n, (z.toInt - ((-1000000))).toNat < n ∧ F_Dig_turn_p_L0 x2 t0_0 t0_1 t1_0 n z = (F_Dig_turn_p x2 t0_0 t0_1 t1_0))) (fun z => (z.toInt - ((-1000000))).toNat) ?_ ((t0_0 : Int32)) _ _ _ ws ⟨(show q_F (0 ≤ t0_0.toInt) from (show 0 ≤ t0_0.toInt from by have t1 : 0 ≤ t0_0.toInt ∧ t0_0.toInt ≤ 1026 := btt0_0; omega)), (show q_F (t0_0.toInt ≤ t0_0.toInt) from (show t0_0.toInt ≤ t0_0.toInt from by omega)), V, q_lw hl (q_lw1 0 rfl (q_lw1 1 rfl q_lw0)), hI, hF, hT0, hT1, ⟨((t0_0.toInt - ((-1000000))).toNat + 1), Nat.lt_succ_self _, (show F_Dig_turn_p_L0 x2 t0_0 t0_1 t1_0 ((t0_0.toInt - ((-1000000))).toNat + 1) t0_0 = (F_Dig_turn_p x2 t0_0 t0_1 t1_0) from (by rw [F_Dig_turn_p.eq_1]))⟩⟩
  rintro lx9 H locs ls w13 ⟨i10, i11, V, hl, hI, hF, hO14, hO15, ⟨fu18, hf19, hR16⟩⟩ ih12
  obtain ⟨fm20, rfl⟩ : ∃ m, fu18 = m + 1 := ⟨fu18 - 1, by omega⟩
  replace i10 : q_F (0 ≤ lx9.toInt) := i10
  replace i11 : q_F (lx9.toInt ≤ t0_0.toInt) := i11
  replace hl : lv_has ls 5 [(0, .ref (q 36)), (1, .int x2)] := hl
  replace hO14 : w13[36]? = (some (q 36, .inr (7, [.int lx9, .int t0_1, .ref (q 37)])) : Option (Nat × va_E)) := hO14
  replace hO15 : w13[37]? = (some (q 37, .inl (g 2, 1026, .inl t1_0)) : Option (Nat × va_E)) := hO15
  refine lv_aload_n hx hb d_5_4_0 rfl (lv_at hl 0 rfl) ?_
  refine q_get (ci := 7) (j := 0) (v := .int lx9) C0 V i_Dig rfl rfl hO14 (by decide) w_264 rfl d_5_4_1 ?_
  refine q_join (X := Unit) (fun z H locs ls _ => q_Wd D g (va_A ws sz) s w13 H locs ∧ lv_has ls 5 [(0, .ref (q 36)), (1, .int x2)] ∧ F_Dig_turn_p_J34 (F_Dig_turn_p_L0 x2 t0_0 t0_1 t1_0 fm20) x2 t0_0 t0_1 t1_0 lx9 = (F_Dig_turn_p x2 t0_0 t0_1 t1_0)) (fun z => []) 34 0 0 ?_ ?_
  ·
    rintro _ H locs ls _ ⟨V, hl, hR24⟩
    replace hl : lv_has ls 5 [(0, .ref (q 36)), (1, .int x2)] := hl
    refine lv_iconst (v := 0) hx hb d_5_4_34 (by decide) ?_
    refine lv_istore_n (lv' := [(2, .int 0), (0, .ref (q 36)), (1, .int x2)]) hx hb d_5_4_35 rfl hl (by decide) rfl (fun ls hl => ?_)
    refine lv_aload_n hx hb d_5_4_36 rfl (lv_at hl 1 rfl) ?_
    refine q_get (ci := 7) (j := 0) (v := .int lx9) C0 V i_Dig rfl rfl hO14 (by decide) w_264 rfl d_5_4_37 ?_
    refine lv_iconst (v := 1) hx hb d_5_4_40 (by decide) ?_
    refine lv_isub hx hb d_5_4_41 ?_
    obtain ⟨a29, e30⟩ := q_nm (lx9 - 1 : Int32)
    refine q_ti (v := a29) e30 ?_
    have b31 : q_F (a29.toInt = lx9.toInt - 1) := (by rw [← e30]; show (lx9 - 1 : Int32).toInt = lx9.toInt - 1; exact q_subI (x := lx9.toInt) (y := 1) rfl (by decide) (by have t1 : 0 ≤ lx9.toInt := i10; have _ := q_lo32 (x := lx9); have _ := q_hi32 (x := lx9); omega) (by have t1 : 0 ≤ lx9.toInt := i10; have _ := q_lo32 (x := lx9); have _ := q_hi32 (x := lx9); omega))
    refine lv_istore_n (lv' := [(3, .int a29), (2, .int 0), (0, .ref (q 36)), (1, .int x2)]) hx hb d_5_4_42 rfl hl (by decide) rfl (fun ls hl => ?_)
    refine q_loop (X := Int32 × Int32 × (Nat → Int32)) (fun z H locs ls w42 => q_F (z.2.1.toInt ≤ z.1.toInt + 1) ∧ q_F (a29.toInt ≤ z.1.toInt + z.2.1.toInt) ∧ q_F (z.1.toInt + z.2.1.toInt ≤ a29.toInt) ∧ q_F (z.1.toInt ≤ z.2.1.toInt + a29.toInt) ∧ q_Wd D g (va_A ws sz) s w42 H locs ∧ lv_has ls 5 [(3, .int z.1), (2, .int z.2.1), (0, .ref (q 36)), (1, .int x2)] ∧ q_I (nsh g q) q w42 ∧ q_un ws w42 [36, 37] ∧ w42[36]? = (some (q 36, .inr (7, [.int lx9, .int t0_1, .ref (q 37)])) : Option (Nat × va_E)) ∧ w42[37]? = (some (q 37, .inl (g 2, 1026, .inl z.2.2)) : Option (Nat × va_E)) ∧ (∃ n, (z.1.toInt - ((-1000000))).toNat < n ∧ F_Dig_turn_p_L43 (F_Dig_turn_p_L0 x2 t0_0 t0_1 t1_0 fm20) x2 t0_0 t0_1 t1_0 lx9 n z.1 z.2.1 z.2.2 = (F_Dig_turn_p x2 t0_0 t0_1 t1_0))) (fun z => (z.1.toInt - ((-1000000))).toNat) ?_ ((a29 : Int32), (0 : Int32), (t1_0 : (Nat → Int32))) _ _ _ w13 ⟨(show q_F (0 ≤ a29.toInt + 1) from (show 0 ≤ a29.toInt + 1 from by have t1 : 0 ≤ lx9.toInt := i10; have t2 : a29.toInt = lx9.toInt - 1 := b31; omega)), (show q_F (a29.toInt ≤ a29.toInt + 0) from (show a29.toInt ≤ a29.toInt + 0 from by omega)), (show q_F (a29.toInt + 0 ≤ a29.toInt) from (show a29.toInt + 0 ≤ a29.toInt from by omega)), (show q_F (a29.toInt ≤ 0 + a29.toInt) from (show a29.toInt ≤ 0 + a29.toInt from by omega)), V, q_lw hl (q_lw1 0 rfl (q_lw1 1 rfl (q_lw1 2 rfl (q_lw1 3 rfl q_lw0)))), hI, hF, hO14, hO15, ⟨((a29.toInt - ((-1000000))).toNat + 1), Nat.lt_succ_self _, (show F_Dig_turn_p_L43 (F_Dig_turn_p_L0 x2 t0_0 t0_1 t1_0 fm20) x2 t0_0 t0_1 t1_0 lx9 ((a29.toInt - ((-1000000))).toNat + 1) a29 0 t1_0 = (F_Dig_turn_p x2 t0_0 t0_1 t1_0) from Eq.trans (by rw [← e30, F_Dig_turn_p_J34.eq_1]) hR24)⟩⟩
    rintro ⟨lx34, lx35, lx36⟩ H locs ls w42 ⟨i37, i38, i39, i40, V, hl, hI, hF, hO43, hO44, ⟨fu47, hf48, hR45⟩⟩ ih41
    obtain ⟨fm49, rfl⟩ : ∃ m, fu47 = m + 1 := ⟨fu47 - 1, by omega⟩
    replace i37 : q_F (lx35.toInt ≤ lx34.toInt + 1) := i37
    replace i38 : q_F (a29.toInt ≤ lx34.toInt + lx35.toInt) := i38
    replace i39 : q_F (lx34.toInt + lx35.toInt ≤ a29.toInt) := i39
    replace i40 : q_F (lx34.toInt ≤ lx35.toInt + a29.toInt) := i40
    replace hl : lv_has ls 5 [(3, .int lx34), (2, .int lx35), (0, .ref (q 36)), (1, .int x2)] := hl
    replace hO43 : w42[36]? = (some (q 36, .inr (7, [.int lx9, .int t0_1, .ref (q 37)])) : Option (Nat × va_E)) := hO43
    replace hO44 : w42[37]? = (some (q 37, .inl (g 2, 1026, .inl lx36)) : Option (Nat × va_E)) := hO44
    refine lv_iload_n hx hb d_5_4_43 rfl (lv_at hl 1 rfl) ?_
    refine lv_iload_n hx hb d_5_4_44 rfl (lv_at hl 0 rfl) ?_
    refine lv_icmp_ge (tgt := 85) hx hb d_5_4_45 (by decide) (fun c50 => ?_) (fun c50 => ?_)
    ·
      have b51 : q_F (lx34.toInt ≤ lx35.toInt) := (q_leI c50)
      refine lv_aload_n hx hb d_5_4_85 rfl (lv_at hl 2 rfl) ?_
      refine lv_aload_n hx hb d_5_4_86 rfl (lv_at hl 2 rfl) ?_
      refine q_get (ci := 7) (j := 0) (v := .int lx9) C0 V i_Dig rfl rfl hO43 (by decide) w_264 rfl d_5_4_87 ?_
      refine lv_if_ne (tgt := 97) hx hb d_5_4_90 (by decide) (fun c52 => ?_) (fun c52 => ?_)
      ·
        have b53 : q_F (lx9.toInt ≠ 0) := (q_neI c52)
        refine lv_aload_n hx hb d_5_4_97 rfl (lv_at hl 2 rfl) ?_
        refine q_get (ci := 7) (j := 0) (v := .int lx9) C0 V i_Dig rfl rfl hO43 (by decide) w_264 rfl d_5_4_98 ?_
        refine lv_iconst (v := 1) hx hb d_5_4_101 (by decide) ?_
        refine lv_isub hx hb d_5_4_102 ?_
        obtain ⟨a54, e55⟩ := q_nm (lx9 - 1 : Int32)
        refine q_ti (v := a54) e55 ?_
        have b56 : q_F (a54.toInt = lx9.toInt - 1) := (by rw [← e55]; show (lx9 - 1 : Int32).toInt = lx9.toInt - 1; exact q_subI (x := lx9.toInt) (y := 1) rfl (by decide) (by have t1 : 0 ≤ lx9.toInt := i10; have t2 : a29.toInt = lx9.toInt - 1 := b31; have _ := q_lo32 (x := a29); have _ := q_hi32 (x := a29); omega) (by have t1 : 0 ≤ lx9.toInt := i10; have t2 : a29.toInt = lx9.toInt - 1 := b31; have _ := q_lo32 (x := a29); have _ := q_hi32 (x := a29); omega))
        refine lv_iload_n hx hb d_5_4_103 rfl (lv_at hl 3 rfl) ?_
        refine lv_isub hx hb d_5_4_104 ?_
        obtain ⟨a57, e58⟩ := q_nm (a54 - x2 : Int32)
        refine q_ti (v := a57) e58 ?_
        have b59 : q_F (a57.toInt = a54.toInt - x2.toInt) := (by rw [← e58]; show (a54 - x2 : Int32).toInt = a54.toInt - x2.toInt; exact q_subI (x := a54.toInt) (y := x2.toInt) rfl rfl (by have t1 : x2.toInt ≤ 20000 := pre1; have t2 : 0 ≤ lx9.toInt := i10; have t3 : a54.toInt = lx9.toInt - 1 := b56; have t4 : 0 ≤ t0_0.toInt ∧ t0_0.toInt ≤ 1026 := btt0_0; have t5 : 0 ≤ x2.toInt + 20000 := pre0; have t6 : lx9.toInt ≤ t0_0.toInt := i11; omega) (by have t1 : x2.toInt ≤ 20000 := pre1; have t2 : 0 ≤ lx9.toInt := i10; have t3 : a54.toInt = lx9.toInt - 1 := b56; have t4 : 0 ≤ t0_0.toInt ∧ t0_0.toInt ≤ 1026 := btt0_0; have t5 : 0 ≤ x2.toInt + 20000 := pre0; have t6 : lx9.toInt ≤ t0_0.toInt := i11; omega))
        refine q_put (ci := 7) (j := 1) (v := .int a57) (ty := .int) C0 V i_Dig o_Dig n_Dig rfl rfl hO43 (by decide) w_266 rfl rfl rfl rfl (Nat.le_of_ble_eq_true rfl) d_5_4_105 (fun H locs w60 hu61 hO43 V => ?_)
        replace hO43 : w60[36]? = (some (q 36, .inr (7, [.int lx9, .int a57, .ref (q 37)])) : Option (Nat × va_E)) := hO43
        replace hI := n_p36 hI hu61 hO43 ⟨(by have t1 : 0 ≤ lx9.toInt := i10; omega), (by have t1 : 0 ≤ t0_0.toInt ∧ t0_0.toInt ≤ 1026 := btt0_0; have t2 : lx9.toInt ≤ t0_0.toInt := i11; omega)⟩ ⟨(by have t1 : x2.toInt ≤ 20000 := pre1; have t2 : 0 ≤ lx9.toInt := i10; have t3 : a54.toInt = lx9.toInt - 1 := b56; have t4 : a57.toInt = a54.toInt - x2.toInt := b59; omega), (by have t1 : 0 ≤ t0_0.toInt ∧ t0_0.toInt ≤ 1026 := btt0_0; have t2 : 0 ≤ x2.toInt + 20000 := pre0; have t3 : lx9.toInt ≤ t0_0.toInt := i11; have t4 : a54.toInt = lx9.toInt - 1 := b56; have t5 : a57.toInt = a54.toInt - x2.toInt := b59; omega)⟩
        replace hO44 := (hu61 _ (by decide)).trans hO44
        replace hF := q_us hF hu61 (by simp)
        exact q_retv C0 V (⟨hI, hF, lx9, a57, lx36, hO43, hO44, (show 0 ≤ lx9.toInt from (by have t1 : 0 ≤ lx9.toInt := i10; omega)), (show 0 ≤ a57.toInt + 20000 from (by have t1 : x2.toInt ≤ 20000 := pre1; have t2 : 0 ≤ lx9.toInt := i10; have t3 : lx9.toInt ≠ 0 := b53; have t4 : a54.toInt = lx9.toInt - 1 := b56; have t5 : a57.toInt = a54.toInt - x2.toInt := b59; omega)), (show lx9.toInt ≤ t0_0.toInt from (by have t1 : lx9.toInt ≤ t0_0.toInt := i11; omega)), (show a57.toInt ≤ lx9.toInt + 19999 from (by have t1 : 0 ≤ x2.toInt + 20000 := pre0; have t2 : a54.toInt = lx9.toInt - 1 := b56; have t3 : a57.toInt = a54.toInt - x2.toInt := b59; omega)), (show lx9.toInt ≤ a57.toInt + 20001 from (by have t1 : x2.toInt ≤ 20000 := pre1; have t2 : a54.toInt = lx9.toInt - 1 := b56; have t3 : a57.toInt = a54.toInt - x2.toInt := b59; omega)), (show 0 ≤ a57.toInt + x2.toInt + 20000 from (by have t1 : 0 ≤ lx9.toInt := i10; have t2 : a54.toInt = lx9.toInt - 1 := b56; have t3 : a57.toInt = a54.toInt - x2.toInt := b59; omega)), (show a57.toInt + x2.toInt ≤ 20000 from (by have t1 : 0 ≤ t0_0.toInt ∧ t0_0.toInt ≤ 1026 := btt0_0; have t2 : lx9.toInt ≤ t0_0.toInt := i11; have t3 : a54.toInt = lx9.toInt - 1 := b56; have t4 : a57.toInt = a54.toInt - x2.toInt := b59; omega)), (show (lx9, a57, lx36) = (F_Dig_turn_p x2 t0_0 t0_1 t1_0) from Eq.trans (by rw [← e58, ← e55, F_Dig_turn_p_L43.eq_2, if_pos c50, if_neg c52]) hR45)⟩) d_5_4_108
      ·
        have b62 : q_F (lx9.toInt = 0) := (q_eqI c52)
        refine lv_iconst (v := 0) hx hb d_5_4_93 (by decide) ?_
        refine lv_goto (tgt := 105) hx hb d_5_4_94 (by decide) ?_
        refine q_put (ci := 7) (j := 1) (v := .int 0) (ty := .int) C0 V i_Dig o_Dig n_Dig rfl rfl hO43 (by decide) w_266 rfl rfl rfl rfl (Nat.le_of_ble_eq_true rfl) d_5_4_105 (fun H locs w63 hu64 hO43 V => ?_)
        replace hO43 : w63[36]? = (some (q 36, .inr (7, [.int lx9, .int 0, .ref (q 37)])) : Option (Nat × va_E)) := hO43
        replace hI := n_p36 hI hu64 hO43 ⟨(by have t1 : 0 ≤ lx9.toInt := i10; omega), (by have t1 : lx9.toInt = 0 := b62; omega)⟩ ⟨(by have z9 : (0 : Int32).toInt = 0 := rfl; omega), (by have z9 : (0 : Int32).toInt = 0 := rfl; omega)⟩
        replace hO44 := (hu64 _ (by decide)).trans hO44
        replace hF := q_us hF hu64 (by simp)
        exact q_retv C0 V (⟨hI, hF, lx9, 0, lx36, hO43, hO44, (show 0 ≤ lx9.toInt from (by have z5 : (0 : Int32).toInt = 0 := rfl; have t1 : 0 ≤ lx9.toInt := i10; omega)), (show 0 ≤ (0 : Int32).toInt + 20000 from (by have z5 : (0 : Int32).toInt = 0 := rfl; omega)), (show lx9.toInt ≤ t0_0.toInt from (by have z5 : (0 : Int32).toInt = 0 := rfl; have t1 : lx9.toInt ≤ t0_0.toInt := i11; omega)), (show (0 : Int32).toInt ≤ lx9.toInt + 19999 from (by have z5 : (0 : Int32).toInt = 0 := rfl; have t1 : 0 ≤ lx9.toInt := i10; omega)), (show lx9.toInt ≤ (0 : Int32).toInt + 20001 from (by have z5 : (0 : Int32).toInt = 0 := rfl; have t1 : lx9.toInt = 0 := b62; omega)), (show 0 ≤ (0 : Int32).toInt + x2.toInt + 20000 from (by have z5 : (0 : Int32).toInt = 0 := rfl; have t1 : 0 ≤ x2.toInt + 20000 := pre0; omega)), (show (0 : Int32).toInt + x2.toInt ≤ 20000 from (by have z5 : (0 : Int32).toInt = 0 := rfl; have t1 : x2.toInt ≤ 20000 := pre1; omega)), (show (lx9, (0 : Int32), lx36) = (F_Dig_turn_p x2 t0_0 t0_1 t1_0) from Eq.trans (by rw [F_Dig_turn_p_L43.eq_2, if_pos c50, if_pos c52]) hR45)⟩) d_5_4_108
    ·
      have b65 : q_F (lx35.toInt < lx34.toInt) := (q_nleI c50)
      refine lv_aload_n hx hb d_5_4_48 rfl (lv_at hl 2 rfl) ?_
      refine q_get (ci := 7) (j := 2) (v := .ref (q 37)) C0 V i_Dig rfl rfl hO43 (by decide) w_269 rfl d_5_4_49 ?_
      refine lv_iload_n hx hb d_5_4_52 rfl (lv_at hl 1 rfl) ?_
      refine q_bald C0 V hO44 (q_ix (x := lx35.toInt) rfl (by have t1 : a29.toInt ≤ lx34.toInt + lx35.toInt := i38; have t2 : lx34.toInt ≤ lx35.toInt + a29.toInt := i40; omega) (by have t1 : a29.toInt ≤ lx34.toInt + lx35.toInt := i38; have t2 : lx34.toInt ≤ lx35.toInt + a29.toInt := i40; have t3 : 0 ≤ t0_0.toInt ∧ t0_0.toInt ≤ 1026 := btt0_0; have t4 : lx9.toInt ≤ t0_0.toInt := i11; have t5 : a29.toInt = lx9.toInt - 1 := b31; have t6 : lx35.toInt ≤ lx34.toInt + 1 := i37; have t7 : lx34.toInt + lx35.toInt ≤ a29.toInt := i39; omega)) d_5_4_53 ?_
      obtain ⟨a66, e67⟩ := q_nm (lx36 lx35.toNatClampNeg : Int32)
      refine q_ti (v := a66) e67 ?_
      refine lv_istore (lv' := [(4, .int a66), (3, .int lx34), (2, .int lx35), (0, .ref (q 36)), (1, .int x2)]) hx hb d_5_4_54 hl (by decide) rfl (fun ls hl => ?_)
      refine lv_aload_n hx hb d_5_4_56 rfl (lv_at hl 3 rfl) ?_
      refine q_get (ci := 7) (j := 2) (v := .ref (q 37)) C0 V i_Dig rfl rfl hO43 (by decide) w_269 rfl d_5_4_57 ?_
      refine lv_iload_n hx hb d_5_4_60 rfl (lv_at hl 2 rfl) ?_
      refine lv_aload_n hx hb d_5_4_61 rfl (lv_at hl 3 rfl) ?_
      refine q_get (ci := 7) (j := 2) (v := .ref (q 37)) C0 V i_Dig rfl rfl hO43 (by decide) w_269 rfl d_5_4_62 ?_
      refine lv_iload_n hx hb d_5_4_65 rfl (lv_at hl 1 rfl) ?_
      refine q_bald C0 V hO44 (q_ix (x := lx34.toInt) rfl (by have t1 : a29.toInt ≤ lx34.toInt + lx35.toInt := i38; have t2 : lx34.toInt ≤ lx35.toInt + a29.toInt := i40; have t3 : lx35.toInt < lx34.toInt := b65; omega) (by have t1 : a29.toInt ≤ lx34.toInt + lx35.toInt := i38; have t2 : lx34.toInt ≤ lx35.toInt + a29.toInt := i40; have t3 : lx35.toInt < lx34.toInt := b65; have t4 : 0 ≤ t0_0.toInt ∧ t0_0.toInt ≤ 1026 := btt0_0; have t5 : lx9.toInt ≤ t0_0.toInt := i11; have t6 : a29.toInt = lx9.toInt - 1 := b31; have t7 : lx34.toInt + lx35.toInt ≤ a29.toInt := i39; omega)) d_5_4_66 ?_
      obtain ⟨a68, e69⟩ := q_nm (lx36 lx34.toNatClampNeg : Int32)
      refine q_ti (v := a68) e69 ?_
      refine q_bast C0 V hO44 (q_ix (x := lx35.toInt) rfl (by have t1 : a29.toInt ≤ lx34.toInt + lx35.toInt := i38; have t2 : lx34.toInt ≤ lx35.toInt + a29.toInt := i40; omega) (by have t1 : a29.toInt ≤ lx34.toInt + lx35.toInt := i38; have t2 : lx34.toInt ≤ lx35.toInt + a29.toInt := i40; have t3 : 0 ≤ t0_0.toInt ∧ t0_0.toInt ≤ 1026 := btt0_0; have t4 : lx9.toInt ≤ t0_0.toInt := i11; have t5 : a29.toInt = lx9.toInt - 1 := b31; have t6 : lx35.toInt ≤ lx34.toInt + 1 := i37; have t7 : lx34.toInt + lx35.toInt ≤ a29.toInt := i39; omega)) d_5_4_67 (fun H locs w70 hu71 hO44 V => ?_)
      replace hI := n_ai' hI (n_s37 g q) hu71 hO44 (q_updB (fun _ => s_bnd) s_bnd)
      replace hO43 := (hu71 _ (by decide)).trans hO43
      replace hF := q_us hF hu71 (by simp)
      obtain ⟨f72, e73⟩ := q_nm (upd lx36 lx35.toNatClampNeg (vp_nar .byte a68) : (Nat → Int32))
      rw [e73] at hO44
      refine lv_aload_n hx hb d_5_4_68 rfl (lv_at hl 3 rfl) ?_
      refine q_get (ci := 7) (j := 2) (v := .ref (q 37)) C0 V i_Dig rfl rfl hO43 (by decide) w_269 rfl d_5_4_69 ?_
      refine lv_iload_n hx hb d_5_4_72 rfl (lv_at hl 1 rfl) ?_
      refine lv_iload hx hb d_5_4_73 (lv_at hl 0 rfl) ?_
      refine q_bast C0 V hO44 (q_ix (x := lx34.toInt) rfl (by have t1 : a29.toInt ≤ lx34.toInt + lx35.toInt := i38; have t2 : lx34.toInt ≤ lx35.toInt + a29.toInt := i40; have t3 : lx35.toInt < lx34.toInt := b65; omega) (by have t1 : a29.toInt ≤ lx34.toInt + lx35.toInt := i38; have t2 : lx34.toInt ≤ lx35.toInt + a29.toInt := i40; have t3 : lx35.toInt < lx34.toInt := b65; have t4 : 0 ≤ t0_0.toInt ∧ t0_0.toInt ≤ 1026 := btt0_0; have t5 : lx9.toInt ≤ t0_0.toInt := i11; have t6 : a29.toInt = lx9.toInt - 1 := b31; have t7 : lx34.toInt + lx35.toInt ≤ a29.toInt := i39; omega)) d_5_4_75 (fun H locs w74 hu75 hO44 V => ?_)
      replace hI := n_ai' hI (n_s37 g q) hu75 hO44 (q_updB (fun _ => s_bnd) s_bnd)
      replace hO43 := (hu75 _ (by decide)).trans hO43
      replace hF := q_us hF hu75 (by simp)
      obtain ⟨f76, e77⟩ := q_nm (upd f72 lx34.toNatClampNeg (vp_nar .byte a66) : (Nat → Int32))
      rw [e77] at hO44
      obtain ⟨a78, e79⟩ := q_nm (lx35 + 1 : Int32)
      have b80 : q_F (a78.toInt = lx35.toInt + 1) := (by rw [← e79]; exact q_addI (y := 1) rfl (by decide) (by have t1 : a29.toInt ≤ lx34.toInt + lx35.toInt := i38; have t2 : lx34.toInt ≤ lx35.toInt + a29.toInt := i40; have t3 : lx35.toInt ≤ lx34.toInt + 1 := i37; have t4 : lx34.toInt + lx35.toInt ≤ a29.toInt := i39; have _ := q_lo32 (x := a29); have _ := q_hi32 (x := a29); omega) (by have t1 : a29.toInt ≤ lx34.toInt + lx35.toInt := i38; have t2 : lx34.toInt ≤ lx35.toInt + a29.toInt := i40; have t3 : lx35.toInt ≤ lx34.toInt + 1 := i37; have t4 : lx34.toInt + lx35.toInt ≤ a29.toInt := i39; have _ := q_lo32 (x := a29); have _ := q_hi32 (x := a29); omega))
      refine lv_iinc (v := a78) (lv' := [(2, .int a78), (4, .int a66), (3, .int lx34), (0, .ref (q 36)), (1, .int x2)]) hx hb d_5_4_76 hl (k := 2) rfl (e79) (by decide) rfl (fun ls hl => ?_)
      obtain ⟨a81, e82⟩ := q_nm (lx34 + (-1) : Int32)
      have b83 : q_F (a81.toInt = lx34.toInt + (-1)) := (by rw [← e82]; exact q_addI (y := (-1)) rfl (by decide) (by have t1 : lx35.toInt ≤ lx34.toInt + 1 := i37; have t2 : a29.toInt ≤ lx34.toInt + lx35.toInt := i38; have t3 : lx34.toInt ≤ lx35.toInt + a29.toInt := i40; have t4 : lx34.toInt + lx35.toInt ≤ a29.toInt := i39; have _ := q_lo32 (x := a29); have _ := q_hi32 (x := a29); omega) (by have t1 : lx35.toInt ≤ lx34.toInt + 1 := i37; have t2 : a29.toInt ≤ lx34.toInt + lx35.toInt := i38; have t3 : lx34.toInt ≤ lx35.toInt + a29.toInt := i40; have t4 : lx34.toInt + lx35.toInt ≤ a29.toInt := i39; have _ := q_lo32 (x := a29); have _ := q_hi32 (x := a29); omega))
      refine lv_iinc (v := a81) (lv' := [(3, .int a81), (2, .int a78), (4, .int a66), (0, .ref (q 36)), (1, .int x2)]) hx hb d_5_4_79 hl (k := 2) rfl (e82) (by decide) rfl (fun ls hl => ?_)
      refine lv_goto (tgt := 43) hx hb d_5_4_82 (by decide) ?_
      exact ih41 ((a81 : Int32), (a78 : Int32), (f76 : (Nat → Int32))) _ _ _ _ (show (a81.toInt - ((-1000000))).toNat < (lx34.toInt - ((-1000000))).toNat from by have t1 : a81.toInt = lx34.toInt + (-1) := b83; have t2 : lx35.toInt ≤ lx34.toInt + 1 := i37; have t3 : a29.toInt ≤ lx34.toInt + lx35.toInt := i38; have t4 : lx34.toInt ≤ lx35.toInt + a29.toInt := i40; omega) ⟨(show q_F (a78.toInt ≤ a81.toInt + 1) from (show a78.toInt ≤ a81.toInt + 1 from by have t1 : lx35.toInt < lx34.toInt := b65; have t2 : a78.toInt = lx35.toInt + 1 := b80; have t3 : a81.toInt = lx34.toInt + (-1) := b83; omega)), (show q_F (a29.toInt ≤ a81.toInt + a78.toInt) from (show a29.toInt ≤ a81.toInt + a78.toInt from by have t1 : a29.toInt ≤ lx34.toInt + lx35.toInt := i38; have t2 : a78.toInt = lx35.toInt + 1 := b80; have t3 : a81.toInt = lx34.toInt + (-1) := b83; omega)), (show q_F (a81.toInt + a78.toInt ≤ a29.toInt) from (show a81.toInt + a78.toInt ≤ a29.toInt from by have t1 : lx34.toInt + lx35.toInt ≤ a29.toInt := i39; have t2 : a78.toInt = lx35.toInt + 1 := b80; have t3 : a81.toInt = lx34.toInt + (-1) := b83; omega)), (show q_F (a81.toInt ≤ a78.toInt + a29.toInt) from (show a81.toInt ≤ a78.toInt + a29.toInt from by have t1 : lx34.toInt ≤ lx35.toInt + a29.toInt := i40; have t2 : a78.toInt = lx35.toInt + 1 := b80; have t3 : a81.toInt = lx34.toInt + (-1) := b83; omega)), V, q_lw hl (q_lw1 0 rfl (q_lw1 1 rfl (q_lw1 3 rfl (q_lw1 4 rfl q_lw0)))), hI, hF, hO43, hO44, ⟨fm49, Nat.lt_of_lt_of_le (show (a81.toInt - ((-1000000))).toNat < (lx34.toInt - ((-1000000))).toNat from by have t1 : a81.toInt = lx34.toInt + (-1) := b83; have t2 : lx35.toInt ≤ lx34.toInt + 1 := i37; have t3 : a29.toInt ≤ lx34.toInt + lx35.toInt := i38; have t4 : lx34.toInt ≤ lx35.toInt + a29.toInt := i40; omega) (Nat.le_of_lt_succ hf48), (show F_Dig_turn_p_L43 (F_Dig_turn_p_L0 x2 t0_0 t0_1 t1_0 fm20) x2 t0_0 t0_1 t1_0 lx9 fm49 a81 a78 f76 = (F_Dig_turn_p x2 t0_0 t0_1 t1_0) from Eq.trans (by rw [← e82, ← e79, ← e77, ← e73, ← e69, ← e67, F_Dig_turn_p_L43.eq_2, if_neg c50]) hR45)⟩⟩
  ·
    intro J23
    refine lv_if_le (tgt := 34) hx hb d_5_4_4 (by decide) (fun c84 => ?_) (fun c84 => ?_)
    ·
      have b85 : q_F (lx9.toInt ≤ 0) := (q_leI c84)
      exact J23 (()) _ _ _ w13 ⟨V, q_lw hl (q_lw1 0 rfl (q_lw1 1 rfl q_lw0)), (show F_Dig_turn_p_J34 (F_Dig_turn_p_L0 x2 t0_0 t0_1 t1_0 fm20) x2 t0_0 t0_1 t1_0 lx9 = (F_Dig_turn_p x2 t0_0 t0_1 t1_0) from Eq.trans (by rw [F_Dig_turn_p_L0.eq_2, if_pos c84]) hR16)⟩
    ·
      have b86 : q_F (0 < lx9.toInt) := (q_nleI c84)
      refine lv_aload_n hx hb d_5_4_7 rfl (lv_at hl 0 rfl) ?_
      refine q_get (ci := 7) (j := 2) (v := .ref (q 37)) C0 V i_Dig rfl rfl hO14 (by decide) w_269 rfl d_5_4_8 ?_
      refine lv_aload_n hx hb d_5_4_11 rfl (lv_at hl 0 rfl) ?_
      refine q_get (ci := 7) (j := 0) (v := .int lx9) C0 V i_Dig rfl rfl hO14 (by decide) w_264 rfl d_5_4_12 ?_
      refine lv_iconst (v := 1) hx hb d_5_4_15 (by decide) ?_
      refine lv_isub hx hb d_5_4_16 ?_
      obtain ⟨a87, e88⟩ := q_nm (lx9 - 1 : Int32)
      refine q_ti (v := a87) e88 ?_
      have b89 : q_F (a87.toInt = lx9.toInt - 1) := (by rw [← e88]; show (lx9 - 1 : Int32).toInt = lx9.toInt - 1; exact q_subI (x := lx9.toInt) (y := 1) rfl (by decide) (by have t1 : 0 ≤ lx9.toInt := i10; have _ := q_lo32 (x := lx9); have _ := q_hi32 (x := lx9); omega) (by have t1 : 0 ≤ lx9.toInt := i10; have _ := q_lo32 (x := lx9); have _ := q_hi32 (x := lx9); omega))
      refine q_bald C0 V hO15 (q_ix (x := a87.toInt) rfl (by have t1 : 0 < lx9.toInt := b86; have t2 : a87.toInt = lx9.toInt - 1 := b89; omega) (by have t1 : 0 < lx9.toInt := b86; have t2 : a87.toInt = lx9.toInt - 1 := b89; have t3 : 0 ≤ t0_0.toInt ∧ t0_0.toInt ≤ 1026 := btt0_0; have t4 : lx9.toInt ≤ t0_0.toInt := i11; omega)) d_5_4_17 ?_
      obtain ⟨a90, e91⟩ := q_nm (t1_0 a87.toNatClampNeg : Int32)
      refine q_ti (v := a90) e91 ?_
      refine lv_if_ne (tgt := 34) hx hb d_5_4_18 (by decide) (fun c92 => ?_) (fun c92 => ?_)
      ·
        have b93 : q_F (a90.toInt ≠ 0) := (q_neI c92)
        exact J23 (()) _ _ _ w13 ⟨V, q_lw hl (q_lw1 0 rfl (q_lw1 1 rfl q_lw0)), (show F_Dig_turn_p_J34 (F_Dig_turn_p_L0 x2 t0_0 t0_1 t1_0 fm20) x2 t0_0 t0_1 t1_0 lx9 = (F_Dig_turn_p x2 t0_0 t0_1 t1_0) from Eq.trans (by have c92x := c92; rw [← e91, ← e88] at c92x; rw [F_Dig_turn_p_L0.eq_2, if_neg c84, if_neg c92x]) hR16)⟩
      ·
        have b94 : q_F (a90.toInt = 0) := (q_eqI c92)
        refine lv_aload_n hx hb d_5_4_21 rfl (lv_at hl 0 rfl) ?_
        refine lv_dup hx hb d_5_4_22 rfl ?_
        refine q_get (ci := 7) (j := 0) (v := .int lx9) C0 V i_Dig rfl rfl hO14 (by decide) w_264 rfl d_5_4_23 ?_
        refine lv_iconst (v := 1) hx hb d_5_4_26 (by decide) ?_
        refine lv_isub hx hb d_5_4_27 ?_
        obtain ⟨a95, e96⟩ := q_nm (lx9 - 1 : Int32)
        refine q_ti (v := a95) e96 ?_
        have b97 : q_F (a95.toInt = lx9.toInt - 1) := (by rw [← e96]; show (lx9 - 1 : Int32).toInt = lx9.toInt - 1; exact q_subI (x := lx9.toInt) (y := 1) rfl (by decide) (by have t1 : 0 ≤ lx9.toInt := i10; have t2 : a87.toInt = lx9.toInt - 1 := b89; have _ := q_lo32 (x := a87); have _ := q_hi32 (x := a87); omega) (by have t1 : 0 ≤ lx9.toInt := i10; have t2 : a87.toInt = lx9.toInt - 1 := b89; have _ := q_lo32 (x := a87); have _ := q_hi32 (x := a87); omega))
        refine q_put (ci := 7) (j := 0) (v := .int a95) (ty := .int) C0 V i_Dig o_Dig n_Dig rfl rfl hO14 (by decide) w_264 rfl rfl rfl rfl (Nat.le_of_ble_eq_true rfl) d_5_4_28 (fun H locs w98 hu99 hO14 V => ?_)
        replace hO14 : w98[36]? = (some (q 36, .inr (7, [.int a95, .int t0_1, .ref (q 37)])) : Option (Nat × va_E)) := hO14
        replace hI := n_p36 hI hu99 hO14 ⟨(by have t1 : 0 < lx9.toInt := b86; have t2 : a95.toInt = lx9.toInt - 1 := b97; omega), (by have t1 : 0 ≤ t0_0.toInt ∧ t0_0.toInt ≤ 1026 := btt0_0; have t2 : lx9.toInt ≤ t0_0.toInt := i11; have t3 : a95.toInt = lx9.toInt - 1 := b97; omega)⟩ ⟨(by have t1 : -1000000 ≤ t0_1.toInt ∧ t0_1.toInt ≤ 1000000 := btt0_1; omega), (by have t1 : -1000000 ≤ t0_1.toInt ∧ t0_1.toInt ≤ 1000000 := btt0_1; omega)⟩
        replace hO15 := (hu99 _ (by decide)).trans hO15
        replace hF := q_us hF hu99 (by simp)
        refine lv_goto (tgt := 0) hx hb d_5_4_31 (by decide) ?_
        exact ih12 ((a95 : Int32)) _ _ _ _ (show (a95.toInt - ((-1000000))).toNat < (lx9.toInt - ((-1000000))).toNat from by have t1 : a95.toInt = lx9.toInt - 1 := b97; have t2 : 0 ≤ lx9.toInt := i10; omega) ⟨(show q_F (0 ≤ a95.toInt) from (show 0 ≤ a95.toInt from by have t1 : 0 < lx9.toInt := b86; have t2 : a95.toInt = lx9.toInt - 1 := b97; omega)), (show q_F (a95.toInt ≤ t0_0.toInt) from (show a95.toInt ≤ t0_0.toInt from by have t1 : lx9.toInt ≤ t0_0.toInt := i11; have t2 : a95.toInt = lx9.toInt - 1 := b97; omega)), V, q_lw hl (q_lw1 0 rfl (q_lw1 1 rfl q_lw0)), hI, hF, hO14, hO15, ⟨fm20, Nat.lt_of_lt_of_le (show (a95.toInt - ((-1000000))).toNat < (lx9.toInt - ((-1000000))).toNat from by have t1 : a95.toInt = lx9.toInt - 1 := b97; have t2 : 0 ≤ lx9.toInt := i10; omega) (Nat.le_of_lt_succ hf19), (show F_Dig_turn_p_L0 x2 t0_0 t0_1 t1_0 fm20 a95 = (F_Dig_turn_p x2 t0_0 t0_1 t1_0) from Eq.trans (by have c92x := c92; rw [← e91, ← e88] at c92x; rw [← e96, F_Dig_turn_p_L0.eq_2, if_neg c84, if_pos c92x]) hR16)⟩⟩
def F_Dig_fillLong_c80 (K_F_Dig_fillLong_L22 : Int32 → Int64 → Int32 → (Nat → Int32) → (Int32 × Int32 × (Nat → Int32))) (x2 : Int64) (x3 : Int32) (t0_0 : Int32) (t0_1 : Int32) (t1_0 : (Nat → Int32)) (lx14 : Int64) (lx27 : Int32) (lx28 : Int64) (lx29 : Int32) (lx30 : (Nat → Int32)) (p62 : (Int32 × Int32 × (Nat → Int32))) : Int32 × Int32 × (Nat → Int32) := ((p62.1 : Int32), (p62.2.1 : Int32), (p62.2.2 : (Nat → Int32)))
def F_Dig_fillLong_c80_4 (K_F_Dig_fillLong_L22 : Int32 → Int64 → Int32 → (Nat → Int32) → (Int32 × Int32 × (Nat → Int32))) (x2 : Int64) (x3 : Int32) (t0_0 : Int32) (t0_1 : Int32) (t1_0 : (Nat → Int32)) (lx14 : Int64) (lx27 : Int32) (lx28 : Int64) (lx29 : Int32) (lx30 : (Nat → Int32)) (p94 : (Int32 × Int32 × (Nat → Int32))) : Int32 × Int32 × (Nat → Int32) := ((p94.1 : Int32), (p94.2.1 : Int32), (p94.2.2 : (Nat → Int32)))
def F_Dig_fillLong_L22 (x2 : Int64) (x3 : Int32) (t0_0 : Int32) (t0_1 : Int32) (t1_0 : (Nat → Int32)) (lx14 : Int64) : Nat → Int32 → Int64 → Int32 → (Nat → Int32) → (Int32 × Int32 × (Nat → Int32))
  | 0, _, _, _, _ => default
  | fm + 1, lx27, lx28, lx29, lx30 => if (20 : Int32) ≤ lx27 then (F_Dig_fillLong_c80 (F_Dig_fillLong_L22 x2 x3 t0_0 t0_1 t1_0 lx14 fm) x2 x3 t0_0 t0_1 t1_0 lx14 lx27 lx28 lx29 lx30 ((F_Dig_turn_p x3 lx29 t0_1 lx30) : (Int32 × Int32 × (Nat → Int32)))) else (if (lg_cmp lx28 0 : Int32) = (0 : Int32) then (F_Dig_fillLong_c80_4 (F_Dig_fillLong_L22 x2 x3 t0_0 t0_1 t1_0 lx14 fm) x2 x3 t0_0 t0_1 t1_0 lx14 lx27 lx28 lx29 lx30 ((F_Dig_turn_p x3 lx29 t0_1 lx30) : (Int32 × Int32 × (Nat → Int32)))) else (F_Dig_fillLong_L22 x2 x3 t0_0 t0_1 t1_0 lx14 fm (lx27 + 1 : Int32) (lx28 / 10 : Int64) (lx29 + 1 : Int32) (upd lx30 lx29.toNatClampNeg (vp_nar .byte (((-(lx28 - lx28 / 10 * 10 : Int64) : Int64).toInt32 : Int32).toInt8.toInt32 : Int32)) : (Nat → Int32))))
def F_Dig_fillLong_J17 (x2 : Int64) (x3 : Int32) (t0_0 : Int32) (t0_1 : Int32) (t1_0 : (Nat → Int32)) (lx14 : Int64) : Int32 × Int32 × (Nat → Int32) := F_Dig_fillLong_L22 x2 x3 t0_0 t0_1 t1_0 lx14 ((20 - (0 : Int32).toInt).toNat + 1) 0 lx14 0 t1_0
def F_Dig_fillLong (x2 : Int64) (x3 : Int32) (t0_0 : Int32) (t0_1 : Int32) (t1_0 : (Nat → Int32)) : Int32 × Int32 × (Nat → Int32) := if (lg_cmp x2 0 : Int32) ≤ (0 : Int32) then (F_Dig_fillLong_J17 x2 x3 t0_0 t0_1 t1_0 x2) else (F_Dig_fillLong_J17 x2 x3 t0_0 t0_1 t1_0 (-x2 : Int64))
set_option maxRecDepth 100000 in
set_option maxHeartbeats 4000000 in
theorem X_Dig_fillLong (l : Launch) (D : va_G) (g : Nat → ClassId) (q : Nat → Nat) (ws : va_W) (x2 : Int64) (x3 : Int32) (hI : q_I (nsh g q) q ws) (t0_0 : Int32) (t0_1 : Int32) (hT0 : ws[36]? = (some (q 36, .inr (7, [.int t0_0, .int t0_1, .ref (q 37)])) : Option (Nat × va_E))) (t1_0 : (Nat → Int32)) (hT1 : ws[37]? = (some (q 37, .inl (g 2, 1026, .inl t1_0)) : Option (Nat × va_E))) (pre0 : 0 ≤ x3.toInt + 20000) (pre1 : x3.toInt ≤ 20000) : q_mV l y_Dig_fillLong prog_5_method_3_code 7 2 0 0 D g [.ref (q 36), .long x2, .int x3] ws (fun u => q_I (nsh g q) q u ∧ q_un ws u [36, 37] ∧ ∃ (u0_0 : Int32) (u0_1 : Int32) (u1_0 : (Nat → Int32)), u[36]? = (some (q 36, .inr (7, [.int u0_0, .int u0_1, .ref (q 37)])) : Option (Nat × va_E)) ∧ u[37]? = (some (q 37, .inl (g 2, 1026, .inl u1_0)) : Option (Nat × va_E)) ∧ (0 ≤ u0_0.toInt) ∧ (u0_0.toInt ≤ 20) ∧ (0 ≤ u0_1.toInt + 20000) ∧ (u0_1.toInt ≤ u0_0.toInt + 19999) ∧ (u0_0.toInt ≤ u0_1.toInt + 20001) ∧ (0 ≤ u0_1.toInt + x3.toInt + 20000) ∧ (u0_1.toInt + x3.toInt ≤ 20000) ∧ (u0_0, u0_1, u1_0) = (F_Dig_fillLong x2 x3 t0_0 t0_1 t1_0)) := by
  intro sz
  refine q_into (by decide) (Nat.le_of_ble_eq_true rfl) ?_
  intro p e s m below meth c ls hsz C0 V hl
  have hx := C0.1
  have hb := C0.2.1
  obtain ⟨yy0_0, yy0_1, hh0, btt0_0, btt0_1⟩ := n_o36 hI
  obtain ⟨rfl, rfl⟩ : t0_0 = yy0_0 ∧ t0_1 = yy0_1 := by have z := Option.some.inj (hT0.symm.trans hh0); simpa using z
  replace btt0_0 : q_F (0 ≤ t0_0.toInt ∧ t0_0.toInt ≤ 1026) := btt0_0
  replace btt0_1 : q_F (-1000000 ≤ t0_1.toInt ∧ t0_1.toInt ≤ 1000000) := btt0_1
  replace pre0 : q_F (0 ≤ x3.toInt + 20000) := pre0
  replace pre1 : q_F (x3.toInt ≤ 20000) := pre1
  have hF : q_un ws ws [36, 37] := q_u0
  have hl : lv_has ls 7 [(0, .ref (q 36)), (1, .long x2), (3, .int x3)] := hl
  refine lv_aload_n hx hb d_5_3_0 rfl (lv_at hl 0 rfl) ?_
  refine lv_iconst (v := 0) hx hb d_5_3_1 (by decide) ?_
  refine q_put (ci := 7) (j := 0) (v := .int 0) (ty := .int) C0 V i_Dig o_Dig n_Dig rfl rfl hT0 (by decide) w_264 rfl rfl rfl rfl (Nat.le_of_ble_eq_true rfl) d_5_3_2 (fun H locs w9 hu10 hT0 V => ?_)
  replace hT0 : w9[36]? = (some (q 36, .inr (7, [.int 0, .int t0_1, .ref (q 37)])) : Option (Nat × va_E)) := hT0
  replace hI := n_p36 hI hu10 hT0 ⟨(by have z9 : (0 : Int32).toInt = 0 := rfl; omega), (by have z9 : (0 : Int32).toInt = 0 := rfl; omega)⟩ ⟨(by have t1 : -1000000 ≤ t0_1.toInt ∧ t0_1.toInt ≤ 1000000 := btt0_1; omega), (by have t1 : -1000000 ≤ t0_1.toInt ∧ t0_1.toInt ≤ 1000000 := btt0_1; omega)⟩
  replace hT1 := (hu10 _ (by decide)).trans hT1
  replace hF := q_us hF hu10 (by simp)
  refine lv_lload_n hx hb d_5_3_5 rfl (lv_at hl 1 rfl) ?_
  refine lv_lconst (v := 0) hx hb d_5_3_6 (by decide) ?_
  refine W.lcmp hx hb d_5_3_7 ?_
  obtain ⟨a11, e12⟩ := q_nm (lg_cmp x2 0 : Int32)
  refine q_ti (v := a11) e12 ?_
  have b13 : q_F (-1 ≤ a11.toInt ∧ a11.toInt ≤ 1 ∧ ((a11.toInt = -1 ∧ x2.toInt < 0) ∨ (a11.toInt = 0 ∧ x2.toInt = 0) ∨ (a11.toInt = 1 ∧ 0 < x2.toInt))) := (by rw [← e12]; show -1 ≤ (lg_cmp x2 0 : Int32).toInt ∧ (lg_cmp x2 0 : Int32).toInt ≤ 1 ∧ (((lg_cmp x2 0 : Int32).toInt = -1 ∧ x2.toInt < 0) ∨ ((lg_cmp x2 0 : Int32).toInt = 0 ∧ x2.toInt = 0) ∨ ((lg_cmp x2 0 : Int32).toInt = 1 ∧ 0 < x2.toInt)); exact (by have y1 : (0 : Int64).toInt = 0 := rfl; have z := s_lcmp (a := x2) (b := 0); omega))
  refine q_join (X := Int64) (fun z H locs ls _ => q_F (z.toInt ≤ 0) ∧ q_F (z.toInt ≤ x2.toInt) ∧ q_Wd D g (va_A ws sz) s w9 H locs ∧ lv_has ls 7 [(0, .ref (q 36)), (3, .int x3)] ∧ F_Dig_fillLong_J17 x2 x3 t0_0 t0_1 t1_0 z = (F_Dig_fillLong x2 x3 t0_0 t0_1 t1_0)) (fun z => [.long z]) 17 0 0 ?_ ?_
  ·
    rintro lx14 H locs ls _ ⟨i18, i19, V, hl, hR20⟩
    replace i18 : q_F (lx14.toInt ≤ 0) := i18
    replace i19 : q_F (lx14.toInt ≤ x2.toInt) := i19
    replace hl : lv_has ls 7 [(0, .ref (q 36)), (3, .int x3)] := hl
    refine lv_lstore (lv' := [(4, .long lx14), (0, .ref (q 36)), (3, .int x3)]) hx hb d_5_3_17 hl (by decide) rfl (fun ls hl => ?_)
    refine lv_iconst (v := 0) hx hb d_5_3_19 (by decide) ?_
    refine lv_istore (lv' := [(6, .int 0), (4, .long lx14), (0, .ref (q 36)), (3, .int x3)]) hx hb d_5_3_20 hl (by decide) rfl (fun ls hl => ?_)
    refine q_loop (X := Int32 × Int64 × Int32 × (Nat → Int32)) (fun z H locs ls w36 => q_F (z.2.2.1.toInt ≤ 20) ∧ q_F (z.2.2.1.toInt ≤ z.1.toInt) ∧ q_F (z.1.toInt ≤ z.2.2.1.toInt) ∧ q_F (0 ≤ z.1.toInt + z.2.2.1.toInt) ∧ q_Wd D g (va_A ws sz) s w36 H locs ∧ lv_has ls 7 [(6, .int z.1), (4, .long z.2.1), (0, .ref (q 36)), (3, .int x3)] ∧ q_I (nsh g q) q w36 ∧ q_un ws w36 [36, 37] ∧ w36[36]? = (some (q 36, .inr (7, [.int z.2.2.1, .int t0_1, .ref (q 37)])) : Option (Nat × va_E)) ∧ w36[37]? = (some (q 37, .inl (g 2, 1026, .inl z.2.2.2)) : Option (Nat × va_E)) ∧ (∃ n, (20 - z.1.toInt).toNat < n ∧ F_Dig_fillLong_L22 x2 x3 t0_0 t0_1 t1_0 lx14 n z.1 z.2.1 z.2.2.1 z.2.2.2 = (F_Dig_fillLong x2 x3 t0_0 t0_1 t1_0))) (fun z => (20 - z.1.toInt).toNat) ?_ ((0 : Int32), (lx14 : Int64), (0 : Int32), (t1_0 : (Nat → Int32))) _ _ _ w9 ⟨(show q_F (0 ≤ 20) from (show 0 ≤ 20 from by omega)), (show q_F (0 ≤ 0) from (show 0 ≤ 0 from by omega)), (show q_F (0 ≤ 0) from (show 0 ≤ 0 from by omega)), (show q_F (0 ≤ 0 + 0) from (show 0 ≤ 0 + 0 from by omega)), V, q_lw hl (q_lw1 0 rfl (q_lw1 1 rfl (q_lw1 2 rfl (q_lw1 3 rfl q_lw0)))), hI, hF, hT0, hT1, ⟨((20 - (0 : Int32).toInt).toNat + 1), Nat.lt_succ_self _, (show F_Dig_fillLong_L22 x2 x3 t0_0 t0_1 t1_0 lx14 ((20 - (0 : Int32).toInt).toNat + 1) 0 lx14 0 t1_0 = (F_Dig_fillLong x2 x3 t0_0 t0_1 t1_0) from Eq.trans (by rw [F_Dig_fillLong_J17.eq_1]) hR20)⟩⟩
    rintro ⟨lx27, lx28, lx29, lx30⟩ H locs ls w36 ⟨i31, i32, i33, i34, V, hl, hI, hF, hO37, hO38, ⟨fu41, hf42, hR39⟩⟩ ih35
    obtain ⟨fm43, rfl⟩ : ∃ m, fu41 = m + 1 := ⟨fu41 - 1, by omega⟩
    replace i31 : q_F (lx29.toInt ≤ 20) := i31
    replace i32 : q_F (lx29.toInt ≤ lx27.toInt) := i32
    replace i33 : q_F (lx27.toInt ≤ lx29.toInt) := i33
    replace i34 : q_F (0 ≤ lx27.toInt + lx29.toInt) := i34
    replace hl : lv_has ls 7 [(6, .int lx27), (4, .long lx28), (0, .ref (q 36)), (3, .int x3)] := hl
    replace hO37 : w36[36]? = (some (q 36, .inr (7, [.int lx29, .int t0_1, .ref (q 37)])) : Option (Nat × va_E)) := hO37
    replace hO38 : w36[37]? = (some (q 37, .inl (g 2, 1026, .inl lx30)) : Option (Nat × va_E)) := hO38
    refine lv_iload hx hb d_5_3_22 (lv_at hl 0 rfl) ?_
    refine lv_bipush (v := 20) hx hb d_5_3_24 (by decide) ?_
    refine lv_icmp_ge (tgt := 78) hx hb d_5_3_26 (by decide) (fun c44 => ?_) (fun c44 => ?_)
    ·
      have b45 : q_F (20 ≤ lx27.toInt) := (q_leI c44)
      refine lv_aload_n hx hb d_5_3_78 rfl (lv_at hl 2 rfl) ?_
      refine lv_iload_n hx hb d_5_3_79 rfl (lv_at hl 3 rfl) ?_
      refine q_gov V (q_runV (As := [.int x3]) (rest := []) (d := 1) (mc := 0) (ms := 0) (ci := 7) C0 V rfl LV_Dig_27 (X_Dig_turn_p l D g q w36  x3 hI lx29 t0_1 hO37 lx30 hO38 (by have t1 : 0 ≤ x3.toInt + 20000 := pre0; omega) (by have t1 : x3.toInt ≤ 20000 := pre1; omega) _) rfl rfl hO37 rfl hl.1 rfl (Nat.le_of_ble_eq_true rfl) ⟨by decide, by decide⟩ ⟨Nat.le_of_ble_eq_true rfl, Nat.le_of_ble_eq_true rfl⟩ d_5_3_80) (fun u46 H locs hp47 V => ?_)
      obtain ⟨hI, hu61, y49, y50, f51, hO48, hA52, b53, b54, b55, b56, b57, b58, b59, hE60⟩ := hp47
      replace hO48 : u46[36]? = (some (q 36, .inr (7, [.int y49, .int y50, .ref (q 37)])) : Option (Nat × va_E)) := hO48
      replace hA52 : u46[37]? = (some (q 37, .inl (g 2, 1026, .inl f51)) : Option (Nat × va_E)) := hA52
      obtain ⟨p62, e63⟩ : ∃ z, z = (F_Dig_turn_p x3 lx29 t0_1 lx30) := ⟨_, rfl⟩
      have e64 : y49 = p62.1 := congrArg (fun z => z.1) (hE60.trans e63.symm)
      have e65 : y50 = p62.2.1 := congrArg (fun z => z.2.1) (hE60.trans e63.symm)
      have e66 : f51 = p62.2.2 := congrArg (fun z => z.2.2) (hE60.trans e63.symm)
      replace b53 : q_F (0 ≤ y49.toInt) := b53
      replace b54 : q_F (0 ≤ y50.toInt + 20000) := b54
      replace b55 : q_F (y49.toInt ≤ lx29.toInt) := b55
      replace b56 : q_F (y50.toInt ≤ y49.toInt + 19999) := b56
      replace b57 : q_F (y49.toInt ≤ y50.toInt + 20001) := b57
      replace b58 : q_F (0 ≤ y50.toInt + x3.toInt + 20000) := b58
      replace b59 : q_F (y50.toInt + x3.toInt ≤ 20000) := b59
      replace hF := q_uc hF hu61 (by simp)
      have hR67 := (show F_Dig_fillLong_c80 (F_Dig_fillLong_L22 x2 x3 t0_0 t0_1 t1_0 lx14 fm43) x2 x3 t0_0 t0_1 t1_0 lx14 lx27 lx28 lx29 lx30 p62 = (F_Dig_fillLong x2 x3 t0_0 t0_1 t1_0) from Eq.trans (by rw [e63, F_Dig_fillLong_L22.eq_2, if_pos c44]) hR39)
      exact q_retv C0 V (⟨hI, hF, y49, y50, f51, hO48, hA52, (show 0 ≤ y49.toInt from (by have t1 : 0 ≤ y49.toInt := b53; omega)), (show y49.toInt ≤ 20 from (by have t1 : lx29.toInt ≤ 20 := i31; have t2 : y49.toInt ≤ lx29.toInt := b55; omega)), (show 0 ≤ y50.toInt + 20000 from (by have t1 : 0 ≤ y50.toInt + 20000 := b54; omega)), (show y50.toInt ≤ y49.toInt + 19999 from (by have t1 : y50.toInt ≤ y49.toInt + 19999 := b56; omega)), (show y49.toInt ≤ y50.toInt + 20001 from (by have t1 : y49.toInt ≤ y50.toInt + 20001 := b57; omega)), (show 0 ≤ y50.toInt + x3.toInt + 20000 from (by have t1 : 0 ≤ y50.toInt + x3.toInt + 20000 := b58; omega)), (show y50.toInt + x3.toInt ≤ 20000 from (by have t1 : y50.toInt + x3.toInt ≤ 20000 := b59; omega)), (show (y49, y50, f51) = (F_Dig_fillLong x2 x3 t0_0 t0_1 t1_0) from Eq.trans (by rw [e66, e65, e64, F_Dig_fillLong_c80.eq_1]) hR67)⟩) d_5_3_83
    ·
      have b72 : q_F (lx27.toInt < 20) := (q_nleI c44)
      refine lv_lload hx hb d_5_3_29 (lv_at hl 1 rfl) ?_
      refine lv_lconst (v := 0) hx hb d_5_3_31 (by decide) ?_
      refine W.lcmp hx hb d_5_3_32 ?_
      obtain ⟨a73, e74⟩ := q_nm (lg_cmp lx28 0 : Int32)
      refine q_ti (v := a73) e74 ?_
      have b75 : q_F (-1 ≤ a73.toInt ∧ a73.toInt ≤ 1 ∧ ((a73.toInt = -1 ∧ lx28.toInt < 0) ∨ (a73.toInt = 0 ∧ lx28.toInt = 0) ∨ (a73.toInt = 1 ∧ 0 < lx28.toInt))) := (by rw [← e74]; show -1 ≤ (lg_cmp lx28 0 : Int32).toInt ∧ (lg_cmp lx28 0 : Int32).toInt ≤ 1 ∧ (((lg_cmp lx28 0 : Int32).toInt = -1 ∧ lx28.toInt < 0) ∨ ((lg_cmp lx28 0 : Int32).toInt = 0 ∧ lx28.toInt = 0) ∨ ((lg_cmp lx28 0 : Int32).toInt = 1 ∧ 0 < lx28.toInt)); exact (by have y1 : (0 : Int64).toInt = 0 := rfl; have z := s_lcmp (a := lx28) (b := 0); omega))
      refine lv_if_eq (tgt := 78) hx hb d_5_3_33 (by decide) (fun c76 => ?_) (fun c76 => ?_)
      ·
        have b77 : q_F (a73.toInt = 0) := (q_eqI c76)
        refine lv_aload_n hx hb d_5_3_78 rfl (lv_at hl 2 rfl) ?_
        refine lv_iload_n hx hb d_5_3_79 rfl (lv_at hl 3 rfl) ?_
        refine q_gov V (q_runV (As := [.int x3]) (rest := []) (d := 1) (mc := 0) (ms := 0) (ci := 7) C0 V rfl LV_Dig_27 (X_Dig_turn_p l D g q w36  x3 hI lx29 t0_1 hO37 lx30 hO38 (by have t1 : 0 ≤ x3.toInt + 20000 := pre0; omega) (by have t1 : x3.toInt ≤ 20000 := pre1; omega) _) rfl rfl hO37 rfl hl.1 rfl (Nat.le_of_ble_eq_true rfl) ⟨by decide, by decide⟩ ⟨Nat.le_of_ble_eq_true rfl, Nat.le_of_ble_eq_true rfl⟩ d_5_3_80) (fun u78 H locs hp79 V => ?_)
        obtain ⟨hI, hu93, y81, y82, f83, hO80, hA84, b85, b86, b87, b88, b89, b90, b91, hE92⟩ := hp79
        replace hO80 : u78[36]? = (some (q 36, .inr (7, [.int y81, .int y82, .ref (q 37)])) : Option (Nat × va_E)) := hO80
        replace hA84 : u78[37]? = (some (q 37, .inl (g 2, 1026, .inl f83)) : Option (Nat × va_E)) := hA84
        obtain ⟨p94, e95⟩ : ∃ z, z = (F_Dig_turn_p x3 lx29 t0_1 lx30) := ⟨_, rfl⟩
        have e96 : y81 = p94.1 := congrArg (fun z => z.1) (hE92.trans e95.symm)
        have e97 : y82 = p94.2.1 := congrArg (fun z => z.2.1) (hE92.trans e95.symm)
        have e98 : f83 = p94.2.2 := congrArg (fun z => z.2.2) (hE92.trans e95.symm)
        replace b85 : q_F (0 ≤ y81.toInt) := b85
        replace b86 : q_F (0 ≤ y82.toInt + 20000) := b86
        replace b87 : q_F (y81.toInt ≤ lx29.toInt) := b87
        replace b88 : q_F (y82.toInt ≤ y81.toInt + 19999) := b88
        replace b89 : q_F (y81.toInt ≤ y82.toInt + 20001) := b89
        replace b90 : q_F (0 ≤ y82.toInt + x3.toInt + 20000) := b90
        replace b91 : q_F (y82.toInt + x3.toInt ≤ 20000) := b91
        replace hF := q_uc hF hu93 (by simp)
        have hR99 := (show F_Dig_fillLong_c80_4 (F_Dig_fillLong_L22 x2 x3 t0_0 t0_1 t1_0 lx14 fm43) x2 x3 t0_0 t0_1 t1_0 lx14 lx27 lx28 lx29 lx30 p94 = (F_Dig_fillLong x2 x3 t0_0 t0_1 t1_0) from Eq.trans (by have c76x := c76; rw [← e74] at c76x; rw [e95, F_Dig_fillLong_L22.eq_2, if_neg c44, if_pos c76x]) hR39)
        exact q_retv C0 V (⟨hI, hF, y81, y82, f83, hO80, hA84, (show 0 ≤ y81.toInt from (by have t1 : 0 ≤ y81.toInt := b85; omega)), (show y81.toInt ≤ 20 from (by have t1 : lx29.toInt ≤ 20 := i31; have t2 : y81.toInt ≤ lx29.toInt := b87; omega)), (show 0 ≤ y82.toInt + 20000 from (by have t1 : 0 ≤ y82.toInt + 20000 := b86; omega)), (show y82.toInt ≤ y81.toInt + 19999 from (by have t1 : y82.toInt ≤ y81.toInt + 19999 := b88; omega)), (show y81.toInt ≤ y82.toInt + 20001 from (by have t1 : y81.toInt ≤ y82.toInt + 20001 := b89; omega)), (show 0 ≤ y82.toInt + x3.toInt + 20000 from (by have t1 : 0 ≤ y82.toInt + x3.toInt + 20000 := b90; omega)), (show y82.toInt + x3.toInt ≤ 20000 from (by have t1 : y82.toInt + x3.toInt ≤ 20000 := b91; omega)), (show (y81, y82, f83) = (F_Dig_fillLong x2 x3 t0_0 t0_1 t1_0) from Eq.trans (by rw [e98, e97, e96, F_Dig_fillLong_c80_4.eq_1]) hR99)⟩) d_5_3_83
      ·
        have b104 : q_F (a73.toInt ≠ 0) := (q_neI c76)
        refine lv_aload_n hx hb d_5_3_36 rfl (lv_at hl 2 rfl) ?_
        refine q_get (ci := 7) (j := 2) (v := .ref (q 37)) C0 V i_Dig rfl rfl hO37 (by decide) w_269 rfl d_5_3_37 ?_
        refine lv_aload_n hx hb d_5_3_40 rfl (lv_at hl 2 rfl) ?_
        refine q_get (ci := 7) (j := 0) (v := .int lx29) C0 V i_Dig rfl rfl hO37 (by decide) w_264 rfl d_5_3_41 ?_
        refine lv_lload hx hb d_5_3_44 (lv_at hl 1 rfl) ?_
        refine q_ldc2 C0 rfl w_1639 d_5_3_46 ?_
        refine lv_lrem hx hb d_5_3_49 (by decide) ?_
        obtain ⟨j105, e106⟩ := q_nm (lx28 - lx28 / 10 * 10 : Int64)
        refine q_tl (v := j105) e106 ?_
        refine lv_lneg hx hb d_5_3_50 ?_
        obtain ⟨j107, e108⟩ := q_nm (-j105 : Int64)
        refine q_tl (v := j107) e108 ?_
        refine lv_l2i hx hb d_5_3_51 rfl ?_
        obtain ⟨a109, e110⟩ := q_nm (j107.toInt32 : Int32)
        refine q_ti (v := a109) e110 ?_
        refine lv_i2b hx hb d_5_3_52 rfl ?_
        obtain ⟨a111, e112⟩ := q_nm (a109.toInt8.toInt32 : Int32)
        refine q_ti (v := a111) e112 ?_
        refine q_bast C0 V hO38 (q_ix (x := lx29.toInt) rfl (by have t1 : lx27.toInt ≤ lx29.toInt := i33; have t2 : 0 ≤ lx27.toInt + lx29.toInt := i34; omega) (by have t1 : lx27.toInt ≤ lx29.toInt := i33; have t2 : 0 ≤ lx27.toInt + lx29.toInt := i34; have t3 : lx29.toInt ≤ 20 := i31; omega)) d_5_3_53 (fun H locs w113 hu114 hO38 V => ?_)
        replace hI := n_ai' hI (n_s37 g q) hu114 hO38 (q_updB (fun _ => s_bnd) s_bnd)
        replace hO37 := (hu114 _ (by decide)).trans hO37
        replace hF := q_us hF hu114 (by simp)
        obtain ⟨f115, e116⟩ := q_nm (upd lx30 lx29.toNatClampNeg (vp_nar .byte a111) : (Nat → Int32))
        rw [e116] at hO38
        refine lv_lload hx hb d_5_3_54 (lv_at hl 1 rfl) ?_
        refine q_ldc2 C0 rfl w_1639 d_5_3_56 ?_
        refine lv_ldiv hx hb d_5_3_59 (by decide) ?_
        obtain ⟨j117, e118⟩ := q_nm (lx28 / 10 : Int64)
        refine q_tl (v := j117) e118 ?_
        refine lv_lstore (lv' := [(4, .long j117), (6, .int lx27), (0, .ref (q 36)), (3, .int x3)]) hx hb d_5_3_60 hl (by decide) rfl (fun ls hl => ?_)
        refine lv_aload_n hx hb d_5_3_62 rfl (lv_at hl 2 rfl) ?_
        refine lv_dup hx hb d_5_3_63 rfl ?_
        refine q_get (ci := 7) (j := 0) (v := .int lx29) C0 V i_Dig rfl rfl hO37 (by decide) w_264 rfl d_5_3_64 ?_
        refine lv_iconst (v := 1) hx hb d_5_3_67 (by decide) ?_
        refine lv_iadd hx hb d_5_3_68 ?_
        obtain ⟨a119, e120⟩ := q_nm (lx29 + 1 : Int32)
        refine q_ti (v := a119) e120 ?_
        have b121 : q_F (a119.toInt = lx29.toInt + 1) := (by rw [← e120]; show (lx29 + 1 : Int32).toInt = lx29.toInt + 1; exact q_addI (x := lx29.toInt) (y := 1) rfl (by decide) (by have t1 : lx27.toInt ≤ lx29.toInt := i33; have t2 : 0 ≤ lx27.toInt + lx29.toInt := i34; have t3 : lx29.toInt ≤ 20 := i31; omega) (by have t1 : lx27.toInt ≤ lx29.toInt := i33; have t2 : 0 ≤ lx27.toInt + lx29.toInt := i34; have t3 : lx29.toInt ≤ 20 := i31; omega))
        refine q_put (ci := 7) (j := 0) (v := .int a119) (ty := .int) C0 V i_Dig o_Dig n_Dig rfl rfl hO37 (by decide) w_264 rfl rfl rfl rfl (Nat.le_of_ble_eq_true rfl) d_5_3_69 (fun H locs w122 hu123 hO37 V => ?_)
        replace hO37 : w122[36]? = (some (q 36, .inr (7, [.int a119, .int t0_1, .ref (q 37)])) : Option (Nat × va_E)) := hO37
        replace hI := n_p36 hI hu123 hO37 ⟨(by have t1 : lx27.toInt ≤ lx29.toInt := i33; have t2 : 0 ≤ lx27.toInt + lx29.toInt := i34; have t3 : a119.toInt = lx29.toInt + 1 := b121; omega), (by have t1 : lx29.toInt ≤ 20 := i31; have t2 : a119.toInt = lx29.toInt + 1 := b121; omega)⟩ ⟨(by have t1 : -1000000 ≤ t0_1.toInt ∧ t0_1.toInt ≤ 1000000 := btt0_1; omega), (by have t1 : -1000000 ≤ t0_1.toInt ∧ t0_1.toInt ≤ 1000000 := btt0_1; omega)⟩
        replace hO38 := (hu123 _ (by decide)).trans hO38
        replace hF := q_us hF hu123 (by simp)
        obtain ⟨a124, e125⟩ := q_nm (lx27 + 1 : Int32)
        have b126 : q_F (a124.toInt = lx27.toInt + 1) := (by rw [← e125]; exact q_addI (y := 1) rfl (by decide) (by have t1 : lx29.toInt ≤ lx27.toInt := i32; have t2 : 0 ≤ lx27.toInt + lx29.toInt := i34; have t3 : lx27.toInt < 20 := b72; omega) (by have t1 : lx29.toInt ≤ lx27.toInt := i32; have t2 : 0 ≤ lx27.toInt + lx29.toInt := i34; have t3 : lx27.toInt < 20 := b72; omega))
        refine lv_iinc (v := a124) (lv' := [(6, .int a124), (4, .long j117), (0, .ref (q 36)), (3, .int x3)]) hx hb d_5_3_72 hl (k := 1) rfl (e125) (by decide) rfl (fun ls hl => ?_)
        refine lv_goto (tgt := 22) hx hb d_5_3_75 (by decide) ?_
        exact ih35 ((a124 : Int32), (j117 : Int64), (a119 : Int32), (f115 : (Nat → Int32))) _ _ _ _ (show (20 - a124.toInt).toNat < (20 - lx27.toInt).toNat from by have t1 : a124.toInt = lx27.toInt + 1 := b126; have t2 : lx27.toInt < 20 := b72; omega) ⟨(show q_F (a119.toInt ≤ 20) from (show a119.toInt ≤ 20 from by have t1 : lx29.toInt ≤ lx27.toInt := i32; have t2 : lx27.toInt < 20 := b72; have t3 : a119.toInt = lx29.toInt + 1 := b121; omega)), (show q_F (a119.toInt ≤ a124.toInt) from (show a119.toInt ≤ a124.toInt from by have t1 : lx29.toInt ≤ lx27.toInt := i32; have t2 : a119.toInt = lx29.toInt + 1 := b121; have t3 : a124.toInt = lx27.toInt + 1 := b126; omega)), (show q_F (a124.toInt ≤ a119.toInt) from (show a124.toInt ≤ a119.toInt from by have t1 : lx27.toInt ≤ lx29.toInt := i33; have t2 : a119.toInt = lx29.toInt + 1 := b121; have t3 : a124.toInt = lx27.toInt + 1 := b126; omega)), (show q_F (0 ≤ a124.toInt + a119.toInt) from (show 0 ≤ a124.toInt + a119.toInt from by have t1 : 0 ≤ lx27.toInt + lx29.toInt := i34; have t2 : a119.toInt = lx29.toInt + 1 := b121; have t3 : a124.toInt = lx27.toInt + 1 := b126; omega)), V, q_lw hl (q_lw1 0 rfl (q_lw1 1 rfl (q_lw1 2 rfl (q_lw1 3 rfl q_lw0)))), hI, hF, hO37, hO38, ⟨fm43, Nat.lt_of_lt_of_le (show (20 - a124.toInt).toNat < (20 - lx27.toInt).toNat from by have t1 : a124.toInt = lx27.toInt + 1 := b126; have t2 : lx27.toInt < 20 := b72; omega) (Nat.le_of_lt_succ hf42), (show F_Dig_fillLong_L22 x2 x3 t0_0 t0_1 t1_0 lx14 fm43 a124 j117 a119 f115 = (F_Dig_fillLong x2 x3 t0_0 t0_1 t1_0) from Eq.trans (by have c76x := c76; rw [← e74] at c76x; rw [← e125, ← e120, ← e118, ← e116, ← e112, ← e110, ← e108, ← e106, F_Dig_fillLong_L22.eq_2, if_neg c44, if_neg c76x]) hR39)⟩⟩
  ·
    intro J17
    refine lv_if_le (tgt := 16) hx hb d_5_3_8 (by decide) (fun c127 => ?_) (fun c127 => ?_)
    ·
      have b128 : q_F (a11.toInt ≤ 0) := (q_leI c127)
      refine lv_lload_n hx hb d_5_3_16 rfl (lv_at hl 1 rfl) ?_
      exact J17 ((x2 : Int64)) _ _ _ w9 ⟨(show q_F (x2.toInt ≤ 0) from (show x2.toInt ≤ 0 from by have t1 : -1 ≤ a11.toInt ∧ a11.toInt ≤ 1 ∧ ((a11.toInt = -1 ∧ x2.toInt < 0) ∨ (a11.toInt = 0 ∧ x2.toInt = 0) ∨ (a11.toInt = 1 ∧ 0 < x2.toInt)) := b13; have t2 : a11.toInt ≤ 0 := b128; omega)), (show q_F (x2.toInt ≤ x2.toInt) from (show x2.toInt ≤ x2.toInt from by omega)), V, q_lw hl (q_lw1 0 rfl (q_lw1 2 rfl q_lw0)), (show F_Dig_fillLong_J17 x2 x3 t0_0 t0_1 t1_0 x2 = (F_Dig_fillLong x2 x3 t0_0 t0_1 t1_0) from (by have c127x := c127; rw [← e12] at c127x; rw [F_Dig_fillLong.eq_1, if_pos c127x]))⟩
    ·
      have b129 : q_F (0 < a11.toInt) := (q_nleI c127)
      refine lv_lload_n hx hb d_5_3_11 rfl (lv_at hl 1 rfl) ?_
      refine lv_lneg hx hb d_5_3_12 ?_
      obtain ⟨j130, e131⟩ := q_nm (-x2 : Int64)
      refine q_tl (v := j130) e131 ?_
      have b132 : q_F (j130.toInt = -x2.toInt) := (by rw [← e131]; show (-x2 : Int64).toInt = -x2.toInt; exact n_negL rfl (by have t1 : -1 ≤ a11.toInt ∧ a11.toInt ≤ 1 ∧ ((a11.toInt = -1 ∧ x2.toInt < 0) ∨ (a11.toInt = 0 ∧ x2.toInt = 0) ∨ (a11.toInt = 1 ∧ 0 < x2.toInt)) := b13; have t2 : 0 < a11.toInt := b129; omega))
      refine lv_goto (tgt := 17) hx hb d_5_3_13 (by decide) ?_
      exact J17 ((j130 : Int64)) _ _ _ w9 ⟨(show q_F (j130.toInt ≤ 0) from (show j130.toInt ≤ 0 from by have t1 : -1 ≤ a11.toInt ∧ a11.toInt ≤ 1 ∧ ((a11.toInt = -1 ∧ x2.toInt < 0) ∨ (a11.toInt = 0 ∧ x2.toInt = 0) ∨ (a11.toInt = 1 ∧ 0 < x2.toInt)) := b13; have t2 : 0 < a11.toInt := b129; have t3 : j130.toInt = -x2.toInt := b132; omega)), (show q_F (j130.toInt ≤ x2.toInt) from (show j130.toInt ≤ x2.toInt from by have t1 : -1 ≤ a11.toInt ∧ a11.toInt ≤ 1 ∧ ((a11.toInt = -1 ∧ x2.toInt < 0) ∨ (a11.toInt = 0 ∧ x2.toInt = 0) ∨ (a11.toInt = 1 ∧ 0 < x2.toInt)) := b13; have t2 : 0 < a11.toInt := b129; have t3 : j130.toInt = -x2.toInt := b132; omega)), V, q_lw hl (q_lw1 0 rfl (q_lw1 2 rfl q_lw0)), (show F_Dig_fillLong_J17 x2 x3 t0_0 t0_1 t1_0 j130 = (F_Dig_fillLong x2 x3 t0_0 t0_1 t1_0) from (by have c127x := c127; rw [← e12] at c127x; rw [← e131, F_Dig_fillLong.eq_1, if_neg c127x]))⟩
