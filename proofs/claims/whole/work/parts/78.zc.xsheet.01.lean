def F_jStr_charAt_13 (x2 : Int32) : Int32 := ((F_jLat_charAt_13 x2) : Int32)
set_option maxRecDepth 100000 in
set_option maxHeartbeats 4000000 in
theorem X_jStr_charAt_13 (l : Launch) (D : va_G) (g : Nat → ClassId) (q : Nat → Nat) (ws : va_W) (x2 : Int32) (hI : q_I (nsh g q) q ws) (pre0 : 0 ≤ x2.toInt) (pre1 : x2.toInt ≤ 3) : q_mI l y_jStr_charAt prog_31_method_56_code 2 (.char) 4 0 0 D g [.ref (g (8 + 2 * 13)), .int x2] ws (fun r u => ws = u ∧ (0 ≤ r.toInt) ∧ (r.toInt ≤ 255) ∧ r = (F_jStr_charAt_13 x2)) := by
  intro sz
  refine q_into (by decide) (Nat.le_of_ble_eq_true rfl) ?_
  intro p e s m below meth c ls hsz C0 V hl
  have hx := C0.1
  have hb := C0.2.1
  replace pre0 : q_F (0 ≤ x2.toInt) := pre0
  replace pre1 : q_F (x2.toInt ≤ 3) := pre1
  have hl : lv_has ls 2 [(0, .ref (g (8 + 2 * 13))), (1, .int x2)] := hl
  refine lv_aload_n hx hb d_31_56_0 rfl (lv_at hl 0 rfl) ?_
  refine q_goi V (q_runVs (As := []) (rest := []) (d := 1) (mc := 0) (ms := 0) (i := 13) C0 V rfl LV_jStr_492 (T_jStr_isLatin1_13 l D g q ws   hI   _) rfl rfl rfl hl.1 rfl (Nat.le_of_ble_eq_true rfl) ⟨by decide, by decide⟩ ⟨Nat.le_of_ble_eq_true rfl, Nat.le_of_ble_eq_true rfl⟩ d_31_56_1) (fun a3 u1 H locs hp2 V => ?_)
  obtain ⟨rfl, b4, b5⟩ := hp2
  replace b4 : q_F (1 ≤ a3.toInt) := b4
  replace b5 : q_F (a3.toInt ≤ 1) := b5
  obtain rfl : a3 = (1 : Int32) := q_Ieq (x := a3.toInt) (y := 1) rfl (by decide) (by have t1 : 1 ≤ a3.toInt := b4; have t2 : a3.toInt ≤ 1 := b5; omega)
  refine lv_if_eq (tgt := 16) hx hb d_31_56_4 (by decide) (fun c7 => absurd c7 (by decide)) (fun c7 => ?_)
  refine lv_aload_n hx hb d_31_56_7 rfl (lv_at hl 0 rfl) ?_
  refine q_sval (i := 13) C0 V rfl rfl w_1018 d_31_56_8 ?_
  refine lv_iload_n hx hb d_31_56_11 rfl (lv_at hl 1 rfl) ?_
  refine q_goi V (q_runS (As := [.ref (g (9 + 2 * 13)), .int x2]) (rest := []) (d := 3) (mc := 0) (ms := 0) C0 V rfl LS_jStr_495 (X_jLat_charAt_13 l D g q ws  x2 hI  (by have t1 : 0 ≤ x2.toInt := pre0; omega) (by have t1 : x2.toInt ≤ 3 := pre1; omega) _) rfl hl.1 rfl (Nat.le_of_ble_eq_true rfl) ⟨by decide, by decide⟩ ⟨Nat.le_of_ble_eq_true rfl, Nat.le_of_ble_eq_true rfl⟩ d_31_56_12) (fun a10 u8 H locs hp9 V => ?_)
  obtain ⟨rfl, b11, b12, hE13⟩ := hp9
  have e14 : a10 = (F_jLat_charAt_13 x2) := hE13
  replace b11 : q_F (0 ≤ a10.toInt) := b11
  replace b12 : q_F (a10.toInt ≤ 255) := b12
  exact q_retn C0 V (n_chr (by have t1 : 0 ≤ a10.toInt := b11; omega) (by have t1 : a10.toInt ≤ 255 := b12; omega)) (⟨rfl, (show 0 ≤ a10.toInt from (by have t1 : 0 ≤ a10.toInt := b11; omega)), (show a10.toInt ≤ 255 from (by have t1 : a10.toInt ≤ 255 := b12; omega)), (show a10 = (F_jStr_charAt_13 x2) from (by rw [e14, F_jStr_charAt_13.eq_1]))⟩) d_31_56_15
def F_She_addText_13_c16 (K_F_She_addText_13_L2 : Int32 → Int32 → (Nat → Int64) → (Int32 × (Nat → Int64))) (R : Int32) (N : Int32) (K : Int32) (t0_0 : Int32) (t1_0 : (Nat → Int64)) (lx7 : Int32) (lx8 : Int32) (lx9 : (Nat → Int64)) (p50 : (Int32 × (Nat → Int64))) : Int32 × (Nat → Int64) := K_F_She_addText_13_L2 (lx7 + 1 : Int32) (p50.1 : Int32) (p50.2 : (Nat → Int64))
def F_She_addText_13_L2 (R : Int32) (N : Int32) (K : Int32) (t0_0 : Int32) (t1_0 : (Nat → Int64)) : Nat → Int32 → Int32 → (Nat → Int64) → (Int32 × (Nat → Int64))
  | 0, _, _, _ => default
  | fm + 1, lx7, lx8, lx9 => if (4 : Int32) ≤ lx7 then ((lx8, lx9)) else (F_She_addText_13_c16 (F_She_addText_13_L2 R N K t0_0 t1_0 fm) R N K t0_0 t1_0 lx7 lx8 lx9 ((F_She_add_p R N K ((F_jStr_charAt_13 lx7) : Int32) lx8 lx9) : (Int32 × (Nat → Int64))))
def F_She_addText_13 (R : Int32) (N : Int32) (K : Int32) (t0_0 : Int32) (t1_0 : (Nat → Int64)) : Int32 × (Nat → Int64) := F_She_addText_13_L2 R N K t0_0 t1_0 ((4 - (0 : Int32).toInt).toNat + 1) 0 t0_0 t1_0
set_option maxRecDepth 100000 in
set_option maxHeartbeats 4000000 in
theorem X_She_addText_13 (l : Launch) (D : va_G) (g : Nat → ClassId) (q : Nat → Nat) (ws : va_W) (k1 : Nat) (R N K : Int32) (hB1 : q_isShe (nsh g q) g q k1 R N K) (hI : q_I (nsh g q) q ws) (t0_0 : Int32) (hT0 : ws[k1]? = (some (q k1, .inr (1, [.ref (q (k1 + 1)), .int R, .int t0_0])) : Option (Nat × va_E))) (t1_0 : (Nat → Int64)) (hT1 : ws[k1 + 1]? = (some (q (k1 + 1), .inl (g 1, N.toNatClampNeg, .inr (.inl t1_0))) : Option (Nat × va_E))) (pre0 : t0_0.toInt + 20 ≤ K.toInt) : q_mV l y_She_addText prog_11_method_4_code 3 5 0 0 D g [.ref (q k1), .ref (g (8 + 2 * 13))] ws (fun u => q_I (nsh g q) q u ∧ q_un ws u [k1, k1 + 1] ∧ ∃ (u0_0 : Int32) (u1_0 : (Nat → Int64)), u[k1]? = (some (q k1, .inr (1, [.ref (q (k1 + 1)), .int R, .int u0_0])) : Option (Nat × va_E)) ∧ u[k1 + 1]? = (some (q (k1 + 1), .inl (g 1, N.toNatClampNeg, .inr (.inl u1_0))) : Option (Nat × va_E)) ∧ (t0_0.toInt + 4 ≤ u0_0.toInt) ∧ (u0_0.toInt ≤ t0_0.toInt + 4) ∧ (u0_0, u1_0) = (F_She_addText_13 R N K t0_0 t1_0)) := by
  intro sz
  refine q_into (by decide) (Nat.le_of_ble_eq_true rfl) ?_
  intro p e s m below meth c ls hsz C0 V hl
  have hx := C0.1
  have hb := C0.2.1
  have hfk10 : q_F (0 ≤ R.toInt ∧ R.toInt ≤ 8 * N.toInt ∧ 0 ≤ N.toInt ∧ N.toInt ≤ 1376 ∧ 64 ≤ R.toInt ∧ 64 ≤ K.toInt ∧ K.toInt ≤ 1000000) := hB1.2.2.1
  obtain ⟨yy0_0, hh0, btt0_0⟩ := n_shO hI hB1
  obtain ⟨rfl⟩ : t0_0 = yy0_0 := by have z := Option.some.inj (hT0.symm.trans hh0); simpa using z
  replace btt0_0 : q_F (0 ≤ t0_0.toInt ∧ t0_0.toInt ≤ K.toInt) := btt0_0
  replace pre0 : q_F (t0_0.toInt + 20 ≤ K.toInt) := pre0
  have hF : q_un ws ws [k1, k1 + 1] := q_u0
  have hl : lv_has ls 3 [(0, .ref (q k1)), (1, .ref (g (8 + 2 * 13)))] := hl
  refine lv_iconst (v := 0) hx hb d_11_4_0 (by decide) ?_
  refine lv_istore_n (lv' := [(2, .int 0), (0, .ref (q k1)), (1, .ref (g (8 + 2 * 13)))]) hx hb d_11_4_1 rfl hl (by decide) rfl (fun ls hl => ?_)
  refine q_loop (X := Int32 × Int32 × (Nat → Int64)) (fun z H locs ls w15 => q_F (z.1.toInt ≤ 4) ∧ q_F (t0_0.toInt ≤ z.1.toInt + z.2.1.toInt) ∧ q_F (z.2.1.toInt ≤ z.1.toInt + t0_0.toInt) ∧ q_F (z.1.toInt + t0_0.toInt ≤ z.2.1.toInt) ∧ q_Wd D g (va_A ws sz) s w15 H locs ∧ lv_has ls 3 [(2, .int z.1), (0, .ref (q k1)), (1, .ref (g (8 + 2 * 13)))] ∧ q_I (nsh g q) q w15 ∧ q_un ws w15 [k1, k1 + 1] ∧ w15[k1]? = (some (q k1, .inr (1, [.ref (q (k1 + 1)), .int R, .int z.2.1])) : Option (Nat × va_E)) ∧ w15[k1 + 1]? = (some (q (k1 + 1), .inl (g 1, N.toNatClampNeg, .inr (.inl z.2.2))) : Option (Nat × va_E)) ∧ (∃ n, (4 - z.1.toInt).toNat < n ∧ F_She_addText_13_L2 R N K t0_0 t1_0 n z.1 z.2.1 z.2.2 = (F_She_addText_13 R N K t0_0 t1_0))) (fun z => (4 - z.1.toInt).toNat) ?_ ((0 : Int32), (t0_0 : Int32), (t1_0 : (Nat → Int64))) _ _ _ ws ⟨(show q_F (0 ≤ 4) from (show 0 ≤ 4 from by omega)), (show q_F (t0_0.toInt ≤ 0 + t0_0.toInt) from (show t0_0.toInt ≤ 0 + t0_0.toInt from by omega)), (show q_F (t0_0.toInt ≤ 0 + t0_0.toInt) from (show t0_0.toInt ≤ 0 + t0_0.toInt from by omega)), (show q_F (0 + t0_0.toInt ≤ t0_0.toInt) from (show 0 + t0_0.toInt ≤ t0_0.toInt from by omega)), V, q_lw hl (q_lw1 0 rfl (q_lw1 1 rfl (q_lw1 2 rfl q_lw0))), hI, hF, hT0, hT1, ⟨((4 - (0 : Int32).toInt).toNat + 1), Nat.lt_succ_self _, (show F_She_addText_13_L2 R N K t0_0 t1_0 ((4 - (0 : Int32).toInt).toNat + 1) 0 t0_0 t1_0 = (F_She_addText_13 R N K t0_0 t1_0) from (by rw [F_She_addText_13.eq_1]))⟩⟩
  rintro ⟨lx7, lx8, lx9⟩ H locs ls w15 ⟨i10, i11, i12, i13, V, hl, hI, hF, hO16, hO17, ⟨fu20, hf21, hR18⟩⟩ ih14
  obtain ⟨fm22, rfl⟩ : ∃ m, fu20 = m + 1 := ⟨fu20 - 1, by omega⟩
  replace i10 : q_F (lx7.toInt ≤ 4) := i10
  replace i11 : q_F (t0_0.toInt ≤ lx7.toInt + lx8.toInt) := i11
  replace i12 : q_F (lx8.toInt ≤ lx7.toInt + t0_0.toInt) := i12
  replace i13 : q_F (lx7.toInt + t0_0.toInt ≤ lx8.toInt) := i13
  replace hl : lv_has ls 3 [(2, .int lx7), (0, .ref (q k1)), (1, .ref (g (8 + 2 * 13)))] := hl
  replace hO16 : w15[k1]? = (some (q k1, .inr (1, [.ref (q (k1 + 1)), .int R, .int lx8])) : Option (Nat × va_E)) := hO16
  replace hO17 : w15[k1 + 1]? = (some (q (k1 + 1), .inl (g 1, N.toNatClampNeg, .inr (.inl lx9))) : Option (Nat × va_E)) := hO17
  refine lv_iload_n hx hb d_11_4_2 rfl (lv_at hl 0 rfl) ?_
  refine lv_aload_n hx hb d_11_4_3 rfl (lv_at hl 2 rfl) ?_
  refine q_goi V (q_runVs (As := []) (rest := [.int lx7]) (d := 2) (mc := 0) (ms := 0) (i := 13) C0 V rfl LV_She_24 (X_jStr_length_13 l D g q w15   hI   _) rfl rfl rfl hl.1 rfl (Nat.le_of_ble_eq_true rfl) ⟨by decide, by decide⟩ ⟨Nat.le_of_ble_eq_true rfl, Nat.le_of_ble_eq_true rfl⟩ d_11_4_4) (fun a25 u23 H locs hp24 V => ?_)
  obtain ⟨rfl, b26, b27, hE28⟩ := hp24
  have e29 : a25 = (F_jStr_length_13) := hE28
  replace b26 : q_F (4 ≤ a25.toInt) := b26
  replace b27 : q_F (a25.toInt ≤ 4) := b27
  obtain rfl : a25 = (4 : Int32) := q_Ieq (x := a25.toInt) (y := 4) rfl (by decide) (by have t1 : 4 ≤ a25.toInt := b26; have t2 : a25.toInt ≤ 4 := b27; omega)
  refine lv_icmp_ge (tgt := 25) hx hb d_11_4_7 (by decide) (fun c30 => ?_) (fun c30 => ?_)
  ·
    have b31 : q_F (4 ≤ lx7.toInt) := (q_leI c30)
    exact q_retv C0 V (⟨hI, hF, lx8, lx9, hO16, hO17, (show t0_0.toInt + 4 ≤ lx8.toInt from (by have t1 : lx7.toInt + t0_0.toInt ≤ lx8.toInt := i13; have t2 : 4 ≤ lx7.toInt := b31; omega)), (show lx8.toInt ≤ t0_0.toInt + 4 from (by have t1 : lx7.toInt ≤ 4 := i10; have t2 : lx8.toInt ≤ lx7.toInt + t0_0.toInt := i12; omega)), (show (lx8, lx9) = (F_She_addText_13 R N K t0_0 t1_0) from Eq.trans (by rw [F_She_addText_13_L2.eq_2, if_pos c30]) hR18)⟩) d_11_4_25
  ·
    have b32 : q_F (lx7.toInt < 4) := (q_nleI c30)
    refine lv_aload_n hx hb d_11_4_10 rfl (lv_at hl 1 rfl) ?_
    refine lv_aload_n hx hb d_11_4_11 rfl (lv_at hl 2 rfl) ?_
    refine lv_iload_n hx hb d_11_4_12 rfl (lv_at hl 0 rfl) ?_
    refine q_goi V (q_runVs (As := [.int lx7]) (rest := [.ref (q k1)]) (d := 4) (mc := 0) (ms := 0) (i := 13) C0 V rfl LV_She_30 (X_jStr_charAt_13 l D g q w15  lx7 hI  (by have t1 : t0_0.toInt ≤ lx7.toInt + lx8.toInt := i11; have t2 : lx8.toInt ≤ lx7.toInt + t0_0.toInt := i12; omega) (by have t1 : lx7.toInt < 4 := b32; omega) _) rfl rfl rfl hl.1 rfl (Nat.le_of_ble_eq_true rfl) ⟨by decide, by decide⟩ ⟨Nat.le_of_ble_eq_true rfl, Nat.le_of_ble_eq_true rfl⟩ d_11_4_13) (fun a35 u33 H locs hp34 V => ?_)
    obtain ⟨rfl, b36, b37, hE38⟩ := hp34
    have e39 : a35 = (F_jStr_charAt_13 lx7) := hE38
    replace b36 : q_F (0 ≤ a35.toInt) := b36
    replace b37 : q_F (a35.toInt ≤ 255) := b37
    refine q_gov V (q_runV (As := [.int a35]) (rest := []) (d := 1) (mc := 0) (ms := 0) (ci := 1) C0 V rfl LV_She_34 (X_She_add_p l D g q w15 k1 R N K hB1 a35 hI lx8 hO16 lx9 hO17 (by have t1 : t0_0.toInt + 20 ≤ K.toInt := pre0; have t2 : lx7.toInt ≤ 4 := i10; have t3 : lx8.toInt ≤ lx7.toInt + t0_0.toInt := i12; omega) _) rfl rfl hO16 rfl hl.1 rfl (Nat.le_of_ble_eq_true rfl) ⟨by decide, by decide⟩ ⟨Nat.le_of_ble_eq_true rfl, Nat.le_of_ble_eq_true rfl⟩ d_11_4_16) (fun u40 H locs hp41 V => ?_)
    obtain ⟨hI, hu49, y43, f44, hO42, hA45, b46, b47, hE48⟩ := hp41
    replace hO42 : u40[k1]? = (some (q k1, .inr (1, [.ref (q (k1 + 1)), .int R, .int y43])) : Option (Nat × va_E)) := hO42
    replace hA45 : u40[k1 + 1]? = (some (q (k1 + 1), .inl (g 1, N.toNatClampNeg, .inr (.inl f44))) : Option (Nat × va_E)) := hA45
    obtain ⟨p50, e51⟩ : ∃ z, z = (F_She_add_p R N K a35 lx8 lx9) := ⟨_, rfl⟩
    have e52 : y43 = p50.1 := congrArg (fun z => z.1) (hE48.trans e51.symm)
    have e53 : f44 = p50.2 := congrArg (fun z => z.2) (hE48.trans e51.symm)
    replace b46 : q_F (lx8.toInt + 1 ≤ y43.toInt) := b46
    replace b47 : q_F (y43.toInt ≤ lx8.toInt + 1) := b47
    replace hF := q_uc hF hu49 (by simp)
    have hR54 := (show F_She_addText_13_c16 (F_She_addText_13_L2 R N K t0_0 t1_0 fm22) R N K t0_0 t1_0 lx7 lx8 lx9 p50 = (F_She_addText_13 R N K t0_0 t1_0) from Eq.trans (by rw [e51, e39, F_She_addText_13_L2.eq_2, if_neg c30]) hR18)
    obtain ⟨a59, e60⟩ := q_nm (lx7 + 1 : Int32)
    have b61 : q_F (a59.toInt = lx7.toInt + 1) := (by rw [← e60]; exact q_addI (y := 1) rfl (by decide) (by have t1 : t0_0.toInt ≤ lx7.toInt + lx8.toInt := i11; have t2 : lx8.toInt ≤ lx7.toInt + t0_0.toInt := i12; have t3 : lx7.toInt ≤ 4 := i10; omega) (by have t1 : t0_0.toInt ≤ lx7.toInt + lx8.toInt := i11; have t2 : lx8.toInt ≤ lx7.toInt + t0_0.toInt := i12; have t3 : lx7.toInt ≤ 4 := i10; omega))
    refine lv_iinc (v := a59) (lv' := [(2, .int a59), (0, .ref (q k1)), (1, .ref (g (8 + 2 * 13)))]) hx hb d_11_4_19 hl (k := 0) rfl (e60) (by decide) rfl (fun ls hl => ?_)
    refine lv_goto (tgt := 2) hx hb d_11_4_22 (by decide) ?_
    exact ih14 ((a59 : Int32), (y43 : Int32), (f44 : (Nat → Int64))) _ _ _ _ (show (4 - a59.toInt).toNat < (4 - lx7.toInt).toNat from by have t1 : a59.toInt = lx7.toInt + 1 := b61; have t2 : lx7.toInt ≤ 4 := i10; have t3 : lx7.toInt < 4 := b32; omega) ⟨(show q_F (a59.toInt ≤ 4) from (show a59.toInt ≤ 4 from by have t1 : lx7.toInt < 4 := b32; have t2 : a59.toInt = lx7.toInt + 1 := b61; omega)), (show q_F (t0_0.toInt ≤ a59.toInt + y43.toInt) from (show t0_0.toInt ≤ a59.toInt + y43.toInt from by have t1 : t0_0.toInt ≤ lx7.toInt + lx8.toInt := i11; have t2 : lx8.toInt + 1 ≤ y43.toInt := b46; have t3 : a59.toInt = lx7.toInt + 1 := b61; omega)), (show q_F (y43.toInt ≤ a59.toInt + t0_0.toInt) from (show y43.toInt ≤ a59.toInt + t0_0.toInt from by have t1 : lx8.toInt ≤ lx7.toInt + t0_0.toInt := i12; have t2 : y43.toInt ≤ lx8.toInt + 1 := b47; have t3 : a59.toInt = lx7.toInt + 1 := b61; omega)), (show q_F (a59.toInt + t0_0.toInt ≤ y43.toInt) from (show a59.toInt + t0_0.toInt ≤ y43.toInt from by have t1 : lx7.toInt + t0_0.toInt ≤ lx8.toInt := i13; have t2 : lx8.toInt + 1 ≤ y43.toInt := b46; have t3 : a59.toInt = lx7.toInt + 1 := b61; omega)), V, q_lw hl (q_lw1 0 rfl (q_lw1 1 rfl (q_lw1 2 rfl q_lw0))), hI, hF, hO42, hA45, ⟨fm22, Nat.lt_of_lt_of_le (show (4 - a59.toInt).toNat < (4 - lx7.toInt).toNat from by have t1 : a59.toInt = lx7.toInt + 1 := b61; have t2 : lx7.toInt ≤ 4 := i10; have t3 : lx7.toInt < 4 := b32; omega) (Nat.le_of_lt_succ hf21), (show F_She_addText_13_L2 R N K t0_0 t1_0 fm22 a59 y43 f44 = (F_She_addText_13 R N K t0_0 t1_0) from Eq.trans (by rw [← e60, e53, e52, F_She_addText_13_c16.eq_1]) hR54)⟩⟩
def F_jStr_length_15 : Int32 := (4 : Int32)
set_option maxRecDepth 100000 in
set_option maxHeartbeats 4000000 in
theorem X_jStr_length_15 (l : Launch) (D : va_G) (g : Nat → ClassId) (q : Nat → Nat) (ws : va_W) (hI : q_I (nsh g q) q ws) : q_mI l y_jStr_length prog_31_method_54_code 1 (.int) 2 0 0 D g [.ref (g (8 + 2 * 15))] ws (fun r u => ws = u ∧ (4 ≤ r.toInt) ∧ (r.toInt ≤ 4) ∧ r = (F_jStr_length_15)) := by
  intro sz
  refine q_into (by decide) (Nat.le_of_ble_eq_true rfl) ?_
  intro p e s m below meth c ls hsz C0 V hl
  have hx := C0.1
  have hb := C0.2.1
  have hl : lv_has ls 1 [(0, .ref (g (8 + 2 * 15)))] := hl
  refine lv_aload_n hx hb d_31_54_0 rfl (lv_at hl 0 rfl) ?_
  refine q_sval (i := 15) C0 V rfl rfl w_1018 d_31_54_1 ?_
  refine q_slen (i := 15) (v := 4) C0 V rfl (by decide) d_31_54_4 ?_
  refine lv_aload_n hx hb d_31_54_5 rfl (lv_at hl 0 rfl) ?_
  refine q_goi V (q_runVs (As := []) (rest := [.int 4]) (d := 1) (mc := 0) (ms := 0) (i := 15) C0 V rfl LV_jStr_335 (T_jStr_coder_15 l D g q ws   hI   _) rfl rfl rfl hl.1 rfl (Nat.le_of_ble_eq_true rfl) ⟨by decide, by decide⟩ ⟨Nat.le_of_ble_eq_true rfl, Nat.le_of_ble_eq_true rfl⟩ d_31_54_6) (fun a3 u1 H locs hp2 V => ?_)
  obtain ⟨rfl, b4, b5⟩ := hp2
  replace b4 : q_F (0 ≤ a3.toInt) := b4
  replace b5 : q_F (a3.toInt ≤ 0) := b5
  obtain rfl : a3 = (0 : Int32) := q_Ieq (x := a3.toInt) (y := 0) rfl (by decide) (by have t1 : 0 ≤ a3.toInt := b4; have t2 : a3.toInt ≤ 0 := b5; omega)
  refine lv_ishr hx hb d_31_54_9 ?_
  refine q_ti (v := 4) (by decide) ?_
  exact q_reti C0 V (⟨rfl, (show 4 ≤ (4 : Int32).toInt from (by have z0 : (4 : Int32).toInt = 4 := rfl; omega)), (show (4 : Int32).toInt ≤ 4 from (by have z0 : (4 : Int32).toInt = 4 := rfl; omega)), (show (4 : Int32) = (F_jStr_length_15) from (by rw [F_jStr_length_15.eq_1]))⟩) d_31_54_10
def F_jLat_charAt_15 (x2 : Int32) : Int32 := (((((([110, 117, 108, 108] : List Int32).getD x2.toNatClampNeg 0) : Int32) &&& 255 : Int32).toUInt32 % 65536).toInt32 : Int32)
set_option maxRecDepth 100000 in
set_option maxHeartbeats 4000000 in
theorem X_jLat_charAt_15 (l : Launch) (D : va_G) (g : Nat → ClassId) (q : Nat → Nat) (ws : va_W) (x2 : Int32) (hI : q_I (nsh g q) q ws) (pre0 : 0 ≤ x2.toInt) (pre1 : x2.toInt ≤ 3) : q_mI l y_jLat_charAt prog_33_method_2_code 2 (.char) 3 0 0 D g [.ref (g (9 + 2 * 15)), .int x2] ws (fun r u => ws = u ∧ (0 ≤ r.toInt) ∧ (r.toInt ≤ 255) ∧ r = (F_jLat_charAt_15 x2)) := by
  intro sz
  refine q_into (by decide) (Nat.le_of_ble_eq_true rfl) ?_
  intro p e s m below meth c ls hsz C0 V hl
  have hx := C0.1
  have hb := C0.2.1
  replace pre0 : q_F (0 ≤ x2.toInt) := pre0
  replace pre1 : q_F (x2.toInt ≤ 3) := pre1
  have hl : lv_has ls 2 [(0, .ref (g (9 + 2 * 15))), (1, .int x2)] := hl
  refine lv_iload_n hx hb d_33_2_0 rfl (lv_at hl 1 rfl) ?_
  refine lv_aload_n hx hb d_33_2_1 rfl (lv_at hl 0 rfl) ?_
  refine q_slen (i := 15) (v := 4) C0 V rfl (by decide) d_33_2_2 ?_
  refine q_gov V (q_runS (As := [.int x2, .int 4]) (rest := []) (d := 2) (mc := 0) (ms := 0) C0 V rfl LS_jLat_9 (T_jStr_checkIndex l D g q ws  x2 4 hI  (by have y0 : (4 : Int32).toInt = 4 := rfl; have t1 : 0 ≤ x2.toInt := pre0; omega) (by have y0 : (4 : Int32).toInt = 4 := rfl; have t1 : x2.toInt ≤ 3 := pre1; omega) _) rfl hl.1 rfl (Nat.le_of_ble_eq_true rfl) ⟨by decide, by decide⟩ ⟨Nat.le_of_ble_eq_true rfl, Nat.le_of_ble_eq_true rfl⟩ d_33_2_3) (fun u1 H locs hp2 V => ?_)
  obtain ⟨rfl, -⟩ := hp2
  refine lv_aload_n hx hb d_33_2_6 rfl (lv_at hl 0 rfl) ?_
  refine lv_iload_n hx hb d_33_2_7 rfl (lv_at hl 1 rfl) ?_
  refine q_sbal (i := 15) (v := (([110, 117, 108, 108] : List Int32).getD x2.toNatClampNeg 0)) C0 V rfl (show vp_in x2 4 from q_ix (x := x2.toInt) rfl (by have t1 : 0 ≤ x2.toInt := pre0; omega) (by have t1 : 0 ≤ x2.toInt := pre0; have t2 : x2.toInt ≤ 3 := pre1; omega)) rfl d_33_2_8 ?_
  obtain ⟨a4, e5⟩ := q_nm ((([110, 117, 108, 108] : List Int32).getD x2.toNatClampNeg 0) : Int32)
  refine q_ti (v := a4) e5 ?_
  refine lv_sipush (v := 255) hx hb d_33_2_9 (by decide) ?_
  refine lv_iand hx hb d_33_2_12 ?_
  obtain ⟨a6, e7⟩ := q_nm (a4 &&& 255 : Int32)
  refine q_ti (v := a6) e7 ?_
  have b8 : q_F (0 ≤ a6.toInt ∧ a6.toInt ≤ 255) := (by rw [← e7]; show 0 ≤ (a4 &&& 255 : Int32).toInt ∧ (a4 &&& 255 : Int32).toInt ≤ 255; exact s_and (by decide))
  refine lv_i2c hx hb d_33_2_13 rfl ?_
  obtain ⟨a9, e10⟩ := q_nm ((a6.toUInt32 % 65536).toInt32 : Int32)
  refine q_ti (v := a9) e10 ?_
  have b11 : q_F (a9.toInt = a6.toInt) := (by rw [← e10]; show ((a6.toUInt32 % 65536).toInt32 : Int32).toInt = a6.toInt; exact (n_i2c (x := a6)).2.2 (by have t1 : 0 ≤ a6.toInt ∧ a6.toInt ≤ 255 := b8; omega) (by have t1 : 0 ≤ a6.toInt ∧ a6.toInt ≤ 255 := b8; omega))
  exact q_retn C0 V (n_chr (by have t1 : 0 ≤ a6.toInt ∧ a6.toInt ≤ 255 := b8; have t2 : a9.toInt = a6.toInt := b11; omega) (by have t1 : 0 ≤ a6.toInt ∧ a6.toInt ≤ 255 := b8; have t2 : a9.toInt = a6.toInt := b11; omega)) (⟨rfl, (show 0 ≤ a9.toInt from (by have t1 : 0 ≤ a6.toInt ∧ a6.toInt ≤ 255 := b8; have t2 : a9.toInt = a6.toInt := b11; omega)), (show a9.toInt ≤ 255 from (by have t1 : 0 ≤ a6.toInt ∧ a6.toInt ≤ 255 := b8; have t2 : a9.toInt = a6.toInt := b11; omega)), (show a9 = (F_jLat_charAt_15 x2) from (by rw [← e10, ← e7, ← e5, F_jLat_charAt_15.eq_1]))⟩) d_33_2_14
def F_jStr_charAt_15 (x2 : Int32) : Int32 := ((F_jLat_charAt_15 x2) : Int32)
set_option maxRecDepth 100000 in
set_option maxHeartbeats 4000000 in
theorem X_jStr_charAt_15 (l : Launch) (D : va_G) (g : Nat → ClassId) (q : Nat → Nat) (ws : va_W) (x2 : Int32) (hI : q_I (nsh g q) q ws) (pre0 : 0 ≤ x2.toInt) (pre1 : x2.toInt ≤ 3) : q_mI l y_jStr_charAt prog_31_method_56_code 2 (.char) 4 0 0 D g [.ref (g (8 + 2 * 15)), .int x2] ws (fun r u => ws = u ∧ (0 ≤ r.toInt) ∧ (r.toInt ≤ 255) ∧ r = (F_jStr_charAt_15 x2)) := by
  intro sz
  refine q_into (by decide) (Nat.le_of_ble_eq_true rfl) ?_
  intro p e s m below meth c ls hsz C0 V hl
  have hx := C0.1
  have hb := C0.2.1
  replace pre0 : q_F (0 ≤ x2.toInt) := pre0
  replace pre1 : q_F (x2.toInt ≤ 3) := pre1
  have hl : lv_has ls 2 [(0, .ref (g (8 + 2 * 15))), (1, .int x2)] := hl
  refine lv_aload_n hx hb d_31_56_0 rfl (lv_at hl 0 rfl) ?_
  refine q_goi V (q_runVs (As := []) (rest := []) (d := 1) (mc := 0) (ms := 0) (i := 15) C0 V rfl LV_jStr_492 (T_jStr_isLatin1_15 l D g q ws   hI   _) rfl rfl rfl hl.1 rfl (Nat.le_of_ble_eq_true rfl) ⟨by decide, by decide⟩ ⟨Nat.le_of_ble_eq_true rfl, Nat.le_of_ble_eq_true rfl⟩ d_31_56_1) (fun a3 u1 H locs hp2 V => ?_)
  obtain ⟨rfl, b4, b5⟩ := hp2
  replace b4 : q_F (1 ≤ a3.toInt) := b4
  replace b5 : q_F (a3.toInt ≤ 1) := b5
  obtain rfl : a3 = (1 : Int32) := q_Ieq (x := a3.toInt) (y := 1) rfl (by decide) (by have t1 : 1 ≤ a3.toInt := b4; have t2 : a3.toInt ≤ 1 := b5; omega)
  refine lv_if_eq (tgt := 16) hx hb d_31_56_4 (by decide) (fun c7 => absurd c7 (by decide)) (fun c7 => ?_)
  refine lv_aload_n hx hb d_31_56_7 rfl (lv_at hl 0 rfl) ?_
  refine q_sval (i := 15) C0 V rfl rfl w_1018 d_31_56_8 ?_
  refine lv_iload_n hx hb d_31_56_11 rfl (lv_at hl 1 rfl) ?_
  refine q_goi V (q_runS (As := [.ref (g (9 + 2 * 15)), .int x2]) (rest := []) (d := 3) (mc := 0) (ms := 0) C0 V rfl LS_jStr_495 (X_jLat_charAt_15 l D g q ws  x2 hI  (by have t1 : 0 ≤ x2.toInt := pre0; omega) (by have t1 : x2.toInt ≤ 3 := pre1; omega) _) rfl hl.1 rfl (Nat.le_of_ble_eq_true rfl) ⟨by decide, by decide⟩ ⟨Nat.le_of_ble_eq_true rfl, Nat.le_of_ble_eq_true rfl⟩ d_31_56_12) (fun a10 u8 H locs hp9 V => ?_)
  obtain ⟨rfl, b11, b12, hE13⟩ := hp9
  have e14 : a10 = (F_jLat_charAt_15 x2) := hE13
  replace b11 : q_F (0 ≤ a10.toInt) := b11
  replace b12 : q_F (a10.toInt ≤ 255) := b12
  exact q_retn C0 V (n_chr (by have t1 : 0 ≤ a10.toInt := b11; omega) (by have t1 : a10.toInt ≤ 255 := b12; omega)) (⟨rfl, (show 0 ≤ a10.toInt from (by have t1 : 0 ≤ a10.toInt := b11; omega)), (show a10.toInt ≤ 255 from (by have t1 : a10.toInt ≤ 255 := b12; omega)), (show a10 = (F_jStr_charAt_15 x2) from (by rw [e14, F_jStr_charAt_15.eq_1]))⟩) d_31_56_15
def F_She_addText_15_c16 (K_F_She_addText_15_L2 : Int32 → Int32 → (Nat → Int64) → (Int32 × (Nat → Int64))) (R : Int32) (N : Int32) (K : Int32) (t0_0 : Int32) (t1_0 : (Nat → Int64)) (lx7 : Int32) (lx8 : Int32) (lx9 : (Nat → Int64)) (p50 : (Int32 × (Nat → Int64))) : Int32 × (Nat → Int64) := K_F_She_addText_15_L2 (lx7 + 1 : Int32) (p50.1 : Int32) (p50.2 : (Nat → Int64))
def F_She_addText_15_L2 (R : Int32) (N : Int32) (K : Int32) (t0_0 : Int32) (t1_0 : (Nat → Int64)) : Nat → Int32 → Int32 → (Nat → Int64) → (Int32 × (Nat → Int64))
  | 0, _, _, _ => default
  | fm + 1, lx7, lx8, lx9 => if (4 : Int32) ≤ lx7 then ((lx8, lx9)) else (F_She_addText_15_c16 (F_She_addText_15_L2 R N K t0_0 t1_0 fm) R N K t0_0 t1_0 lx7 lx8 lx9 ((F_She_add_p R N K ((F_jStr_charAt_15 lx7) : Int32) lx8 lx9) : (Int32 × (Nat → Int64))))
def F_She_addText_15 (R : Int32) (N : Int32) (K : Int32) (t0_0 : Int32) (t1_0 : (Nat → Int64)) : Int32 × (Nat → Int64) := F_She_addText_15_L2 R N K t0_0 t1_0 ((4 - (0 : Int32).toInt).toNat + 1) 0 t0_0 t1_0
set_option maxRecDepth 100000 in
set_option maxHeartbeats 4000000 in
theorem X_She_addText_15 (l : Launch) (D : va_G) (g : Nat → ClassId) (q : Nat → Nat) (ws : va_W) (k1 : Nat) (R N K : Int32) (hB1 : q_isShe (nsh g q) g q k1 R N K) (hI : q_I (nsh g q) q ws) (t0_0 : Int32) (hT0 : ws[k1]? = (some (q k1, .inr (1, [.ref (q (k1 + 1)), .int R, .int t0_0])) : Option (Nat × va_E))) (t1_0 : (Nat → Int64)) (hT1 : ws[k1 + 1]? = (some (q (k1 + 1), .inl (g 1, N.toNatClampNeg, .inr (.inl t1_0))) : Option (Nat × va_E))) (pre0 : t0_0.toInt + 20 ≤ K.toInt) : q_mV l y_She_addText prog_11_method_4_code 3 5 0 0 D g [.ref (q k1), .ref (g (8 + 2 * 15))] ws (fun u => q_I (nsh g q) q u ∧ q_un ws u [k1, k1 + 1] ∧ ∃ (u0_0 : Int32) (u1_0 : (Nat → Int64)), u[k1]? = (some (q k1, .inr (1, [.ref (q (k1 + 1)), .int R, .int u0_0])) : Option (Nat × va_E)) ∧ u[k1 + 1]? = (some (q (k1 + 1), .inl (g 1, N.toNatClampNeg, .inr (.inl u1_0))) : Option (Nat × va_E)) ∧ (t0_0.toInt + 4 ≤ u0_0.toInt) ∧ (u0_0.toInt ≤ t0_0.toInt + 4) ∧ (u0_0, u1_0) = (F_She_addText_15 R N K t0_0 t1_0)) := by
  intro sz
  refine q_into (by decide) (Nat.le_of_ble_eq_true rfl) ?_
  intro p e s m below meth c ls hsz C0 V hl
  have hx := C0.1
  have hb := C0.2.1
  have hfk10 : q_F (0 ≤ R.toInt ∧ R.toInt ≤ 8 * N.toInt ∧ 0 ≤ N.toInt ∧ N.toInt ≤ 1376 ∧ 64 ≤ R.toInt ∧ 64 ≤ K.toInt ∧ K.toInt ≤ 1000000) := hB1.2.2.1
  obtain ⟨yy0_0, hh0, btt0_0⟩ := n_shO hI hB1
  obtain ⟨rfl⟩ : t0_0 = yy0_0 := by have z := Option.some.inj (hT0.symm.trans hh0); simpa using z
  replace btt0_0 : q_F (0 ≤ t0_0.toInt ∧ t0_0.toInt ≤ K.toInt) := btt0_0
  replace pre0 : q_F (t0_0.toInt + 20 ≤ K.toInt) := pre0
  have hF : q_un ws ws [k1, k1 + 1] := q_u0
  have hl : lv_has ls 3 [(0, .ref (q k1)), (1, .ref (g (8 + 2 * 15)))] := hl
  refine lv_iconst (v := 0) hx hb d_11_4_0 (by decide) ?_
  refine lv_istore_n (lv' := [(2, .int 0), (0, .ref (q k1)), (1, .ref (g (8 + 2 * 15)))]) hx hb d_11_4_1 rfl hl (by decide) rfl (fun ls hl => ?_)
  refine q_loop (X := Int32 × Int32 × (Nat → Int64)) (fun z H locs ls w15 => q_F (z.1.toInt ≤ 4) ∧ q_F (t0_0.toInt ≤ z.1.toInt + z.2.1.toInt) ∧ q_F (z.2.1.toInt ≤ z.1.toInt + t0_0.toInt) ∧ q_F (z.1.toInt + t0_0.toInt ≤ z.2.1.toInt) ∧ q_Wd D g (va_A ws sz) s w15 H locs ∧ lv_has ls 3 [(2, .int z.1), (0, .ref (q k1)), (1, .ref (g (8 + 2 * 15)))] ∧ q_I (nsh g q) q w15 ∧ q_un ws w15 [k1, k1 + 1] ∧ w15[k1]? = (some (q k1, .inr (1, [.ref (q (k1 + 1)), .int R, .int z.2.1])) : Option (Nat × va_E)) ∧ w15[k1 + 1]? = (some (q (k1 + 1), .inl (g 1, N.toNatClampNeg, .inr (.inl z.2.2))) : Option (Nat × va_E)) ∧ (∃ n, (4 - z.1.toInt).toNat < n ∧ F_She_addText_15_L2 R N K t0_0 t1_0 n z.1 z.2.1 z.2.2 = (F_She_addText_15 R N K t0_0 t1_0))) (fun z => (4 - z.1.toInt).toNat) ?_ ((0 : Int32), (t0_0 : Int32), (t1_0 : (Nat → Int64))) _ _ _ ws ⟨(show q_F (0 ≤ 4) from (show 0 ≤ 4 from by omega)), (show q_F (t0_0.toInt ≤ 0 + t0_0.toInt) from (show t0_0.toInt ≤ 0 + t0_0.toInt from by omega)), (show q_F (t0_0.toInt ≤ 0 + t0_0.toInt) from (show t0_0.toInt ≤ 0 + t0_0.toInt from by omega)), (show q_F (0 + t0_0.toInt ≤ t0_0.toInt) from (show 0 + t0_0.toInt ≤ t0_0.toInt from by omega)), V, q_lw hl (q_lw1 0 rfl (q_lw1 1 rfl (q_lw1 2 rfl q_lw0))), hI, hF, hT0, hT1, ⟨((4 - (0 : Int32).toInt).toNat + 1), Nat.lt_succ_self _, (show F_She_addText_15_L2 R N K t0_0 t1_0 ((4 - (0 : Int32).toInt).toNat + 1) 0 t0_0 t1_0 = (F_She_addText_15 R N K t0_0 t1_0) from (by rw [F_She_addText_15.eq_1]))⟩⟩
  rintro ⟨lx7, lx8, lx9⟩ H locs ls w15 ⟨i10, i11, i12, i13, V, hl, hI, hF, hO16, hO17, ⟨fu20, hf21, hR18⟩⟩ ih14
  obtain ⟨fm22, rfl⟩ : ∃ m, fu20 = m + 1 := ⟨fu20 - 1, by omega⟩
  replace i10 : q_F (lx7.toInt ≤ 4) := i10
  replace i11 : q_F (t0_0.toInt ≤ lx7.toInt + lx8.toInt) := i11
  replace i12 : q_F (lx8.toInt ≤ lx7.toInt + t0_0.toInt) := i12
  replace i13 : q_F (lx7.toInt + t0_0.toInt ≤ lx8.toInt) := i13
  replace hl : lv_has ls 3 [(2, .int lx7), (0, .ref (q k1)), (1, .ref (g (8 + 2 * 15)))] := hl
  replace hO16 : w15[k1]? = (some (q k1, .inr (1, [.ref (q (k1 + 1)), .int R, .int lx8])) : Option (Nat × va_E)) := hO16
  replace hO17 : w15[k1 + 1]? = (some (q (k1 + 1), .inl (g 1, N.toNatClampNeg, .inr (.inl lx9))) : Option (Nat × va_E)) := hO17
  refine lv_iload_n hx hb d_11_4_2 rfl (lv_at hl 0 rfl) ?_
  refine lv_aload_n hx hb d_11_4_3 rfl (lv_at hl 2 rfl) ?_
  refine q_goi V (q_runVs (As := []) (rest := [.int lx7]) (d := 2) (mc := 0) (ms := 0) (i := 15) C0 V rfl LV_She_24 (X_jStr_length_15 l D g q w15   hI   _) rfl rfl rfl hl.1 rfl (Nat.le_of_ble_eq_true rfl) ⟨by decide, by decide⟩ ⟨Nat.le_of_ble_eq_true rfl, Nat.le_of_ble_eq_true rfl⟩ d_11_4_4) (fun a25 u23 H locs hp24 V => ?_)
  obtain ⟨rfl, b26, b27, hE28⟩ := hp24
  have e29 : a25 = (F_jStr_length_15) := hE28
  replace b26 : q_F (4 ≤ a25.toInt) := b26
  replace b27 : q_F (a25.toInt ≤ 4) := b27
  obtain rfl : a25 = (4 : Int32) := q_Ieq (x := a25.toInt) (y := 4) rfl (by decide) (by have t1 : 4 ≤ a25.toInt := b26; have t2 : a25.toInt ≤ 4 := b27; omega)
  refine lv_icmp_ge (tgt := 25) hx hb d_11_4_7 (by decide) (fun c30 => ?_) (fun c30 => ?_)
  ·
    have b31 : q_F (4 ≤ lx7.toInt) := (q_leI c30)
    exact q_retv C0 V (⟨hI, hF, lx8, lx9, hO16, hO17, (show t0_0.toInt + 4 ≤ lx8.toInt from (by have t1 : lx7.toInt + t0_0.toInt ≤ lx8.toInt := i13; have t2 : 4 ≤ lx7.toInt := b31; omega)), (show lx8.toInt ≤ t0_0.toInt + 4 from (by have t1 : lx7.toInt ≤ 4 := i10; have t2 : lx8.toInt ≤ lx7.toInt + t0_0.toInt := i12; omega)), (show (lx8, lx9) = (F_She_addText_15 R N K t0_0 t1_0) from Eq.trans (by rw [F_She_addText_15_L2.eq_2, if_pos c30]) hR18)⟩) d_11_4_25
  ·
    have b32 : q_F (lx7.toInt < 4) := (q_nleI c30)
    refine lv_aload_n hx hb d_11_4_10 rfl (lv_at hl 1 rfl) ?_
    refine lv_aload_n hx hb d_11_4_11 rfl (lv_at hl 2 rfl) ?_
    refine lv_iload_n hx hb d_11_4_12 rfl (lv_at hl 0 rfl) ?_
    refine q_goi V (q_runVs (As := [.int lx7]) (rest := [.ref (q k1)]) (d := 4) (mc := 0) (ms := 0) (i := 15) C0 V rfl LV_She_30 (X_jStr_charAt_15 l D g q w15  lx7 hI  (by have t1 : t0_0.toInt ≤ lx7.toInt + lx8.toInt := i11; have t2 : lx8.toInt ≤ lx7.toInt + t0_0.toInt := i12; omega) (by have t1 : lx7.toInt < 4 := b32; omega) _) rfl rfl rfl hl.1 rfl (Nat.le_of_ble_eq_true rfl) ⟨by decide, by decide⟩ ⟨Nat.le_of_ble_eq_true rfl, Nat.le_of_ble_eq_true rfl⟩ d_11_4_13) (fun a35 u33 H locs hp34 V => ?_)
    obtain ⟨rfl, b36, b37, hE38⟩ := hp34
    have e39 : a35 = (F_jStr_charAt_15 lx7) := hE38
    replace b36 : q_F (0 ≤ a35.toInt) := b36
    replace b37 : q_F (a35.toInt ≤ 255) := b37
    refine q_gov V (q_runV (As := [.int a35]) (rest := []) (d := 1) (mc := 0) (ms := 0) (ci := 1) C0 V rfl LV_She_34 (X_She_add_p l D g q w15 k1 R N K hB1 a35 hI lx8 hO16 lx9 hO17 (by have t1 : t0_0.toInt + 20 ≤ K.toInt := pre0; have t2 : lx7.toInt ≤ 4 := i10; have t3 : lx8.toInt ≤ lx7.toInt + t0_0.toInt := i12; omega) _) rfl rfl hO16 rfl hl.1 rfl (Nat.le_of_ble_eq_true rfl) ⟨by decide, by decide⟩ ⟨Nat.le_of_ble_eq_true rfl, Nat.le_of_ble_eq_true rfl⟩ d_11_4_16) (fun u40 H locs hp41 V => ?_)
    obtain ⟨hI, hu49, y43, f44, hO42, hA45, b46, b47, hE48⟩ := hp41
    replace hO42 : u40[k1]? = (some (q k1, .inr (1, [.ref (q (k1 + 1)), .int R, .int y43])) : Option (Nat × va_E)) := hO42
    replace hA45 : u40[k1 + 1]? = (some (q (k1 + 1), .inl (g 1, N.toNatClampNeg, .inr (.inl f44))) : Option (Nat × va_E)) := hA45
    obtain ⟨p50, e51⟩ : ∃ z, z = (F_She_add_p R N K a35 lx8 lx9) := ⟨_, rfl⟩
    have e52 : y43 = p50.1 := congrArg (fun z => z.1) (hE48.trans e51.symm)
    have e53 : f44 = p50.2 := congrArg (fun z => z.2) (hE48.trans e51.symm)
    replace b46 : q_F (lx8.toInt + 1 ≤ y43.toInt) := b46
    replace b47 : q_F (y43.toInt ≤ lx8.toInt + 1) := b47
    replace hF := q_uc hF hu49 (by simp)
    have hR54 := (show F_She_addText_15_c16 (F_She_addText_15_L2 R N K t0_0 t1_0 fm22) R N K t0_0 t1_0 lx7 lx8 lx9 p50 = (F_She_addText_15 R N K t0_0 t1_0) from Eq.trans (by rw [e51, e39, F_She_addText_15_L2.eq_2, if_neg c30]) hR18)
    obtain ⟨a59, e60⟩ := q_nm (lx7 + 1 : Int32)
    have b61 : q_F (a59.toInt = lx7.toInt + 1) := (by rw [← e60]; exact q_addI (y := 1) rfl (by decide) (by have t1 : t0_0.toInt ≤ lx7.toInt + lx8.toInt := i11; have t2 : lx8.toInt ≤ lx7.toInt + t0_0.toInt := i12; have t3 : lx7.toInt ≤ 4 := i10; omega) (by have t1 : t0_0.toInt ≤ lx7.toInt + lx8.toInt := i11; have t2 : lx8.toInt ≤ lx7.toInt + t0_0.toInt := i12; have t3 : lx7.toInt ≤ 4 := i10; omega))
    refine lv_iinc (v := a59) (lv' := [(2, .int a59), (0, .ref (q k1)), (1, .ref (g (8 + 2 * 15)))]) hx hb d_11_4_19 hl (k := 0) rfl (e60) (by decide) rfl (fun ls hl => ?_)
    refine lv_goto (tgt := 2) hx hb d_11_4_22 (by decide) ?_
    exact ih14 ((a59 : Int32), (y43 : Int32), (f44 : (Nat → Int64))) _ _ _ _ (show (4 - a59.toInt).toNat < (4 - lx7.toInt).toNat from by have t1 : a59.toInt = lx7.toInt + 1 := b61; have t2 : lx7.toInt ≤ 4 := i10; have t3 : lx7.toInt < 4 := b32; omega) ⟨(show q_F (a59.toInt ≤ 4) from (show a59.toInt ≤ 4 from by have t1 : lx7.toInt < 4 := b32; have t2 : a59.toInt = lx7.toInt + 1 := b61; omega)), (show q_F (t0_0.toInt ≤ a59.toInt + y43.toInt) from (show t0_0.toInt ≤ a59.toInt + y43.toInt from by have t1 : t0_0.toInt ≤ lx7.toInt + lx8.toInt := i11; have t2 : lx8.toInt + 1 ≤ y43.toInt := b46; have t3 : a59.toInt = lx7.toInt + 1 := b61; omega)), (show q_F (y43.toInt ≤ a59.toInt + t0_0.toInt) from (show y43.toInt ≤ a59.toInt + t0_0.toInt from by have t1 : lx8.toInt ≤ lx7.toInt + t0_0.toInt := i12; have t2 : y43.toInt ≤ lx8.toInt + 1 := b47; have t3 : a59.toInt = lx7.toInt + 1 := b61; omega)), (show q_F (a59.toInt + t0_0.toInt ≤ y43.toInt) from (show a59.toInt + t0_0.toInt ≤ y43.toInt from by have t1 : lx7.toInt + t0_0.toInt ≤ lx8.toInt := i13; have t2 : lx8.toInt + 1 ≤ y43.toInt := b46; have t3 : a59.toInt = lx7.toInt + 1 := b61; omega)), V, q_lw hl (q_lw1 0 rfl (q_lw1 1 rfl (q_lw1 2 rfl q_lw0))), hI, hF, hO42, hA45, ⟨fm22, Nat.lt_of_lt_of_le (show (4 - a59.toInt).toNat < (4 - lx7.toInt).toNat from by have t1 : a59.toInt = lx7.toInt + 1 := b61; have t2 : lx7.toInt ≤ 4 := i10; have t3 : lx7.toInt < 4 := b32; omega) (Nat.le_of_lt_succ hf21), (show F_She_addText_15_L2 R N K t0_0 t1_0 fm22 a59 y43 f44 = (F_She_addText_15 R N K t0_0 t1_0) from Eq.trans (by rw [← e60, e53, e52, F_She_addText_15_c16.eq_1]) hR54)⟩⟩
def F_jStr_length_17 : Int32 := (1 : Int32)
set_option maxRecDepth 100000 in
set_option maxHeartbeats 4000000 in
theorem X_jStr_length_17 (l : Launch) (D : va_G) (g : Nat → ClassId) (q : Nat → Nat) (ws : va_W) (hI : q_I (nsh g q) q ws) : q_mI l y_jStr_length prog_31_method_54_code 1 (.int) 2 0 0 D g [.ref (g (8 + 2 * 17))] ws (fun r u => ws = u ∧ (1 ≤ r.toInt) ∧ (r.toInt ≤ 1) ∧ r = (F_jStr_length_17)) := by
  intro sz
  refine q_into (by decide) (Nat.le_of_ble_eq_true rfl) ?_
  intro p e s m below meth c ls hsz C0 V hl
  have hx := C0.1
  have hb := C0.2.1
  have hl : lv_has ls 1 [(0, .ref (g (8 + 2 * 17)))] := hl
  refine lv_aload_n hx hb d_31_54_0 rfl (lv_at hl 0 rfl) ?_
  refine q_sval (i := 17) C0 V rfl rfl w_1018 d_31_54_1 ?_
  refine q_slen (i := 17) (v := 1) C0 V rfl (by decide) d_31_54_4 ?_
  refine lv_aload_n hx hb d_31_54_5 rfl (lv_at hl 0 rfl) ?_
  refine q_goi V (q_runVs (As := []) (rest := [.int 1]) (d := 1) (mc := 0) (ms := 0) (i := 17) C0 V rfl LV_jStr_335 (T_jStr_coder_17 l D g q ws   hI   _) rfl rfl rfl hl.1 rfl (Nat.le_of_ble_eq_true rfl) ⟨by decide, by decide⟩ ⟨Nat.le_of_ble_eq_true rfl, Nat.le_of_ble_eq_true rfl⟩ d_31_54_6) (fun a3 u1 H locs hp2 V => ?_)
  obtain ⟨rfl, b4, b5⟩ := hp2
  replace b4 : q_F (0 ≤ a3.toInt) := b4
  replace b5 : q_F (a3.toInt ≤ 0) := b5
  obtain rfl : a3 = (0 : Int32) := q_Ieq (x := a3.toInt) (y := 0) rfl (by decide) (by have t1 : 0 ≤ a3.toInt := b4; have t2 : a3.toInt ≤ 0 := b5; omega)
  refine lv_ishr hx hb d_31_54_9 ?_
  refine q_ti (v := 1) (by decide) ?_
  exact q_reti C0 V (⟨rfl, (show 1 ≤ (1 : Int32).toInt from (by have z0 : (1 : Int32).toInt = 1 := rfl; omega)), (show (1 : Int32).toInt ≤ 1 from (by have z0 : (1 : Int32).toInt = 1 := rfl; omega)), (show (1 : Int32) = (F_jStr_length_17) from (by rw [F_jStr_length_17.eq_1]))⟩) d_31_54_10
def F_jLat_charAt_17 (x2 : Int32) : Int32 := (((((([48] : List Int32).getD x2.toNatClampNeg 0) : Int32) &&& 255 : Int32).toUInt32 % 65536).toInt32 : Int32)
set_option maxRecDepth 100000 in
set_option maxHeartbeats 4000000 in
theorem X_jLat_charAt_17 (l : Launch) (D : va_G) (g : Nat → ClassId) (q : Nat → Nat) (ws : va_W) (x2 : Int32) (hI : q_I (nsh g q) q ws) (pre0 : 0 ≤ x2.toInt) (pre1 : x2.toInt ≤ 0) : q_mI l y_jLat_charAt prog_33_method_2_code 2 (.char) 3 0 0 D g [.ref (g (9 + 2 * 17)), .int x2] ws (fun r u => ws = u ∧ (x2.toInt ≤ r.toInt) ∧ (r.toInt ≤ x2.toInt + 255) ∧ r = (F_jLat_charAt_17 x2)) := by
  intro sz
  refine q_into (by decide) (Nat.le_of_ble_eq_true rfl) ?_
  intro p e s m below meth c ls hsz C0 V hl
  have hx := C0.1
  have hb := C0.2.1
  replace pre0 : q_F (0 ≤ x2.toInt) := pre0
  replace pre1 : q_F (x2.toInt ≤ 0) := pre1
  have hl : lv_has ls 2 [(0, .ref (g (9 + 2 * 17))), (1, .int x2)] := hl
  refine lv_iload_n hx hb d_33_2_0 rfl (lv_at hl 1 rfl) ?_
  refine lv_aload_n hx hb d_33_2_1 rfl (lv_at hl 0 rfl) ?_
  refine q_slen (i := 17) (v := 1) C0 V rfl (by decide) d_33_2_2 ?_
  refine q_gov V (q_runS (As := [.int x2, .int 1]) (rest := []) (d := 2) (mc := 0) (ms := 0) C0 V rfl LS_jLat_9 (T_jStr_checkIndex l D g q ws  x2 1 hI  (by have y0 : (1 : Int32).toInt = 1 := rfl; have t1 : 0 ≤ x2.toInt := pre0; omega) (by have y0 : (1 : Int32).toInt = 1 := rfl; have t1 : x2.toInt ≤ 0 := pre1; omega) _) rfl hl.1 rfl (Nat.le_of_ble_eq_true rfl) ⟨by decide, by decide⟩ ⟨Nat.le_of_ble_eq_true rfl, Nat.le_of_ble_eq_true rfl⟩ d_33_2_3) (fun u1 H locs hp2 V => ?_)
  obtain ⟨rfl, -⟩ := hp2
  refine lv_aload_n hx hb d_33_2_6 rfl (lv_at hl 0 rfl) ?_
  refine lv_iload_n hx hb d_33_2_7 rfl (lv_at hl 1 rfl) ?_
  refine q_sbal (i := 17) (v := (([48] : List Int32).getD x2.toNatClampNeg 0)) C0 V rfl (show vp_in x2 1 from q_ix (x := x2.toInt) rfl (by have t1 : 0 ≤ x2.toInt := pre0; omega) (by have t1 : 0 ≤ x2.toInt := pre0; have t2 : x2.toInt ≤ 0 := pre1; omega)) rfl d_33_2_8 ?_
  obtain ⟨a4, e5⟩ := q_nm ((([48] : List Int32).getD x2.toNatClampNeg 0) : Int32)
  refine q_ti (v := a4) e5 ?_
  refine lv_sipush (v := 255) hx hb d_33_2_9 (by decide) ?_
  refine lv_iand hx hb d_33_2_12 ?_
  obtain ⟨a6, e7⟩ := q_nm (a4 &&& 255 : Int32)
  refine q_ti (v := a6) e7 ?_
  have b8 : q_F (0 ≤ a6.toInt ∧ a6.toInt ≤ 255) := (by rw [← e7]; show 0 ≤ (a4 &&& 255 : Int32).toInt ∧ (a4 &&& 255 : Int32).toInt ≤ 255; exact s_and (by decide))
  refine lv_i2c hx hb d_33_2_13 rfl ?_
  obtain ⟨a9, e10⟩ := q_nm ((a6.toUInt32 % 65536).toInt32 : Int32)
  refine q_ti (v := a9) e10 ?_
  have b11 : q_F (a9.toInt = a6.toInt) := (by rw [← e10]; show ((a6.toUInt32 % 65536).toInt32 : Int32).toInt = a6.toInt; exact (n_i2c (x := a6)).2.2 (by have t1 : 0 ≤ a6.toInt ∧ a6.toInt ≤ 255 := b8; omega) (by have t1 : 0 ≤ a6.toInt ∧ a6.toInt ≤ 255 := b8; omega))
  exact q_retn C0 V (n_chr (by have t1 : 0 ≤ a6.toInt ∧ a6.toInt ≤ 255 := b8; have t2 : a9.toInt = a6.toInt := b11; omega) (by have t1 : 0 ≤ a6.toInt ∧ a6.toInt ≤ 255 := b8; have t2 : a9.toInt = a6.toInt := b11; omega)) (⟨rfl, (show x2.toInt ≤ a9.toInt from (by have t1 : x2.toInt ≤ 0 := pre1; have t2 : 0 ≤ a6.toInt ∧ a6.toInt ≤ 255 := b8; have t3 : a9.toInt = a6.toInt := b11; omega)), (show a9.toInt ≤ x2.toInt + 255 from (by have t1 : 0 ≤ x2.toInt := pre0; have t2 : 0 ≤ a6.toInt ∧ a6.toInt ≤ 255 := b8; have t3 : a9.toInt = a6.toInt := b11; omega)), (show a9 = (F_jLat_charAt_17 x2) from (by rw [← e10, ← e7, ← e5, F_jLat_charAt_17.eq_1]))⟩) d_33_2_14
def F_jStr_charAt_17 (x2 : Int32) : Int32 := ((F_jLat_charAt_17 x2) : Int32)
set_option maxRecDepth 100000 in
set_option maxHeartbeats 4000000 in
theorem X_jStr_charAt_17 (l : Launch) (D : va_G) (g : Nat → ClassId) (q : Nat → Nat) (ws : va_W) (x2 : Int32) (hI : q_I (nsh g q) q ws) (pre0 : 0 ≤ x2.toInt) (pre1 : x2.toInt ≤ 0) : q_mI l y_jStr_charAt prog_31_method_56_code 2 (.char) 4 0 0 D g [.ref (g (8 + 2 * 17)), .int x2] ws (fun r u => ws = u ∧ (x2.toInt ≤ r.toInt) ∧ (r.toInt ≤ x2.toInt + 255) ∧ r = (F_jStr_charAt_17 x2)) := by
  intro sz
  refine q_into (by decide) (Nat.le_of_ble_eq_true rfl) ?_
  intro p e s m below meth c ls hsz C0 V hl
  have hx := C0.1
  have hb := C0.2.1
  replace pre0 : q_F (0 ≤ x2.toInt) := pre0
  replace pre1 : q_F (x2.toInt ≤ 0) := pre1
  have hl : lv_has ls 2 [(0, .ref (g (8 + 2 * 17))), (1, .int x2)] := hl
  refine lv_aload_n hx hb d_31_56_0 rfl (lv_at hl 0 rfl) ?_
  refine q_goi V (q_runVs (As := []) (rest := []) (d := 1) (mc := 0) (ms := 0) (i := 17) C0 V rfl LV_jStr_492 (T_jStr_isLatin1_17 l D g q ws   hI   _) rfl rfl rfl hl.1 rfl (Nat.le_of_ble_eq_true rfl) ⟨by decide, by decide⟩ ⟨Nat.le_of_ble_eq_true rfl, Nat.le_of_ble_eq_true rfl⟩ d_31_56_1) (fun a3 u1 H locs hp2 V => ?_)
  obtain ⟨rfl, b4, b5⟩ := hp2
  replace b4 : q_F (1 ≤ a3.toInt) := b4
  replace b5 : q_F (a3.toInt ≤ 1) := b5
  obtain rfl : a3 = (1 : Int32) := q_Ieq (x := a3.toInt) (y := 1) rfl (by decide) (by have t1 : 1 ≤ a3.toInt := b4; have t2 : a3.toInt ≤ 1 := b5; omega)
  refine lv_if_eq (tgt := 16) hx hb d_31_56_4 (by decide) (fun c7 => absurd c7 (by decide)) (fun c7 => ?_)
  refine lv_aload_n hx hb d_31_56_7 rfl (lv_at hl 0 rfl) ?_
  refine q_sval (i := 17) C0 V rfl rfl w_1018 d_31_56_8 ?_
  refine lv_iload_n hx hb d_31_56_11 rfl (lv_at hl 1 rfl) ?_
  refine q_goi V (q_runS (As := [.ref (g (9 + 2 * 17)), .int x2]) (rest := []) (d := 3) (mc := 0) (ms := 0) C0 V rfl LS_jStr_495 (X_jLat_charAt_17 l D g q ws  x2 hI  (by have t1 : 0 ≤ x2.toInt := pre0; omega) (by have t1 : x2.toInt ≤ 0 := pre1; omega) _) rfl hl.1 rfl (Nat.le_of_ble_eq_true rfl) ⟨by decide, by decide⟩ ⟨Nat.le_of_ble_eq_true rfl, Nat.le_of_ble_eq_true rfl⟩ d_31_56_12) (fun a10 u8 H locs hp9 V => ?_)
  obtain ⟨rfl, b11, b12, hE13⟩ := hp9
  have e14 : a10 = (F_jLat_charAt_17 x2) := hE13
  replace b11 : q_F (x2.toInt ≤ a10.toInt) := b11
  replace b12 : q_F (a10.toInt ≤ x2.toInt + 255) := b12
  exact q_retn C0 V (n_chr (by have t1 : 0 ≤ x2.toInt := pre0; have t2 : x2.toInt ≤ a10.toInt := b11; omega) (by have t1 : x2.toInt ≤ 0 := pre1; have t2 : a10.toInt ≤ x2.toInt + 255 := b12; omega)) (⟨rfl, (show x2.toInt ≤ a10.toInt from (by have t1 : x2.toInt ≤ a10.toInt := b11; omega)), (show a10.toInt ≤ x2.toInt + 255 from (by have t1 : a10.toInt ≤ x2.toInt + 255 := b12; omega)), (show a10 = (F_jStr_charAt_17 x2) from (by rw [e14, F_jStr_charAt_17.eq_1]))⟩) d_31_56_15
def F_She_addText_17_c16 (K_F_She_addText_17_L2 : Int32 → Int32 → (Nat → Int64) → (Int32 × (Nat → Int64))) (R : Int32) (N : Int32) (K : Int32) (t0_0 : Int32) (t1_0 : (Nat → Int64)) (lx7 : Int32) (lx8 : Int32) (lx9 : (Nat → Int64)) (p50 : (Int32 × (Nat → Int64))) : Int32 × (Nat → Int64) := K_F_She_addText_17_L2 (lx7 + 1 : Int32) (p50.1 : Int32) (p50.2 : (Nat → Int64))
def F_She_addText_17_L2 (R : Int32) (N : Int32) (K : Int32) (t0_0 : Int32) (t1_0 : (Nat → Int64)) : Nat → Int32 → Int32 → (Nat → Int64) → (Int32 × (Nat → Int64))
  | 0, _, _, _ => default
  | fm + 1, lx7, lx8, lx9 => if (1 : Int32) ≤ lx7 then ((lx8, lx9)) else (F_She_addText_17_c16 (F_She_addText_17_L2 R N K t0_0 t1_0 fm) R N K t0_0 t1_0 lx7 lx8 lx9 ((F_She_add_p R N K ((F_jStr_charAt_17 lx7) : Int32) lx8 lx9) : (Int32 × (Nat → Int64))))
def F_She_addText_17 (R : Int32) (N : Int32) (K : Int32) (t0_0 : Int32) (t1_0 : (Nat → Int64)) : Int32 × (Nat → Int64) := F_She_addText_17_L2 R N K t0_0 t1_0 ((1 - (0 : Int32).toInt).toNat + 1) 0 t0_0 t1_0
set_option maxRecDepth 100000 in
set_option maxHeartbeats 4000000 in
theorem X_She_addText_17 (l : Launch) (D : va_G) (g : Nat → ClassId) (q : Nat → Nat) (ws : va_W) (k1 : Nat) (R N K : Int32) (hB1 : q_isShe (nsh g q) g q k1 R N K) (hI : q_I (nsh g q) q ws) (t0_0 : Int32) (hT0 : ws[k1]? = (some (q k1, .inr (1, [.ref (q (k1 + 1)), .int R, .int t0_0])) : Option (Nat × va_E))) (t1_0 : (Nat → Int64)) (hT1 : ws[k1 + 1]? = (some (q (k1 + 1), .inl (g 1, N.toNatClampNeg, .inr (.inl t1_0))) : Option (Nat × va_E))) (pre0 : t0_0.toInt + 20 ≤ K.toInt) : q_mV l y_She_addText prog_11_method_4_code 3 5 0 0 D g [.ref (q k1), .ref (g (8 + 2 * 17))] ws (fun u => q_I (nsh g q) q u ∧ q_un ws u [k1, k1 + 1] ∧ ∃ (u0_0 : Int32) (u1_0 : (Nat → Int64)), u[k1]? = (some (q k1, .inr (1, [.ref (q (k1 + 1)), .int R, .int u0_0])) : Option (Nat × va_E)) ∧ u[k1 + 1]? = (some (q (k1 + 1), .inl (g 1, N.toNatClampNeg, .inr (.inl u1_0))) : Option (Nat × va_E)) ∧ (t0_0.toInt + 1 ≤ u0_0.toInt) ∧ (u0_0.toInt ≤ t0_0.toInt + 1) ∧ (u0_0, u1_0) = (F_She_addText_17 R N K t0_0 t1_0)) := by
  intro sz
  refine q_into (by decide) (Nat.le_of_ble_eq_true rfl) ?_
  intro p e s m below meth c ls hsz C0 V hl
  have hx := C0.1
  have hb := C0.2.1
  have hfk10 : q_F (0 ≤ R.toInt ∧ R.toInt ≤ 8 * N.toInt ∧ 0 ≤ N.toInt ∧ N.toInt ≤ 1376 ∧ 64 ≤ R.toInt ∧ 64 ≤ K.toInt ∧ K.toInt ≤ 1000000) := hB1.2.2.1
  obtain ⟨yy0_0, hh0, btt0_0⟩ := n_shO hI hB1
  obtain ⟨rfl⟩ : t0_0 = yy0_0 := by have z := Option.some.inj (hT0.symm.trans hh0); simpa using z
  replace btt0_0 : q_F (0 ≤ t0_0.toInt ∧ t0_0.toInt ≤ K.toInt) := btt0_0
  replace pre0 : q_F (t0_0.toInt + 20 ≤ K.toInt) := pre0
  have hF : q_un ws ws [k1, k1 + 1] := q_u0
  have hl : lv_has ls 3 [(0, .ref (q k1)), (1, .ref (g (8 + 2 * 17)))] := hl
  refine lv_iconst (v := 0) hx hb d_11_4_0 (by decide) ?_
  refine lv_istore_n (lv' := [(2, .int 0), (0, .ref (q k1)), (1, .ref (g (8 + 2 * 17)))]) hx hb d_11_4_1 rfl hl (by decide) rfl (fun ls hl => ?_)
  refine q_loop (X := Int32 × Int32 × (Nat → Int64)) (fun z H locs ls w15 => q_F (z.1.toInt ≤ 1) ∧ q_F (t0_0.toInt ≤ z.1.toInt + z.2.1.toInt) ∧ q_F (z.2.1.toInt ≤ z.1.toInt + t0_0.toInt) ∧ q_F (z.1.toInt + t0_0.toInt ≤ z.2.1.toInt) ∧ q_Wd D g (va_A ws sz) s w15 H locs ∧ lv_has ls 3 [(2, .int z.1), (0, .ref (q k1)), (1, .ref (g (8 + 2 * 17)))] ∧ q_I (nsh g q) q w15 ∧ q_un ws w15 [k1, k1 + 1] ∧ w15[k1]? = (some (q k1, .inr (1, [.ref (q (k1 + 1)), .int R, .int z.2.1])) : Option (Nat × va_E)) ∧ w15[k1 + 1]? = (some (q (k1 + 1), .inl (g 1, N.toNatClampNeg, .inr (.inl z.2.2))) : Option (Nat × va_E)) ∧ (∃ n, (1 - z.1.toInt).toNat < n ∧ F_She_addText_17_L2 R N K t0_0 t1_0 n z.1 z.2.1 z.2.2 = (F_She_addText_17 R N K t0_0 t1_0))) (fun z => (1 - z.1.toInt).toNat) ?_ ((0 : Int32), (t0_0 : Int32), (t1_0 : (Nat → Int64))) _ _ _ ws ⟨(show q_F (0 ≤ 1) from (show 0 ≤ 1 from by omega)), (show q_F (t0_0.toInt ≤ 0 + t0_0.toInt) from (show t0_0.toInt ≤ 0 + t0_0.toInt from by omega)), (show q_F (t0_0.toInt ≤ 0 + t0_0.toInt) from (show t0_0.toInt ≤ 0 + t0_0.toInt from by omega)), (show q_F (0 + t0_0.toInt ≤ t0_0.toInt) from (show 0 + t0_0.toInt ≤ t0_0.toInt from by omega)), V, q_lw hl (q_lw1 0 rfl (q_lw1 1 rfl (q_lw1 2 rfl q_lw0))), hI, hF, hT0, hT1, ⟨((1 - (0 : Int32).toInt).toNat + 1), Nat.lt_succ_self _, (show F_She_addText_17_L2 R N K t0_0 t1_0 ((1 - (0 : Int32).toInt).toNat + 1) 0 t0_0 t1_0 = (F_She_addText_17 R N K t0_0 t1_0) from (by rw [F_She_addText_17.eq_1]))⟩⟩
  rintro ⟨lx7, lx8, lx9⟩ H locs ls w15 ⟨i10, i11, i12, i13, V, hl, hI, hF, hO16, hO17, ⟨fu20, hf21, hR18⟩⟩ ih14
  obtain ⟨fm22, rfl⟩ : ∃ m, fu20 = m + 1 := ⟨fu20 - 1, by omega⟩
  replace i10 : q_F (lx7.toInt ≤ 1) := i10
  replace i11 : q_F (t0_0.toInt ≤ lx7.toInt + lx8.toInt) := i11
  replace i12 : q_F (lx8.toInt ≤ lx7.toInt + t0_0.toInt) := i12
  replace i13 : q_F (lx7.toInt + t0_0.toInt ≤ lx8.toInt) := i13
  replace hl : lv_has ls 3 [(2, .int lx7), (0, .ref (q k1)), (1, .ref (g (8 + 2 * 17)))] := hl
  replace hO16 : w15[k1]? = (some (q k1, .inr (1, [.ref (q (k1 + 1)), .int R, .int lx8])) : Option (Nat × va_E)) := hO16
  replace hO17 : w15[k1 + 1]? = (some (q (k1 + 1), .inl (g 1, N.toNatClampNeg, .inr (.inl lx9))) : Option (Nat × va_E)) := hO17
  refine lv_iload_n hx hb d_11_4_2 rfl (lv_at hl 0 rfl) ?_
  refine lv_aload_n hx hb d_11_4_3 rfl (lv_at hl 2 rfl) ?_
  refine q_goi V (q_runVs (As := []) (rest := [.int lx7]) (d := 2) (mc := 0) (ms := 0) (i := 17) C0 V rfl LV_She_24 (X_jStr_length_17 l D g q w15   hI   _) rfl rfl rfl hl.1 rfl (Nat.le_of_ble_eq_true rfl) ⟨by decide, by decide⟩ ⟨Nat.le_of_ble_eq_true rfl, Nat.le_of_ble_eq_true rfl⟩ d_11_4_4) (fun a25 u23 H locs hp24 V => ?_)
  obtain ⟨rfl, b26, b27, hE28⟩ := hp24
  have e29 : a25 = (F_jStr_length_17) := hE28
  replace b26 : q_F (1 ≤ a25.toInt) := b26
  replace b27 : q_F (a25.toInt ≤ 1) := b27
  obtain rfl : a25 = (1 : Int32) := q_Ieq (x := a25.toInt) (y := 1) rfl (by decide) (by have t1 : 1 ≤ a25.toInt := b26; have t2 : a25.toInt ≤ 1 := b27; omega)
  refine lv_icmp_ge (tgt := 25) hx hb d_11_4_7 (by decide) (fun c30 => ?_) (fun c30 => ?_)
  ·
    have b31 : q_F (1 ≤ lx7.toInt) := (q_leI c30)
    exact q_retv C0 V (⟨hI, hF, lx8, lx9, hO16, hO17, (show t0_0.toInt + 1 ≤ lx8.toInt from (by have t1 : lx7.toInt + t0_0.toInt ≤ lx8.toInt := i13; have t2 : 1 ≤ lx7.toInt := b31; omega)), (show lx8.toInt ≤ t0_0.toInt + 1 from (by have t1 : lx7.toInt ≤ 1 := i10; have t2 : lx8.toInt ≤ lx7.toInt + t0_0.toInt := i12; omega)), (show (lx8, lx9) = (F_She_addText_17 R N K t0_0 t1_0) from Eq.trans (by rw [F_She_addText_17_L2.eq_2, if_pos c30]) hR18)⟩) d_11_4_25
  ·
    have b32 : q_F (lx7.toInt < 1) := (q_nleI c30)
    refine lv_aload_n hx hb d_11_4_10 rfl (lv_at hl 1 rfl) ?_
    refine lv_aload_n hx hb d_11_4_11 rfl (lv_at hl 2 rfl) ?_
    refine lv_iload_n hx hb d_11_4_12 rfl (lv_at hl 0 rfl) ?_
    refine q_goi V (q_runVs (As := [.int lx7]) (rest := [.ref (q k1)]) (d := 4) (mc := 0) (ms := 0) (i := 17) C0 V rfl LV_She_30 (X_jStr_charAt_17 l D g q w15  lx7 hI  (by have t1 : t0_0.toInt ≤ lx7.toInt + lx8.toInt := i11; have t2 : lx8.toInt ≤ lx7.toInt + t0_0.toInt := i12; omega) (by have t1 : lx7.toInt < 1 := b32; omega) _) rfl rfl rfl hl.1 rfl (Nat.le_of_ble_eq_true rfl) ⟨by decide, by decide⟩ ⟨Nat.le_of_ble_eq_true rfl, Nat.le_of_ble_eq_true rfl⟩ d_11_4_13) (fun a35 u33 H locs hp34 V => ?_)
    obtain ⟨rfl, b36, b37, hE38⟩ := hp34
    have e39 : a35 = (F_jStr_charAt_17 lx7) := hE38
    replace b36 : q_F (lx7.toInt ≤ a35.toInt) := b36
    replace b37 : q_F (a35.toInt ≤ lx7.toInt + 255) := b37
    refine q_gov V (q_runV (As := [.int a35]) (rest := []) (d := 1) (mc := 0) (ms := 0) (ci := 1) C0 V rfl LV_She_34 (X_She_add_p l D g q w15 k1 R N K hB1 a35 hI lx8 hO16 lx9 hO17 (by have t1 : t0_0.toInt + 20 ≤ K.toInt := pre0; have t2 : lx7.toInt ≤ 1 := i10; have t3 : lx8.toInt ≤ lx7.toInt + t0_0.toInt := i12; omega) _) rfl rfl hO16 rfl hl.1 rfl (Nat.le_of_ble_eq_true rfl) ⟨by decide, by decide⟩ ⟨Nat.le_of_ble_eq_true rfl, Nat.le_of_ble_eq_true rfl⟩ d_11_4_16) (fun u40 H locs hp41 V => ?_)
    obtain ⟨hI, hu49, y43, f44, hO42, hA45, b46, b47, hE48⟩ := hp41
    replace hO42 : u40[k1]? = (some (q k1, .inr (1, [.ref (q (k1 + 1)), .int R, .int y43])) : Option (Nat × va_E)) := hO42
    replace hA45 : u40[k1 + 1]? = (some (q (k1 + 1), .inl (g 1, N.toNatClampNeg, .inr (.inl f44))) : Option (Nat × va_E)) := hA45
    obtain ⟨p50, e51⟩ : ∃ z, z = (F_She_add_p R N K a35 lx8 lx9) := ⟨_, rfl⟩
    have e52 : y43 = p50.1 := congrArg (fun z => z.1) (hE48.trans e51.symm)
    have e53 : f44 = p50.2 := congrArg (fun z => z.2) (hE48.trans e51.symm)
    replace b46 : q_F (lx8.toInt + 1 ≤ y43.toInt) := b46
    replace b47 : q_F (y43.toInt ≤ lx8.toInt + 1) := b47
    replace hF := q_uc hF hu49 (by simp)
    have hR54 := (show F_She_addText_17_c16 (F_She_addText_17_L2 R N K t0_0 t1_0 fm22) R N K t0_0 t1_0 lx7 lx8 lx9 p50 = (F_She_addText_17 R N K t0_0 t1_0) from Eq.trans (by rw [e51, e39, F_She_addText_17_L2.eq_2, if_neg c30]) hR18)
    obtain ⟨a59, e60⟩ := q_nm (lx7 + 1 : Int32)
    have b61 : q_F (a59.toInt = lx7.toInt + 1) := (by rw [← e60]; exact q_addI (y := 1) rfl (by decide) (by have t1 : t0_0.toInt ≤ lx7.toInt + lx8.toInt := i11; have t2 : lx8.toInt ≤ lx7.toInt + t0_0.toInt := i12; have t3 : lx7.toInt ≤ 1 := i10; omega) (by have t1 : t0_0.toInt ≤ lx7.toInt + lx8.toInt := i11; have t2 : lx8.toInt ≤ lx7.toInt + t0_0.toInt := i12; have t3 : lx7.toInt ≤ 1 := i10; omega))
    refine lv_iinc (v := a59) (lv' := [(2, .int a59), (0, .ref (q k1)), (1, .ref (g (8 + 2 * 17)))]) hx hb d_11_4_19 hl (k := 0) rfl (e60) (by decide) rfl (fun ls hl => ?_)
    refine lv_goto (tgt := 2) hx hb d_11_4_22 (by decide) ?_
    exact ih14 ((a59 : Int32), (y43 : Int32), (f44 : (Nat → Int64))) _ _ _ _ (show (1 - a59.toInt).toNat < (1 - lx7.toInt).toNat from by have t1 : a59.toInt = lx7.toInt + 1 := b61; have t2 : lx7.toInt ≤ 1 := i10; have t3 : lx7.toInt < 1 := b32; omega) ⟨(show q_F (a59.toInt ≤ 1) from (show a59.toInt ≤ 1 from by have t1 : lx7.toInt < 1 := b32; have t2 : a59.toInt = lx7.toInt + 1 := b61; omega)), (show q_F (t0_0.toInt ≤ a59.toInt + y43.toInt) from (show t0_0.toInt ≤ a59.toInt + y43.toInt from by have t1 : t0_0.toInt ≤ lx7.toInt + lx8.toInt := i11; have t2 : lx8.toInt + 1 ≤ y43.toInt := b46; have t3 : a59.toInt = lx7.toInt + 1 := b61; omega)), (show q_F (y43.toInt ≤ a59.toInt + t0_0.toInt) from (show y43.toInt ≤ a59.toInt + t0_0.toInt from by have t1 : lx8.toInt ≤ lx7.toInt + t0_0.toInt := i12; have t2 : y43.toInt ≤ lx8.toInt + 1 := b47; have t3 : a59.toInt = lx7.toInt + 1 := b61; omega)), (show q_F (a59.toInt + t0_0.toInt ≤ y43.toInt) from (show a59.toInt + t0_0.toInt ≤ y43.toInt from by have t1 : lx7.toInt + t0_0.toInt ≤ lx8.toInt := i13; have t2 : lx8.toInt + 1 ≤ y43.toInt := b46; have t3 : a59.toInt = lx7.toInt + 1 := b61; omega)), V, q_lw hl (q_lw1 0 rfl (q_lw1 1 rfl (q_lw1 2 rfl q_lw0))), hI, hF, hO42, hA45, ⟨fm22, Nat.lt_of_lt_of_le (show (1 - a59.toInt).toNat < (1 - lx7.toInt).toNat from by have t1 : a59.toInt = lx7.toInt + 1 := b61; have t2 : lx7.toInt ≤ 1 := i10; have t3 : lx7.toInt < 1 := b32; omega) (Nat.le_of_lt_succ hf21), (show F_She_addText_17_L2 R N K t0_0 t1_0 fm22 a59 y43 f44 = (F_She_addText_17 R N K t0_0 t1_0) from Eq.trans (by rw [← e60, e53, e52, F_She_addText_17_c16.eq_1]) hR54)⟩⟩
def F_jStr_length_18 : Int32 := (2 : Int32)
set_option maxRecDepth 100000 in
set_option maxHeartbeats 4000000 in
theorem X_jStr_length_18 (l : Launch) (D : va_G) (g : Nat → ClassId) (q : Nat → Nat) (ws : va_W) (hI : q_I (nsh g q) q ws) : q_mI l y_jStr_length prog_31_method_54_code 1 (.int) 2 0 0 D g [.ref (g (8 + 2 * 18))] ws (fun r u => ws = u ∧ (2 ≤ r.toInt) ∧ (r.toInt ≤ 2) ∧ r = (F_jStr_length_18)) := by
  intro sz
  refine q_into (by decide) (Nat.le_of_ble_eq_true rfl) ?_
  intro p e s m below meth c ls hsz C0 V hl
  have hx := C0.1
  have hb := C0.2.1
  have hl : lv_has ls 1 [(0, .ref (g (8 + 2 * 18)))] := hl
  refine lv_aload_n hx hb d_31_54_0 rfl (lv_at hl 0 rfl) ?_
  refine q_sval (i := 18) C0 V rfl rfl w_1018 d_31_54_1 ?_
  refine q_slen (i := 18) (v := 2) C0 V rfl (by decide) d_31_54_4 ?_
  refine lv_aload_n hx hb d_31_54_5 rfl (lv_at hl 0 rfl) ?_
  refine q_goi V (q_runVs (As := []) (rest := [.int 2]) (d := 1) (mc := 0) (ms := 0) (i := 18) C0 V rfl LV_jStr_335 (T_jStr_coder_18 l D g q ws   hI   _) rfl rfl rfl hl.1 rfl (Nat.le_of_ble_eq_true rfl) ⟨by decide, by decide⟩ ⟨Nat.le_of_ble_eq_true rfl, Nat.le_of_ble_eq_true rfl⟩ d_31_54_6) (fun a3 u1 H locs hp2 V => ?_)
  obtain ⟨rfl, b4, b5⟩ := hp2
  replace b4 : q_F (0 ≤ a3.toInt) := b4
  replace b5 : q_F (a3.toInt ≤ 0) := b5
  obtain rfl : a3 = (0 : Int32) := q_Ieq (x := a3.toInt) (y := 0) rfl (by decide) (by have t1 : 0 ≤ a3.toInt := b4; have t2 : a3.toInt ≤ 0 := b5; omega)
  refine lv_ishr hx hb d_31_54_9 ?_
  refine q_ti (v := 2) (by decide) ?_
  exact q_reti C0 V (⟨rfl, (show 2 ≤ (2 : Int32).toInt from (by have z0 : (2 : Int32).toInt = 2 := rfl; omega)), (show (2 : Int32).toInt ≤ 2 from (by have z0 : (2 : Int32).toInt = 2 := rfl; omega)), (show (2 : Int32) = (F_jStr_length_18) from (by rw [F_jStr_length_18.eq_1]))⟩) d_31_54_10
def F_jLat_charAt_18 (x2 : Int32) : Int32 := (((((([48, 120] : List Int32).getD x2.toNatClampNeg 0) : Int32) &&& 255 : Int32).toUInt32 % 65536).toInt32 : Int32)
set_option maxRecDepth 100000 in
set_option maxHeartbeats 4000000 in
theorem X_jLat_charAt_18 (l : Launch) (D : va_G) (g : Nat → ClassId) (q : Nat → Nat) (ws : va_W) (x2 : Int32) (hI : q_I (nsh g q) q ws) (pre0 : 0 ≤ x2.toInt) (pre1 : x2.toInt ≤ 1) : q_mI l y_jLat_charAt prog_33_method_2_code 2 (.char) 3 0 0 D g [.ref (g (9 + 2 * 18)), .int x2] ws (fun r u => ws = u ∧ (0 ≤ r.toInt) ∧ (r.toInt ≤ 255) ∧ r = (F_jLat_charAt_18 x2)) := by
  intro sz
  refine q_into (by decide) (Nat.le_of_ble_eq_true rfl) ?_
  intro p e s m below meth c ls hsz C0 V hl
  have hx := C0.1
  have hb := C0.2.1
  replace pre0 : q_F (0 ≤ x2.toInt) := pre0
  replace pre1 : q_F (x2.toInt ≤ 1) := pre1
  have hl : lv_has ls 2 [(0, .ref (g (9 + 2 * 18))), (1, .int x2)] := hl
  refine lv_iload_n hx hb d_33_2_0 rfl (lv_at hl 1 rfl) ?_
  refine lv_aload_n hx hb d_33_2_1 rfl (lv_at hl 0 rfl) ?_
  refine q_slen (i := 18) (v := 2) C0 V rfl (by decide) d_33_2_2 ?_
  refine q_gov V (q_runS (As := [.int x2, .int 2]) (rest := []) (d := 2) (mc := 0) (ms := 0) C0 V rfl LS_jLat_9 (T_jStr_checkIndex l D g q ws  x2 2 hI  (by have y0 : (2 : Int32).toInt = 2 := rfl; have t1 : 0 ≤ x2.toInt := pre0; omega) (by have y0 : (2 : Int32).toInt = 2 := rfl; have t1 : x2.toInt ≤ 1 := pre1; omega) _) rfl hl.1 rfl (Nat.le_of_ble_eq_true rfl) ⟨by decide, by decide⟩ ⟨Nat.le_of_ble_eq_true rfl, Nat.le_of_ble_eq_true rfl⟩ d_33_2_3) (fun u1 H locs hp2 V => ?_)
  obtain ⟨rfl, -⟩ := hp2
  refine lv_aload_n hx hb d_33_2_6 rfl (lv_at hl 0 rfl) ?_
  refine lv_iload_n hx hb d_33_2_7 rfl (lv_at hl 1 rfl) ?_
  refine q_sbal (i := 18) (v := (([48, 120] : List Int32).getD x2.toNatClampNeg 0)) C0 V rfl (show vp_in x2 2 from q_ix (x := x2.toInt) rfl (by have t1 : 0 ≤ x2.toInt := pre0; omega) (by have t1 : 0 ≤ x2.toInt := pre0; have t2 : x2.toInt ≤ 1 := pre1; omega)) rfl d_33_2_8 ?_
  obtain ⟨a4, e5⟩ := q_nm ((([48, 120] : List Int32).getD x2.toNatClampNeg 0) : Int32)
  refine q_ti (v := a4) e5 ?_
  refine lv_sipush (v := 255) hx hb d_33_2_9 (by decide) ?_
  refine lv_iand hx hb d_33_2_12 ?_
  obtain ⟨a6, e7⟩ := q_nm (a4 &&& 255 : Int32)
  refine q_ti (v := a6) e7 ?_
  have b8 : q_F (0 ≤ a6.toInt ∧ a6.toInt ≤ 255) := (by rw [← e7]; show 0 ≤ (a4 &&& 255 : Int32).toInt ∧ (a4 &&& 255 : Int32).toInt ≤ 255; exact s_and (by decide))
  refine lv_i2c hx hb d_33_2_13 rfl ?_
  obtain ⟨a9, e10⟩ := q_nm ((a6.toUInt32 % 65536).toInt32 : Int32)
  refine q_ti (v := a9) e10 ?_
  have b11 : q_F (a9.toInt = a6.toInt) := (by rw [← e10]; show ((a6.toUInt32 % 65536).toInt32 : Int32).toInt = a6.toInt; exact (n_i2c (x := a6)).2.2 (by have t1 : 0 ≤ a6.toInt ∧ a6.toInt ≤ 255 := b8; omega) (by have t1 : 0 ≤ a6.toInt ∧ a6.toInt ≤ 255 := b8; omega))
  exact q_retn C0 V (n_chr (by have t1 : 0 ≤ a6.toInt ∧ a6.toInt ≤ 255 := b8; have t2 : a9.toInt = a6.toInt := b11; omega) (by have t1 : 0 ≤ a6.toInt ∧ a6.toInt ≤ 255 := b8; have t2 : a9.toInt = a6.toInt := b11; omega)) (⟨rfl, (show 0 ≤ a9.toInt from (by have t1 : 0 ≤ a6.toInt ∧ a6.toInt ≤ 255 := b8; have t2 : a9.toInt = a6.toInt := b11; omega)), (show a9.toInt ≤ 255 from (by have t1 : 0 ≤ a6.toInt ∧ a6.toInt ≤ 255 := b8; have t2 : a9.toInt = a6.toInt := b11; omega)), (show a9 = (F_jLat_charAt_18 x2) from (by rw [← e10, ← e7, ← e5, F_jLat_charAt_18.eq_1]))⟩) d_33_2_14
def F_jStr_charAt_18 (x2 : Int32) : Int32 := ((F_jLat_charAt_18 x2) : Int32)
set_option maxRecDepth 100000 in
set_option maxHeartbeats 4000000 in
theorem X_jStr_charAt_18 (l : Launch) (D : va_G) (g : Nat → ClassId) (q : Nat → Nat) (ws : va_W) (x2 : Int32) (hI : q_I (nsh g q) q ws) (pre0 : 0 ≤ x2.toInt) (pre1 : x2.toInt ≤ 1) : q_mI l y_jStr_charAt prog_31_method_56_code 2 (.char) 4 0 0 D g [.ref (g (8 + 2 * 18)), .int x2] ws (fun r u => ws = u ∧ (0 ≤ r.toInt) ∧ (r.toInt ≤ 255) ∧ r = (F_jStr_charAt_18 x2)) := by
  intro sz
  refine q_into (by decide) (Nat.le_of_ble_eq_true rfl) ?_
  intro p e s m below meth c ls hsz C0 V hl
  have hx := C0.1
  have hb := C0.2.1
  replace pre0 : q_F (0 ≤ x2.toInt) := pre0
  replace pre1 : q_F (x2.toInt ≤ 1) := pre1
  have hl : lv_has ls 2 [(0, .ref (g (8 + 2 * 18))), (1, .int x2)] := hl
  refine lv_aload_n hx hb d_31_56_0 rfl (lv_at hl 0 rfl) ?_
  refine q_goi V (q_runVs (As := []) (rest := []) (d := 1) (mc := 0) (ms := 0) (i := 18) C0 V rfl LV_jStr_492 (T_jStr_isLatin1_18 l D g q ws   hI   _) rfl rfl rfl hl.1 rfl (Nat.le_of_ble_eq_true rfl) ⟨by decide, by decide⟩ ⟨Nat.le_of_ble_eq_true rfl, Nat.le_of_ble_eq_true rfl⟩ d_31_56_1) (fun a3 u1 H locs hp2 V => ?_)
  obtain ⟨rfl, b4, b5⟩ := hp2
  replace b4 : q_F (1 ≤ a3.toInt) := b4
  replace b5 : q_F (a3.toInt ≤ 1) := b5
  obtain rfl : a3 = (1 : Int32) := q_Ieq (x := a3.toInt) (y := 1) rfl (by decide) (by have t1 : 1 ≤ a3.toInt := b4; have t2 : a3.toInt ≤ 1 := b5; omega)
  refine lv_if_eq (tgt := 16) hx hb d_31_56_4 (by decide) (fun c7 => absurd c7 (by decide)) (fun c7 => ?_)
  refine lv_aload_n hx hb d_31_56_7 rfl (lv_at hl 0 rfl) ?_
  refine q_sval (i := 18) C0 V rfl rfl w_1018 d_31_56_8 ?_
  refine lv_iload_n hx hb d_31_56_11 rfl (lv_at hl 1 rfl) ?_
  refine q_goi V (q_runS (As := [.ref (g (9 + 2 * 18)), .int x2]) (rest := []) (d := 3) (mc := 0) (ms := 0) C0 V rfl LS_jStr_495 (X_jLat_charAt_18 l D g q ws  x2 hI  (by have t1 : 0 ≤ x2.toInt := pre0; omega) (by have t1 : x2.toInt ≤ 1 := pre1; omega) _) rfl hl.1 rfl (Nat.le_of_ble_eq_true rfl) ⟨by decide, by decide⟩ ⟨Nat.le_of_ble_eq_true rfl, Nat.le_of_ble_eq_true rfl⟩ d_31_56_12) (fun a10 u8 H locs hp9 V => ?_)
  obtain ⟨rfl, b11, b12, hE13⟩ := hp9
  have e14 : a10 = (F_jLat_charAt_18 x2) := hE13
  replace b11 : q_F (0 ≤ a10.toInt) := b11
  replace b12 : q_F (a10.toInt ≤ 255) := b12
  exact q_retn C0 V (n_chr (by have t1 : 0 ≤ a10.toInt := b11; omega) (by have t1 : a10.toInt ≤ 255 := b12; omega)) (⟨rfl, (show 0 ≤ a10.toInt from (by have t1 : 0 ≤ a10.toInt := b11; omega)), (show a10.toInt ≤ 255 from (by have t1 : a10.toInt ≤ 255 := b12; omega)), (show a10 = (F_jStr_charAt_18 x2) from (by rw [e14, F_jStr_charAt_18.eq_1]))⟩) d_31_56_15
def F_She_addText_18_c16 (K_F_She_addText_18_L2 : Int32 → Int32 → (Nat → Int64) → (Int32 × (Nat → Int64))) (R : Int32) (N : Int32) (K : Int32) (t0_0 : Int32) (t1_0 : (Nat → Int64)) (lx7 : Int32) (lx8 : Int32) (lx9 : (Nat → Int64)) (p50 : (Int32 × (Nat → Int64))) : Int32 × (Nat → Int64) := K_F_She_addText_18_L2 (lx7 + 1 : Int32) (p50.1 : Int32) (p50.2 : (Nat → Int64))
def F_She_addText_18_L2 (R : Int32) (N : Int32) (K : Int32) (t0_0 : Int32) (t1_0 : (Nat → Int64)) : Nat → Int32 → Int32 → (Nat → Int64) → (Int32 × (Nat → Int64))
  | 0, _, _, _ => default
  | fm + 1, lx7, lx8, lx9 => if (2 : Int32) ≤ lx7 then ((lx8, lx9)) else (F_She_addText_18_c16 (F_She_addText_18_L2 R N K t0_0 t1_0 fm) R N K t0_0 t1_0 lx7 lx8 lx9 ((F_She_add_p R N K ((F_jStr_charAt_18 lx7) : Int32) lx8 lx9) : (Int32 × (Nat → Int64))))
def F_She_addText_18 (R : Int32) (N : Int32) (K : Int32) (t0_0 : Int32) (t1_0 : (Nat → Int64)) : Int32 × (Nat → Int64) := F_She_addText_18_L2 R N K t0_0 t1_0 ((2 - (0 : Int32).toInt).toNat + 1) 0 t0_0 t1_0
set_option maxRecDepth 100000 in
set_option maxHeartbeats 4000000 in
theorem X_She_addText_18 (l : Launch) (D : va_G) (g : Nat → ClassId) (q : Nat → Nat) (ws : va_W) (k1 : Nat) (R N K : Int32) (hB1 : q_isShe (nsh g q) g q k1 R N K) (hI : q_I (nsh g q) q ws) (t0_0 : Int32) (hT0 : ws[k1]? = (some (q k1, .inr (1, [.ref (q (k1 + 1)), .int R, .int t0_0])) : Option (Nat × va_E))) (t1_0 : (Nat → Int64)) (hT1 : ws[k1 + 1]? = (some (q (k1 + 1), .inl (g 1, N.toNatClampNeg, .inr (.inl t1_0))) : Option (Nat × va_E))) (pre0 : t0_0.toInt + 20 ≤ K.toInt) : q_mV l y_She_addText prog_11_method_4_code 3 5 0 0 D g [.ref (q k1), .ref (g (8 + 2 * 18))] ws (fun u => q_I (nsh g q) q u ∧ q_un ws u [k1, k1 + 1] ∧ ∃ (u0_0 : Int32) (u1_0 : (Nat → Int64)), u[k1]? = (some (q k1, .inr (1, [.ref (q (k1 + 1)), .int R, .int u0_0])) : Option (Nat × va_E)) ∧ u[k1 + 1]? = (some (q (k1 + 1), .inl (g 1, N.toNatClampNeg, .inr (.inl u1_0))) : Option (Nat × va_E)) ∧ (t0_0.toInt + 2 ≤ u0_0.toInt) ∧ (u0_0.toInt ≤ t0_0.toInt + 2) ∧ (u0_0, u1_0) = (F_She_addText_18 R N K t0_0 t1_0)) := by
  intro sz
  refine q_into (by decide) (Nat.le_of_ble_eq_true rfl) ?_
  intro p e s m below meth c ls hsz C0 V hl
  have hx := C0.1
  have hb := C0.2.1
  have hfk10 : q_F (0 ≤ R.toInt ∧ R.toInt ≤ 8 * N.toInt ∧ 0 ≤ N.toInt ∧ N.toInt ≤ 1376 ∧ 64 ≤ R.toInt ∧ 64 ≤ K.toInt ∧ K.toInt ≤ 1000000) := hB1.2.2.1
  obtain ⟨yy0_0, hh0, btt0_0⟩ := n_shO hI hB1
  obtain ⟨rfl⟩ : t0_0 = yy0_0 := by have z := Option.some.inj (hT0.symm.trans hh0); simpa using z
  replace btt0_0 : q_F (0 ≤ t0_0.toInt ∧ t0_0.toInt ≤ K.toInt) := btt0_0
  replace pre0 : q_F (t0_0.toInt + 20 ≤ K.toInt) := pre0
  have hF : q_un ws ws [k1, k1 + 1] := q_u0
  have hl : lv_has ls 3 [(0, .ref (q k1)), (1, .ref (g (8 + 2 * 18)))] := hl
  refine lv_iconst (v := 0) hx hb d_11_4_0 (by decide) ?_
  refine lv_istore_n (lv' := [(2, .int 0), (0, .ref (q k1)), (1, .ref (g (8 + 2 * 18)))]) hx hb d_11_4_1 rfl hl (by decide) rfl (fun ls hl => ?_)
  refine q_loop (X := Int32 × Int32 × (Nat → Int64)) (fun z H locs ls w15 => q_F (z.1.toInt ≤ 2) ∧ q_F (t0_0.toInt ≤ z.1.toInt + z.2.1.toInt) ∧ q_F (z.2.1.toInt ≤ z.1.toInt + t0_0.toInt) ∧ q_F (z.1.toInt + t0_0.toInt ≤ z.2.1.toInt) ∧ q_Wd D g (va_A ws sz) s w15 H locs ∧ lv_has ls 3 [(2, .int z.1), (0, .ref (q k1)), (1, .ref (g (8 + 2 * 18)))] ∧ q_I (nsh g q) q w15 ∧ q_un ws w15 [k1, k1 + 1] ∧ w15[k1]? = (some (q k1, .inr (1, [.ref (q (k1 + 1)), .int R, .int z.2.1])) : Option (Nat × va_E)) ∧ w15[k1 + 1]? = (some (q (k1 + 1), .inl (g 1, N.toNatClampNeg, .inr (.inl z.2.2))) : Option (Nat × va_E)) ∧ (∃ n, (2 - z.1.toInt).toNat < n ∧ F_She_addText_18_L2 R N K t0_0 t1_0 n z.1 z.2.1 z.2.2 = (F_She_addText_18 R N K t0_0 t1_0))) (fun z => (2 - z.1.toInt).toNat) ?_ ((0 : Int32), (t0_0 : Int32), (t1_0 : (Nat → Int64))) _ _ _ ws ⟨(show q_F (0 ≤ 2) from (show 0 ≤ 2 from by omega)), (show q_F (t0_0.toInt ≤ 0 + t0_0.toInt) from (show t0_0.toInt ≤ 0 + t0_0.toInt from by omega)), (show q_F (t0_0.toInt ≤ 0 + t0_0.toInt) from (show t0_0.toInt ≤ 0 + t0_0.toInt from by omega)), (show q_F (0 + t0_0.toInt ≤ t0_0.toInt) from (show 0 + t0_0.toInt ≤ t0_0.toInt from by omega)), V, q_lw hl (q_lw1 0 rfl (q_lw1 1 rfl (q_lw1 2 rfl q_lw0))), hI, hF, hT0, hT1, ⟨((2 - (0 : Int32).toInt).toNat + 1), Nat.lt_succ_self _, (show F_She_addText_18_L2 R N K t0_0 t1_0 ((2 - (0 : Int32).toInt).toNat + 1) 0 t0_0 t1_0 = (F_She_addText_18 R N K t0_0 t1_0) from (by rw [F_She_addText_18.eq_1]))⟩⟩
  rintro ⟨lx7, lx8, lx9⟩ H locs ls w15 ⟨i10, i11, i12, i13, V, hl, hI, hF, hO16, hO17, ⟨fu20, hf21, hR18⟩⟩ ih14
  obtain ⟨fm22, rfl⟩ : ∃ m, fu20 = m + 1 := ⟨fu20 - 1, by omega⟩
  replace i10 : q_F (lx7.toInt ≤ 2) := i10
  replace i11 : q_F (t0_0.toInt ≤ lx7.toInt + lx8.toInt) := i11
  replace i12 : q_F (lx8.toInt ≤ lx7.toInt + t0_0.toInt) := i12
  replace i13 : q_F (lx7.toInt + t0_0.toInt ≤ lx8.toInt) := i13
  replace hl : lv_has ls 3 [(2, .int lx7), (0, .ref (q k1)), (1, .ref (g (8 + 2 * 18)))] := hl
  replace hO16 : w15[k1]? = (some (q k1, .inr (1, [.ref (q (k1 + 1)), .int R, .int lx8])) : Option (Nat × va_E)) := hO16
  replace hO17 : w15[k1 + 1]? = (some (q (k1 + 1), .inl (g 1, N.toNatClampNeg, .inr (.inl lx9))) : Option (Nat × va_E)) := hO17
  refine lv_iload_n hx hb d_11_4_2 rfl (lv_at hl 0 rfl) ?_
  refine lv_aload_n hx hb d_11_4_3 rfl (lv_at hl 2 rfl) ?_
  refine q_goi V (q_runVs (As := []) (rest := [.int lx7]) (d := 2) (mc := 0) (ms := 0) (i := 18) C0 V rfl LV_She_24 (X_jStr_length_18 l D g q w15   hI   _) rfl rfl rfl hl.1 rfl (Nat.le_of_ble_eq_true rfl) ⟨by decide, by decide⟩ ⟨Nat.le_of_ble_eq_true rfl, Nat.le_of_ble_eq_true rfl⟩ d_11_4_4) (fun a25 u23 H locs hp24 V => ?_)
  obtain ⟨rfl, b26, b27, hE28⟩ := hp24
  have e29 : a25 = (F_jStr_length_18) := hE28
  replace b26 : q_F (2 ≤ a25.toInt) := b26
  replace b27 : q_F (a25.toInt ≤ 2) := b27
  obtain rfl : a25 = (2 : Int32) := q_Ieq (x := a25.toInt) (y := 2) rfl (by decide) (by have t1 : 2 ≤ a25.toInt := b26; have t2 : a25.toInt ≤ 2 := b27; omega)
  refine lv_icmp_ge (tgt := 25) hx hb d_11_4_7 (by decide) (fun c30 => ?_) (fun c30 => ?_)
  ·
    have b31 : q_F (2 ≤ lx7.toInt) := (q_leI c30)
    exact q_retv C0 V (⟨hI, hF, lx8, lx9, hO16, hO17, (show t0_0.toInt + 2 ≤ lx8.toInt from (by have t1 : lx7.toInt + t0_0.toInt ≤ lx8.toInt := i13; have t2 : 2 ≤ lx7.toInt := b31; omega)), (show lx8.toInt ≤ t0_0.toInt + 2 from (by have t1 : lx7.toInt ≤ 2 := i10; have t2 : lx8.toInt ≤ lx7.toInt + t0_0.toInt := i12; omega)), (show (lx8, lx9) = (F_She_addText_18 R N K t0_0 t1_0) from Eq.trans (by rw [F_She_addText_18_L2.eq_2, if_pos c30]) hR18)⟩) d_11_4_25
  ·
    have b32 : q_F (lx7.toInt < 2) := (q_nleI c30)
    refine lv_aload_n hx hb d_11_4_10 rfl (lv_at hl 1 rfl) ?_
    refine lv_aload_n hx hb d_11_4_11 rfl (lv_at hl 2 rfl) ?_
    refine lv_iload_n hx hb d_11_4_12 rfl (lv_at hl 0 rfl) ?_
    refine q_goi V (q_runVs (As := [.int lx7]) (rest := [.ref (q k1)]) (d := 4) (mc := 0) (ms := 0) (i := 18) C0 V rfl LV_She_30 (X_jStr_charAt_18 l D g q w15  lx7 hI  (by have t1 : t0_0.toInt ≤ lx7.toInt + lx8.toInt := i11; have t2 : lx8.toInt ≤ lx7.toInt + t0_0.toInt := i12; omega) (by have t1 : lx7.toInt < 2 := b32; omega) _) rfl rfl rfl hl.1 rfl (Nat.le_of_ble_eq_true rfl) ⟨by decide, by decide⟩ ⟨Nat.le_of_ble_eq_true rfl, Nat.le_of_ble_eq_true rfl⟩ d_11_4_13) (fun a35 u33 H locs hp34 V => ?_)
    obtain ⟨rfl, b36, b37, hE38⟩ := hp34
    have e39 : a35 = (F_jStr_charAt_18 lx7) := hE38
    replace b36 : q_F (0 ≤ a35.toInt) := b36
    replace b37 : q_F (a35.toInt ≤ 255) := b37
    refine q_gov V (q_runV (As := [.int a35]) (rest := []) (d := 1) (mc := 0) (ms := 0) (ci := 1) C0 V rfl LV_She_34 (X_She_add_p l D g q w15 k1 R N K hB1 a35 hI lx8 hO16 lx9 hO17 (by have t1 : t0_0.toInt + 20 ≤ K.toInt := pre0; have t2 : lx7.toInt ≤ 2 := i10; have t3 : lx8.toInt ≤ lx7.toInt + t0_0.toInt := i12; omega) _) rfl rfl hO16 rfl hl.1 rfl (Nat.le_of_ble_eq_true rfl) ⟨by decide, by decide⟩ ⟨Nat.le_of_ble_eq_true rfl, Nat.le_of_ble_eq_true rfl⟩ d_11_4_16) (fun u40 H locs hp41 V => ?_)
    obtain ⟨hI, hu49, y43, f44, hO42, hA45, b46, b47, hE48⟩ := hp41
    replace hO42 : u40[k1]? = (some (q k1, .inr (1, [.ref (q (k1 + 1)), .int R, .int y43])) : Option (Nat × va_E)) := hO42
    replace hA45 : u40[k1 + 1]? = (some (q (k1 + 1), .inl (g 1, N.toNatClampNeg, .inr (.inl f44))) : Option (Nat × va_E)) := hA45
    obtain ⟨p50, e51⟩ : ∃ z, z = (F_She_add_p R N K a35 lx8 lx9) := ⟨_, rfl⟩
    have e52 : y43 = p50.1 := congrArg (fun z => z.1) (hE48.trans e51.symm)
    have e53 : f44 = p50.2 := congrArg (fun z => z.2) (hE48.trans e51.symm)
    replace b46 : q_F (lx8.toInt + 1 ≤ y43.toInt) := b46
    replace b47 : q_F (y43.toInt ≤ lx8.toInt + 1) := b47
    replace hF := q_uc hF hu49 (by simp)
    have hR54 := (show F_She_addText_18_c16 (F_She_addText_18_L2 R N K t0_0 t1_0 fm22) R N K t0_0 t1_0 lx7 lx8 lx9 p50 = (F_She_addText_18 R N K t0_0 t1_0) from Eq.trans (by rw [e51, e39, F_She_addText_18_L2.eq_2, if_neg c30]) hR18)
    obtain ⟨a59, e60⟩ := q_nm (lx7 + 1 : Int32)
    have b61 : q_F (a59.toInt = lx7.toInt + 1) := (by rw [← e60]; exact q_addI (y := 1) rfl (by decide) (by have t1 : t0_0.toInt ≤ lx7.toInt + lx8.toInt := i11; have t2 : lx8.toInt ≤ lx7.toInt + t0_0.toInt := i12; have t3 : lx7.toInt ≤ 2 := i10; omega) (by have t1 : t0_0.toInt ≤ lx7.toInt + lx8.toInt := i11; have t2 : lx8.toInt ≤ lx7.toInt + t0_0.toInt := i12; have t3 : lx7.toInt ≤ 2 := i10; omega))
    refine lv_iinc (v := a59) (lv' := [(2, .int a59), (0, .ref (q k1)), (1, .ref (g (8 + 2 * 18)))]) hx hb d_11_4_19 hl (k := 0) rfl (e60) (by decide) rfl (fun ls hl => ?_)
    refine lv_goto (tgt := 2) hx hb d_11_4_22 (by decide) ?_
    exact ih14 ((a59 : Int32), (y43 : Int32), (f44 : (Nat → Int64))) _ _ _ _ (show (2 - a59.toInt).toNat < (2 - lx7.toInt).toNat from by have t1 : a59.toInt = lx7.toInt + 1 := b61; have t2 : lx7.toInt ≤ 2 := i10; have t3 : lx7.toInt < 2 := b32; omega) ⟨(show q_F (a59.toInt ≤ 2) from (show a59.toInt ≤ 2 from by have t1 : lx7.toInt < 2 := b32; have t2 : a59.toInt = lx7.toInt + 1 := b61; omega)), (show q_F (t0_0.toInt ≤ a59.toInt + y43.toInt) from (show t0_0.toInt ≤ a59.toInt + y43.toInt from by have t1 : t0_0.toInt ≤ lx7.toInt + lx8.toInt := i11; have t2 : lx8.toInt + 1 ≤ y43.toInt := b46; have t3 : a59.toInt = lx7.toInt + 1 := b61; omega)), (show q_F (y43.toInt ≤ a59.toInt + t0_0.toInt) from (show y43.toInt ≤ a59.toInt + t0_0.toInt from by have t1 : lx8.toInt ≤ lx7.toInt + t0_0.toInt := i12; have t2 : y43.toInt ≤ lx8.toInt + 1 := b47; have t3 : a59.toInt = lx7.toInt + 1 := b61; omega)), (show q_F (a59.toInt + t0_0.toInt ≤ y43.toInt) from (show a59.toInt + t0_0.toInt ≤ y43.toInt from by have t1 : lx7.toInt + t0_0.toInt ≤ lx8.toInt := i13; have t2 : lx8.toInt + 1 ≤ y43.toInt := b46; have t3 : a59.toInt = lx7.toInt + 1 := b61; omega)), V, q_lw hl (q_lw1 0 rfl (q_lw1 1 rfl (q_lw1 2 rfl q_lw0))), hI, hF, hO42, hA45, ⟨fm22, Nat.lt_of_lt_of_le (show (2 - a59.toInt).toNat < (2 - lx7.toInt).toNat from by have t1 : a59.toInt = lx7.toInt + 1 := b61; have t2 : lx7.toInt ≤ 2 := i10; have t3 : lx7.toInt < 2 := b32; omega) (Nat.le_of_lt_succ hf21), (show F_She_addText_18_L2 R N K t0_0 t1_0 fm22 a59 y43 f44 = (F_She_addText_18 R N K t0_0 t1_0) from Eq.trans (by rw [← e60, e53, e52, F_She_addText_18_c16.eq_1]) hR54)⟩⟩
def F_She_addText_20_c16 (K_F_She_addText_20_L2 : Int32 → Int32 → (Nat → Int64) → (Int32 × (Nat → Int64))) (R : Int32) (N : Int32) (K : Int32) (t0_0 : Int32) (t1_0 : (Nat → Int64)) (lx7 : Int32) (lx8 : Int32) (lx9 : (Nat → Int64)) (p50 : (Int32 × (Nat → Int64))) : Int32 × (Nat → Int64) := K_F_She_addText_20_L2 (lx7 + 1 : Int32) (p50.1 : Int32) (p50.2 : (Nat → Int64))
def F_She_addText_20_L2 (R : Int32) (N : Int32) (K : Int32) (t0_0 : Int32) (t1_0 : (Nat → Int64)) : Nat → Int32 → Int32 → (Nat → Int64) → (Int32 × (Nat → Int64))
  | 0, _, _, _ => default
  | fm + 1, lx7, lx8, lx9 => if (3 : Int32) ≤ lx7 then ((lx8, lx9)) else (F_She_addText_20_c16 (F_She_addText_20_L2 R N K t0_0 t1_0 fm) R N K t0_0 t1_0 lx7 lx8 lx9 ((F_She_add_p R N K ((F_jStr_charAt_20 lx7) : Int32) lx8 lx9) : (Int32 × (Nat → Int64))))
def F_She_addText_20 (R : Int32) (N : Int32) (K : Int32) (t0_0 : Int32) (t1_0 : (Nat → Int64)) : Int32 × (Nat → Int64) := F_She_addText_20_L2 R N K t0_0 t1_0 ((3 - (0 : Int32).toInt).toNat + 1) 0 t0_0 t1_0
set_option maxRecDepth 100000 in
set_option maxHeartbeats 4000000 in
theorem X_She_addText_20 (l : Launch) (D : va_G) (g : Nat → ClassId) (q : Nat → Nat) (ws : va_W) (k1 : Nat) (R N K : Int32) (hB1 : q_isShe (nsh g q) g q k1 R N K) (hI : q_I (nsh g q) q ws) (t0_0 : Int32) (hT0 : ws[k1]? = (some (q k1, .inr (1, [.ref (q (k1 + 1)), .int R, .int t0_0])) : Option (Nat × va_E))) (t1_0 : (Nat → Int64)) (hT1 : ws[k1 + 1]? = (some (q (k1 + 1), .inl (g 1, N.toNatClampNeg, .inr (.inl t1_0))) : Option (Nat × va_E))) (pre0 : t0_0.toInt + 20 ≤ K.toInt) : q_mV l y_She_addText prog_11_method_4_code 3 5 0 0 D g [.ref (q k1), .ref (g (8 + 2 * 20))] ws (fun u => q_I (nsh g q) q u ∧ q_un ws u [k1, k1 + 1] ∧ ∃ (u0_0 : Int32) (u1_0 : (Nat → Int64)), u[k1]? = (some (q k1, .inr (1, [.ref (q (k1 + 1)), .int R, .int u0_0])) : Option (Nat × va_E)) ∧ u[k1 + 1]? = (some (q (k1 + 1), .inl (g 1, N.toNatClampNeg, .inr (.inl u1_0))) : Option (Nat × va_E)) ∧ (t0_0.toInt + 3 ≤ u0_0.toInt) ∧ (u0_0.toInt ≤ t0_0.toInt + 3) ∧ (u0_0, u1_0) = (F_She_addText_20 R N K t0_0 t1_0)) := by
  intro sz
  refine q_into (by decide) (Nat.le_of_ble_eq_true rfl) ?_
  intro p e s m below meth c ls hsz C0 V hl
  have hx := C0.1
  have hb := C0.2.1
  have hfk10 : q_F (0 ≤ R.toInt ∧ R.toInt ≤ 8 * N.toInt ∧ 0 ≤ N.toInt ∧ N.toInt ≤ 1376 ∧ 64 ≤ R.toInt ∧ 64 ≤ K.toInt ∧ K.toInt ≤ 1000000) := hB1.2.2.1
  obtain ⟨yy0_0, hh0, btt0_0⟩ := n_shO hI hB1
  obtain ⟨rfl⟩ : t0_0 = yy0_0 := by have z := Option.some.inj (hT0.symm.trans hh0); simpa using z
  replace btt0_0 : q_F (0 ≤ t0_0.toInt ∧ t0_0.toInt ≤ K.toInt) := btt0_0
  replace pre0 : q_F (t0_0.toInt + 20 ≤ K.toInt) := pre0
  have hF : q_un ws ws [k1, k1 + 1] := q_u0
  have hl : lv_has ls 3 [(0, .ref (q k1)), (1, .ref (g (8 + 2 * 20)))] := hl
  refine lv_iconst (v := 0) hx hb d_11_4_0 (by decide) ?_
  refine lv_istore_n (lv' := [(2, .int 0), (0, .ref (q k1)), (1, .ref (g (8 + 2 * 20)))]) hx hb d_11_4_1 rfl hl (by decide) rfl (fun ls hl => ?_)
  refine q_loop (X := Int32 × Int32 × (Nat → Int64)) (fun z H locs ls w15 => q_F (z.1.toInt ≤ 3) ∧ q_F (t0_0.toInt ≤ z.1.toInt + z.2.1.toInt) ∧ q_F (z.2.1.toInt ≤ z.1.toInt + t0_0.toInt) ∧ q_F (z.1.toInt + t0_0.toInt ≤ z.2.1.toInt) ∧ q_Wd D g (va_A ws sz) s w15 H locs ∧ lv_has ls 3 [(2, .int z.1), (0, .ref (q k1)), (1, .ref (g (8 + 2 * 20)))] ∧ q_I (nsh g q) q w15 ∧ q_un ws w15 [k1, k1 + 1] ∧ w15[k1]? = (some (q k1, .inr (1, [.ref (q (k1 + 1)), .int R, .int z.2.1])) : Option (Nat × va_E)) ∧ w15[k1 + 1]? = (some (q (k1 + 1), .inl (g 1, N.toNatClampNeg, .inr (.inl z.2.2))) : Option (Nat × va_E)) ∧ (∃ n, (3 - z.1.toInt).toNat < n ∧ F_She_addText_20_L2 R N K t0_0 t1_0 n z.1 z.2.1 z.2.2 = (F_She_addText_20 R N K t0_0 t1_0))) (fun z => (3 - z.1.toInt).toNat) ?_ ((0 : Int32), (t0_0 : Int32), (t1_0 : (Nat → Int64))) _ _ _ ws ⟨(show q_F (0 ≤ 3) from (show 0 ≤ 3 from by omega)), (show q_F (t0_0.toInt ≤ 0 + t0_0.toInt) from (show t0_0.toInt ≤ 0 + t0_0.toInt from by omega)), (show q_F (t0_0.toInt ≤ 0 + t0_0.toInt) from (show t0_0.toInt ≤ 0 + t0_0.toInt from by omega)), (show q_F (0 + t0_0.toInt ≤ t0_0.toInt) from (show 0 + t0_0.toInt ≤ t0_0.toInt from by omega)), V, q_lw hl (q_lw1 0 rfl (q_lw1 1 rfl (q_lw1 2 rfl q_lw0))), hI, hF, hT0, hT1, ⟨((3 - (0 : Int32).toInt).toNat + 1), Nat.lt_succ_self _, (show F_She_addText_20_L2 R N K t0_0 t1_0 ((3 - (0 : Int32).toInt).toNat + 1) 0 t0_0 t1_0 = (F_She_addText_20 R N K t0_0 t1_0) from (by rw [F_She_addText_20.eq_1]))⟩⟩
  rintro ⟨lx7, lx8, lx9⟩ H locs ls w15 ⟨i10, i11, i12, i13, V, hl, hI, hF, hO16, hO17, ⟨fu20, hf21, hR18⟩⟩ ih14
  obtain ⟨fm22, rfl⟩ : ∃ m, fu20 = m + 1 := ⟨fu20 - 1, by omega⟩
  replace i10 : q_F (lx7.toInt ≤ 3) := i10
  replace i11 : q_F (t0_0.toInt ≤ lx7.toInt + lx8.toInt) := i11
  replace i12 : q_F (lx8.toInt ≤ lx7.toInt + t0_0.toInt) := i12
  replace i13 : q_F (lx7.toInt + t0_0.toInt ≤ lx8.toInt) := i13
  replace hl : lv_has ls 3 [(2, .int lx7), (0, .ref (q k1)), (1, .ref (g (8 + 2 * 20)))] := hl
  replace hO16 : w15[k1]? = (some (q k1, .inr (1, [.ref (q (k1 + 1)), .int R, .int lx8])) : Option (Nat × va_E)) := hO16
  replace hO17 : w15[k1 + 1]? = (some (q (k1 + 1), .inl (g 1, N.toNatClampNeg, .inr (.inl lx9))) : Option (Nat × va_E)) := hO17
  refine lv_iload_n hx hb d_11_4_2 rfl (lv_at hl 0 rfl) ?_
  refine lv_aload_n hx hb d_11_4_3 rfl (lv_at hl 2 rfl) ?_
  refine q_goi V (q_runVs (As := []) (rest := [.int lx7]) (d := 2) (mc := 0) (ms := 0) (i := 20) C0 V rfl LV_She_24 (X_jStr_length_20 l D g q w15   hI   _) rfl rfl rfl hl.1 rfl (Nat.le_of_ble_eq_true rfl) ⟨by decide, by decide⟩ ⟨Nat.le_of_ble_eq_true rfl, Nat.le_of_ble_eq_true rfl⟩ d_11_4_4) (fun a25 u23 H locs hp24 V => ?_)
  obtain ⟨rfl, b26, b27, hE28⟩ := hp24
  have e29 : a25 = (F_jStr_length_20) := hE28
  replace b26 : q_F (3 ≤ a25.toInt) := b26
  replace b27 : q_F (a25.toInt ≤ 3) := b27
  obtain rfl : a25 = (3 : Int32) := q_Ieq (x := a25.toInt) (y := 3) rfl (by decide) (by have t1 : 3 ≤ a25.toInt := b26; have t2 : a25.toInt ≤ 3 := b27; omega)
  refine lv_icmp_ge (tgt := 25) hx hb d_11_4_7 (by decide) (fun c30 => ?_) (fun c30 => ?_)
  ·
    have b31 : q_F (3 ≤ lx7.toInt) := (q_leI c30)
    exact q_retv C0 V (⟨hI, hF, lx8, lx9, hO16, hO17, (show t0_0.toInt + 3 ≤ lx8.toInt from (by have t1 : lx7.toInt + t0_0.toInt ≤ lx8.toInt := i13; have t2 : 3 ≤ lx7.toInt := b31; omega)), (show lx8.toInt ≤ t0_0.toInt + 3 from (by have t1 : lx7.toInt ≤ 3 := i10; have t2 : lx8.toInt ≤ lx7.toInt + t0_0.toInt := i12; omega)), (show (lx8, lx9) = (F_She_addText_20 R N K t0_0 t1_0) from Eq.trans (by rw [F_She_addText_20_L2.eq_2, if_pos c30]) hR18)⟩) d_11_4_25
  ·
    have b32 : q_F (lx7.toInt < 3) := (q_nleI c30)
    refine lv_aload_n hx hb d_11_4_10 rfl (lv_at hl 1 rfl) ?_
    refine lv_aload_n hx hb d_11_4_11 rfl (lv_at hl 2 rfl) ?_
    refine lv_iload_n hx hb d_11_4_12 rfl (lv_at hl 0 rfl) ?_
    refine q_goi V (q_runVs (As := [.int lx7]) (rest := [.ref (q k1)]) (d := 4) (mc := 0) (ms := 0) (i := 20) C0 V rfl LV_She_30 (X_jStr_charAt_20 l D g q w15  lx7 hI  (by have t1 : t0_0.toInt ≤ lx7.toInt + lx8.toInt := i11; have t2 : lx8.toInt ≤ lx7.toInt + t0_0.toInt := i12; omega) (by have t1 : lx7.toInt < 3 := b32; omega) _) rfl rfl rfl hl.1 rfl (Nat.le_of_ble_eq_true rfl) ⟨by decide, by decide⟩ ⟨Nat.le_of_ble_eq_true rfl, Nat.le_of_ble_eq_true rfl⟩ d_11_4_13) (fun a35 u33 H locs hp34 V => ?_)
    obtain ⟨rfl, b36, b37, hE38⟩ := hp34
    have e39 : a35 = (F_jStr_charAt_20 lx7) := hE38
    replace b36 : q_F (0 ≤ a35.toInt) := b36
    replace b37 : q_F (a35.toInt ≤ 255) := b37
    refine q_gov V (q_runV (As := [.int a35]) (rest := []) (d := 1) (mc := 0) (ms := 0) (ci := 1) C0 V rfl LV_She_34 (X_She_add_p l D g q w15 k1 R N K hB1 a35 hI lx8 hO16 lx9 hO17 (by have t1 : t0_0.toInt + 20 ≤ K.toInt := pre0; have t2 : lx7.toInt ≤ 3 := i10; have t3 : lx8.toInt ≤ lx7.toInt + t0_0.toInt := i12; omega) _) rfl rfl hO16 rfl hl.1 rfl (Nat.le_of_ble_eq_true rfl) ⟨by decide, by decide⟩ ⟨Nat.le_of_ble_eq_true rfl, Nat.le_of_ble_eq_true rfl⟩ d_11_4_16) (fun u40 H locs hp41 V => ?_)
    obtain ⟨hI, hu49, y43, f44, hO42, hA45, b46, b47, hE48⟩ := hp41
    replace hO42 : u40[k1]? = (some (q k1, .inr (1, [.ref (q (k1 + 1)), .int R, .int y43])) : Option (Nat × va_E)) := hO42
    replace hA45 : u40[k1 + 1]? = (some (q (k1 + 1), .inl (g 1, N.toNatClampNeg, .inr (.inl f44))) : Option (Nat × va_E)) := hA45
    obtain ⟨p50, e51⟩ : ∃ z, z = (F_She_add_p R N K a35 lx8 lx9) := ⟨_, rfl⟩
    have e52 : y43 = p50.1 := congrArg (fun z => z.1) (hE48.trans e51.symm)
    have e53 : f44 = p50.2 := congrArg (fun z => z.2) (hE48.trans e51.symm)
    replace b46 : q_F (lx8.toInt + 1 ≤ y43.toInt) := b46
    replace b47 : q_F (y43.toInt ≤ lx8.toInt + 1) := b47
    replace hF := q_uc hF hu49 (by simp)
    have hR54 := (show F_She_addText_20_c16 (F_She_addText_20_L2 R N K t0_0 t1_0 fm22) R N K t0_0 t1_0 lx7 lx8 lx9 p50 = (F_She_addText_20 R N K t0_0 t1_0) from Eq.trans (by rw [e51, e39, F_She_addText_20_L2.eq_2, if_neg c30]) hR18)
    obtain ⟨a59, e60⟩ := q_nm (lx7 + 1 : Int32)
    have b61 : q_F (a59.toInt = lx7.toInt + 1) := (by rw [← e60]; exact q_addI (y := 1) rfl (by decide) (by have t1 : t0_0.toInt ≤ lx7.toInt + lx8.toInt := i11; have t2 : lx8.toInt ≤ lx7.toInt + t0_0.toInt := i12; have t3 : lx7.toInt ≤ 3 := i10; omega) (by have t1 : t0_0.toInt ≤ lx7.toInt + lx8.toInt := i11; have t2 : lx8.toInt ≤ lx7.toInt + t0_0.toInt := i12; have t3 : lx7.toInt ≤ 3 := i10; omega))
    refine lv_iinc (v := a59) (lv' := [(2, .int a59), (0, .ref (q k1)), (1, .ref (g (8 + 2 * 20)))]) hx hb d_11_4_19 hl (k := 0) rfl (e60) (by decide) rfl (fun ls hl => ?_)
    refine lv_goto (tgt := 2) hx hb d_11_4_22 (by decide) ?_
    exact ih14 ((a59 : Int32), (y43 : Int32), (f44 : (Nat → Int64))) _ _ _ _ (show (3 - a59.toInt).toNat < (3 - lx7.toInt).toNat from by have t1 : a59.toInt = lx7.toInt + 1 := b61; have t2 : lx7.toInt ≤ 3 := i10; have t3 : lx7.toInt < 3 := b32; omega) ⟨(show q_F (a59.toInt ≤ 3) from (show a59.toInt ≤ 3 from by have t1 : lx7.toInt < 3 := b32; have t2 : a59.toInt = lx7.toInt + 1 := b61; omega)), (show q_F (t0_0.toInt ≤ a59.toInt + y43.toInt) from (show t0_0.toInt ≤ a59.toInt + y43.toInt from by have t1 : t0_0.toInt ≤ lx7.toInt + lx8.toInt := i11; have t2 : lx8.toInt + 1 ≤ y43.toInt := b46; have t3 : a59.toInt = lx7.toInt + 1 := b61; omega)), (show q_F (y43.toInt ≤ a59.toInt + t0_0.toInt) from (show y43.toInt ≤ a59.toInt + t0_0.toInt from by have t1 : lx8.toInt ≤ lx7.toInt + t0_0.toInt := i12; have t2 : y43.toInt ≤ lx8.toInt + 1 := b47; have t3 : a59.toInt = lx7.toInt + 1 := b61; omega)), (show q_F (a59.toInt + t0_0.toInt ≤ y43.toInt) from (show a59.toInt + t0_0.toInt ≤ y43.toInt from by have t1 : lx7.toInt + t0_0.toInt ≤ lx8.toInt := i13; have t2 : lx8.toInt + 1 ≤ y43.toInt := b46; have t3 : a59.toInt = lx7.toInt + 1 := b61; omega)), V, q_lw hl (q_lw1 0 rfl (q_lw1 1 rfl (q_lw1 2 rfl q_lw0))), hI, hF, hO42, hA45, ⟨fm22, Nat.lt_of_lt_of_le (show (3 - a59.toInt).toNat < (3 - lx7.toInt).toNat from by have t1 : a59.toInt = lx7.toInt + 1 := b61; have t2 : lx7.toInt ≤ 3 := i10; have t3 : lx7.toInt < 3 := b32; omega) (Nat.le_of_lt_succ hf21), (show F_She_addText_20_L2 R N K t0_0 t1_0 fm22 a59 y43 f44 = (F_She_addText_20 R N K t0_0 t1_0) from Eq.trans (by rw [← e60, e53, e52, F_She_addText_20_c16.eq_1]) hR54)⟩⟩
def F_She_addText_21_c16 (K_F_She_addText_21_L2 : Int32 → Int32 → (Nat → Int64) → (Int32 × (Nat → Int64))) (R : Int32) (N : Int32) (K : Int32) (t0_0 : Int32) (t1_0 : (Nat → Int64)) (lx7 : Int32) (lx8 : Int32) (lx9 : (Nat → Int64)) (p50 : (Int32 × (Nat → Int64))) : Int32 × (Nat → Int64) := K_F_She_addText_21_L2 (lx7 + 1 : Int32) (p50.1 : Int32) (p50.2 : (Nat → Int64))
def F_She_addText_21_L2 (R : Int32) (N : Int32) (K : Int32) (t0_0 : Int32) (t1_0 : (Nat → Int64)) : Nat → Int32 → Int32 → (Nat → Int64) → (Int32 × (Nat → Int64))
  | 0, _, _, _ => default
  | fm + 1, lx7, lx8, lx9 => if (8 : Int32) ≤ lx7 then ((lx8, lx9)) else (F_She_addText_21_c16 (F_She_addText_21_L2 R N K t0_0 t1_0 fm) R N K t0_0 t1_0 lx7 lx8 lx9 ((F_She_add_p R N K ((F_jStr_charAt_21 lx7) : Int32) lx8 lx9) : (Int32 × (Nat → Int64))))
def F_She_addText_21 (R : Int32) (N : Int32) (K : Int32) (t0_0 : Int32) (t1_0 : (Nat → Int64)) : Int32 × (Nat → Int64) := F_She_addText_21_L2 R N K t0_0 t1_0 ((8 - (0 : Int32).toInt).toNat + 1) 0 t0_0 t1_0
set_option maxRecDepth 100000 in
set_option maxHeartbeats 4000000 in
theorem X_She_addText_21 (l : Launch) (D : va_G) (g : Nat → ClassId) (q : Nat → Nat) (ws : va_W) (k1 : Nat) (R N K : Int32) (hB1 : q_isShe (nsh g q) g q k1 R N K) (hI : q_I (nsh g q) q ws) (t0_0 : Int32) (hT0 : ws[k1]? = (some (q k1, .inr (1, [.ref (q (k1 + 1)), .int R, .int t0_0])) : Option (Nat × va_E))) (t1_0 : (Nat → Int64)) (hT1 : ws[k1 + 1]? = (some (q (k1 + 1), .inl (g 1, N.toNatClampNeg, .inr (.inl t1_0))) : Option (Nat × va_E))) (pre0 : t0_0.toInt + 20 ≤ K.toInt) : q_mV l y_She_addText prog_11_method_4_code 3 5 0 0 D g [.ref (q k1), .ref (g (8 + 2 * 21))] ws (fun u => q_I (nsh g q) q u ∧ q_un ws u [k1, k1 + 1] ∧ ∃ (u0_0 : Int32) (u1_0 : (Nat → Int64)), u[k1]? = (some (q k1, .inr (1, [.ref (q (k1 + 1)), .int R, .int u0_0])) : Option (Nat × va_E)) ∧ u[k1 + 1]? = (some (q (k1 + 1), .inl (g 1, N.toNatClampNeg, .inr (.inl u1_0))) : Option (Nat × va_E)) ∧ (t0_0.toInt + 8 ≤ u0_0.toInt) ∧ (u0_0.toInt ≤ t0_0.toInt + 8) ∧ (u0_0, u1_0) = (F_She_addText_21 R N K t0_0 t1_0)) := by
  intro sz
  refine q_into (by decide) (Nat.le_of_ble_eq_true rfl) ?_
  intro p e s m below meth c ls hsz C0 V hl
  have hx := C0.1
  have hb := C0.2.1
  have hfk10 : q_F (0 ≤ R.toInt ∧ R.toInt ≤ 8 * N.toInt ∧ 0 ≤ N.toInt ∧ N.toInt ≤ 1376 ∧ 64 ≤ R.toInt ∧ 64 ≤ K.toInt ∧ K.toInt ≤ 1000000) := hB1.2.2.1
  obtain ⟨yy0_0, hh0, btt0_0⟩ := n_shO hI hB1
  obtain ⟨rfl⟩ : t0_0 = yy0_0 := by have z := Option.some.inj (hT0.symm.trans hh0); simpa using z
  replace btt0_0 : q_F (0 ≤ t0_0.toInt ∧ t0_0.toInt ≤ K.toInt) := btt0_0
  replace pre0 : q_F (t0_0.toInt + 20 ≤ K.toInt) := pre0
  have hF : q_un ws ws [k1, k1 + 1] := q_u0
  have hl : lv_has ls 3 [(0, .ref (q k1)), (1, .ref (g (8 + 2 * 21)))] := hl
  refine lv_iconst (v := 0) hx hb d_11_4_0 (by decide) ?_
  refine lv_istore_n (lv' := [(2, .int 0), (0, .ref (q k1)), (1, .ref (g (8 + 2 * 21)))]) hx hb d_11_4_1 rfl hl (by decide) rfl (fun ls hl => ?_)
  refine q_loop (X := Int32 × Int32 × (Nat → Int64)) (fun z H locs ls w15 => q_F (z.1.toInt ≤ 8) ∧ q_F (t0_0.toInt ≤ z.1.toInt + z.2.1.toInt) ∧ q_F (z.2.1.toInt ≤ z.1.toInt + t0_0.toInt) ∧ q_F (z.1.toInt + t0_0.toInt ≤ z.2.1.toInt) ∧ q_Wd D g (va_A ws sz) s w15 H locs ∧ lv_has ls 3 [(2, .int z.1), (0, .ref (q k1)), (1, .ref (g (8 + 2 * 21)))] ∧ q_I (nsh g q) q w15 ∧ q_un ws w15 [k1, k1 + 1] ∧ w15[k1]? = (some (q k1, .inr (1, [.ref (q (k1 + 1)), .int R, .int z.2.1])) : Option (Nat × va_E)) ∧ w15[k1 + 1]? = (some (q (k1 + 1), .inl (g 1, N.toNatClampNeg, .inr (.inl z.2.2))) : Option (Nat × va_E)) ∧ (∃ n, (8 - z.1.toInt).toNat < n ∧ F_She_addText_21_L2 R N K t0_0 t1_0 n z.1 z.2.1 z.2.2 = (F_She_addText_21 R N K t0_0 t1_0))) (fun z => (8 - z.1.toInt).toNat) ?_ ((0 : Int32), (t0_0 : Int32), (t1_0 : (Nat → Int64))) _ _ _ ws ⟨(show q_F (0 ≤ 8) from (show 0 ≤ 8 from by omega)), (show q_F (t0_0.toInt ≤ 0 + t0_0.toInt) from (show t0_0.toInt ≤ 0 + t0_0.toInt from by omega)), (show q_F (t0_0.toInt ≤ 0 + t0_0.toInt) from (show t0_0.toInt ≤ 0 + t0_0.toInt from by omega)), (show q_F (0 + t0_0.toInt ≤ t0_0.toInt) from (show 0 + t0_0.toInt ≤ t0_0.toInt from by omega)), V, q_lw hl (q_lw1 0 rfl (q_lw1 1 rfl (q_lw1 2 rfl q_lw0))), hI, hF, hT0, hT1, ⟨((8 - (0 : Int32).toInt).toNat + 1), Nat.lt_succ_self _, (show F_She_addText_21_L2 R N K t0_0 t1_0 ((8 - (0 : Int32).toInt).toNat + 1) 0 t0_0 t1_0 = (F_She_addText_21 R N K t0_0 t1_0) from (by rw [F_She_addText_21.eq_1]))⟩⟩
  rintro ⟨lx7, lx8, lx9⟩ H locs ls w15 ⟨i10, i11, i12, i13, V, hl, hI, hF, hO16, hO17, ⟨fu20, hf21, hR18⟩⟩ ih14
  obtain ⟨fm22, rfl⟩ : ∃ m, fu20 = m + 1 := ⟨fu20 - 1, by omega⟩
  replace i10 : q_F (lx7.toInt ≤ 8) := i10
  replace i11 : q_F (t0_0.toInt ≤ lx7.toInt + lx8.toInt) := i11
  replace i12 : q_F (lx8.toInt ≤ lx7.toInt + t0_0.toInt) := i12
  replace i13 : q_F (lx7.toInt + t0_0.toInt ≤ lx8.toInt) := i13
  replace hl : lv_has ls 3 [(2, .int lx7), (0, .ref (q k1)), (1, .ref (g (8 + 2 * 21)))] := hl
  replace hO16 : w15[k1]? = (some (q k1, .inr (1, [.ref (q (k1 + 1)), .int R, .int lx8])) : Option (Nat × va_E)) := hO16
  replace hO17 : w15[k1 + 1]? = (some (q (k1 + 1), .inl (g 1, N.toNatClampNeg, .inr (.inl lx9))) : Option (Nat × va_E)) := hO17
  refine lv_iload_n hx hb d_11_4_2 rfl (lv_at hl 0 rfl) ?_
  refine lv_aload_n hx hb d_11_4_3 rfl (lv_at hl 2 rfl) ?_
  refine q_goi V (q_runVs (As := []) (rest := [.int lx7]) (d := 2) (mc := 0) (ms := 0) (i := 21) C0 V rfl LV_She_24 (X_jStr_length_21 l D g q w15   hI   _) rfl rfl rfl hl.1 rfl (Nat.le_of_ble_eq_true rfl) ⟨by decide, by decide⟩ ⟨Nat.le_of_ble_eq_true rfl, Nat.le_of_ble_eq_true rfl⟩ d_11_4_4) (fun a25 u23 H locs hp24 V => ?_)
  obtain ⟨rfl, b26, b27, hE28⟩ := hp24
  have e29 : a25 = (F_jStr_length_21) := hE28
  replace b26 : q_F (8 ≤ a25.toInt) := b26
  replace b27 : q_F (a25.toInt ≤ 8) := b27
  obtain rfl : a25 = (8 : Int32) := q_Ieq (x := a25.toInt) (y := 8) rfl (by decide) (by have t1 : 8 ≤ a25.toInt := b26; have t2 : a25.toInt ≤ 8 := b27; omega)
  refine lv_icmp_ge (tgt := 25) hx hb d_11_4_7 (by decide) (fun c30 => ?_) (fun c30 => ?_)
  ·
    have b31 : q_F (8 ≤ lx7.toInt) := (q_leI c30)
    exact q_retv C0 V (⟨hI, hF, lx8, lx9, hO16, hO17, (show t0_0.toInt + 8 ≤ lx8.toInt from (by have t1 : lx7.toInt + t0_0.toInt ≤ lx8.toInt := i13; have t2 : 8 ≤ lx7.toInt := b31; omega)), (show lx8.toInt ≤ t0_0.toInt + 8 from (by have t1 : lx7.toInt ≤ 8 := i10; have t2 : lx8.toInt ≤ lx7.toInt + t0_0.toInt := i12; omega)), (show (lx8, lx9) = (F_She_addText_21 R N K t0_0 t1_0) from Eq.trans (by rw [F_She_addText_21_L2.eq_2, if_pos c30]) hR18)⟩) d_11_4_25
  ·
    have b32 : q_F (lx7.toInt < 8) := (q_nleI c30)
    refine lv_aload_n hx hb d_11_4_10 rfl (lv_at hl 1 rfl) ?_
    refine lv_aload_n hx hb d_11_4_11 rfl (lv_at hl 2 rfl) ?_
    refine lv_iload_n hx hb d_11_4_12 rfl (lv_at hl 0 rfl) ?_
    refine q_goi V (q_runVs (As := [.int lx7]) (rest := [.ref (q k1)]) (d := 4) (mc := 0) (ms := 0) (i := 21) C0 V rfl LV_She_30 (X_jStr_charAt_21 l D g q w15  lx7 hI  (by have t1 : t0_0.toInt ≤ lx7.toInt + lx8.toInt := i11; have t2 : lx8.toInt ≤ lx7.toInt + t0_0.toInt := i12; omega) (by have t1 : lx7.toInt < 8 := b32; omega) _) rfl rfl rfl hl.1 rfl (Nat.le_of_ble_eq_true rfl) ⟨by decide, by decide⟩ ⟨Nat.le_of_ble_eq_true rfl, Nat.le_of_ble_eq_true rfl⟩ d_11_4_13) (fun a35 u33 H locs hp34 V => ?_)
    obtain ⟨rfl, b36, b37, hE38⟩ := hp34
    have e39 : a35 = (F_jStr_charAt_21 lx7) := hE38
    replace b36 : q_F (0 ≤ a35.toInt) := b36
    replace b37 : q_F (a35.toInt ≤ 255) := b37
    refine q_gov V (q_runV (As := [.int a35]) (rest := []) (d := 1) (mc := 0) (ms := 0) (ci := 1) C0 V rfl LV_She_34 (X_She_add_p l D g q w15 k1 R N K hB1 a35 hI lx8 hO16 lx9 hO17 (by have t1 : t0_0.toInt + 20 ≤ K.toInt := pre0; have t2 : lx7.toInt ≤ 8 := i10; have t3 : lx8.toInt ≤ lx7.toInt + t0_0.toInt := i12; omega) _) rfl rfl hO16 rfl hl.1 rfl (Nat.le_of_ble_eq_true rfl) ⟨by decide, by decide⟩ ⟨Nat.le_of_ble_eq_true rfl, Nat.le_of_ble_eq_true rfl⟩ d_11_4_16) (fun u40 H locs hp41 V => ?_)
    obtain ⟨hI, hu49, y43, f44, hO42, hA45, b46, b47, hE48⟩ := hp41
    replace hO42 : u40[k1]? = (some (q k1, .inr (1, [.ref (q (k1 + 1)), .int R, .int y43])) : Option (Nat × va_E)) := hO42
    replace hA45 : u40[k1 + 1]? = (some (q (k1 + 1), .inl (g 1, N.toNatClampNeg, .inr (.inl f44))) : Option (Nat × va_E)) := hA45
    obtain ⟨p50, e51⟩ : ∃ z, z = (F_She_add_p R N K a35 lx8 lx9) := ⟨_, rfl⟩
    have e52 : y43 = p50.1 := congrArg (fun z => z.1) (hE48.trans e51.symm)
    have e53 : f44 = p50.2 := congrArg (fun z => z.2) (hE48.trans e51.symm)
    replace b46 : q_F (lx8.toInt + 1 ≤ y43.toInt) := b46
    replace b47 : q_F (y43.toInt ≤ lx8.toInt + 1) := b47
    replace hF := q_uc hF hu49 (by simp)
    have hR54 := (show F_She_addText_21_c16 (F_She_addText_21_L2 R N K t0_0 t1_0 fm22) R N K t0_0 t1_0 lx7 lx8 lx9 p50 = (F_She_addText_21 R N K t0_0 t1_0) from Eq.trans (by rw [e51, e39, F_She_addText_21_L2.eq_2, if_neg c30]) hR18)
    obtain ⟨a59, e60⟩ := q_nm (lx7 + 1 : Int32)
    have b61 : q_F (a59.toInt = lx7.toInt + 1) := (by rw [← e60]; exact q_addI (y := 1) rfl (by decide) (by have t1 : t0_0.toInt ≤ lx7.toInt + lx8.toInt := i11; have t2 : lx8.toInt ≤ lx7.toInt + t0_0.toInt := i12; have t3 : lx7.toInt ≤ 8 := i10; omega) (by have t1 : t0_0.toInt ≤ lx7.toInt + lx8.toInt := i11; have t2 : lx8.toInt ≤ lx7.toInt + t0_0.toInt := i12; have t3 : lx7.toInt ≤ 8 := i10; omega))
    refine lv_iinc (v := a59) (lv' := [(2, .int a59), (0, .ref (q k1)), (1, .ref (g (8 + 2 * 21)))]) hx hb d_11_4_19 hl (k := 0) rfl (e60) (by decide) rfl (fun ls hl => ?_)
    refine lv_goto (tgt := 2) hx hb d_11_4_22 (by decide) ?_
    exact ih14 ((a59 : Int32), (y43 : Int32), (f44 : (Nat → Int64))) _ _ _ _ (show (8 - a59.toInt).toNat < (8 - lx7.toInt).toNat from by have t1 : a59.toInt = lx7.toInt + 1 := b61; have t2 : lx7.toInt ≤ 8 := i10; have t3 : lx7.toInt < 8 := b32; omega) ⟨(show q_F (a59.toInt ≤ 8) from (show a59.toInt ≤ 8 from by have t1 : lx7.toInt < 8 := b32; have t2 : a59.toInt = lx7.toInt + 1 := b61; omega)), (show q_F (t0_0.toInt ≤ a59.toInt + y43.toInt) from (show t0_0.toInt ≤ a59.toInt + y43.toInt from by have t1 : t0_0.toInt ≤ lx7.toInt + lx8.toInt := i11; have t2 : lx8.toInt + 1 ≤ y43.toInt := b46; have t3 : a59.toInt = lx7.toInt + 1 := b61; omega)), (show q_F (y43.toInt ≤ a59.toInt + t0_0.toInt) from (show y43.toInt ≤ a59.toInt + t0_0.toInt from by have t1 : lx8.toInt ≤ lx7.toInt + t0_0.toInt := i12; have t2 : y43.toInt ≤ lx8.toInt + 1 := b47; have t3 : a59.toInt = lx7.toInt + 1 := b61; omega)), (show q_F (a59.toInt + t0_0.toInt ≤ y43.toInt) from (show a59.toInt + t0_0.toInt ≤ y43.toInt from by have t1 : lx7.toInt + t0_0.toInt ≤ lx8.toInt := i13; have t2 : lx8.toInt + 1 ≤ y43.toInt := b46; have t3 : a59.toInt = lx7.toInt + 1 := b61; omega)), V, q_lw hl (q_lw1 0 rfl (q_lw1 1 rfl (q_lw1 2 rfl q_lw0))), hI, hF, hO42, hA45, ⟨fm22, Nat.lt_of_lt_of_le (show (8 - a59.toInt).toNat < (8 - lx7.toInt).toNat from by have t1 : a59.toInt = lx7.toInt + 1 := b61; have t2 : lx7.toInt ≤ 8 := i10; have t3 : lx7.toInt < 8 := b32; omega) (Nat.le_of_lt_succ hf21), (show F_She_addText_21_L2 R N K t0_0 t1_0 fm22 a59 y43 f44 = (F_She_addText_21 R N K t0_0 t1_0) from Eq.trans (by rw [← e60, e53, e52, F_She_addText_21_c16.eq_1]) hR54)⟩⟩
def F_She_addText_23_c16 (K_F_She_addText_23_L2 : Int32 → Int32 → (Nat → Int64) → (Int32 × (Nat → Int64))) (R : Int32) (N : Int32) (K : Int32) (t0_0 : Int32) (t1_0 : (Nat → Int64)) (lx7 : Int32) (lx8 : Int32) (lx9 : (Nat → Int64)) (p50 : (Int32 × (Nat → Int64))) : Int32 × (Nat → Int64) := K_F_She_addText_23_L2 (lx7 + 1 : Int32) (p50.1 : Int32) (p50.2 : (Nat → Int64))
def F_She_addText_23_L2 (R : Int32) (N : Int32) (K : Int32) (t0_0 : Int32) (t1_0 : (Nat → Int64)) : Nat → Int32 → Int32 → (Nat → Int64) → (Int32 × (Nat → Int64))
  | 0, _, _, _ => default
  | fm + 1, lx7, lx8, lx9 => if (3 : Int32) ≤ lx7 then ((lx8, lx9)) else (F_She_addText_23_c16 (F_She_addText_23_L2 R N K t0_0 t1_0 fm) R N K t0_0 t1_0 lx7 lx8 lx9 ((F_She_add_p R N K ((F_jStr_charAt_23 lx7) : Int32) lx8 lx9) : (Int32 × (Nat → Int64))))
def F_She_addText_23 (R : Int32) (N : Int32) (K : Int32) (t0_0 : Int32) (t1_0 : (Nat → Int64)) : Int32 × (Nat → Int64) := F_She_addText_23_L2 R N K t0_0 t1_0 ((3 - (0 : Int32).toInt).toNat + 1) 0 t0_0 t1_0
set_option maxRecDepth 100000 in
set_option maxHeartbeats 4000000 in
theorem X_She_addText_23 (l : Launch) (D : va_G) (g : Nat → ClassId) (q : Nat → Nat) (ws : va_W) (k1 : Nat) (R N K : Int32) (hB1 : q_isShe (nsh g q) g q k1 R N K) (hI : q_I (nsh g q) q ws) (t0_0 : Int32) (hT0 : ws[k1]? = (some (q k1, .inr (1, [.ref (q (k1 + 1)), .int R, .int t0_0])) : Option (Nat × va_E))) (t1_0 : (Nat → Int64)) (hT1 : ws[k1 + 1]? = (some (q (k1 + 1), .inl (g 1, N.toNatClampNeg, .inr (.inl t1_0))) : Option (Nat × va_E))) (pre0 : t0_0.toInt + 20 ≤ K.toInt) : q_mV l y_She_addText prog_11_method_4_code 3 5 0 0 D g [.ref (q k1), .ref (g (8 + 2 * 23))] ws (fun u => q_I (nsh g q) q u ∧ q_un ws u [k1, k1 + 1] ∧ ∃ (u0_0 : Int32) (u1_0 : (Nat → Int64)), u[k1]? = (some (q k1, .inr (1, [.ref (q (k1 + 1)), .int R, .int u0_0])) : Option (Nat × va_E)) ∧ u[k1 + 1]? = (some (q (k1 + 1), .inl (g 1, N.toNatClampNeg, .inr (.inl u1_0))) : Option (Nat × va_E)) ∧ (t0_0.toInt + 3 ≤ u0_0.toInt) ∧ (u0_0.toInt ≤ t0_0.toInt + 3) ∧ (u0_0, u1_0) = (F_She_addText_23 R N K t0_0 t1_0)) := by
  intro sz
  refine q_into (by decide) (Nat.le_of_ble_eq_true rfl) ?_
  intro p e s m below meth c ls hsz C0 V hl
  have hx := C0.1
  have hb := C0.2.1
  have hfk10 : q_F (0 ≤ R.toInt ∧ R.toInt ≤ 8 * N.toInt ∧ 0 ≤ N.toInt ∧ N.toInt ≤ 1376 ∧ 64 ≤ R.toInt ∧ 64 ≤ K.toInt ∧ K.toInt ≤ 1000000) := hB1.2.2.1
  obtain ⟨yy0_0, hh0, btt0_0⟩ := n_shO hI hB1
  obtain ⟨rfl⟩ : t0_0 = yy0_0 := by have z := Option.some.inj (hT0.symm.trans hh0); simpa using z
  replace btt0_0 : q_F (0 ≤ t0_0.toInt ∧ t0_0.toInt ≤ K.toInt) := btt0_0
  replace pre0 : q_F (t0_0.toInt + 20 ≤ K.toInt) := pre0
  have hF : q_un ws ws [k1, k1 + 1] := q_u0
  have hl : lv_has ls 3 [(0, .ref (q k1)), (1, .ref (g (8 + 2 * 23)))] := hl
  refine lv_iconst (v := 0) hx hb d_11_4_0 (by decide) ?_
  refine lv_istore_n (lv' := [(2, .int 0), (0, .ref (q k1)), (1, .ref (g (8 + 2 * 23)))]) hx hb d_11_4_1 rfl hl (by decide) rfl (fun ls hl => ?_)
  refine q_loop (X := Int32 × Int32 × (Nat → Int64)) (fun z H locs ls w15 => q_F (z.1.toInt ≤ 3) ∧ q_F (t0_0.toInt ≤ z.1.toInt + z.2.1.toInt) ∧ q_F (z.2.1.toInt ≤ z.1.toInt + t0_0.toInt) ∧ q_F (z.1.toInt + t0_0.toInt ≤ z.2.1.toInt) ∧ q_Wd D g (va_A ws sz) s w15 H locs ∧ lv_has ls 3 [(2, .int z.1), (0, .ref (q k1)), (1, .ref (g (8 + 2 * 23)))] ∧ q_I (nsh g q) q w15 ∧ q_un ws w15 [k1, k1 + 1] ∧ w15[k1]? = (some (q k1, .inr (1, [.ref (q (k1 + 1)), .int R, .int z.2.1])) : Option (Nat × va_E)) ∧ w15[k1 + 1]? = (some (q (k1 + 1), .inl (g 1, N.toNatClampNeg, .inr (.inl z.2.2))) : Option (Nat × va_E)) ∧ (∃ n, (3 - z.1.toInt).toNat < n ∧ F_She_addText_23_L2 R N K t0_0 t1_0 n z.1 z.2.1 z.2.2 = (F_She_addText_23 R N K t0_0 t1_0))) (fun z => (3 - z.1.toInt).toNat) ?_ ((0 : Int32), (t0_0 : Int32), (t1_0 : (Nat → Int64))) _ _ _ ws ⟨(show q_F (0 ≤ 3) from (show 0 ≤ 3 from by omega)), (show q_F (t0_0.toInt ≤ 0 + t0_0.toInt) from (show t0_0.toInt ≤ 0 + t0_0.toInt from by omega)), (show q_F (t0_0.toInt ≤ 0 + t0_0.toInt) from (show t0_0.toInt ≤ 0 + t0_0.toInt from by omega)), (show q_F (0 + t0_0.toInt ≤ t0_0.toInt) from (show 0 + t0_0.toInt ≤ t0_0.toInt from by omega)), V, q_lw hl (q_lw1 0 rfl (q_lw1 1 rfl (q_lw1 2 rfl q_lw0))), hI, hF, hT0, hT1, ⟨((3 - (0 : Int32).toInt).toNat + 1), Nat.lt_succ_self _, (show F_She_addText_23_L2 R N K t0_0 t1_0 ((3 - (0 : Int32).toInt).toNat + 1) 0 t0_0 t1_0 = (F_She_addText_23 R N K t0_0 t1_0) from (by rw [F_She_addText_23.eq_1]))⟩⟩
  rintro ⟨lx7, lx8, lx9⟩ H locs ls w15 ⟨i10, i11, i12, i13, V, hl, hI, hF, hO16, hO17, ⟨fu20, hf21, hR18⟩⟩ ih14
  obtain ⟨fm22, rfl⟩ : ∃ m, fu20 = m + 1 := ⟨fu20 - 1, by omega⟩
  replace i10 : q_F (lx7.toInt ≤ 3) := i10
  replace i11 : q_F (t0_0.toInt ≤ lx7.toInt + lx8.toInt) := i11
  replace i12 : q_F (lx8.toInt ≤ lx7.toInt + t0_0.toInt) := i12
  replace i13 : q_F (lx7.toInt + t0_0.toInt ≤ lx8.toInt) := i13
  replace hl : lv_has ls 3 [(2, .int lx7), (0, .ref (q k1)), (1, .ref (g (8 + 2 * 23)))] := hl
  replace hO16 : w15[k1]? = (some (q k1, .inr (1, [.ref (q (k1 + 1)), .int R, .int lx8])) : Option (Nat × va_E)) := hO16
  replace hO17 : w15[k1 + 1]? = (some (q (k1 + 1), .inl (g 1, N.toNatClampNeg, .inr (.inl lx9))) : Option (Nat × va_E)) := hO17
  refine lv_iload_n hx hb d_11_4_2 rfl (lv_at hl 0 rfl) ?_
  refine lv_aload_n hx hb d_11_4_3 rfl (lv_at hl 2 rfl) ?_
  refine q_goi V (q_runVs (As := []) (rest := [.int lx7]) (d := 2) (mc := 0) (ms := 0) (i := 23) C0 V rfl LV_She_24 (X_jStr_length_23 l D g q w15   hI   _) rfl rfl rfl hl.1 rfl (Nat.le_of_ble_eq_true rfl) ⟨by decide, by decide⟩ ⟨Nat.le_of_ble_eq_true rfl, Nat.le_of_ble_eq_true rfl⟩ d_11_4_4) (fun a25 u23 H locs hp24 V => ?_)
  obtain ⟨rfl, b26, b27, hE28⟩ := hp24
  have e29 : a25 = (F_jStr_length_23) := hE28
  replace b26 : q_F (3 ≤ a25.toInt) := b26
  replace b27 : q_F (a25.toInt ≤ 3) := b27
  obtain rfl : a25 = (3 : Int32) := q_Ieq (x := a25.toInt) (y := 3) rfl (by decide) (by have t1 : 3 ≤ a25.toInt := b26; have t2 : a25.toInt ≤ 3 := b27; omega)
  refine lv_icmp_ge (tgt := 25) hx hb d_11_4_7 (by decide) (fun c30 => ?_) (fun c30 => ?_)
  ·
    have b31 : q_F (3 ≤ lx7.toInt) := (q_leI c30)
    exact q_retv C0 V (⟨hI, hF, lx8, lx9, hO16, hO17, (show t0_0.toInt + 3 ≤ lx8.toInt from (by have t1 : lx7.toInt + t0_0.toInt ≤ lx8.toInt := i13; have t2 : 3 ≤ lx7.toInt := b31; omega)), (show lx8.toInt ≤ t0_0.toInt + 3 from (by have t1 : lx7.toInt ≤ 3 := i10; have t2 : lx8.toInt ≤ lx7.toInt + t0_0.toInt := i12; omega)), (show (lx8, lx9) = (F_She_addText_23 R N K t0_0 t1_0) from Eq.trans (by rw [F_She_addText_23_L2.eq_2, if_pos c30]) hR18)⟩) d_11_4_25
  ·
    have b32 : q_F (lx7.toInt < 3) := (q_nleI c30)
    refine lv_aload_n hx hb d_11_4_10 rfl (lv_at hl 1 rfl) ?_
    refine lv_aload_n hx hb d_11_4_11 rfl (lv_at hl 2 rfl) ?_
    refine lv_iload_n hx hb d_11_4_12 rfl (lv_at hl 0 rfl) ?_
    refine q_goi V (q_runVs (As := [.int lx7]) (rest := [.ref (q k1)]) (d := 4) (mc := 0) (ms := 0) (i := 23) C0 V rfl LV_She_30 (X_jStr_charAt_23 l D g q w15  lx7 hI  (by have t1 : t0_0.toInt ≤ lx7.toInt + lx8.toInt := i11; have t2 : lx8.toInt ≤ lx7.toInt + t0_0.toInt := i12; omega) (by have t1 : lx7.toInt < 3 := b32; omega) _) rfl rfl rfl hl.1 rfl (Nat.le_of_ble_eq_true rfl) ⟨by decide, by decide⟩ ⟨Nat.le_of_ble_eq_true rfl, Nat.le_of_ble_eq_true rfl⟩ d_11_4_13) (fun a35 u33 H locs hp34 V => ?_)
    obtain ⟨rfl, b36, b37, hE38⟩ := hp34
    have e39 : a35 = (F_jStr_charAt_23 lx7) := hE38
    replace b36 : q_F (0 ≤ a35.toInt) := b36
    replace b37 : q_F (a35.toInt ≤ 255) := b37
    refine q_gov V (q_runV (As := [.int a35]) (rest := []) (d := 1) (mc := 0) (ms := 0) (ci := 1) C0 V rfl LV_She_34 (X_She_add_p l D g q w15 k1 R N K hB1 a35 hI lx8 hO16 lx9 hO17 (by have t1 : t0_0.toInt + 20 ≤ K.toInt := pre0; have t2 : lx7.toInt ≤ 3 := i10; have t3 : lx8.toInt ≤ lx7.toInt + t0_0.toInt := i12; omega) _) rfl rfl hO16 rfl hl.1 rfl (Nat.le_of_ble_eq_true rfl) ⟨by decide, by decide⟩ ⟨Nat.le_of_ble_eq_true rfl, Nat.le_of_ble_eq_true rfl⟩ d_11_4_16) (fun u40 H locs hp41 V => ?_)
    obtain ⟨hI, hu49, y43, f44, hO42, hA45, b46, b47, hE48⟩ := hp41
    replace hO42 : u40[k1]? = (some (q k1, .inr (1, [.ref (q (k1 + 1)), .int R, .int y43])) : Option (Nat × va_E)) := hO42
    replace hA45 : u40[k1 + 1]? = (some (q (k1 + 1), .inl (g 1, N.toNatClampNeg, .inr (.inl f44))) : Option (Nat × va_E)) := hA45
    obtain ⟨p50, e51⟩ : ∃ z, z = (F_She_add_p R N K a35 lx8 lx9) := ⟨_, rfl⟩
    have e52 : y43 = p50.1 := congrArg (fun z => z.1) (hE48.trans e51.symm)
    have e53 : f44 = p50.2 := congrArg (fun z => z.2) (hE48.trans e51.symm)
    replace b46 : q_F (lx8.toInt + 1 ≤ y43.toInt) := b46
    replace b47 : q_F (y43.toInt ≤ lx8.toInt + 1) := b47
    replace hF := q_uc hF hu49 (by simp)
    have hR54 := (show F_She_addText_23_c16 (F_She_addText_23_L2 R N K t0_0 t1_0 fm22) R N K t0_0 t1_0 lx7 lx8 lx9 p50 = (F_She_addText_23 R N K t0_0 t1_0) from Eq.trans (by rw [e51, e39, F_She_addText_23_L2.eq_2, if_neg c30]) hR18)
    obtain ⟨a59, e60⟩ := q_nm (lx7 + 1 : Int32)
    have b61 : q_F (a59.toInt = lx7.toInt + 1) := (by rw [← e60]; exact q_addI (y := 1) rfl (by decide) (by have t1 : t0_0.toInt ≤ lx7.toInt + lx8.toInt := i11; have t2 : lx8.toInt ≤ lx7.toInt + t0_0.toInt := i12; have t3 : lx7.toInt ≤ 3 := i10; omega) (by have t1 : t0_0.toInt ≤ lx7.toInt + lx8.toInt := i11; have t2 : lx8.toInt ≤ lx7.toInt + t0_0.toInt := i12; have t3 : lx7.toInt ≤ 3 := i10; omega))
    refine lv_iinc (v := a59) (lv' := [(2, .int a59), (0, .ref (q k1)), (1, .ref (g (8 + 2 * 23)))]) hx hb d_11_4_19 hl (k := 0) rfl (e60) (by decide) rfl (fun ls hl => ?_)
    refine lv_goto (tgt := 2) hx hb d_11_4_22 (by decide) ?_
    exact ih14 ((a59 : Int32), (y43 : Int32), (f44 : (Nat → Int64))) _ _ _ _ (show (3 - a59.toInt).toNat < (3 - lx7.toInt).toNat from by have t1 : a59.toInt = lx7.toInt + 1 := b61; have t2 : lx7.toInt ≤ 3 := i10; have t3 : lx7.toInt < 3 := b32; omega) ⟨(show q_F (a59.toInt ≤ 3) from (show a59.toInt ≤ 3 from by have t1 : lx7.toInt < 3 := b32; have t2 : a59.toInt = lx7.toInt + 1 := b61; omega)), (show q_F (t0_0.toInt ≤ a59.toInt + y43.toInt) from (show t0_0.toInt ≤ a59.toInt + y43.toInt from by have t1 : t0_0.toInt ≤ lx7.toInt + lx8.toInt := i11; have t2 : lx8.toInt + 1 ≤ y43.toInt := b46; have t3 : a59.toInt = lx7.toInt + 1 := b61; omega)), (show q_F (y43.toInt ≤ a59.toInt + t0_0.toInt) from (show y43.toInt ≤ a59.toInt + t0_0.toInt from by have t1 : lx8.toInt ≤ lx7.toInt + t0_0.toInt := i12; have t2 : y43.toInt ≤ lx8.toInt + 1 := b47; have t3 : a59.toInt = lx7.toInt + 1 := b61; omega)), (show q_F (a59.toInt + t0_0.toInt ≤ y43.toInt) from (show a59.toInt + t0_0.toInt ≤ y43.toInt from by have t1 : lx7.toInt + t0_0.toInt ≤ lx8.toInt := i13; have t2 : lx8.toInt + 1 ≤ y43.toInt := b46; have t3 : a59.toInt = lx7.toInt + 1 := b61; omega)), V, q_lw hl (q_lw1 0 rfl (q_lw1 1 rfl (q_lw1 2 rfl q_lw0))), hI, hF, hO42, hA45, ⟨fm22, Nat.lt_of_lt_of_le (show (3 - a59.toInt).toNat < (3 - lx7.toInt).toNat from by have t1 : a59.toInt = lx7.toInt + 1 := b61; have t2 : lx7.toInt ≤ 3 := i10; have t3 : lx7.toInt < 3 := b32; omega) (Nat.le_of_lt_succ hf21), (show F_She_addText_23_L2 R N K t0_0 t1_0 fm22 a59 y43 f44 = (F_She_addText_23 R N K t0_0 t1_0) from Eq.trans (by rw [← e60, e53, e52, F_She_addText_23_c16.eq_1]) hR54)⟩⟩
def F_She_addText_24_c16 (K_F_She_addText_24_L2 : Int32 → Int32 → (Nat → Int64) → (Int32 × (Nat → Int64))) (R : Int32) (N : Int32) (K : Int32) (t0_0 : Int32) (t1_0 : (Nat → Int64)) (lx7 : Int32) (lx8 : Int32) (lx9 : (Nat → Int64)) (p50 : (Int32 × (Nat → Int64))) : Int32 × (Nat → Int64) := K_F_She_addText_24_L2 (lx7 + 1 : Int32) (p50.1 : Int32) (p50.2 : (Nat → Int64))
def F_She_addText_24_L2 (R : Int32) (N : Int32) (K : Int32) (t0_0 : Int32) (t1_0 : (Nat → Int64)) : Nat → Int32 → Int32 → (Nat → Int64) → (Int32 × (Nat → Int64))
  | 0, _, _, _ => default
  | fm + 1, lx7, lx8, lx9 => if (8 : Int32) ≤ lx7 then ((lx8, lx9)) else (F_She_addText_24_c16 (F_She_addText_24_L2 R N K t0_0 t1_0 fm) R N K t0_0 t1_0 lx7 lx8 lx9 ((F_She_add_p R N K ((F_jStr_charAt_24 lx7) : Int32) lx8 lx9) : (Int32 × (Nat → Int64))))
def F_She_addText_24 (R : Int32) (N : Int32) (K : Int32) (t0_0 : Int32) (t1_0 : (Nat → Int64)) : Int32 × (Nat → Int64) := F_She_addText_24_L2 R N K t0_0 t1_0 ((8 - (0 : Int32).toInt).toNat + 1) 0 t0_0 t1_0
set_option maxRecDepth 100000 in
set_option maxHeartbeats 4000000 in
theorem X_She_addText_24 (l : Launch) (D : va_G) (g : Nat → ClassId) (q : Nat → Nat) (ws : va_W) (k1 : Nat) (R N K : Int32) (hB1 : q_isShe (nsh g q) g q k1 R N K) (hI : q_I (nsh g q) q ws) (t0_0 : Int32) (hT0 : ws[k1]? = (some (q k1, .inr (1, [.ref (q (k1 + 1)), .int R, .int t0_0])) : Option (Nat × va_E))) (t1_0 : (Nat → Int64)) (hT1 : ws[k1 + 1]? = (some (q (k1 + 1), .inl (g 1, N.toNatClampNeg, .inr (.inl t1_0))) : Option (Nat × va_E))) (pre0 : t0_0.toInt + 20 ≤ K.toInt) : q_mV l y_She_addText prog_11_method_4_code 3 5 0 0 D g [.ref (q k1), .ref (g (8 + 2 * 24))] ws (fun u => q_I (nsh g q) q u ∧ q_un ws u [k1, k1 + 1] ∧ ∃ (u0_0 : Int32) (u1_0 : (Nat → Int64)), u[k1]? = (some (q k1, .inr (1, [.ref (q (k1 + 1)), .int R, .int u0_0])) : Option (Nat × va_E)) ∧ u[k1 + 1]? = (some (q (k1 + 1), .inl (g 1, N.toNatClampNeg, .inr (.inl u1_0))) : Option (Nat × va_E)) ∧ (t0_0.toInt + 8 ≤ u0_0.toInt) ∧ (u0_0.toInt ≤ t0_0.toInt + 8) ∧ (u0_0, u1_0) = (F_She_addText_24 R N K t0_0 t1_0)) := by
  intro sz
  refine q_into (by decide) (Nat.le_of_ble_eq_true rfl) ?_
  intro p e s m below meth c ls hsz C0 V hl
  have hx := C0.1
  have hb := C0.2.1
  have hfk10 : q_F (0 ≤ R.toInt ∧ R.toInt ≤ 8 * N.toInt ∧ 0 ≤ N.toInt ∧ N.toInt ≤ 1376 ∧ 64 ≤ R.toInt ∧ 64 ≤ K.toInt ∧ K.toInt ≤ 1000000) := hB1.2.2.1
  obtain ⟨yy0_0, hh0, btt0_0⟩ := n_shO hI hB1
  obtain ⟨rfl⟩ : t0_0 = yy0_0 := by have z := Option.some.inj (hT0.symm.trans hh0); simpa using z
  replace btt0_0 : q_F (0 ≤ t0_0.toInt ∧ t0_0.toInt ≤ K.toInt) := btt0_0
  replace pre0 : q_F (t0_0.toInt + 20 ≤ K.toInt) := pre0
  have hF : q_un ws ws [k1, k1 + 1] := q_u0
  have hl : lv_has ls 3 [(0, .ref (q k1)), (1, .ref (g (8 + 2 * 24)))] := hl
  refine lv_iconst (v := 0) hx hb d_11_4_0 (by decide) ?_
  refine lv_istore_n (lv' := [(2, .int 0), (0, .ref (q k1)), (1, .ref (g (8 + 2 * 24)))]) hx hb d_11_4_1 rfl hl (by decide) rfl (fun ls hl => ?_)
  refine q_loop (X := Int32 × Int32 × (Nat → Int64)) (fun z H locs ls w15 => q_F (z.1.toInt ≤ 8) ∧ q_F (t0_0.toInt ≤ z.1.toInt + z.2.1.toInt) ∧ q_F (z.2.1.toInt ≤ z.1.toInt + t0_0.toInt) ∧ q_F (z.1.toInt + t0_0.toInt ≤ z.2.1.toInt) ∧ q_Wd D g (va_A ws sz) s w15 H locs ∧ lv_has ls 3 [(2, .int z.1), (0, .ref (q k1)), (1, .ref (g (8 + 2 * 24)))] ∧ q_I (nsh g q) q w15 ∧ q_un ws w15 [k1, k1 + 1] ∧ w15[k1]? = (some (q k1, .inr (1, [.ref (q (k1 + 1)), .int R, .int z.2.1])) : Option (Nat × va_E)) ∧ w15[k1 + 1]? = (some (q (k1 + 1), .inl (g 1, N.toNatClampNeg, .inr (.inl z.2.2))) : Option (Nat × va_E)) ∧ (∃ n, (8 - z.1.toInt).toNat < n ∧ F_She_addText_24_L2 R N K t0_0 t1_0 n z.1 z.2.1 z.2.2 = (F_She_addText_24 R N K t0_0 t1_0))) (fun z => (8 - z.1.toInt).toNat) ?_ ((0 : Int32), (t0_0 : Int32), (t1_0 : (Nat → Int64))) _ _ _ ws ⟨(show q_F (0 ≤ 8) from (show 0 ≤ 8 from by omega)), (show q_F (t0_0.toInt ≤ 0 + t0_0.toInt) from (show t0_0.toInt ≤ 0 + t0_0.toInt from by omega)), (show q_F (t0_0.toInt ≤ 0 + t0_0.toInt) from (show t0_0.toInt ≤ 0 + t0_0.toInt from by omega)), (show q_F (0 + t0_0.toInt ≤ t0_0.toInt) from (show 0 + t0_0.toInt ≤ t0_0.toInt from by omega)), V, q_lw hl (q_lw1 0 rfl (q_lw1 1 rfl (q_lw1 2 rfl q_lw0))), hI, hF, hT0, hT1, ⟨((8 - (0 : Int32).toInt).toNat + 1), Nat.lt_succ_self _, (show F_She_addText_24_L2 R N K t0_0 t1_0 ((8 - (0 : Int32).toInt).toNat + 1) 0 t0_0 t1_0 = (F_She_addText_24 R N K t0_0 t1_0) from (by rw [F_She_addText_24.eq_1]))⟩⟩
  rintro ⟨lx7, lx8, lx9⟩ H locs ls w15 ⟨i10, i11, i12, i13, V, hl, hI, hF, hO16, hO17, ⟨fu20, hf21, hR18⟩⟩ ih14
  obtain ⟨fm22, rfl⟩ : ∃ m, fu20 = m + 1 := ⟨fu20 - 1, by omega⟩
  replace i10 : q_F (lx7.toInt ≤ 8) := i10
  replace i11 : q_F (t0_0.toInt ≤ lx7.toInt + lx8.toInt) := i11
  replace i12 : q_F (lx8.toInt ≤ lx7.toInt + t0_0.toInt) := i12
  replace i13 : q_F (lx7.toInt + t0_0.toInt ≤ lx8.toInt) := i13
  replace hl : lv_has ls 3 [(2, .int lx7), (0, .ref (q k1)), (1, .ref (g (8 + 2 * 24)))] := hl
  replace hO16 : w15[k1]? = (some (q k1, .inr (1, [.ref (q (k1 + 1)), .int R, .int lx8])) : Option (Nat × va_E)) := hO16
  replace hO17 : w15[k1 + 1]? = (some (q (k1 + 1), .inl (g 1, N.toNatClampNeg, .inr (.inl lx9))) : Option (Nat × va_E)) := hO17
  refine lv_iload_n hx hb d_11_4_2 rfl (lv_at hl 0 rfl) ?_
  refine lv_aload_n hx hb d_11_4_3 rfl (lv_at hl 2 rfl) ?_
  refine q_goi V (q_runVs (As := []) (rest := [.int lx7]) (d := 2) (mc := 0) (ms := 0) (i := 24) C0 V rfl LV_She_24 (X_jStr_length_24 l D g q w15   hI   _) rfl rfl rfl hl.1 rfl (Nat.le_of_ble_eq_true rfl) ⟨by decide, by decide⟩ ⟨Nat.le_of_ble_eq_true rfl, Nat.le_of_ble_eq_true rfl⟩ d_11_4_4) (fun a25 u23 H locs hp24 V => ?_)
  obtain ⟨rfl, b26, b27, hE28⟩ := hp24
  have e29 : a25 = (F_jStr_length_24) := hE28
  replace b26 : q_F (8 ≤ a25.toInt) := b26
  replace b27 : q_F (a25.toInt ≤ 8) := b27
  obtain rfl : a25 = (8 : Int32) := q_Ieq (x := a25.toInt) (y := 8) rfl (by decide) (by have t1 : 8 ≤ a25.toInt := b26; have t2 : a25.toInt ≤ 8 := b27; omega)
  refine lv_icmp_ge (tgt := 25) hx hb d_11_4_7 (by decide) (fun c30 => ?_) (fun c30 => ?_)
  ·
    have b31 : q_F (8 ≤ lx7.toInt) := (q_leI c30)
    exact q_retv C0 V (⟨hI, hF, lx8, lx9, hO16, hO17, (show t0_0.toInt + 8 ≤ lx8.toInt from (by have t1 : lx7.toInt + t0_0.toInt ≤ lx8.toInt := i13; have t2 : 8 ≤ lx7.toInt := b31; omega)), (show lx8.toInt ≤ t0_0.toInt + 8 from (by have t1 : lx7.toInt ≤ 8 := i10; have t2 : lx8.toInt ≤ lx7.toInt + t0_0.toInt := i12; omega)), (show (lx8, lx9) = (F_She_addText_24 R N K t0_0 t1_0) from Eq.trans (by rw [F_She_addText_24_L2.eq_2, if_pos c30]) hR18)⟩) d_11_4_25
  ·
    have b32 : q_F (lx7.toInt < 8) := (q_nleI c30)
    refine lv_aload_n hx hb d_11_4_10 rfl (lv_at hl 1 rfl) ?_
    refine lv_aload_n hx hb d_11_4_11 rfl (lv_at hl 2 rfl) ?_
    refine lv_iload_n hx hb d_11_4_12 rfl (lv_at hl 0 rfl) ?_
    refine q_goi V (q_runVs (As := [.int lx7]) (rest := [.ref (q k1)]) (d := 4) (mc := 0) (ms := 0) (i := 24) C0 V rfl LV_She_30 (X_jStr_charAt_24 l D g q w15  lx7 hI  (by have t1 : t0_0.toInt ≤ lx7.toInt + lx8.toInt := i11; have t2 : lx8.toInt ≤ lx7.toInt + t0_0.toInt := i12; omega) (by have t1 : lx7.toInt < 8 := b32; omega) _) rfl rfl rfl hl.1 rfl (Nat.le_of_ble_eq_true rfl) ⟨by decide, by decide⟩ ⟨Nat.le_of_ble_eq_true rfl, Nat.le_of_ble_eq_true rfl⟩ d_11_4_13) (fun a35 u33 H locs hp34 V => ?_)
    obtain ⟨rfl, b36, b37, hE38⟩ := hp34
    have e39 : a35 = (F_jStr_charAt_24 lx7) := hE38
    replace b36 : q_F (0 ≤ a35.toInt) := b36
    replace b37 : q_F (a35.toInt ≤ 255) := b37
    refine q_gov V (q_runV (As := [.int a35]) (rest := []) (d := 1) (mc := 0) (ms := 0) (ci := 1) C0 V rfl LV_She_34 (X_She_add_p l D g q w15 k1 R N K hB1 a35 hI lx8 hO16 lx9 hO17 (by have t1 : t0_0.toInt + 20 ≤ K.toInt := pre0; have t2 : lx7.toInt ≤ 8 := i10; have t3 : lx8.toInt ≤ lx7.toInt + t0_0.toInt := i12; omega) _) rfl rfl hO16 rfl hl.1 rfl (Nat.le_of_ble_eq_true rfl) ⟨by decide, by decide⟩ ⟨Nat.le_of_ble_eq_true rfl, Nat.le_of_ble_eq_true rfl⟩ d_11_4_16) (fun u40 H locs hp41 V => ?_)
    obtain ⟨hI, hu49, y43, f44, hO42, hA45, b46, b47, hE48⟩ := hp41
    replace hO42 : u40[k1]? = (some (q k1, .inr (1, [.ref (q (k1 + 1)), .int R, .int y43])) : Option (Nat × va_E)) := hO42
    replace hA45 : u40[k1 + 1]? = (some (q (k1 + 1), .inl (g 1, N.toNatClampNeg, .inr (.inl f44))) : Option (Nat × va_E)) := hA45
    obtain ⟨p50, e51⟩ : ∃ z, z = (F_She_add_p R N K a35 lx8 lx9) := ⟨_, rfl⟩
    have e52 : y43 = p50.1 := congrArg (fun z => z.1) (hE48.trans e51.symm)
    have e53 : f44 = p50.2 := congrArg (fun z => z.2) (hE48.trans e51.symm)
    replace b46 : q_F (lx8.toInt + 1 ≤ y43.toInt) := b46
    replace b47 : q_F (y43.toInt ≤ lx8.toInt + 1) := b47
    replace hF := q_uc hF hu49 (by simp)
    have hR54 := (show F_She_addText_24_c16 (F_She_addText_24_L2 R N K t0_0 t1_0 fm22) R N K t0_0 t1_0 lx7 lx8 lx9 p50 = (F_She_addText_24 R N K t0_0 t1_0) from Eq.trans (by rw [e51, e39, F_She_addText_24_L2.eq_2, if_neg c30]) hR18)
    obtain ⟨a59, e60⟩ := q_nm (lx7 + 1 : Int32)
    have b61 : q_F (a59.toInt = lx7.toInt + 1) := (by rw [← e60]; exact q_addI (y := 1) rfl (by decide) (by have t1 : t0_0.toInt ≤ lx7.toInt + lx8.toInt := i11; have t2 : lx8.toInt ≤ lx7.toInt + t0_0.toInt := i12; have t3 : lx7.toInt ≤ 8 := i10; omega) (by have t1 : t0_0.toInt ≤ lx7.toInt + lx8.toInt := i11; have t2 : lx8.toInt ≤ lx7.toInt + t0_0.toInt := i12; have t3 : lx7.toInt ≤ 8 := i10; omega))
    refine lv_iinc (v := a59) (lv' := [(2, .int a59), (0, .ref (q k1)), (1, .ref (g (8 + 2 * 24)))]) hx hb d_11_4_19 hl (k := 0) rfl (e60) (by decide) rfl (fun ls hl => ?_)
    refine lv_goto (tgt := 2) hx hb d_11_4_22 (by decide) ?_
    exact ih14 ((a59 : Int32), (y43 : Int32), (f44 : (Nat → Int64))) _ _ _ _ (show (8 - a59.toInt).toNat < (8 - lx7.toInt).toNat from by have t1 : a59.toInt = lx7.toInt + 1 := b61; have t2 : lx7.toInt ≤ 8 := i10; have t3 : lx7.toInt < 8 := b32; omega) ⟨(show q_F (a59.toInt ≤ 8) from (show a59.toInt ≤ 8 from by have t1 : lx7.toInt < 8 := b32; have t2 : a59.toInt = lx7.toInt + 1 := b61; omega)), (show q_F (t0_0.toInt ≤ a59.toInt + y43.toInt) from (show t0_0.toInt ≤ a59.toInt + y43.toInt from by have t1 : t0_0.toInt ≤ lx7.toInt + lx8.toInt := i11; have t2 : lx8.toInt + 1 ≤ y43.toInt := b46; have t3 : a59.toInt = lx7.toInt + 1 := b61; omega)), (show q_F (y43.toInt ≤ a59.toInt + t0_0.toInt) from (show y43.toInt ≤ a59.toInt + t0_0.toInt from by have t1 : lx8.toInt ≤ lx7.toInt + t0_0.toInt := i12; have t2 : y43.toInt ≤ lx8.toInt + 1 := b47; have t3 : a59.toInt = lx7.toInt + 1 := b61; omega)), (show q_F (a59.toInt + t0_0.toInt ≤ y43.toInt) from (show a59.toInt + t0_0.toInt ≤ y43.toInt from by have t1 : lx7.toInt + t0_0.toInt ≤ lx8.toInt := i13; have t2 : lx8.toInt + 1 ≤ y43.toInt := b46; have t3 : a59.toInt = lx7.toInt + 1 := b61; omega)), V, q_lw hl (q_lw1 0 rfl (q_lw1 1 rfl (q_lw1 2 rfl q_lw0))), hI, hF, hO42, hA45, ⟨fm22, Nat.lt_of_lt_of_le (show (8 - a59.toInt).toNat < (8 - lx7.toInt).toNat from by have t1 : a59.toInt = lx7.toInt + 1 := b61; have t2 : lx7.toInt ≤ 8 := i10; have t3 : lx7.toInt < 8 := b32; omega) (Nat.le_of_lt_succ hf21), (show F_She_addText_24_L2 R N K t0_0 t1_0 fm22 a59 y43 f44 = (F_She_addText_24 R N K t0_0 t1_0) from Eq.trans (by rw [← e60, e53, e52, F_She_addText_24_c16.eq_1]) hR54)⟩⟩
