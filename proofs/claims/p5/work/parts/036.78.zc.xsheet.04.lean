def F_Dig_writeHead_c46 (K_F_Dig_writeHead_L30 : Int32 → Int32 → (Nat → Int64) → (Int32 × (Nat → Int64))) (R : Int32) (N : Int32) (K : Int32) (x3 : Int32) (x4 : Int32) (t0_0 : Int32) (t0_1 : Int32) (t1_0 : (Nat → Int32)) (t2_0 : Int32) (t3_0 : (Nat → Int64)) (p31 : (Int32 × (Nat → Int64))) (lx40 : Int32) (lx41 : (Nat → Int64)) (lx58 : Int32) (lx59 : Int32) (lx60 : (Nat → Int64)) (p96 : (Int32 × (Nat → Int64))) : Int32 × (Nat → Int64) := K_F_Dig_writeHead_L30 (lx58 + 1 : Int32) (p96.1 : Int32) (p96.2 : (Nat → Int64))
def F_Dig_writeHead_L30 (R : Int32) (N : Int32) (K : Int32) (x3 : Int32) (x4 : Int32) (t0_0 : Int32) (t0_1 : Int32) (t1_0 : (Nat → Int32)) (t2_0 : Int32) (t3_0 : (Nat → Int64)) (p31 : (Int32 × (Nat → Int64))) (lx40 : Int32) (lx41 : (Nat → Int64)) : Nat → Int32 → Int32 → (Nat → Int64) → (Int32 × (Nat → Int64))
  | 0, _, _, _ => default
  | fm + 1, lx58, lx59, lx60 => if x3 ≤ lx58 then ((lx59, lx60)) else (F_Dig_writeHead_c46 (F_Dig_writeHead_L30 R N K x3 x4 t0_0 t0_1 t1_0 t2_0 t3_0 p31 lx40 lx41 fm) R N K x3 x4 t0_0 t0_1 t1_0 t2_0 t3_0 p31 lx40 lx41 lx58 lx59 lx60 ((F_She_add_p R N K (48 + ((F_Dig_figure lx58 t0_0 t0_1 t1_0) : Int32) : Int32) lx59 lx60) : (Int32 × (Nat → Int64))))
def F_Dig_writeHead_J27 (R : Int32) (N : Int32) (K : Int32) (x3 : Int32) (x4 : Int32) (t0_0 : Int32) (t0_1 : Int32) (t1_0 : (Nat → Int32)) (t2_0 : Int32) (t3_0 : (Nat → Int64)) (p31 : (Int32 × (Nat → Int64))) (lx40 : Int32) (lx41 : (Nat → Int64)) : Int32 × (Nat → Int64) := F_Dig_writeHead_L30 R N K x3 x4 t0_0 t0_1 t1_0 t2_0 t3_0 p31 lx40 lx41 ((20000 - (1 : Int32).toInt).toNat + 1) 1 lx40 lx41
def F_Dig_writeHead_c24 (R : Int32) (N : Int32) (K : Int32) (x3 : Int32) (x4 : Int32) (t0_0 : Int32) (t0_1 : Int32) (t1_0 : (Nat → Int32)) (t2_0 : Int32) (t3_0 : (Nat → Int64)) (p31 : (Int32 × (Nat → Int64))) (y24 : Int32) (f25 : (Nat → Int64)) (p128 : (Int32 × (Nat → Int64))) : Int32 × (Nat → Int64) := F_Dig_writeHead_J27 R N K x3 x4 t0_0 t0_1 t1_0 t2_0 t3_0 p31 (p128.1 : Int32) (p128.2 : (Nat → Int64))
def F_Dig_writeHead_J21 (R : Int32) (N : Int32) (K : Int32) (x3 : Int32) (x4 : Int32) (t0_0 : Int32) (t0_1 : Int32) (t1_0 : (Nat → Int32)) (t2_0 : Int32) (t3_0 : (Nat → Int64)) (p31 : (Int32 × (Nat → Int64))) (y24 : Int32) (f25 : (Nat → Int64)) : Int32 × (Nat → Int64) := F_Dig_writeHead_c24 R N K x3 x4 t0_0 t0_1 t1_0 t2_0 t3_0 p31 y24 f25 ((F_She_add_p R N K (46 : Int32) y24 f25) : (Int32 × (Nat → Int64)))
def F_Dig_writeHead_c9 (R : Int32) (N : Int32) (K : Int32) (x3 : Int32) (x4 : Int32) (t0_0 : Int32) (t0_1 : Int32) (t1_0 : (Nat → Int32)) (t2_0 : Int32) (t3_0 : (Nat → Int64)) (p31 : (Int32 × (Nat → Int64))) : Int32 × (Nat → Int64) := if (1 : Int32) < x3 then (F_Dig_writeHead_J21 R N K x3 x4 t0_0 t0_1 t1_0 t2_0 t3_0 p31 (p31.1 : Int32) (p31.2 : (Nat → Int64))) else (if x4 = (0 : Int32) then (F_Dig_writeHead_J27 R N K x3 x4 t0_0 t0_1 t1_0 t2_0 t3_0 p31 (p31.1 : Int32) (p31.2 : (Nat → Int64))) else (F_Dig_writeHead_J21 R N K x3 x4 t0_0 t0_1 t1_0 t2_0 t3_0 p31 (p31.1 : Int32) (p31.2 : (Nat → Int64))))
def F_Dig_writeHead (R : Int32) (N : Int32) (K : Int32) (x3 : Int32) (x4 : Int32) (t0_0 : Int32) (t0_1 : Int32) (t1_0 : (Nat → Int32)) (t2_0 : Int32) (t3_0 : (Nat → Int64)) : Int32 × (Nat → Int64) := F_Dig_writeHead_c9 R N K x3 x4 t0_0 t0_1 t1_0 t2_0 t3_0 ((F_She_add_p R N K (48 + ((F_Dig_figure (0 : Int32) t0_0 t0_1 t1_0) : Int32) : Int32) t2_0 t3_0) : (Int32 × (Nat → Int64)))
set_option maxRecDepth 100000 in
set_option maxHeartbeats 4000000 in
theorem X_Dig_writeHead (l : Launch) (D : va_G) (g : Nat → ClassId) (q : Nat → Nat) (ws : va_W) (k2 : Nat) (R N K : Int32) (hB2 : q_isShe (nsh g q) g q k2 R N K) (x3 : Int32) (x4 : Int32) (hI : q_I (nsh g q) q ws) (t0_0 : Int32) (t0_1 : Int32) (hT0 : ws[36]? = (some (q 36, .inr (7, [.int t0_0, .int t0_1, .ref (q 37)])) : Option (Nat × va_E))) (t1_0 : (Nat → Int32)) (hT1 : ws[37]? = (some (q 37, .inl (g 2, 1026, .inl t1_0)) : Option (Nat × va_E))) (t2_0 : Int32) (hT2 : ws[k2]? = (some (q k2, .inr (1, [.ref (q (k2 + 1)), .int R, .int t2_0])) : Option (Nat × va_E))) (t3_0 : (Nat → Int64)) (hT3 : ws[k2 + 1]? = (some (q (k2 + 1), .inl (g 1, N.toNatClampNeg, .inr (.inl t3_0))) : Option (Nat × va_E))) (hzx4 : 0 ≤ x4.toInt ∧ x4.toInt ≤ 1) (pre0 : x3.toInt ≤ 20000) (pre1 : t2_0.toInt ≤ 400000) (pre2 : 1000000 ≤ K.toInt) : q_mV l y_Dig_writeHead prog_5_method_11_code 5 2 0 0 D g [.ref (q 36), .ref (q k2), .int x3, .int x4] ws (fun u => q_I (nsh g q) q u ∧ q_un ws u [k2, k2 + 1] ∧ ∃ (u2_0 : Int32) (u3_0 : (Nat → Int64)), u[k2]? = (some (q k2, .inr (1, [.ref (q (k2 + 1)), .int R, .int u2_0])) : Option (Nat × va_E)) ∧ u[k2 + 1]? = (some (q (k2 + 1), .inl (g 1, N.toNatClampNeg, .inr (.inl u3_0))) : Option (Nat × va_E)) ∧ (x3.toInt ≤ u2_0.toInt) ∧ (x4.toInt + 1 ≤ u2_0.toInt) ∧ (t2_0.toInt + 1 ≤ u2_0.toInt) ∧ (u2_0.toInt ≤ t2_0.toInt + 20001) ∧ (u2_0, u3_0) = (F_Dig_writeHead R N K x3 x4 t0_0 t0_1 t1_0 t2_0 t3_0)) := by
  intro sz
  refine q_into (by decide) (Nat.le_of_ble_eq_true rfl) ?_
  intro p e s m below meth c ls hsz C0 V hl
  have hx := C0.1
  have hb := C0.2.1
  replace hzx4 : q_F (0 ≤ x4.toInt ∧ x4.toInt ≤ 1) := hzx4
  have btt0_1 := (n_w36 hI hT0).2
  clear btt0_1
  have btt2_0 := n_shW hI hB2 hT2
  replace btt2_0 : q_F (0 ≤ t2_0.toInt ∧ t2_0.toInt ≤ K.toInt) := btt2_0
  replace pre0 : q_F (x3.toInt ≤ 20000) := pre0
  replace pre1 : q_F (t2_0.toInt ≤ 400000) := pre1
  replace pre2 : q_F (1000000 ≤ K.toInt) := pre2
  have hF : q_un ws ws [k2, k2 + 1] := q_u0
  have hl : lv_has ls 5 [(0, .ref (q 36)), (1, .ref (q k2)), (2, .int x3), (3, .int x4)] := hl
  refine lv_aload_n hx hb d_5_11_0 rfl (lv_at hl 1 rfl) ?_
  refine lv_bipush (v := 48) hx hb d_5_11_1 (by decide) ?_
  refine lv_aload_n hx hb d_5_11_3 rfl (lv_at hl 0 rfl) ?_
  refine lv_iconst (v := 0) hx hb d_5_11_4 (by decide) ?_
  refine q_goi V (q_runV (As := [.int 0]) (rest := [.int 48, .ref (q k2)]) (d := 1) (mc := 0) (ms := 0) (ci := 7) C0 V rfl LV_Dig_49 (X_Dig_figure l D g q ws  0 hI t0_0 t0_1 hT0 t1_0 hT1  _) rfl rfl hT0 rfl hl.1 rfl (Nat.le_of_ble_eq_true rfl) ⟨by decide, by decide⟩ ⟨Nat.le_of_ble_eq_true rfl, Nat.le_of_ble_eq_true rfl⟩ d_5_11_5) (fun a16 u14 H locs hp15 V => ?_)
  obtain ⟨rfl, hE17⟩ := hp15
  have e18 : a16 = (F_Dig_figure (0 : Int32) t0_0 t0_1 t1_0) := hE17
  refine lv_iadd hx hb d_5_11_8 ?_
  obtain ⟨a19, e20⟩ := q_nm (48 + a16 : Int32)
  refine q_ti (v := a19) e20 ?_
  refine q_gov V (q_runV (As := [.int a19]) (rest := []) (d := 1) (mc := 0) (ms := 0) (ci := 1) C0 V rfl LV_Dig_52 (X_She_add_p l D g q ws k2 R N K hB2 a19 hI t2_0 hT2 t3_0 hT3 (by have t1 : t2_0.toInt ≤ 400000 := pre1; have t2 : 1000000 ≤ K.toInt := pre2; omega) _) rfl rfl hT2 rfl hl.1 rfl (Nat.le_of_ble_eq_true rfl) ⟨by decide, by decide⟩ ⟨Nat.le_of_ble_eq_true rfl, Nat.le_of_ble_eq_true rfl⟩ d_5_11_9) (fun u21 H locs hp22 V => ?_)
  obtain ⟨hI, hZ9⟩ := hp22
  obtain ⟨hu30, hZ9⟩ := hZ9
  obtain ⟨y24, hZ9⟩ := hZ9
  obtain ⟨f25, hZ9⟩ := hZ9
  obtain ⟨hO23, hZ9⟩ := hZ9
  obtain ⟨hA26, hZ9⟩ := hZ9
  obtain ⟨b27, hZ9⟩ := hZ9
  obtain ⟨b28, hE29⟩ := hZ9
  replace hO23 : u21[k2]? = (some (q k2, .inr (1, [.ref (q (k2 + 1)), .int R, .int y24])) : Option (Nat × va_E)) := hO23
  replace hA26 : u21[k2 + 1]? = (some (q (k2 + 1), .inl (g 1, N.toNatClampNeg, .inr (.inl f25))) : Option (Nat × va_E)) := hA26
  obtain ⟨p31, e32⟩ : ∃ z, z = (F_She_add_p R N K a19 t2_0 t3_0) := ⟨_, rfl⟩
  have e33 : y24 = p31.1 := congrArg (fun z => z.1) (hE29.trans e32.symm)
  have e34 : f25 = p31.2 := congrArg (fun z => z.2) (hE29.trans e32.symm)
  replace b27 : q_F (t2_0.toInt + 1 ≤ y24.toInt) := b27
  replace b28 : q_F (y24.toInt ≤ t2_0.toInt + 1) := b28
  replace hT0 := (hu30 _ (by have z0 := hB2.2.2.2; simp only [List.mem_cons, List.not_mem_nil, or_false, not_or]; omega)).trans hT0
  replace hT1 := (hu30 _ (by have z0 := hB2.2.2.2; simp only [List.mem_cons, List.not_mem_nil, or_false, not_or]; omega)).trans hT1
  replace hF := q_uc hF hu30 (by first | exact (q_sk (q_mi 0 rfl) (q_sk (q_mi 1 rfl) q_s0)) | simp)
  have hR35 := (show F_Dig_writeHead_c9 R N K x3 x4 t0_0 t0_1 t1_0 t2_0 t3_0 p31 = (F_Dig_writeHead R N K x3 x4 t0_0 t0_1 t1_0 t2_0 t3_0) from (by rw [e32, ← e20, e18, F_Dig_writeHead.eq_1]))
  refine lv_iload_n hx hb d_5_11_12 rfl (lv_at hl 2 rfl) ?_
  refine lv_iconst (v := 1) hx hb d_5_11_13 (by decide) ?_
  refine q_join (X := Int32 × (Nat → Int64)) (fun z H locs ls w51 => q_F (x3.toInt ≤ z.1.toInt + 19998) ∧ q_F (x4.toInt + 1 ≤ z.1.toInt) ∧ q_F (t2_0.toInt + 1 ≤ z.1.toInt) ∧ q_F (z.1.toInt ≤ t2_0.toInt + 2) ∧ q_Wd D g (va_A ws sz) s w51 H locs ∧ lv_has ls 5 [(0, .ref (q 36)), (1, .ref (q k2)), (2, .int x3)] ∧ q_I (nsh g q) q w51 ∧ q_un ws w51 [k2, k2 + 1] ∧ w51[36]? = (some (q 36, .inr (7, [.int t0_0, .int t0_1, .ref (q 37)])) : Option (Nat × va_E)) ∧ w51[37]? = (some (q 37, .inl (g 2, 1026, .inl t1_0)) : Option (Nat × va_E)) ∧ w51[k2]? = (some (q k2, .inr (1, [.ref (q (k2 + 1)), .int R, .int z.1])) : Option (Nat × va_E)) ∧ w51[k2 + 1]? = (some (q (k2 + 1), .inl (g 1, N.toNatClampNeg, .inr (.inl z.2))) : Option (Nat × va_E)) ∧ F_Dig_writeHead_J27 R N K x3 x4 t0_0 t0_1 t1_0 t2_0 t3_0 p31 z.1 z.2 = (F_Dig_writeHead R N K x3 x4 t0_0 t0_1 t1_0 t2_0 t3_0)) (fun z => []) 27 0 0 ?_ ?_
  ·
    rintro ⟨lx40, lx41⟩ H locs ls w51 ⟨i47, i48, i49, i50, V, hl, hI, hF, hO42, hA43, hO44, hA45, hR52⟩
    clear i47
    replace i48 : q_F (x4.toInt + 1 ≤ lx40.toInt) := i48
    replace i49 : q_F (t2_0.toInt + 1 ≤ lx40.toInt) := i49
    replace i50 : q_F (lx40.toInt ≤ t2_0.toInt + 2) := i50
    replace hl : lv_has ls 5 [(0, .ref (q 36)), (1, .ref (q k2)), (2, .int x3)] := hl
    replace hO42 : w51[36]? = (some (q 36, .inr (7, [.int t0_0, .int t0_1, .ref (q 37)])) : Option (Nat × va_E)) := hO42
    replace hA43 : w51[37]? = (some (q 37, .inl (g 2, 1026, .inl t1_0)) : Option (Nat × va_E)) := hA43
    replace hO44 : w51[k2]? = (some (q k2, .inr (1, [.ref (q (k2 + 1)), .int R, .int lx40])) : Option (Nat × va_E)) := hO44
    replace hA45 : w51[k2 + 1]? = (some (q (k2 + 1), .inl (g 1, N.toNatClampNeg, .inr (.inl lx41))) : Option (Nat × va_E)) := hA45
    refine lv_iconst (v := 1) hx hb d_5_11_27 (by decide) ?_
    refine lv_istore (lv' := [(4, .int 1), (0, .ref (q 36)), (1, .ref (q k2)), (2, .int x3)]) hx hb d_5_11_28 hl (by decide) rfl (fun ls hl => ?_)
    refine q_loop (X := Int32 × Int32 × (Nat → Int64)) (fun z H locs ls w66 => q_F (z.1.toInt ≤ 20000) ∧ q_F (lx40.toInt + 1 ≤ z.1.toInt + z.2.1.toInt) ∧ q_F (z.2.1.toInt + 1 ≤ z.1.toInt + lx40.toInt) ∧ q_F (z.1.toInt + lx40.toInt ≤ z.2.1.toInt + 1) ∧ q_Wd D g (va_A ws sz) s w66 H locs ∧ lv_has ls 5 [(4, .int z.1), (0, .ref (q 36)), (1, .ref (q k2)), (2, .int x3)] ∧ q_I (nsh g q) q w66 ∧ q_un ws w66 [k2, k2 + 1] ∧ w66[36]? = (some (q 36, .inr (7, [.int t0_0, .int t0_1, .ref (q 37)])) : Option (Nat × va_E)) ∧ w66[37]? = (some (q 37, .inl (g 2, 1026, .inl t1_0)) : Option (Nat × va_E)) ∧ w66[k2]? = (some (q k2, .inr (1, [.ref (q (k2 + 1)), .int R, .int z.2.1])) : Option (Nat × va_E)) ∧ w66[k2 + 1]? = (some (q (k2 + 1), .inl (g 1, N.toNatClampNeg, .inr (.inl z.2.2))) : Option (Nat × va_E)) ∧ (∃ n, (20000 - z.1.toInt).toNat < n ∧ F_Dig_writeHead_L30 R N K x3 x4 t0_0 t0_1 t1_0 t2_0 t3_0 p31 lx40 lx41 n z.1 z.2.1 z.2.2 = (F_Dig_writeHead R N K x3 x4 t0_0 t0_1 t1_0 t2_0 t3_0))) (fun z => (20000 - z.1.toInt).toNat) ?_ ((1 : Int32), (lx40 : Int32), (lx41 : (Nat → Int64))) _ _ _ w51 ⟨(show q_F (1 ≤ 20000) from (show 1 ≤ 20000 from by omega)), (show q_F (lx40.toInt + 1 ≤ 1 + lx40.toInt) from (show lx40.toInt + 1 ≤ 1 + lx40.toInt from by omega)), (show q_F (lx40.toInt + 1 ≤ 1 + lx40.toInt) from (show lx40.toInt + 1 ≤ 1 + lx40.toInt from by omega)), (show q_F (1 + lx40.toInt ≤ lx40.toInt + 1) from (show 1 + lx40.toInt ≤ lx40.toInt + 1 from by omega)), V, q_lw hl (q_lw1 0 rfl (q_lw1 1 rfl (q_lw1 2 rfl (q_lw1 3 rfl q_lw0)))), hI, hF, hO42, hA43, hO44, hA45, ⟨((20000 - (1 : Int32).toInt).toNat + 1), Nat.lt_succ_self _, (show F_Dig_writeHead_L30 R N K x3 x4 t0_0 t0_1 t1_0 t2_0 t3_0 p31 lx40 lx41 ((20000 - (1 : Int32).toInt).toNat + 1) 1 lx40 lx41 = (F_Dig_writeHead R N K x3 x4 t0_0 t0_1 t1_0 t2_0 t3_0) from Eq.trans (by rw [F_Dig_writeHead_J27.eq_1]) hR52)⟩⟩
    rintro ⟨lx58, lx59, lx60⟩ H locs ls w66 ⟨i61, i62, i63, i64, V, hl, hI, hF, hO67, hO68, hO69, hO70, ⟨fu73, hf74, hR71⟩⟩ ih65
    obtain ⟨fm75, rfl⟩ : ∃ m, fu73 = m + 1 := ⟨fu73 - 1, by omega⟩
    replace i61 : q_F (lx58.toInt ≤ 20000) := i61
    replace i62 : q_F (lx40.toInt + 1 ≤ lx58.toInt + lx59.toInt) := i62
    replace i63 : q_F (lx59.toInt + 1 ≤ lx58.toInt + lx40.toInt) := i63
    replace i64 : q_F (lx58.toInt + lx40.toInt ≤ lx59.toInt + 1) := i64
    replace hl : lv_has ls 5 [(4, .int lx58), (0, .ref (q 36)), (1, .ref (q k2)), (2, .int x3)] := hl
    replace hO67 : w66[36]? = (some (q 36, .inr (7, [.int t0_0, .int t0_1, .ref (q 37)])) : Option (Nat × va_E)) := hO67
    replace hO68 : w66[37]? = (some (q 37, .inl (g 2, 1026, .inl t1_0)) : Option (Nat × va_E)) := hO68
    replace hO69 : w66[k2]? = (some (q k2, .inr (1, [.ref (q (k2 + 1)), .int R, .int lx59])) : Option (Nat × va_E)) := hO69
    replace hO70 : w66[k2 + 1]? = (some (q (k2 + 1), .inl (g 1, N.toNatClampNeg, .inr (.inl lx60))) : Option (Nat × va_E)) := hO70
    refine lv_iload hx hb d_5_11_30 (lv_at hl 0 rfl) ?_
    refine lv_iload_n hx hb d_5_11_32 rfl (lv_at hl 3 rfl) ?_
    refine lv_icmp_ge (tgt := 55) hx hb d_5_11_33 (by decide) (fun c76 => ?_) (fun c76 => ?_)
    ·
      have b77 : q_F (x3.toInt ≤ lx58.toInt) := (q_leI c76)
      exact q_retv C0 V (⟨hI, hF, lx59, lx60, hO69, hO70, (show x3.toInt ≤ lx59.toInt from (by have t1 : 0 ≤ x4.toInt ∧ x4.toInt ≤ 1 := hzx4; have t2 : x4.toInt + 1 ≤ lx40.toInt := i48; have t3 : lx58.toInt + lx40.toInt ≤ lx59.toInt + 1 := i64; have t4 : x3.toInt ≤ lx58.toInt := b77; omega)), (show x4.toInt + 1 ≤ lx59.toInt from (by have t1 : x4.toInt + 1 ≤ lx40.toInt := i48; have t2 : lx40.toInt + 1 ≤ lx58.toInt + lx59.toInt := i62; have t3 : lx58.toInt + lx40.toInt ≤ lx59.toInt + 1 := i64; omega)), (show t2_0.toInt + 1 ≤ lx59.toInt from (by have t1 : t2_0.toInt + 1 ≤ lx40.toInt := i49; have t2 : lx40.toInt + 1 ≤ lx58.toInt + lx59.toInt := i62; have t3 : lx58.toInt + lx40.toInt ≤ lx59.toInt + 1 := i64; omega)), (show lx59.toInt ≤ t2_0.toInt + 20001 from (by have t1 : lx40.toInt ≤ t2_0.toInt + 2 := i50; have t2 : lx58.toInt ≤ 20000 := i61; have t3 : lx59.toInt + 1 ≤ lx58.toInt + lx40.toInt := i63; omega)), (show (lx59, lx60) = (F_Dig_writeHead R N K x3 x4 t0_0 t0_1 t1_0 t2_0 t3_0) from Eq.trans (by rw [F_Dig_writeHead_L30.eq_2, if_pos c76]) hR71)⟩) d_5_11_55
    ·
      have b78 : q_F (lx58.toInt < x3.toInt) := (q_nleI c76)
      refine lv_aload_n hx hb d_5_11_36 rfl (lv_at hl 2 rfl) ?_
      refine lv_bipush (v := 48) hx hb d_5_11_37 (by decide) ?_
      refine lv_aload_n hx hb d_5_11_39 rfl (lv_at hl 1 rfl) ?_
      refine lv_iload hx hb d_5_11_40 (lv_at hl 0 rfl) ?_
      refine q_goi V (q_runV (As := [.int lx58]) (rest := [.int 48, .ref (q k2)]) (d := 1) (mc := 0) (ms := 0) (ci := 7) C0 V rfl LV_Dig_49 (X_Dig_figure l D g q w66  lx58 hI t0_0 t0_1 hO67 t1_0 hO68  _) rfl rfl hO67 rfl hl.1 rfl (Nat.le_of_ble_eq_true rfl) ⟨by decide, by decide⟩ ⟨Nat.le_of_ble_eq_true rfl, Nat.le_of_ble_eq_true rfl⟩ d_5_11_42) (fun a81 u79 H locs hp80 V => ?_)
      obtain ⟨rfl, hE82⟩ := hp80
      have e83 : a81 = (F_Dig_figure lx58 t0_0 t0_1 t1_0) := hE82
      refine lv_iadd hx hb d_5_11_45 ?_
      obtain ⟨a84, e85⟩ := q_nm (48 + a81 : Int32)
      refine q_ti (v := a84) e85 ?_
      refine q_gov V (q_runV (As := [.int a84]) (rest := []) (d := 1) (mc := 0) (ms := 0) (ci := 1) C0 V rfl LV_Dig_52 (X_She_add_p l D g q w66 k2 R N K hB2 a84 hI lx59 hO69 lx60 hO70 (by have t1 : t2_0.toInt ≤ 400000 := pre1; have t2 : 1000000 ≤ K.toInt := pre2; have t3 : lx40.toInt ≤ t2_0.toInt + 2 := i50; have t4 : lx58.toInt ≤ 20000 := i61; have t5 : lx59.toInt + 1 ≤ lx58.toInt + lx40.toInt := i63; omega) _) rfl rfl hO69 rfl hl.1 rfl (Nat.le_of_ble_eq_true rfl) ⟨by decide, by decide⟩ ⟨Nat.le_of_ble_eq_true rfl, Nat.le_of_ble_eq_true rfl⟩ d_5_11_46) (fun u86 H locs hp87 V => ?_)
      obtain ⟨hI, hZ9⟩ := hp87
      obtain ⟨hu95, hZ9⟩ := hZ9
      obtain ⟨y89, hZ9⟩ := hZ9
      obtain ⟨f90, hZ9⟩ := hZ9
      obtain ⟨hO88, hZ9⟩ := hZ9
      obtain ⟨hA91, hZ9⟩ := hZ9
      obtain ⟨b92, hZ9⟩ := hZ9
      obtain ⟨b93, hE94⟩ := hZ9
      replace hO88 : u86[k2]? = (some (q k2, .inr (1, [.ref (q (k2 + 1)), .int R, .int y89])) : Option (Nat × va_E)) := hO88
      replace hA91 : u86[k2 + 1]? = (some (q (k2 + 1), .inl (g 1, N.toNatClampNeg, .inr (.inl f90))) : Option (Nat × va_E)) := hA91
      obtain ⟨p96, e97⟩ : ∃ z, z = (F_She_add_p R N K a84 lx59 lx60) := ⟨_, rfl⟩
      have e98 : y89 = p96.1 := congrArg (fun z => z.1) (hE94.trans e97.symm)
      have e99 : f90 = p96.2 := congrArg (fun z => z.2) (hE94.trans e97.symm)
      replace b92 : q_F (lx59.toInt + 1 ≤ y89.toInt) := b92
      replace b93 : q_F (y89.toInt ≤ lx59.toInt + 1) := b93
      replace hO67 := (hu95 _ (by have z0 := hB2.2.2.2; simp only [List.mem_cons, List.not_mem_nil, or_false, not_or]; omega)).trans hO67
      replace hO68 := (hu95 _ (by have z0 := hB2.2.2.2; simp only [List.mem_cons, List.not_mem_nil, or_false, not_or]; omega)).trans hO68
      replace hF := q_uc hF hu95 (by first | exact (q_sk (q_mi 0 rfl) (q_sk (q_mi 1 rfl) q_s0)) | simp)
      have hR100 := (show F_Dig_writeHead_c46 (F_Dig_writeHead_L30 R N K x3 x4 t0_0 t0_1 t1_0 t2_0 t3_0 p31 lx40 lx41 fm75) R N K x3 x4 t0_0 t0_1 t1_0 t2_0 t3_0 p31 lx40 lx41 lx58 lx59 lx60 p96 = (F_Dig_writeHead R N K x3 x4 t0_0 t0_1 t1_0 t2_0 t3_0) from Eq.trans (by rw [e97, ← e85, e83, F_Dig_writeHead_L30.eq_2, if_neg c76]) hR71)
      obtain ⟨a105, e106⟩ := q_nm (lx58 + 1 : Int32)
      have b107 : q_F (a105.toInt = lx58.toInt + 1) := (by rw [← e106]; exact q_addI (y := 1) rfl (by decide) (by have t1 : lx40.toInt + 1 ≤ lx58.toInt + lx59.toInt := i62; have t2 : lx59.toInt + 1 ≤ lx58.toInt + lx40.toInt := i63; have t3 : lx58.toInt ≤ 20000 := i61; omega) (by have t1 : lx40.toInt + 1 ≤ lx58.toInt + lx59.toInt := i62; have t2 : lx59.toInt + 1 ≤ lx58.toInt + lx40.toInt := i63; have t3 : lx58.toInt ≤ 20000 := i61; omega))
      refine lv_iinc (v := a105) (lv' := [(4, .int a105), (0, .ref (q 36)), (1, .ref (q k2)), (2, .int x3)]) hx hb d_5_11_49 hl (k := 0) rfl (e106) (by decide) rfl (fun ls hl => ?_)
      refine lv_goto (tgt := 30) hx hb d_5_11_52 (by decide) ?_
      exact ih65 ((a105 : Int32), (y89 : Int32), (f90 : (Nat → Int64))) _ _ _ _ (show (20000 - a105.toInt).toNat < (20000 - lx58.toInt).toNat from by have t1 : a105.toInt = lx58.toInt + 1 := b107; have t2 : lx58.toInt ≤ 20000 := i61; have t3 : x3.toInt ≤ 20000 := pre0; have t4 : lx58.toInt < x3.toInt := b78; omega) ⟨(show q_F (a105.toInt ≤ 20000) from (show a105.toInt ≤ 20000 from by have t1 : x3.toInt ≤ 20000 := pre0; have t2 : lx58.toInt < x3.toInt := b78; have t3 : a105.toInt = lx58.toInt + 1 := b107; omega)), (show q_F (lx40.toInt + 1 ≤ a105.toInt + y89.toInt) from (show lx40.toInt + 1 ≤ a105.toInt + y89.toInt from by have t1 : lx40.toInt + 1 ≤ lx58.toInt + lx59.toInt := i62; have t2 : lx59.toInt + 1 ≤ y89.toInt := b92; have t3 : a105.toInt = lx58.toInt + 1 := b107; omega)), (show q_F (y89.toInt + 1 ≤ a105.toInt + lx40.toInt) from (show y89.toInt + 1 ≤ a105.toInt + lx40.toInt from by have t1 : lx59.toInt + 1 ≤ lx58.toInt + lx40.toInt := i63; have t2 : y89.toInt ≤ lx59.toInt + 1 := b93; have t3 : a105.toInt = lx58.toInt + 1 := b107; omega)), (show q_F (a105.toInt + lx40.toInt ≤ y89.toInt + 1) from (show a105.toInt + lx40.toInt ≤ y89.toInt + 1 from by have t1 : lx58.toInt + lx40.toInt ≤ lx59.toInt + 1 := i64; have t2 : lx59.toInt + 1 ≤ y89.toInt := b92; have t3 : a105.toInt = lx58.toInt + 1 := b107; omega)), V, q_lw hl (q_lw1 0 rfl (q_lw1 1 rfl (q_lw1 2 rfl (q_lw1 3 rfl q_lw0)))), hI, hF, hO67, hO68, hO88, hA91, ⟨fm75, Nat.lt_of_lt_of_le (show (20000 - a105.toInt).toNat < (20000 - lx58.toInt).toNat from by have t1 : a105.toInt = lx58.toInt + 1 := b107; have t2 : lx58.toInt ≤ 20000 := i61; have t3 : x3.toInt ≤ 20000 := pre0; have t4 : lx58.toInt < x3.toInt := b78; omega) (Nat.le_of_lt_succ hf74), (show F_Dig_writeHead_L30 R N K x3 x4 t0_0 t0_1 t1_0 t2_0 t3_0 p31 lx40 lx41 fm75 a105 y89 f90 = (F_Dig_writeHead R N K x3 x4 t0_0 t0_1 t1_0 t2_0 t3_0) from Eq.trans (by rw [← e106, e99, e98, F_Dig_writeHead_c46.eq_1]) hR100)⟩⟩
  ·
    intro J46
    refine q_join (X := Unit) (fun z H locs ls _ => q_Wd D g (va_A ws sz) s u21 H locs ∧ lv_has ls 5 [(0, .ref (q 36)), (1, .ref (q k2)), (2, .int x3)] ∧ F_Dig_writeHead_J21 R N K x3 x4 t0_0 t0_1 t1_0 t2_0 t3_0 p31 y24 f25 = (F_Dig_writeHead R N K x3 x4 t0_0 t0_1 t1_0 t2_0 t3_0)) (fun z => []) 21 0 0 ?_ ?_
    ·
      rintro _ H locs ls _ ⟨V, hl, hR113⟩
      replace hl : lv_has ls 5 [(0, .ref (q 36)), (1, .ref (q k2)), (2, .int x3)] := hl
      refine lv_aload_n hx hb d_5_11_21 rfl (lv_at hl 1 rfl) ?_
      refine lv_bipush (v := 46) hx hb d_5_11_22 (by decide) ?_
      refine q_gov V (q_runV (As := [.int 46]) (rest := []) (d := 1) (mc := 0) (ms := 0) (ci := 1) C0 V rfl LV_Dig_52 (X_She_add_p l D g q u21 k2 R N K hB2 46 hI y24 hO23 f25 hA26 (by have y0 : (46 : Int32).toInt = 46 := rfl; have t1 : t2_0.toInt ≤ 400000 := pre1; have t2 : 1000000 ≤ K.toInt := pre2; have t3 : y24.toInt ≤ t2_0.toInt + 1 := b28; omega) _) rfl rfl hO23 rfl hl.1 rfl (Nat.le_of_ble_eq_true rfl) ⟨by decide, by decide⟩ ⟨Nat.le_of_ble_eq_true rfl, Nat.le_of_ble_eq_true rfl⟩ d_5_11_24) (fun u118 H locs hp119 V => ?_)
      obtain ⟨hI, hZ9⟩ := hp119
      obtain ⟨hu127, hZ9⟩ := hZ9
      obtain ⟨y121, hZ9⟩ := hZ9
      obtain ⟨f122, hZ9⟩ := hZ9
      obtain ⟨hO120, hZ9⟩ := hZ9
      obtain ⟨hA123, hZ9⟩ := hZ9
      obtain ⟨b124, hZ9⟩ := hZ9
      obtain ⟨b125, hE126⟩ := hZ9
      replace hO120 : u118[k2]? = (some (q k2, .inr (1, [.ref (q (k2 + 1)), .int R, .int y121])) : Option (Nat × va_E)) := hO120
      replace hA123 : u118[k2 + 1]? = (some (q (k2 + 1), .inl (g 1, N.toNatClampNeg, .inr (.inl f122))) : Option (Nat × va_E)) := hA123
      obtain ⟨p128, e129⟩ : ∃ z, z = (F_She_add_p R N K (46 : Int32) y24 f25) := ⟨_, rfl⟩
      have e130 : y121 = p128.1 := congrArg (fun z => z.1) (hE126.trans e129.symm)
      have e131 : f122 = p128.2 := congrArg (fun z => z.2) (hE126.trans e129.symm)
      replace b124 : q_F (y24.toInt + 1 ≤ y121.toInt) := b124
      replace b125 : q_F (y121.toInt ≤ y24.toInt + 1) := b125
      replace hT0 := (hu127 _ (by have z0 := hB2.2.2.2; simp only [List.mem_cons, List.not_mem_nil, or_false, not_or]; omega)).trans hT0
      replace hT1 := (hu127 _ (by have z0 := hB2.2.2.2; simp only [List.mem_cons, List.not_mem_nil, or_false, not_or]; omega)).trans hT1
      replace hF := q_uc hF hu127 (by first | exact (q_sk (q_mi 0 rfl) (q_sk (q_mi 1 rfl) q_s0)) | simp)
      have hR132 := (show F_Dig_writeHead_c24 R N K x3 x4 t0_0 t0_1 t1_0 t2_0 t3_0 p31 y24 f25 p128 = (F_Dig_writeHead R N K x3 x4 t0_0 t0_1 t1_0 t2_0 t3_0) from Eq.trans (by rw [e129, F_Dig_writeHead_J21.eq_1]) hR113)
      exact J46 ((y121 : Int32), (f122 : (Nat → Int64))) _ _ _ _ ⟨(show q_F (x3.toInt ≤ y121.toInt + 19998) from (show x3.toInt ≤ y121.toInt + 19998 from by have t1 : 0 ≤ t2_0.toInt ∧ t2_0.toInt ≤ K.toInt := btt2_0; have t2 : x3.toInt ≤ 20000 := pre0; have t3 : t2_0.toInt + 1 ≤ y24.toInt := b27; have t4 : y24.toInt + 1 ≤ y121.toInt := b124; omega)), (show q_F (x4.toInt + 1 ≤ y121.toInt) from (show x4.toInt + 1 ≤ y121.toInt from by have t1 : 0 ≤ x4.toInt ∧ x4.toInt ≤ 1 := hzx4; have t2 : 0 ≤ t2_0.toInt ∧ t2_0.toInt ≤ K.toInt := btt2_0; have t3 : t2_0.toInt + 1 ≤ y24.toInt := b27; have t4 : y24.toInt + 1 ≤ y121.toInt := b124; omega)), (show q_F (t2_0.toInt + 1 ≤ y121.toInt) from (show t2_0.toInt + 1 ≤ y121.toInt from by have t1 : t2_0.toInt + 1 ≤ y24.toInt := b27; have t2 : y24.toInt + 1 ≤ y121.toInt := b124; omega)), (show q_F (y121.toInt ≤ t2_0.toInt + 2) from (show y121.toInt ≤ t2_0.toInt + 2 from by have t1 : y24.toInt ≤ t2_0.toInt + 1 := b28; have t2 : y121.toInt ≤ y24.toInt + 1 := b125; omega)), V, q_lw hl (q_lw1 0 rfl (q_lw1 1 rfl (q_lw1 2 rfl q_lw0))), hI, hF, hT0, hT1, hO120, hA123, (show F_Dig_writeHead_J27 R N K x3 x4 t0_0 t0_1 t1_0 t2_0 t3_0 p31 y121 f122 = (F_Dig_writeHead R N K x3 x4 t0_0 t0_1 t1_0 t2_0 t3_0) from Eq.trans (by rw [e131, e130, F_Dig_writeHead_c24.eq_1]) hR132)⟩
    ·
      intro J112
      refine lv_icmp_gt (tgt := 21) hx hb d_5_11_14 (by decide) (fun c137 => ?_) (fun c137 => ?_)
      ·
        exact J112 (()) _ _ _ u21 ⟨V, q_lw hl (q_lw1 0 rfl (q_lw1 1 rfl (q_lw1 2 rfl q_lw0))), (show F_Dig_writeHead_J21 R N K x3 x4 t0_0 t0_1 t1_0 t2_0 t3_0 p31 y24 f25 = (F_Dig_writeHead R N K x3 x4 t0_0 t0_1 t1_0 t2_0 t3_0) from Eq.trans (by rw [e34, e33, F_Dig_writeHead_c9.eq_1, if_pos c137]) hR35)⟩
      ·
        have b139 : q_F (x3.toInt ≤ 1) := (q_nltI c137)
        refine lv_iload_n hx hb d_5_11_17 rfl (lv_at hl 3 rfl) ?_
        refine lv_if_eq (tgt := 27) hx hb d_5_11_18 (by decide) (fun c140 => ?_) (fun c140 => ?_)
        ·
          have b141 : q_F (x4.toInt = 0) := (q_eqI c140)
          exact J46 ((y24 : Int32), (f25 : (Nat → Int64))) _ _ _ _ ⟨(show q_F (x3.toInt ≤ y24.toInt + 19998) from (show x3.toInt ≤ y24.toInt + 19998 from by have t1 : 0 ≤ t2_0.toInt ∧ t2_0.toInt ≤ K.toInt := btt2_0; have t2 : t2_0.toInt + 1 ≤ y24.toInt := b27; have t3 : x3.toInt ≤ 1 := b139; omega)), (show q_F (x4.toInt + 1 ≤ y24.toInt) from (show x4.toInt + 1 ≤ y24.toInt from by have t1 : 0 ≤ t2_0.toInt ∧ t2_0.toInt ≤ K.toInt := btt2_0; have t2 : t2_0.toInt + 1 ≤ y24.toInt := b27; have t3 : x4.toInt = 0 := b141; omega)), (show q_F (t2_0.toInt + 1 ≤ y24.toInt) from (show t2_0.toInt + 1 ≤ y24.toInt from by have t1 : t2_0.toInt + 1 ≤ y24.toInt := b27; omega)), (show q_F (y24.toInt ≤ t2_0.toInt + 2) from (show y24.toInt ≤ t2_0.toInt + 2 from by have t1 : y24.toInt ≤ t2_0.toInt + 1 := b28; omega)), V, q_lw hl (q_lw1 0 rfl (q_lw1 1 rfl (q_lw1 2 rfl q_lw0))), hI, hF, hT0, hT1, hO23, hA26, (show F_Dig_writeHead_J27 R N K x3 x4 t0_0 t0_1 t1_0 t2_0 t3_0 p31 y24 f25 = (F_Dig_writeHead R N K x3 x4 t0_0 t0_1 t1_0 t2_0 t3_0) from Eq.trans (by rw [e34, e33, F_Dig_writeHead_c9.eq_1, if_neg c137, if_pos c140]) hR35)⟩
        ·
          exact J112 (()) _ _ _ u21 ⟨V, q_lw hl (q_lw1 0 rfl (q_lw1 1 rfl (q_lw1 2 rfl q_lw0))), (show F_Dig_writeHead_J21 R N K x3 x4 t0_0 t0_1 t1_0 t2_0 t3_0 p31 y24 f25 = (F_Dig_writeHead R N K x3 x4 t0_0 t0_1 t1_0 t2_0 t3_0) from Eq.trans (by rw [e34, e33, F_Dig_writeHead_c9.eq_1, if_neg c137, if_neg c140]) hR35)⟩
def F_Dig_writeScience_c37 (R : Int32) (N : Int32) (K : Int32) (x3 : Int32) (x4 : Int32) (t0_0 : Int32) (t0_1 : Int32) (t1_0 : (Nat → Int32)) (t2_0 : Int32) (t3_0 : (Nat → Int64)) (p26 : (Int32 × (Nat → Int64))) (p45 : (Int32 × (Nat → Int64))) (p66 : (Int32 × (Nat → Int64))) (p85 : (Int32 × (Nat → Int64))) : Int32 × (Nat → Int64) := ((p85.1 : Int32), (p85.2 : (Nat → Int64)))
def F_Dig_writeScience_c28 (R : Int32) (N : Int32) (K : Int32) (x3 : Int32) (x4 : Int32) (t0_0 : Int32) (t0_1 : Int32) (t1_0 : (Nat → Int32)) (t2_0 : Int32) (t3_0 : (Nat → Int64)) (p26 : (Int32 × (Nat → Int64))) (p45 : (Int32 × (Nat → Int64))) (p66 : (Int32 × (Nat → Int64))) : Int32 × (Nat → Int64) := F_Dig_writeScience_c37 R N K x3 x4 t0_0 t0_1 t1_0 t2_0 t3_0 p26 p45 p66 ((F_She_addPower_p R N K t0_1 (2 : Int32) (p66.1 : Int32) (p66.2 : (Nat → Int64))) : (Int32 × (Nat → Int64)))
def F_Dig_writeScience_c37_6 (R : Int32) (N : Int32) (K : Int32) (x3 : Int32) (x4 : Int32) (t0_0 : Int32) (t0_1 : Int32) (t1_0 : (Nat → Int32)) (t2_0 : Int32) (t3_0 : (Nat → Int64)) (p26 : (Int32 × (Nat → Int64))) (p45 : (Int32 × (Nat → Int64))) (p105 : (Int32 × (Nat → Int64))) (p124 : (Int32 × (Nat → Int64))) : Int32 × (Nat → Int64) := ((p124.1 : Int32), (p124.2 : (Nat → Int64)))
def F_Dig_writeScience_c28_5 (R : Int32) (N : Int32) (K : Int32) (x3 : Int32) (x4 : Int32) (t0_0 : Int32) (t0_1 : Int32) (t1_0 : (Nat → Int32)) (t2_0 : Int32) (t3_0 : (Nat → Int64)) (p26 : (Int32 × (Nat → Int64))) (p45 : (Int32 × (Nat → Int64))) (p105 : (Int32 × (Nat → Int64))) : Int32 × (Nat → Int64) := F_Dig_writeScience_c37_6 R N K x3 x4 t0_0 t0_1 t1_0 t2_0 t3_0 p26 p45 p105 ((F_She_addPower_p R N K t0_1 (2 : Int32) (p105.1 : Int32) (p105.2 : (Nat → Int64))) : (Int32 × (Nat → Int64)))
def F_Dig_writeScience_c10 (R : Int32) (N : Int32) (K : Int32) (x3 : Int32) (x4 : Int32) (t0_0 : Int32) (t0_1 : Int32) (t1_0 : (Nat → Int32)) (t2_0 : Int32) (t3_0 : (Nat → Int64)) (p26 : (Int32 × (Nat → Int64))) (p45 : (Int32 × (Nat → Int64))) : Int32 × (Nat → Int64) := if (0 : Int32) ≤ t0_1 then (F_Dig_writeScience_c28 R N K x3 x4 t0_0 t0_1 t1_0 t2_0 t3_0 p26 p45 ((F_She_add_p R N K (43 : Int32) (p45.1 : Int32) (p45.2 : (Nat → Int64))) : (Int32 × (Nat → Int64)))) else (F_Dig_writeScience_c28_5 R N K x3 x4 t0_0 t0_1 t1_0 t2_0 t3_0 p26 p45 ((F_She_add_p R N K (45 : Int32) (p45.1 : Int32) (p45.2 : (Nat → Int64))) : (Int32 × (Nat → Int64))))
def F_Dig_writeScience_c4 (R : Int32) (N : Int32) (K : Int32) (x3 : Int32) (x4 : Int32) (t0_0 : Int32) (t0_1 : Int32) (t1_0 : (Nat → Int32)) (t2_0 : Int32) (t3_0 : (Nat → Int64)) (p26 : (Int32 × (Nat → Int64))) : Int32 × (Nat → Int64) := F_Dig_writeScience_c10 R N K x3 x4 t0_0 t0_1 t1_0 t2_0 t3_0 p26 ((F_She_add_p R N K (101 : Int32) (p26.1 : Int32) (p26.2 : (Nat → Int64))) : (Int32 × (Nat → Int64)))
def F_Dig_writeScience (R : Int32) (N : Int32) (K : Int32) (x3 : Int32) (x4 : Int32) (t0_0 : Int32) (t0_1 : Int32) (t1_0 : (Nat → Int32)) (t2_0 : Int32) (t3_0 : (Nat → Int64)) : Int32 × (Nat → Int64) := F_Dig_writeScience_c4 R N K x3 x4 t0_0 t0_1 t1_0 t2_0 t3_0 ((F_Dig_writeHead R N K x3 x4 t0_0 t0_1 t1_0 t2_0 t3_0) : (Int32 × (Nat → Int64)))
set_option maxRecDepth 100000 in
set_option maxHeartbeats 4000000 in
theorem X_Dig_writeScience (l : Launch) (D : va_G) (g : Nat → ClassId) (q : Nat → Nat) (ws : va_W) (k2 : Nat) (R N K : Int32) (hB2 : q_isShe (nsh g q) g q k2 R N K) (x3 : Int32) (x4 : Int32) (hI : q_I (nsh g q) q ws) (t0_0 : Int32) (t0_1 : Int32) (hT0 : ws[36]? = (some (q 36, .inr (7, [.int t0_0, .int t0_1, .ref (q 37)])) : Option (Nat × va_E))) (t1_0 : (Nat → Int32)) (hT1 : ws[37]? = (some (q 37, .inl (g 2, 1026, .inl t1_0)) : Option (Nat × va_E))) (t2_0 : Int32) (hT2 : ws[k2]? = (some (q k2, .inr (1, [.ref (q (k2 + 1)), .int R, .int t2_0])) : Option (Nat × va_E))) (t3_0 : (Nat → Int64)) (hT3 : ws[k2 + 1]? = (some (q (k2 + 1), .inl (g 1, N.toNatClampNeg, .inr (.inl t3_0))) : Option (Nat × va_E))) (hzx4 : 0 ≤ x4.toInt ∧ x4.toInt ≤ 1) (pre0 : x3.toInt ≤ 20000) (pre1 : t2_0.toInt ≤ 400000) (pre2 : 1000000 ≤ K.toInt) : q_mV l y_Dig_writeScience prog_5_method_10_code 4 3 0 0 D g [.ref (q 36), .ref (q k2), .int x3, .int x4] ws (fun u => q_I (nsh g q) q u ∧ q_un ws u [k2, k2 + 1] ∧ ∃ (u2_0 : Int32) (u3_0 : (Nat → Int64)), u[k2]? = (some (q k2, .inr (1, [.ref (q (k2 + 1)), .int R, .int u2_0])) : Option (Nat × va_E)) ∧ u[k2 + 1]? = (some (q (k2 + 1), .inl (g 1, N.toNatClampNeg, .inr (.inl u3_0))) : Option (Nat × va_E)) ∧ (x3.toInt + 2 ≤ u2_0.toInt) ∧ (x4.toInt + 3 ≤ u2_0.toInt) ∧ (t2_0.toInt + 3 ≤ u2_0.toInt) ∧ (u2_0.toInt ≤ t2_0.toInt + 20008) ∧ (u2_0, u3_0) = (F_Dig_writeScience R N K x3 x4 t0_0 t0_1 t1_0 t2_0 t3_0)) := by
  intro sz
  refine q_into (by decide) (Nat.le_of_ble_eq_true rfl) ?_
  intro p e s m below meth c ls hsz C0 V hl
  have hx := C0.1
  have hb := C0.2.1
  replace hzx4 : q_F (0 ≤ x4.toInt ∧ x4.toInt ≤ 1) := hzx4
  have btt0_1 := (n_w36 hI hT0).2
  replace btt0_1 : q_F (-1000000 ≤ t0_1.toInt ∧ t0_1.toInt ≤ 1000000) := btt0_1
  have btt2_0 := n_shW hI hB2 hT2
  clear btt2_0
  replace pre0 : q_F (x3.toInt ≤ 20000) := pre0
  replace pre1 : q_F (t2_0.toInt ≤ 400000) := pre1
  replace pre2 : q_F (1000000 ≤ K.toInt) := pre2
  have hF : q_un ws ws [k2, k2 + 1] := q_u0
  have hl : lv_has ls 4 [(0, .ref (q 36)), (1, .ref (q k2)), (2, .int x3), (3, .int x4)] := hl
  refine lv_aload_n hx hb d_5_10_0 rfl (lv_at hl 0 rfl) ?_
  refine lv_aload_n hx hb d_5_10_1 rfl (lv_at hl 1 rfl) ?_
  refine lv_iload_n hx hb d_5_10_2 rfl (lv_at hl 2 rfl) ?_
  refine lv_iload_n hx hb d_5_10_3 rfl (lv_at hl 3 rfl) ?_
  refine q_gov V (q_runV (As := [.ref (q k2), .int x3, .int x4]) (rest := []) (d := 2) (mc := 0) (ms := 0) (ci := 7) C0 V rfl LV_Dig_57 (X_Dig_writeHead l D g q ws k2 R N K hB2 x3 x4 hI t0_0 t0_1 hT0 t1_0 hT1 t2_0 hT2 t3_0 hT3 (by first | with_reducible exact q_fe hzx4 | exact ⟨(by have t1 : 0 ≤ x4.toInt ∧ x4.toInt ≤ 1 := hzx4; omega), (by have t1 : 0 ≤ x4.toInt ∧ x4.toInt ≤ 1 := hzx4; omega)⟩) (by first | with_reducible exact q_fe pre0 | (have t1 : x3.toInt ≤ 20000 := pre0; omega)) (by first | with_reducible exact q_fe pre1 | (have t1 : t2_0.toInt ≤ 400000 := pre1; omega)) (by first | with_reducible exact q_fe pre2 | (have t1 : 1000000 ≤ K.toInt := pre2; omega)) _) rfl rfl hT0 rfl hl.1 rfl (Nat.le_of_ble_eq_true rfl) ⟨by decide, by decide⟩ ⟨Nat.le_of_ble_eq_true rfl, Nat.le_of_ble_eq_true rfl⟩ d_5_10_4) (fun u14 H locs hp15 V => ?_)
  obtain ⟨hI, hZ9⟩ := hp15
  obtain ⟨hu25, hZ9⟩ := hZ9
  obtain ⟨y17, hZ9⟩ := hZ9
  obtain ⟨f18, hZ9⟩ := hZ9
  obtain ⟨hO16, hZ9⟩ := hZ9
  obtain ⟨hA19, hZ9⟩ := hZ9
  obtain ⟨b20, hZ9⟩ := hZ9
  obtain ⟨b21, hZ9⟩ := hZ9
  obtain ⟨b22, hZ9⟩ := hZ9
  obtain ⟨b23, hE24⟩ := hZ9
  replace hO16 : u14[k2]? = (some (q k2, .inr (1, [.ref (q (k2 + 1)), .int R, .int y17])) : Option (Nat × va_E)) := hO16
  replace hA19 : u14[k2 + 1]? = (some (q (k2 + 1), .inl (g 1, N.toNatClampNeg, .inr (.inl f18))) : Option (Nat × va_E)) := hA19
  obtain ⟨p26, e27⟩ : ∃ z, z = (F_Dig_writeHead R N K x3 x4 t0_0 t0_1 t1_0 t2_0 t3_0) := ⟨_, rfl⟩
  have e28 : y17 = p26.1 := congrArg (fun z => z.1) (hE24.trans e27.symm)
  have e29 : f18 = p26.2 := congrArg (fun z => z.2) (hE24.trans e27.symm)
  replace b20 : q_F (x3.toInt ≤ y17.toInt) := b20
  replace b21 : q_F (x4.toInt + 1 ≤ y17.toInt) := b21
  replace b22 : q_F (t2_0.toInt + 1 ≤ y17.toInt) := b22
  replace b23 : q_F (y17.toInt ≤ t2_0.toInt + 20001) := b23
  replace hT0 := (hu25 _ (by have z0 := hB2.2.2.2; simp only [List.mem_cons, List.not_mem_nil, or_false, not_or]; omega)).trans hT0
  replace hF := q_uc hF hu25 (by first | exact (q_sk (q_mi 0 rfl) (q_sk (q_mi 1 rfl) q_s0)) | simp)
  have hR30 := (show F_Dig_writeScience_c4 R N K x3 x4 t0_0 t0_1 t1_0 t2_0 t3_0 p26 = (F_Dig_writeScience R N K x3 x4 t0_0 t0_1 t1_0 t2_0 t3_0) from (by rw [e27, F_Dig_writeScience.eq_1]))
  refine lv_aload_n hx hb d_5_10_7 rfl (lv_at hl 1 rfl) ?_
  refine lv_bipush (v := 101) hx hb d_5_10_8 (by decide) ?_
  refine q_gov V (q_runV (As := [.int 101]) (rest := []) (d := 1) (mc := 0) (ms := 0) (ci := 1) C0 V rfl LV_Dig_52 (X_She_add_p l D g q u14 k2 R N K hB2 101 hI y17 hO16 f18 hA19 (by have y0 : (101 : Int32).toInt = 101 := rfl; have t1 : t2_0.toInt ≤ 400000 := pre1; have t2 : 1000000 ≤ K.toInt := pre2; have t3 : y17.toInt ≤ t2_0.toInt + 20001 := b23; omega) _) rfl rfl hO16 rfl hl.1 rfl (Nat.le_of_ble_eq_true rfl) ⟨by decide, by decide⟩ ⟨Nat.le_of_ble_eq_true rfl, Nat.le_of_ble_eq_true rfl⟩ d_5_10_10) (fun u35 H locs hp36 V => ?_)
  obtain ⟨hI, hZ9⟩ := hp36
  obtain ⟨hu44, hZ9⟩ := hZ9
  obtain ⟨y38, hZ9⟩ := hZ9
  obtain ⟨f39, hZ9⟩ := hZ9
  obtain ⟨hO37, hZ9⟩ := hZ9
  obtain ⟨hA40, hZ9⟩ := hZ9
  obtain ⟨b41, hZ9⟩ := hZ9
  obtain ⟨b42, hE43⟩ := hZ9
  replace hO37 : u35[k2]? = (some (q k2, .inr (1, [.ref (q (k2 + 1)), .int R, .int y38])) : Option (Nat × va_E)) := hO37
  replace hA40 : u35[k2 + 1]? = (some (q (k2 + 1), .inl (g 1, N.toNatClampNeg, .inr (.inl f39))) : Option (Nat × va_E)) := hA40
  obtain ⟨p45, e46⟩ : ∃ z, z = (F_She_add_p R N K (101 : Int32) y17 f18) := ⟨_, rfl⟩
  have e47 : y38 = p45.1 := congrArg (fun z => z.1) (hE43.trans e46.symm)
  have e48 : f39 = p45.2 := congrArg (fun z => z.2) (hE43.trans e46.symm)
  replace b41 : q_F (y17.toInt + 1 ≤ y38.toInt) := b41
  replace b42 : q_F (y38.toInt ≤ y17.toInt + 1) := b42
  replace hT0 := (hu44 _ (by have z0 := hB2.2.2.2; simp only [List.mem_cons, List.not_mem_nil, or_false, not_or]; omega)).trans hT0
  replace hF := q_uc hF hu44 (by first | exact (q_sk (q_mi 0 rfl) (q_sk (q_mi 1 rfl) q_s0)) | simp)
  have hR49 := (show F_Dig_writeScience_c10 R N K x3 x4 t0_0 t0_1 t1_0 t2_0 t3_0 p26 p45 = (F_Dig_writeScience R N K x3 x4 t0_0 t0_1 t1_0 t2_0 t3_0) from Eq.trans (by rw [e46, e29, e28, F_Dig_writeScience_c4.eq_1]) hR30)
  refine lv_aload_n hx hb d_5_10_13 rfl (lv_at hl 1 rfl) ?_
  refine lv_aload_n hx hb d_5_10_14 rfl (lv_at hl 0 rfl) ?_
  refine q_get (ci := 7) (j := 1) (v := .int t0_1) C0 V i_Dig rfl rfl hT0 (by decide) w_266 rfl d_5_10_15 ?_
  refine lv_if_ge (tgt := 26) hx hb d_5_10_18 (by decide) (fun c54 => ?_) (fun c54 => ?_)
  ·
    refine lv_bipush (v := 43) hx hb d_5_10_26 (by decide) ?_
    refine q_gov V (q_runV (As := [.int 43]) (rest := []) (d := 1) (mc := 0) (ms := 0) (ci := 1) C0 V rfl LV_Dig_52 (X_She_add_p l D g q u35 k2 R N K hB2 43 hI y38 hO37 f39 hA40 (by have y0 : (43 : Int32).toInt = 43 := rfl; have t1 : t2_0.toInt ≤ 400000 := pre1; have t2 : 1000000 ≤ K.toInt := pre2; have t3 : y17.toInt ≤ t2_0.toInt + 20001 := b23; have t4 : y38.toInt ≤ y17.toInt + 1 := b42; omega) _) rfl rfl hO37 rfl hl.1 rfl (Nat.le_of_ble_eq_true rfl) ⟨by decide, by decide⟩ ⟨Nat.le_of_ble_eq_true rfl, Nat.le_of_ble_eq_true rfl⟩ d_5_10_28) (fun u56 H locs hp57 V => ?_)
    obtain ⟨hI, hZ9⟩ := hp57
    obtain ⟨hu65, hZ9⟩ := hZ9
    obtain ⟨y59, hZ9⟩ := hZ9
    obtain ⟨f60, hZ9⟩ := hZ9
    obtain ⟨hO58, hZ9⟩ := hZ9
    obtain ⟨hA61, hZ9⟩ := hZ9
    obtain ⟨b62, hZ9⟩ := hZ9
    obtain ⟨b63, hE64⟩ := hZ9
    replace hO58 : u56[k2]? = (some (q k2, .inr (1, [.ref (q (k2 + 1)), .int R, .int y59])) : Option (Nat × va_E)) := hO58
    replace hA61 : u56[k2 + 1]? = (some (q (k2 + 1), .inl (g 1, N.toNatClampNeg, .inr (.inl f60))) : Option (Nat × va_E)) := hA61
    obtain ⟨p66, e67⟩ : ∃ z, z = (F_She_add_p R N K (43 : Int32) y38 f39) := ⟨_, rfl⟩
    have e68 : y59 = p66.1 := congrArg (fun z => z.1) (hE64.trans e67.symm)
    have e69 : f60 = p66.2 := congrArg (fun z => z.2) (hE64.trans e67.symm)
    replace b62 : q_F (y38.toInt + 1 ≤ y59.toInt) := b62
    replace b63 : q_F (y59.toInt ≤ y38.toInt + 1) := b63
    replace hT0 := (hu65 _ (by have z0 := hB2.2.2.2; simp only [List.mem_cons, List.not_mem_nil, or_false, not_or]; omega)).trans hT0
    replace hF := q_uc hF hu65 (by first | exact (q_sk (q_mi 0 rfl) (q_sk (q_mi 1 rfl) q_s0)) | simp)
    have hR70 := (show F_Dig_writeScience_c28 R N K x3 x4 t0_0 t0_1 t1_0 t2_0 t3_0 p26 p45 p66 = (F_Dig_writeScience R N K x3 x4 t0_0 t0_1 t1_0 t2_0 t3_0) from Eq.trans (by rw [e67, e48, e47, F_Dig_writeScience_c10.eq_1, if_pos c54]) hR49)
    refine lv_aload_n hx hb d_5_10_31 rfl (lv_at hl 1 rfl) ?_
    refine lv_aload_n hx hb d_5_10_32 rfl (lv_at hl 0 rfl) ?_
    refine q_get (ci := 7) (j := 1) (v := .int t0_1) C0 V i_Dig rfl rfl hT0 (by decide) w_266 rfl d_5_10_33 ?_
    refine lv_iconst (v := 2) hx hb d_5_10_36 (by decide) ?_
    refine q_gov V (q_runV (As := [.int t0_1, .int 2]) (rest := []) (d := 2) (mc := 0) (ms := 0) (ci := 1) C0 V rfl LV_Dig_61 (X_She_addPower_p l D g q u56 k2 R N K hB2 t0_1 2 hI y59 hO58 f60 hA61 (by have y0 : (2 : Int32).toInt = 2 := rfl; have t1 : t2_0.toInt ≤ 400000 := pre1; have t2 : 1000000 ≤ K.toInt := pre2; have t3 : y17.toInt ≤ t2_0.toInt + 20001 := b23; have t4 : y38.toInt ≤ y17.toInt + 1 := b42; have t5 : y59.toInt ≤ y38.toInt + 1 := b63; omega) (by have y0 : (2 : Int32).toInt = 2 := rfl; have t1 : -1000000 ≤ t0_1.toInt ∧ t0_1.toInt ≤ 1000000 := btt0_1; omega) _) rfl rfl hO58 rfl hl.1 rfl (Nat.le_of_ble_eq_true rfl) ⟨by decide, by decide⟩ ⟨Nat.le_of_ble_eq_true rfl, Nat.le_of_ble_eq_true rfl⟩ d_5_10_37) (fun u75 H locs hp76 V => ?_)
    obtain ⟨hI, hZ9⟩ := hp76
    obtain ⟨hu84, hZ9⟩ := hZ9
    obtain ⟨y78, hZ9⟩ := hZ9
    obtain ⟨f79, hZ9⟩ := hZ9
    obtain ⟨hO77, hZ9⟩ := hZ9
    obtain ⟨hA80, hZ9⟩ := hZ9
    obtain ⟨b81, hZ9⟩ := hZ9
    obtain ⟨b82, hE83⟩ := hZ9
    replace hO77 : u75[k2]? = (some (q k2, .inr (1, [.ref (q (k2 + 1)), .int R, .int y78])) : Option (Nat × va_E)) := hO77
    replace hA80 : u75[k2 + 1]? = (some (q (k2 + 1), .inl (g 1, N.toNatClampNeg, .inr (.inl f79))) : Option (Nat × va_E)) := hA80
    obtain ⟨p85, e86⟩ : ∃ z, z = (F_She_addPower_p R N K t0_1 (2 : Int32) y59 f60) := ⟨_, rfl⟩
    have e87 : y78 = p85.1 := congrArg (fun z => z.1) (hE83.trans e86.symm)
    have e88 : f79 = p85.2 := congrArg (fun z => z.2) (hE83.trans e86.symm)
    replace b81 : q_F (y59.toInt ≤ y78.toInt) := b81
    replace b82 : q_F (y78.toInt ≤ y59.toInt + 5) := b82
    replace hF := q_uc hF hu84 (by first | exact (q_sk (q_mi 0 rfl) (q_sk (q_mi 1 rfl) q_s0)) | simp)
    have hR89 := (show F_Dig_writeScience_c37 R N K x3 x4 t0_0 t0_1 t1_0 t2_0 t3_0 p26 p45 p66 p85 = (F_Dig_writeScience R N K x3 x4 t0_0 t0_1 t1_0 t2_0 t3_0) from Eq.trans (by rw [e86, e69, e68, F_Dig_writeScience_c28.eq_1]) hR70)
    exact q_retv C0 V (⟨hI, hF, y78, f79, hO77, hA80, (show x3.toInt + 2 ≤ y78.toInt from (by have t1 : x3.toInt ≤ y17.toInt := b20; have t2 : y17.toInt + 1 ≤ y38.toInt := b41; have t3 : y38.toInt + 1 ≤ y59.toInt := b62; have t4 : y59.toInt ≤ y78.toInt := b81; omega)), (show x4.toInt + 3 ≤ y78.toInt from (by have t1 : x4.toInt + 1 ≤ y17.toInt := b21; have t2 : y17.toInt + 1 ≤ y38.toInt := b41; have t3 : y38.toInt + 1 ≤ y59.toInt := b62; have t4 : y59.toInt ≤ y78.toInt := b81; omega)), (show t2_0.toInt + 3 ≤ y78.toInt from (by have t1 : t2_0.toInt + 1 ≤ y17.toInt := b22; have t2 : y17.toInt + 1 ≤ y38.toInt := b41; have t3 : y38.toInt + 1 ≤ y59.toInt := b62; have t4 : y59.toInt ≤ y78.toInt := b81; omega)), (show y78.toInt ≤ t2_0.toInt + 20008 from (by have t1 : y17.toInt ≤ t2_0.toInt + 20001 := b23; have t2 : y38.toInt ≤ y17.toInt + 1 := b42; have t3 : y59.toInt ≤ y38.toInt + 1 := b63; have t4 : y78.toInt ≤ y59.toInt + 5 := b82; omega)), (show (y78, f79) = (F_Dig_writeScience R N K x3 x4 t0_0 t0_1 t1_0 t2_0 t3_0) from Eq.trans (by rw [e88, e87, F_Dig_writeScience_c37.eq_1]) hR89)⟩) d_5_10_40
  ·
    refine lv_bipush (v := 45) hx hb d_5_10_21 (by decide) ?_
    refine lv_goto (tgt := 28) hx hb d_5_10_23 (by decide) ?_
    refine q_gov V (q_runV (As := [.int 45]) (rest := []) (d := 1) (mc := 0) (ms := 0) (ci := 1) C0 V rfl LV_Dig_52 (X_She_add_p l D g q u35 k2 R N K hB2 45 hI y38 hO37 f39 hA40 (by have y0 : (45 : Int32).toInt = 45 := rfl; have t1 : t2_0.toInt ≤ 400000 := pre1; have t2 : 1000000 ≤ K.toInt := pre2; have t3 : y17.toInt ≤ t2_0.toInt + 20001 := b23; have t4 : y38.toInt ≤ y17.toInt + 1 := b42; omega) _) rfl rfl hO37 rfl hl.1 rfl (Nat.le_of_ble_eq_true rfl) ⟨by decide, by decide⟩ ⟨Nat.le_of_ble_eq_true rfl, Nat.le_of_ble_eq_true rfl⟩ d_5_10_28) (fun u95 H locs hp96 V => ?_)
    obtain ⟨hI, hZ9⟩ := hp96
    obtain ⟨hu104, hZ9⟩ := hZ9
    obtain ⟨y98, hZ9⟩ := hZ9
    obtain ⟨f99, hZ9⟩ := hZ9
    obtain ⟨hO97, hZ9⟩ := hZ9
    obtain ⟨hA100, hZ9⟩ := hZ9
    obtain ⟨b101, hZ9⟩ := hZ9
    obtain ⟨b102, hE103⟩ := hZ9
    replace hO97 : u95[k2]? = (some (q k2, .inr (1, [.ref (q (k2 + 1)), .int R, .int y98])) : Option (Nat × va_E)) := hO97
    replace hA100 : u95[k2 + 1]? = (some (q (k2 + 1), .inl (g 1, N.toNatClampNeg, .inr (.inl f99))) : Option (Nat × va_E)) := hA100
    obtain ⟨p105, e106⟩ : ∃ z, z = (F_She_add_p R N K (45 : Int32) y38 f39) := ⟨_, rfl⟩
    have e107 : y98 = p105.1 := congrArg (fun z => z.1) (hE103.trans e106.symm)
    have e108 : f99 = p105.2 := congrArg (fun z => z.2) (hE103.trans e106.symm)
    replace b101 : q_F (y38.toInt + 1 ≤ y98.toInt) := b101
    replace b102 : q_F (y98.toInt ≤ y38.toInt + 1) := b102
    replace hT0 := (hu104 _ (by have z0 := hB2.2.2.2; simp only [List.mem_cons, List.not_mem_nil, or_false, not_or]; omega)).trans hT0
    replace hF := q_uc hF hu104 (by first | exact (q_sk (q_mi 0 rfl) (q_sk (q_mi 1 rfl) q_s0)) | simp)
    have hR109 := (show F_Dig_writeScience_c28_5 R N K x3 x4 t0_0 t0_1 t1_0 t2_0 t3_0 p26 p45 p105 = (F_Dig_writeScience R N K x3 x4 t0_0 t0_1 t1_0 t2_0 t3_0) from Eq.trans (by rw [e106, e48, e47, F_Dig_writeScience_c10.eq_1, if_neg c54]) hR49)
    refine lv_aload_n hx hb d_5_10_31 rfl (lv_at hl 1 rfl) ?_
    refine lv_aload_n hx hb d_5_10_32 rfl (lv_at hl 0 rfl) ?_
    refine q_get (ci := 7) (j := 1) (v := .int t0_1) C0 V i_Dig rfl rfl hT0 (by decide) w_266 rfl d_5_10_33 ?_
    refine lv_iconst (v := 2) hx hb d_5_10_36 (by decide) ?_
    refine q_gov V (q_runV (As := [.int t0_1, .int 2]) (rest := []) (d := 2) (mc := 0) (ms := 0) (ci := 1) C0 V rfl LV_Dig_61 (X_She_addPower_p l D g q u95 k2 R N K hB2 t0_1 2 hI y98 hO97 f99 hA100 (by have y0 : (2 : Int32).toInt = 2 := rfl; have t1 : t2_0.toInt ≤ 400000 := pre1; have t2 : 1000000 ≤ K.toInt := pre2; have t3 : y17.toInt ≤ t2_0.toInt + 20001 := b23; have t4 : y38.toInt ≤ y17.toInt + 1 := b42; have t5 : y98.toInt ≤ y38.toInt + 1 := b102; omega) (by have y0 : (2 : Int32).toInt = 2 := rfl; have t1 : -1000000 ≤ t0_1.toInt ∧ t0_1.toInt ≤ 1000000 := btt0_1; omega) _) rfl rfl hO97 rfl hl.1 rfl (Nat.le_of_ble_eq_true rfl) ⟨by decide, by decide⟩ ⟨Nat.le_of_ble_eq_true rfl, Nat.le_of_ble_eq_true rfl⟩ d_5_10_37) (fun u114 H locs hp115 V => ?_)
    obtain ⟨hI, hZ9⟩ := hp115
    obtain ⟨hu123, hZ9⟩ := hZ9
    obtain ⟨y117, hZ9⟩ := hZ9
    obtain ⟨f118, hZ9⟩ := hZ9
    obtain ⟨hO116, hZ9⟩ := hZ9
    obtain ⟨hA119, hZ9⟩ := hZ9
    obtain ⟨b120, hZ9⟩ := hZ9
    obtain ⟨b121, hE122⟩ := hZ9
    replace hO116 : u114[k2]? = (some (q k2, .inr (1, [.ref (q (k2 + 1)), .int R, .int y117])) : Option (Nat × va_E)) := hO116
    replace hA119 : u114[k2 + 1]? = (some (q (k2 + 1), .inl (g 1, N.toNatClampNeg, .inr (.inl f118))) : Option (Nat × va_E)) := hA119
    obtain ⟨p124, e125⟩ : ∃ z, z = (F_She_addPower_p R N K t0_1 (2 : Int32) y98 f99) := ⟨_, rfl⟩
    have e126 : y117 = p124.1 := congrArg (fun z => z.1) (hE122.trans e125.symm)
    have e127 : f118 = p124.2 := congrArg (fun z => z.2) (hE122.trans e125.symm)
    replace b120 : q_F (y98.toInt ≤ y117.toInt) := b120
    replace b121 : q_F (y117.toInt ≤ y98.toInt + 5) := b121
    replace hF := q_uc hF hu123 (by first | exact (q_sk (q_mi 0 rfl) (q_sk (q_mi 1 rfl) q_s0)) | simp)
    have hR128 := (show F_Dig_writeScience_c37_6 R N K x3 x4 t0_0 t0_1 t1_0 t2_0 t3_0 p26 p45 p105 p124 = (F_Dig_writeScience R N K x3 x4 t0_0 t0_1 t1_0 t2_0 t3_0) from Eq.trans (by rw [e125, e108, e107, F_Dig_writeScience_c28_5.eq_1]) hR109)
    exact q_retv C0 V (⟨hI, hF, y117, f118, hO116, hA119, (show x3.toInt + 2 ≤ y117.toInt from (by have t1 : x3.toInt ≤ y17.toInt := b20; have t2 : y17.toInt + 1 ≤ y38.toInt := b41; have t3 : y38.toInt + 1 ≤ y98.toInt := b101; have t4 : y98.toInt ≤ y117.toInt := b120; omega)), (show x4.toInt + 3 ≤ y117.toInt from (by have t1 : x4.toInt + 1 ≤ y17.toInt := b21; have t2 : y17.toInt + 1 ≤ y38.toInt := b41; have t3 : y38.toInt + 1 ≤ y98.toInt := b101; have t4 : y98.toInt ≤ y117.toInt := b120; omega)), (show t2_0.toInt + 3 ≤ y117.toInt from (by have t1 : t2_0.toInt + 1 ≤ y17.toInt := b22; have t2 : y17.toInt + 1 ≤ y38.toInt := b41; have t3 : y38.toInt + 1 ≤ y98.toInt := b101; have t4 : y98.toInt ≤ y117.toInt := b120; omega)), (show y117.toInt ≤ t2_0.toInt + 20008 from (by have t1 : y17.toInt ≤ t2_0.toInt + 20001 := b23; have t2 : y38.toInt ≤ y17.toInt + 1 := b42; have t3 : y98.toInt ≤ y38.toInt + 1 := b102; have t4 : y117.toInt ≤ y98.toInt + 5 := b121; omega)), (show (y117, f118) = (F_Dig_writeScience R N K x3 x4 t0_0 t0_1 t1_0 t2_0 t3_0) from Eq.trans (by rw [e127, e126, F_Dig_writeScience_c37_6.eq_1]) hR128)⟩) d_5_10_40
def F_Dig_writeSplit_c35 (K_F_Dig_writeSplit_L3 : Int32 → Int32 → (Nat → Int64) → (Int32 × (Nat → Int64))) (R : Int32) (N : Int32) (K : Int32) (x3 : Int32) (x4 : Int32) (t0_0 : Int32) (t0_1 : Int32) (t1_0 : (Nat → Int32)) (t2_0 : Int32) (t3_0 : (Nat → Int64)) (lx18 : Int32) (lx19 : Int32) (lx20 : (Nat → Int64)) (p60 : (Int32 × (Nat → Int64))) : Int32 × (Nat → Int64) := K_F_Dig_writeSplit_L3 (lx18 + 1 : Int32) (p60.1 : Int32) (p60.2 : (Nat → Int64))
def F_Dig_writeSplit_c35_4 (K_F_Dig_writeSplit_L3 : Int32 → Int32 → (Nat → Int64) → (Int32 × (Nat → Int64))) (R : Int32) (N : Int32) (K : Int32) (x3 : Int32) (x4 : Int32) (t0_0 : Int32) (t0_1 : Int32) (t1_0 : (Nat → Int32)) (t2_0 : Int32) (t3_0 : (Nat → Int64)) (lx18 : Int32) (lx19 : Int32) (lx20 : (Nat → Int64)) (p83 : (Int32 × (Nat → Int64))) (p109 : (Int32 × (Nat → Int64))) : Int32 × (Nat → Int64) := K_F_Dig_writeSplit_L3 (lx18 + 1 : Int32) (p109.1 : Int32) (p109.2 : (Nat → Int64))
def F_Dig_writeSplit_c22 (K_F_Dig_writeSplit_L3 : Int32 → Int32 → (Nat → Int64) → (Int32 × (Nat → Int64))) (R : Int32) (N : Int32) (K : Int32) (x3 : Int32) (x4 : Int32) (t0_0 : Int32) (t0_1 : Int32) (t1_0 : (Nat → Int32)) (t2_0 : Int32) (t3_0 : (Nat → Int64)) (lx18 : Int32) (lx19 : Int32) (lx20 : (Nat → Int64)) (p83 : (Int32 × (Nat → Int64))) : Int32 × (Nat → Int64) := F_Dig_writeSplit_c35_4 K_F_Dig_writeSplit_L3 R N K x3 x4 t0_0 t0_1 t1_0 t2_0 t3_0 lx18 lx19 lx20 p83 ((F_She_add_p R N K (48 + ((F_Dig_figure lx18 t0_0 t0_1 t1_0) : Int32) : Int32) (p83.1 : Int32) (p83.2 : (Nat → Int64))) : (Int32 × (Nat → Int64)))
def F_Dig_writeSplit_L3 (R : Int32) (N : Int32) (K : Int32) (x3 : Int32) (x4 : Int32) (t0_0 : Int32) (t0_1 : Int32) (t1_0 : (Nat → Int32)) (t2_0 : Int32) (t3_0 : (Nat → Int64)) : Nat → Int32 → Int32 → (Nat → Int64) → (Int32 × (Nat → Int64))
  | 0, _, _, _ => default
  | fm + 1, lx18, lx19, lx20 => if (if x3 < x4 then x4 else x3 : Int32) ≤ lx18 then ((lx19, lx20)) else (if lx18 = x3 then (F_Dig_writeSplit_c22 (F_Dig_writeSplit_L3 R N K x3 x4 t0_0 t0_1 t1_0 t2_0 t3_0 fm) R N K x3 x4 t0_0 t0_1 t1_0 t2_0 t3_0 lx18 lx19 lx20 ((F_She_add_p R N K (46 : Int32) lx19 lx20) : (Int32 × (Nat → Int64)))) else (F_Dig_writeSplit_c35 (F_Dig_writeSplit_L3 R N K x3 x4 t0_0 t0_1 t1_0 t2_0 t3_0 fm) R N K x3 x4 t0_0 t0_1 t1_0 t2_0 t3_0 lx18 lx19 lx20 ((F_She_add_p R N K (48 + ((F_Dig_figure lx18 t0_0 t0_1 t1_0) : Int32) : Int32) lx19 lx20) : (Int32 × (Nat → Int64)))))
def F_Dig_writeSplit (R : Int32) (N : Int32) (K : Int32) (x3 : Int32) (x4 : Int32) (t0_0 : Int32) (t0_1 : Int32) (t1_0 : (Nat → Int32)) (t2_0 : Int32) (t3_0 : (Nat → Int64)) : Int32 × (Nat → Int64) := F_Dig_writeSplit_L3 R N K x3 x4 t0_0 t0_1 t1_0 t2_0 t3_0 ((20000 - (0 : Int32).toInt).toNat + 1) 0 t2_0 t3_0
set_option maxRecDepth 100000 in
set_option maxHeartbeats 4000000 in
theorem X_Dig_writeSplit (l : Launch) (D : va_G) (g : Nat → ClassId) (q : Nat → Nat) (ws : va_W) (k2 : Nat) (R N K : Int32) (hB2 : q_isShe (nsh g q) g q k2 R N K) (x3 : Int32) (x4 : Int32) (hI : q_I (nsh g q) q ws) (t0_0 : Int32) (t0_1 : Int32) (hT0 : ws[36]? = (some (q 36, .inr (7, [.int t0_0, .int t0_1, .ref (q 37)])) : Option (Nat × va_E))) (t1_0 : (Nat → Int32)) (hT1 : ws[37]? = (some (q 37, .inl (g 2, 1026, .inl t1_0)) : Option (Nat × va_E))) (t2_0 : Int32) (hT2 : ws[k2]? = (some (q k2, .inr (1, [.ref (q (k2 + 1)), .int R, .int t2_0])) : Option (Nat × va_E))) (t3_0 : (Nat → Int64)) (hT3 : ws[k2 + 1]? = (some (q (k2 + 1), .inl (g 1, N.toNatClampNeg, .inr (.inl t3_0))) : Option (Nat × va_E))) (pre0 : x3.toInt ≤ 20000) (pre1 : x4.toInt ≤ 20000) (pre2 : t2_0.toInt ≤ 400000) (pre3 : 1000000 ≤ K.toInt) : q_mV l y_Dig_writeSplit prog_5_method_12_code 5 2 0 0 D g [.ref (q 36), .ref (q k2), .int x3, .int x4] ws (fun u => q_I (nsh g q) q u ∧ q_un ws u [k2, k2 + 1] ∧ ∃ (u2_0 : Int32) (u3_0 : (Nat → Int64)), u[k2]? = (some (q k2, .inr (1, [.ref (q (k2 + 1)), .int R, .int u2_0])) : Option (Nat × va_E)) ∧ u[k2 + 1]? = (some (q (k2 + 1), .inl (g 1, N.toNatClampNeg, .inr (.inl u3_0))) : Option (Nat × va_E)) ∧ (x3.toInt ≤ u2_0.toInt) ∧ (x4.toInt ≤ u2_0.toInt) ∧ (t2_0.toInt ≤ u2_0.toInt) ∧ (u2_0.toInt ≤ t2_0.toInt + 40000) ∧ (u2_0, u3_0) = (F_Dig_writeSplit R N K x3 x4 t0_0 t0_1 t1_0 t2_0 t3_0)) := by
  intro sz
  refine q_into (by decide) (Nat.le_of_ble_eq_true rfl) ?_
  intro p e s m below meth c ls hsz C0 V hl
  have hx := C0.1
  have hb := C0.2.1
  have btt0_1 := (n_w36 hI hT0).2
  clear btt0_1
  have btt2_0 := n_shW hI hB2 hT2
  replace btt2_0 : q_F (0 ≤ t2_0.toInt ∧ t2_0.toInt ≤ K.toInt) := btt2_0
  replace pre0 : q_F (x3.toInt ≤ 20000) := pre0
  replace pre1 : q_F (x4.toInt ≤ 20000) := pre1
  replace pre2 : q_F (t2_0.toInt ≤ 400000) := pre2
  replace pre3 : q_F (1000000 ≤ K.toInt) := pre3
  have hF : q_un ws ws [k2, k2 + 1] := q_u0
  have hl : lv_has ls 5 [(0, .ref (q 36)), (1, .ref (q k2)), (2, .int x3), (3, .int x4)] := hl
  refine lv_iconst (v := 0) hx hb d_5_12_0 (by decide) ?_
  refine lv_istore (lv' := [(4, .int 0), (0, .ref (q 36)), (1, .ref (q k2)), (2, .int x3), (3, .int x4)]) hx hb d_5_12_1 hl (by decide) rfl (fun ls hl => ?_)
  refine q_loop (X := Int32 × Int32 × (Nat → Int64)) (fun z H locs ls w25 => q_F (z.1.toInt ≤ 20000) ∧ q_F (z.1.toInt + t2_0.toInt ≤ z.2.1.toInt) ∧ q_F (z.2.1.toInt ≤ 2 * z.1.toInt + t2_0.toInt) ∧ q_Wd D g (va_A ws sz) s w25 H locs ∧ lv_has ls 5 [(4, .int z.1), (0, .ref (q 36)), (1, .ref (q k2)), (2, .int x3), (3, .int x4)] ∧ q_I (nsh g q) q w25 ∧ q_un ws w25 [k2, k2 + 1] ∧ w25[36]? = (some (q 36, .inr (7, [.int t0_0, .int t0_1, .ref (q 37)])) : Option (Nat × va_E)) ∧ w25[37]? = (some (q 37, .inl (g 2, 1026, .inl t1_0)) : Option (Nat × va_E)) ∧ w25[k2]? = (some (q k2, .inr (1, [.ref (q (k2 + 1)), .int R, .int z.2.1])) : Option (Nat × va_E)) ∧ w25[k2 + 1]? = (some (q (k2 + 1), .inl (g 1, N.toNatClampNeg, .inr (.inl z.2.2))) : Option (Nat × va_E)) ∧ (∃ n, (20000 - z.1.toInt).toNat < n ∧ F_Dig_writeSplit_L3 R N K x3 x4 t0_0 t0_1 t1_0 t2_0 t3_0 n z.1 z.2.1 z.2.2 = (F_Dig_writeSplit R N K x3 x4 t0_0 t0_1 t1_0 t2_0 t3_0))) (fun z => (20000 - z.1.toInt).toNat) ?_ ((0 : Int32), (t2_0 : Int32), (t3_0 : (Nat → Int64))) _ _ _ ws ⟨(show q_F (0 ≤ 20000) from (show 0 ≤ 20000 from by omega)), (show q_F (0 + t2_0.toInt ≤ t2_0.toInt) from (show 0 + t2_0.toInt ≤ t2_0.toInt from by omega)), (show q_F (t2_0.toInt ≤ 2 * 0 + t2_0.toInt) from (show t2_0.toInt ≤ 2 * 0 + t2_0.toInt from by omega)), V, q_lw hl (q_lw1 0 rfl (q_lw1 1 rfl (q_lw1 2 rfl (q_lw1 3 rfl (q_lw1 4 rfl q_lw0))))), hI, hF, hT0, hT1, hT2, hT3, ⟨((20000 - (0 : Int32).toInt).toNat + 1), Nat.lt_succ_self _, (show F_Dig_writeSplit_L3 R N K x3 x4 t0_0 t0_1 t1_0 t2_0 t3_0 ((20000 - (0 : Int32).toInt).toNat + 1) 0 t2_0 t3_0 = (F_Dig_writeSplit R N K x3 x4 t0_0 t0_1 t1_0 t2_0 t3_0) from (by rw [F_Dig_writeSplit.eq_1]))⟩⟩
  rintro ⟨lx18, lx19, lx20⟩ H locs ls w25 ⟨i21, i22, i23, V, hl, hI, hF, hO26, hO27, hO28, hO29, ⟨fu32, hf33, hR30⟩⟩ ih24
  obtain ⟨fm34, rfl⟩ : ∃ m, fu32 = m + 1 := ⟨fu32 - 1, by omega⟩
  replace i21 : q_F (lx18.toInt ≤ 20000) := i21
  replace i22 : q_F (lx18.toInt + t2_0.toInt ≤ lx19.toInt) := i22
  replace i23 : q_F (lx19.toInt ≤ 2 * lx18.toInt + t2_0.toInt) := i23
  replace hl : lv_has ls 5 [(4, .int lx18), (0, .ref (q 36)), (1, .ref (q k2)), (2, .int x3), (3, .int x4)] := hl
  replace hO26 : w25[36]? = (some (q 36, .inr (7, [.int t0_0, .int t0_1, .ref (q 37)])) : Option (Nat × va_E)) := hO26
  replace hO27 : w25[37]? = (some (q 37, .inl (g 2, 1026, .inl t1_0)) : Option (Nat × va_E)) := hO27
  replace hO28 : w25[k2]? = (some (q k2, .inr (1, [.ref (q (k2 + 1)), .int R, .int lx19])) : Option (Nat × va_E)) := hO28
  replace hO29 : w25[k2 + 1]? = (some (q (k2 + 1), .inl (g 1, N.toNatClampNeg, .inr (.inl lx20))) : Option (Nat × va_E)) := hO29
  refine lv_iload hx hb d_5_12_3 (lv_at hl 0 rfl) ?_
  refine lv_iload_n hx hb d_5_12_5 rfl (lv_at hl 3 rfl) ?_
  refine lv_iload_n hx hb d_5_12_6 rfl (lv_at hl 4 rfl) ?_
  refine q_max C0 hl.1 rfl w_1571 w_803 w_7 w_804 ⟨Nat.le_of_ble_eq_true rfl, Nat.le_of_ble_eq_true rfl⟩ ⟨Nat.le_of_ble_eq_true rfl, Nat.le_of_ble_eq_true rfl⟩ d_5_12_7 ?_
  obtain ⟨a35, e36⟩ := q_nm (if x3 < x4 then x4 else x3 : Int32)
  refine q_ti (v := a35) e36 ?_
  have b37 : q_F (x3.toInt ≤ a35.toInt ∧ x4.toInt ≤ a35.toInt ∧ (a35.toInt = x3.toInt ∨ a35.toInt = x4.toInt)) := (by rw [← e36]; show x3.toInt ≤ (if x3 < x4 then x4 else x3 : Int32).toInt ∧ x4.toInt ≤ (if x3 < x4 then x4 else x3 : Int32).toInt ∧ ((if x3 < x4 then x4 else x3 : Int32).toInt = x3.toInt ∨ (if x3 < x4 then x4 else x3 : Int32).toInt = x4.toInt); exact s_max (a := x3) (b := x4))
  refine lv_icmp_ge (tgt := 44) hx hb d_5_12_10 (by decide) (fun c38 => ?_) (fun c38 => ?_)
  ·
    have b39 : q_F (a35.toInt ≤ lx18.toInt) := (q_leI c38)
    exact q_retv C0 V (⟨hI, hF, lx19, lx20, hO28, hO29, (show x3.toInt ≤ lx19.toInt from (by have t1 : 0 ≤ t2_0.toInt ∧ t2_0.toInt ≤ K.toInt := btt2_0; have t2 : lx18.toInt + t2_0.toInt ≤ lx19.toInt := i22; have t3 : x3.toInt ≤ a35.toInt ∧ x4.toInt ≤ a35.toInt ∧ (a35.toInt = x3.toInt ∨ a35.toInt = x4.toInt) := b37; have t4 : a35.toInt ≤ lx18.toInt := b39; omega)), (show x4.toInt ≤ lx19.toInt from (by have t1 : 0 ≤ t2_0.toInt ∧ t2_0.toInt ≤ K.toInt := btt2_0; have t2 : lx18.toInt + t2_0.toInt ≤ lx19.toInt := i22; have t3 : x3.toInt ≤ a35.toInt ∧ x4.toInt ≤ a35.toInt ∧ (a35.toInt = x3.toInt ∨ a35.toInt = x4.toInt) := b37; have t4 : a35.toInt ≤ lx18.toInt := b39; omega)), (show t2_0.toInt ≤ lx19.toInt from (by have t1 : lx18.toInt + t2_0.toInt ≤ lx19.toInt := i22; have t2 : lx19.toInt ≤ 2 * lx18.toInt + t2_0.toInt := i23; omega)), (show lx19.toInt ≤ t2_0.toInt + 40000 from (by have t1 : lx18.toInt ≤ 20000 := i21; have t2 : lx19.toInt ≤ 2 * lx18.toInt + t2_0.toInt := i23; omega)), (show (lx19, lx20) = (F_Dig_writeSplit R N K x3 x4 t0_0 t0_1 t1_0 t2_0 t3_0) from Eq.trans (by have c38x := c38; rw [← e36] at c38x; rw [F_Dig_writeSplit_L3.eq_2, if_pos c38x]) hR30)⟩) d_5_12_44
  ·
    have b40 : q_F (lx18.toInt < a35.toInt) := (q_nleI c38)
    refine lv_iload hx hb d_5_12_13 (lv_at hl 0 rfl) ?_
    refine lv_iload_n hx hb d_5_12_15 rfl (lv_at hl 3 rfl) ?_
    refine lv_icmp_ne (tgt := 25) hx hb d_5_12_16 (by decide) (fun c41 => ?_) (fun c41 => ?_)
    ·
      refine lv_aload_n hx hb d_5_12_25 rfl (lv_at hl 2 rfl) ?_
      refine lv_bipush (v := 48) hx hb d_5_12_26 (by decide) ?_
      refine lv_aload_n hx hb d_5_12_28 rfl (lv_at hl 1 rfl) ?_
      refine lv_iload hx hb d_5_12_29 (lv_at hl 0 rfl) ?_
      refine q_goi V (q_runV (As := [.int lx18]) (rest := [.int 48, .ref (q k2)]) (d := 1) (mc := 0) (ms := 0) (ci := 7) C0 V rfl LV_Dig_49 (X_Dig_figure l D g q w25  lx18 hI t0_0 t0_1 hO26 t1_0 hO27  _) rfl rfl hO26 rfl hl.1 rfl (Nat.le_of_ble_eq_true rfl) ⟨by decide, by decide⟩ ⟨Nat.le_of_ble_eq_true rfl, Nat.le_of_ble_eq_true rfl⟩ d_5_12_31) (fun a45 u43 H locs hp44 V => ?_)
      obtain ⟨rfl, hE46⟩ := hp44
      have e47 : a45 = (F_Dig_figure lx18 t0_0 t0_1 t1_0) := hE46
      refine lv_iadd hx hb d_5_12_34 ?_
      obtain ⟨a48, e49⟩ := q_nm (48 + a45 : Int32)
      refine q_ti (v := a48) e49 ?_
      refine q_gov V (q_runV (As := [.int a48]) (rest := []) (d := 1) (mc := 0) (ms := 0) (ci := 1) C0 V rfl LV_Dig_52 (X_She_add_p l D g q w25 k2 R N K hB2 a48 hI lx19 hO28 lx20 hO29 (by have t1 : t2_0.toInt ≤ 400000 := pre2; have t2 : 1000000 ≤ K.toInt := pre3; have t3 : lx18.toInt ≤ 20000 := i21; have t4 : lx19.toInt ≤ 2 * lx18.toInt + t2_0.toInt := i23; omega) _) rfl rfl hO28 rfl hl.1 rfl (Nat.le_of_ble_eq_true rfl) ⟨by decide, by decide⟩ ⟨Nat.le_of_ble_eq_true rfl, Nat.le_of_ble_eq_true rfl⟩ d_5_12_35) (fun u50 H locs hp51 V => ?_)
      obtain ⟨hI, hZ9⟩ := hp51
      obtain ⟨hu59, hZ9⟩ := hZ9
      obtain ⟨y53, hZ9⟩ := hZ9
      obtain ⟨f54, hZ9⟩ := hZ9
      obtain ⟨hO52, hZ9⟩ := hZ9
      obtain ⟨hA55, hZ9⟩ := hZ9
      obtain ⟨b56, hZ9⟩ := hZ9
      obtain ⟨b57, hE58⟩ := hZ9
      replace hO52 : u50[k2]? = (some (q k2, .inr (1, [.ref (q (k2 + 1)), .int R, .int y53])) : Option (Nat × va_E)) := hO52
      replace hA55 : u50[k2 + 1]? = (some (q (k2 + 1), .inl (g 1, N.toNatClampNeg, .inr (.inl f54))) : Option (Nat × va_E)) := hA55
      obtain ⟨p60, e61⟩ : ∃ z, z = (F_She_add_p R N K a48 lx19 lx20) := ⟨_, rfl⟩
      have e62 : y53 = p60.1 := congrArg (fun z => z.1) (hE58.trans e61.symm)
      have e63 : f54 = p60.2 := congrArg (fun z => z.2) (hE58.trans e61.symm)
      replace b56 : q_F (lx19.toInt + 1 ≤ y53.toInt) := b56
      replace b57 : q_F (y53.toInt ≤ lx19.toInt + 1) := b57
      replace hO26 := (hu59 _ (by have z0 := hB2.2.2.2; simp only [List.mem_cons, List.not_mem_nil, or_false, not_or]; omega)).trans hO26
      replace hO27 := (hu59 _ (by have z0 := hB2.2.2.2; simp only [List.mem_cons, List.not_mem_nil, or_false, not_or]; omega)).trans hO27
      replace hF := q_uc hF hu59 (by first | exact (q_sk (q_mi 0 rfl) (q_sk (q_mi 1 rfl) q_s0)) | simp)
      have hR64 := (show F_Dig_writeSplit_c35 (F_Dig_writeSplit_L3 R N K x3 x4 t0_0 t0_1 t1_0 t2_0 t3_0 fm34) R N K x3 x4 t0_0 t0_1 t1_0 t2_0 t3_0 lx18 lx19 lx20 p60 = (F_Dig_writeSplit R N K x3 x4 t0_0 t0_1 t1_0 t2_0 t3_0) from Eq.trans (by have c38x := c38; rw [← e36] at c38x; rw [e61, ← e49, e47, F_Dig_writeSplit_L3.eq_2, if_neg c38x, if_neg c41]) hR30)
      obtain ⟨a69, e70⟩ := q_nm (lx18 + 1 : Int32)
      have b71 : q_F (a69.toInt = lx18.toInt + 1) := (by rw [← e70]; exact q_addI (y := 1) rfl (by decide) (by have t1 : lx18.toInt + t2_0.toInt ≤ lx19.toInt := i22; have t2 : lx19.toInt ≤ 2 * lx18.toInt + t2_0.toInt := i23; have t3 : lx18.toInt ≤ 20000 := i21; omega) (by have t1 : lx18.toInt + t2_0.toInt ≤ lx19.toInt := i22; have t2 : lx19.toInt ≤ 2 * lx18.toInt + t2_0.toInt := i23; have t3 : lx18.toInt ≤ 20000 := i21; omega))
      refine lv_iinc (v := a69) (lv' := [(4, .int a69), (0, .ref (q 36)), (1, .ref (q k2)), (2, .int x3), (3, .int x4)]) hx hb d_5_12_38 hl (k := 0) rfl (e70) (by decide) rfl (fun ls hl => ?_)
      refine lv_goto (tgt := 3) hx hb d_5_12_41 (by decide) ?_
      exact ih24 ((a69 : Int32), (y53 : Int32), (f54 : (Nat → Int64))) _ _ _ _ (show (20000 - a69.toInt).toNat < (20000 - lx18.toInt).toNat from by have t1 : a69.toInt = lx18.toInt + 1 := b71; have t2 : lx18.toInt ≤ 20000 := i21; have t3 : x3.toInt ≤ 20000 := pre0; have t4 : x4.toInt ≤ 20000 := pre1; have t5 : x3.toInt ≤ a35.toInt ∧ x4.toInt ≤ a35.toInt ∧ (a35.toInt = x3.toInt ∨ a35.toInt = x4.toInt) := b37; have t6 : lx18.toInt < a35.toInt := b40; omega) ⟨(show q_F (a69.toInt ≤ 20000) from (show a69.toInt ≤ 20000 from by have t1 : x3.toInt ≤ 20000 := pre0; have t2 : x4.toInt ≤ 20000 := pre1; have t3 : x3.toInt ≤ a35.toInt ∧ x4.toInt ≤ a35.toInt ∧ (a35.toInt = x3.toInt ∨ a35.toInt = x4.toInt) := b37; have t4 : lx18.toInt < a35.toInt := b40; have t5 : a69.toInt = lx18.toInt + 1 := b71; omega)), (show q_F (a69.toInt + t2_0.toInt ≤ y53.toInt) from (show a69.toInt + t2_0.toInt ≤ y53.toInt from by have t1 : lx18.toInt + t2_0.toInt ≤ lx19.toInt := i22; have t2 : lx19.toInt + 1 ≤ y53.toInt := b56; have t3 : a69.toInt = lx18.toInt + 1 := b71; omega)), (show q_F (y53.toInt ≤ 2 * a69.toInt + t2_0.toInt) from (show y53.toInt ≤ 2 * a69.toInt + t2_0.toInt from by have t1 : lx19.toInt ≤ 2 * lx18.toInt + t2_0.toInt := i23; have t2 : y53.toInt ≤ lx19.toInt + 1 := b57; have t3 : a69.toInt = lx18.toInt + 1 := b71; omega)), V, q_lw hl (q_lw1 0 rfl (q_lw1 1 rfl (q_lw1 2 rfl (q_lw1 3 rfl (q_lw1 4 rfl q_lw0))))), hI, hF, hO26, hO27, hO52, hA55, ⟨fm34, Nat.lt_of_lt_of_le (show (20000 - a69.toInt).toNat < (20000 - lx18.toInt).toNat from by have t1 : a69.toInt = lx18.toInt + 1 := b71; have t2 : lx18.toInt ≤ 20000 := i21; have t3 : x3.toInt ≤ 20000 := pre0; have t4 : x4.toInt ≤ 20000 := pre1; have t5 : x3.toInt ≤ a35.toInt ∧ x4.toInt ≤ a35.toInt ∧ (a35.toInt = x3.toInt ∨ a35.toInt = x4.toInt) := b37; have t6 : lx18.toInt < a35.toInt := b40; omega) (Nat.le_of_lt_succ hf33), (show F_Dig_writeSplit_L3 R N K x3 x4 t0_0 t0_1 t1_0 t2_0 t3_0 fm34 a69 y53 f54 = (F_Dig_writeSplit R N K x3 x4 t0_0 t0_1 t1_0 t2_0 t3_0) from Eq.trans (by rw [← e70, e63, e62, F_Dig_writeSplit_c35.eq_1]) hR64)⟩⟩
    ·
      refine lv_aload_n hx hb d_5_12_19 rfl (lv_at hl 2 rfl) ?_
      refine lv_bipush (v := 46) hx hb d_5_12_20 (by decide) ?_
      refine q_gov V (q_runV (As := [.int 46]) (rest := []) (d := 1) (mc := 0) (ms := 0) (ci := 1) C0 V rfl LV_Dig_52 (X_She_add_p l D g q w25 k2 R N K hB2 46 hI lx19 hO28 lx20 hO29 (by have y0 : (46 : Int32).toInt = 46 := rfl; have t1 : t2_0.toInt ≤ 400000 := pre2; have t2 : 1000000 ≤ K.toInt := pre3; have t3 : lx18.toInt ≤ 20000 := i21; have t4 : lx19.toInt ≤ 2 * lx18.toInt + t2_0.toInt := i23; omega) _) rfl rfl hO28 rfl hl.1 rfl (Nat.le_of_ble_eq_true rfl) ⟨by decide, by decide⟩ ⟨Nat.le_of_ble_eq_true rfl, Nat.le_of_ble_eq_true rfl⟩ d_5_12_22) (fun u73 H locs hp74 V => ?_)
      obtain ⟨hI, hZ9⟩ := hp74
      obtain ⟨hu82, hZ9⟩ := hZ9
      obtain ⟨y76, hZ9⟩ := hZ9
      obtain ⟨f77, hZ9⟩ := hZ9
      obtain ⟨hO75, hZ9⟩ := hZ9
      obtain ⟨hA78, hZ9⟩ := hZ9
      obtain ⟨b79, hZ9⟩ := hZ9
      obtain ⟨b80, hE81⟩ := hZ9
      replace hO75 : u73[k2]? = (some (q k2, .inr (1, [.ref (q (k2 + 1)), .int R, .int y76])) : Option (Nat × va_E)) := hO75
      replace hA78 : u73[k2 + 1]? = (some (q (k2 + 1), .inl (g 1, N.toNatClampNeg, .inr (.inl f77))) : Option (Nat × va_E)) := hA78
      obtain ⟨p83, e84⟩ : ∃ z, z = (F_She_add_p R N K (46 : Int32) lx19 lx20) := ⟨_, rfl⟩
      have e85 : y76 = p83.1 := congrArg (fun z => z.1) (hE81.trans e84.symm)
      have e86 : f77 = p83.2 := congrArg (fun z => z.2) (hE81.trans e84.symm)
      replace b79 : q_F (lx19.toInt + 1 ≤ y76.toInt) := b79
      replace b80 : q_F (y76.toInt ≤ lx19.toInt + 1) := b80
      replace hO26 := (hu82 _ (by have z0 := hB2.2.2.2; simp only [List.mem_cons, List.not_mem_nil, or_false, not_or]; omega)).trans hO26
      replace hO27 := (hu82 _ (by have z0 := hB2.2.2.2; simp only [List.mem_cons, List.not_mem_nil, or_false, not_or]; omega)).trans hO27
      replace hF := q_uc hF hu82 (by first | exact (q_sk (q_mi 0 rfl) (q_sk (q_mi 1 rfl) q_s0)) | simp)
      have hR87 := (show F_Dig_writeSplit_c22 (F_Dig_writeSplit_L3 R N K x3 x4 t0_0 t0_1 t1_0 t2_0 t3_0 fm34) R N K x3 x4 t0_0 t0_1 t1_0 t2_0 t3_0 lx18 lx19 lx20 p83 = (F_Dig_writeSplit R N K x3 x4 t0_0 t0_1 t1_0 t2_0 t3_0) from Eq.trans (by have c38x := c38; rw [← e36] at c38x; rw [e84, F_Dig_writeSplit_L3.eq_2, if_neg c38x, if_pos c41]) hR30)
      refine lv_aload_n hx hb d_5_12_25 rfl (lv_at hl 2 rfl) ?_
      refine lv_bipush (v := 48) hx hb d_5_12_26 (by decide) ?_
      refine lv_aload_n hx hb d_5_12_28 rfl (lv_at hl 1 rfl) ?_
      refine lv_iload hx hb d_5_12_29 (lv_at hl 0 rfl) ?_
      refine q_goi V (q_runV (As := [.int lx18]) (rest := [.int 48, .ref (q k2)]) (d := 1) (mc := 0) (ms := 0) (ci := 7) C0 V rfl LV_Dig_49 (X_Dig_figure l D g q u73  lx18 hI t0_0 t0_1 hO26 t1_0 hO27  _) rfl rfl hO26 rfl hl.1 rfl (Nat.le_of_ble_eq_true rfl) ⟨by decide, by decide⟩ ⟨Nat.le_of_ble_eq_true rfl, Nat.le_of_ble_eq_true rfl⟩ d_5_12_31) (fun a94 u92 H locs hp93 V => ?_)
      obtain ⟨rfl, hE95⟩ := hp93
      have e96 : a94 = (F_Dig_figure lx18 t0_0 t0_1 t1_0) := hE95
      refine lv_iadd hx hb d_5_12_34 ?_
      obtain ⟨a97, e98⟩ := q_nm (48 + a94 : Int32)
      refine q_ti (v := a97) e98 ?_
      refine q_gov V (q_runV (As := [.int a97]) (rest := []) (d := 1) (mc := 0) (ms := 0) (ci := 1) C0 V rfl LV_Dig_52 (X_She_add_p l D g q u73 k2 R N K hB2 a97 hI y76 hO75 f77 hA78 (by have t1 : t2_0.toInt ≤ 400000 := pre2; have t2 : 1000000 ≤ K.toInt := pre3; have t3 : lx18.toInt ≤ 20000 := i21; have t4 : lx19.toInt ≤ 2 * lx18.toInt + t2_0.toInt := i23; have t5 : y76.toInt ≤ lx19.toInt + 1 := b80; omega) _) rfl rfl hO75 rfl hl.1 rfl (Nat.le_of_ble_eq_true rfl) ⟨by decide, by decide⟩ ⟨Nat.le_of_ble_eq_true rfl, Nat.le_of_ble_eq_true rfl⟩ d_5_12_35) (fun u99 H locs hp100 V => ?_)
      obtain ⟨hI, hZ9⟩ := hp100
      obtain ⟨hu108, hZ9⟩ := hZ9
      obtain ⟨y102, hZ9⟩ := hZ9
      obtain ⟨f103, hZ9⟩ := hZ9
      obtain ⟨hO101, hZ9⟩ := hZ9
      obtain ⟨hA104, hZ9⟩ := hZ9
      obtain ⟨b105, hZ9⟩ := hZ9
      obtain ⟨b106, hE107⟩ := hZ9
      replace hO101 : u99[k2]? = (some (q k2, .inr (1, [.ref (q (k2 + 1)), .int R, .int y102])) : Option (Nat × va_E)) := hO101
      replace hA104 : u99[k2 + 1]? = (some (q (k2 + 1), .inl (g 1, N.toNatClampNeg, .inr (.inl f103))) : Option (Nat × va_E)) := hA104
      obtain ⟨p109, e110⟩ : ∃ z, z = (F_She_add_p R N K a97 y76 f77) := ⟨_, rfl⟩
      have e111 : y102 = p109.1 := congrArg (fun z => z.1) (hE107.trans e110.symm)
      have e112 : f103 = p109.2 := congrArg (fun z => z.2) (hE107.trans e110.symm)
      replace b105 : q_F (y76.toInt + 1 ≤ y102.toInt) := b105
      replace b106 : q_F (y102.toInt ≤ y76.toInt + 1) := b106
      replace hO26 := (hu108 _ (by have z0 := hB2.2.2.2; simp only [List.mem_cons, List.not_mem_nil, or_false, not_or]; omega)).trans hO26
      replace hO27 := (hu108 _ (by have z0 := hB2.2.2.2; simp only [List.mem_cons, List.not_mem_nil, or_false, not_or]; omega)).trans hO27
      replace hF := q_uc hF hu108 (by first | exact (q_sk (q_mi 0 rfl) (q_sk (q_mi 1 rfl) q_s0)) | simp)
      have hR113 := (show F_Dig_writeSplit_c35_4 (F_Dig_writeSplit_L3 R N K x3 x4 t0_0 t0_1 t1_0 t2_0 t3_0 fm34) R N K x3 x4 t0_0 t0_1 t1_0 t2_0 t3_0 lx18 lx19 lx20 p83 p109 = (F_Dig_writeSplit R N K x3 x4 t0_0 t0_1 t1_0 t2_0 t3_0) from Eq.trans (by rw [e110, ← e98, e96, e86, e85, F_Dig_writeSplit_c22.eq_1]) hR87)
      obtain ⟨a118, e119⟩ := q_nm (lx18 + 1 : Int32)
      have b120 : q_F (a118.toInt = lx18.toInt + 1) := (by rw [← e119]; exact q_addI (y := 1) rfl (by decide) (by have t1 : lx18.toInt + t2_0.toInt ≤ lx19.toInt := i22; have t2 : lx19.toInt ≤ 2 * lx18.toInt + t2_0.toInt := i23; have t3 : lx18.toInt ≤ 20000 := i21; omega) (by have t1 : lx18.toInt + t2_0.toInt ≤ lx19.toInt := i22; have t2 : lx19.toInt ≤ 2 * lx18.toInt + t2_0.toInt := i23; have t3 : lx18.toInt ≤ 20000 := i21; omega))
      refine lv_iinc (v := a118) (lv' := [(4, .int a118), (0, .ref (q 36)), (1, .ref (q k2)), (2, .int x3), (3, .int x4)]) hx hb d_5_12_38 hl (k := 0) rfl (e119) (by decide) rfl (fun ls hl => ?_)
      refine lv_goto (tgt := 3) hx hb d_5_12_41 (by decide) ?_
      exact ih24 ((a118 : Int32), (y102 : Int32), (f103 : (Nat → Int64))) _ _ _ _ (show (20000 - a118.toInt).toNat < (20000 - lx18.toInt).toNat from by have t1 : a118.toInt = lx18.toInt + 1 := b120; have t2 : lx18.toInt ≤ 20000 := i21; have t3 : x3.toInt ≤ 20000 := pre0; have t4 : x4.toInt ≤ 20000 := pre1; have t5 : x3.toInt ≤ a35.toInt ∧ x4.toInt ≤ a35.toInt ∧ (a35.toInt = x3.toInt ∨ a35.toInt = x4.toInt) := b37; have t6 : lx18.toInt < a35.toInt := b40; omega) ⟨(show q_F (a118.toInt ≤ 20000) from (show a118.toInt ≤ 20000 from by have t1 : x3.toInt ≤ 20000 := pre0; have t2 : x4.toInt ≤ 20000 := pre1; have t3 : x3.toInt ≤ a35.toInt ∧ x4.toInt ≤ a35.toInt ∧ (a35.toInt = x3.toInt ∨ a35.toInt = x4.toInt) := b37; have t4 : lx18.toInt < a35.toInt := b40; have t5 : a118.toInt = lx18.toInt + 1 := b120; omega)), (show q_F (a118.toInt + t2_0.toInt ≤ y102.toInt) from (show a118.toInt + t2_0.toInt ≤ y102.toInt from by have t1 : lx18.toInt + t2_0.toInt ≤ lx19.toInt := i22; have t2 : lx19.toInt + 1 ≤ y76.toInt := b79; have t3 : y76.toInt + 1 ≤ y102.toInt := b105; have t4 : a118.toInt = lx18.toInt + 1 := b120; omega)), (show q_F (y102.toInt ≤ 2 * a118.toInt + t2_0.toInt) from (show y102.toInt ≤ 2 * a118.toInt + t2_0.toInt from by have t1 : lx19.toInt ≤ 2 * lx18.toInt + t2_0.toInt := i23; have t2 : y76.toInt ≤ lx19.toInt + 1 := b80; have t3 : y102.toInt ≤ y76.toInt + 1 := b106; have t4 : a118.toInt = lx18.toInt + 1 := b120; omega)), V, q_lw hl (q_lw1 0 rfl (q_lw1 1 rfl (q_lw1 2 rfl (q_lw1 3 rfl (q_lw1 4 rfl q_lw0))))), hI, hF, hO26, hO27, hO101, hA104, ⟨fm34, Nat.lt_of_lt_of_le (show (20000 - a118.toInt).toNat < (20000 - lx18.toInt).toNat from by have t1 : a118.toInt = lx18.toInt + 1 := b120; have t2 : lx18.toInt ≤ 20000 := i21; have t3 : x3.toInt ≤ 20000 := pre0; have t4 : x4.toInt ≤ 20000 := pre1; have t5 : x3.toInt ≤ a35.toInt ∧ x4.toInt ≤ a35.toInt ∧ (a35.toInt = x3.toInt ∨ a35.toInt = x4.toInt) := b37; have t6 : lx18.toInt < a35.toInt := b40; omega) (Nat.le_of_lt_succ hf33), (show F_Dig_writeSplit_L3 R N K x3 x4 t0_0 t0_1 t1_0 t2_0 t3_0 fm34 a118 y102 f103 = (F_Dig_writeSplit R N K x3 x4 t0_0 t0_1 t1_0 t2_0 t3_0) from Eq.trans (by rw [← e119, e112, e111, F_Dig_writeSplit_c35_4.eq_1]) hR113)⟩⟩

/-! Writer, exactly -/
def F_Wri_begin_p_c17 (x2 : Int32) (t0_0 : Int32) (t1_0 : (Nat → Int64)) (p29 : (Int32 × (Nat → Int64))) : Int32 × (Nat → Int64) := ((p29.1 : Int32), (p29.2 : (Nat → Int64)))
def F_Wri_begin_p (x2 : Int32) (t0_0 : Int32) (t1_0 : (Nat → Int64)) : Int32 × (Nat → Int64) := if x2 = (0 : Int32) then ((((F_She_clear (11008 : Int32) (1376 : Int32) (1000000 : Int32) t0_0) : Int32), t1_0)) else (F_Wri_begin_p_c17 x2 t0_0 t1_0 ((F_She_add_p (11008 : Int32) (1376 : Int32) (1000000 : Int32) (45 : Int32) ((F_She_clear (11008 : Int32) (1376 : Int32) (1000000 : Int32) t0_0) : Int32) t1_0) : (Int32 × (Nat → Int64))))
set_option maxRecDepth 100000 in
set_option maxHeartbeats 4000000 in
theorem X_Wri_begin_p (l : Launch) (D : va_G) (g : Nat → ClassId) (q : Nat → Nat) (ws : va_W) (x2 : Int32) (hI : q_I (nsh g q) q ws) (t0_0 : Int32) (hT0 : ws[3]? = (some (q 3, .inr (1, [.ref (q 4), .int 11008, .int t0_0])) : Option (Nat × va_E))) (t1_0 : (Nat → Int64)) (hT1 : ws[4]? = (some (q 4, .inl (g 1, (1376 : Int32).toNatClampNeg, .inr (.inl t1_0))) : Option (Nat × va_E))) (hzx2 : 0 ≤ x2.toInt ∧ x2.toInt ≤ 1) : q_mV l y_Wri_begin prog_12_method_11_code 2 2 0 0 D g [.ref (q 39), .int x2] ws (fun u => q_I (nsh g q) q u ∧ q_un ws u [3, 4] ∧ ∃ (u0_0 : Int32) (u1_0 : (Nat → Int64)), u[3]? = (some (q 3, .inr (1, [.ref (q 4), .int 11008, .int u0_0])) : Option (Nat × va_E)) ∧ u[4]? = (some (q 4, .inl (g 1, (1376 : Int32).toNatClampNeg, .inr (.inl u1_0))) : Option (Nat × va_E)) ∧ (x2.toInt ≤ u0_0.toInt) ∧ (u0_0.toInt ≤ x2.toInt) ∧ (u0_0, u1_0) = (F_Wri_begin_p x2 t0_0 t1_0)) := by
  intro sz
  refine q_into (by decide) (Nat.le_of_ble_eq_true rfl) ?_
  intro p e s m below meth c ls hsz C0 V hl
  have hx := C0.1
  have hb := C0.2.1
  replace hzx2 : q_F (0 ≤ x2.toInt ∧ x2.toInt ≤ 1) := hzx2
  have btt0_0 := n_shW hI (n_h3 g q) hT0
  clear btt0_0
  have hF : q_un ws ws [3, 4] := q_u0
  have hl : lv_has ls 2 [(0, .ref (q 39)), (1, .int x2)] := hl
  refine lv_aload_n hx hb d_12_11_0 rfl (lv_at hl 0 rfl) ?_
  have hO6 := n_o39 hI
  refine q_get (ci := 9) (j := 0) (v := .ref (q 3)) C0 V i_Wri rfl rfl hO6 (by decide) w_329 rfl d_12_11_1 ?_
  refine q_gov V (q_runV (As := []) (rest := []) (d := 1) (mc := 0) (ms := 0) (ci := 1) C0 V rfl LV_Wri_201 (X_She_clear l D g q ws 3 11008 1376 1000000 (n_h3 g q)  hI t0_0 hT0  _) rfl rfl hT0 rfl hl.1 rfl (Nat.le_of_ble_eq_true rfl) ⟨by decide, by decide⟩ ⟨Nat.le_of_ble_eq_true rfl, Nat.le_of_ble_eq_true rfl⟩ d_12_11_4) (fun u7 H locs hp8 V => ?_)
  obtain ⟨hI, hZ9⟩ := hp8
  obtain ⟨hu14, hZ9⟩ := hZ9
  obtain ⟨y10, hZ9⟩ := hZ9
  obtain ⟨hO9, hZ9⟩ := hZ9
  obtain ⟨b11, hZ9⟩ := hZ9
  obtain ⟨b12, hE13⟩ := hZ9
  replace hO9 : u7[3]? = (some (q 3, .inr (1, [.ref (q 4), .int 11008, .int y10])) : Option (Nat × va_E)) := hO9
  have e15 : y10 = (F_She_clear (11008 : Int32) (1376 : Int32) (1000000 : Int32) t0_0) := hE13
  replace b11 : q_F (0 ≤ y10.toInt) := b11
  replace b12 : q_F (y10.toInt ≤ 0) := b12
  replace hT1 := (hu14 _ (by decide)).trans hT1
  replace hO6 := (hu14 _ (by decide)).trans hO6
  replace hF := q_uc hF hu14 (by first | exact (q_sk (q_mi 0 rfl) q_s0) | simp)
  refine lv_iload_n hx hb d_12_11_7 rfl (lv_at hl 1 rfl) ?_
  refine lv_if_eq (tgt := 20) hx hb d_12_11_8 (by decide) (fun c16 => ?_) (fun c16 => ?_)
  ·
    have b17 : q_F (x2.toInt = 0) := (q_eqI c16)
    exact q_retv C0 V (⟨hI, hF, y10, t1_0, hO9, hT1, (show x2.toInt ≤ y10.toInt from (by have t1 : 0 ≤ y10.toInt := b11; have t2 : x2.toInt = 0 := b17; omega)), (show y10.toInt ≤ x2.toInt from (by have t1 : 0 ≤ x2.toInt ∧ x2.toInt ≤ 1 := hzx2; have t2 : y10.toInt ≤ 0 := b12; omega)), (show (y10, t1_0) = (F_Wri_begin_p x2 t0_0 t1_0) from (by rw [e15, F_Wri_begin_p.eq_1, if_pos c16]))⟩) d_12_11_20
  ·
    have b18 : q_F (x2.toInt ≠ 0) := (q_neI c16)
    refine lv_aload_n hx hb d_12_11_11 rfl (lv_at hl 0 rfl) ?_
    refine q_get (ci := 9) (j := 0) (v := .ref (q 3)) C0 V i_Wri rfl rfl hO6 (by decide) w_329 rfl d_12_11_12 ?_
    refine lv_bipush (v := 45) hx hb d_12_11_15 (by decide) ?_
    refine q_gov V (q_runV (As := [.int 45]) (rest := []) (d := 1) (mc := 0) (ms := 0) (ci := 1) C0 V rfl LV_Wri_62 (X_She_add_p l D g q u7 3 11008 1376 1000000 (n_h3 g q) 45 hI y10 hO9 t1_0 hT1 (by have y0 : (11008 : Int32).toInt = 11008 := rfl; have y1 : (1376 : Int32).toInt = 1376 := rfl; have y2 : (1000000 : Int32).toInt = 1000000 := rfl; have y3 : (45 : Int32).toInt = 45 := rfl; have t1 : y10.toInt ≤ 0 := b12; omega) _) rfl rfl hO9 rfl hl.1 rfl (Nat.le_of_ble_eq_true rfl) ⟨by decide, by decide⟩ ⟨Nat.le_of_ble_eq_true rfl, Nat.le_of_ble_eq_true rfl⟩ d_12_11_17) (fun u19 H locs hp20 V => ?_)
    obtain ⟨hI, hZ9⟩ := hp20
    obtain ⟨hu28, hZ9⟩ := hZ9
    obtain ⟨y22, hZ9⟩ := hZ9
    obtain ⟨f23, hZ9⟩ := hZ9
    obtain ⟨hO21, hZ9⟩ := hZ9
    obtain ⟨hA24, hZ9⟩ := hZ9
    obtain ⟨b25, hZ9⟩ := hZ9
    obtain ⟨b26, hE27⟩ := hZ9
    replace hO21 : u19[3]? = (some (q 3, .inr (1, [.ref (q 4), .int 11008, .int y22])) : Option (Nat × va_E)) := hO21
    replace hA24 : u19[4]? = (some (q 4, .inl (g 1, (1376 : Int32).toNatClampNeg, .inr (.inl f23))) : Option (Nat × va_E)) := hA24
    obtain ⟨p29, e30⟩ : ∃ z, z = (F_She_add_p (11008 : Int32) (1376 : Int32) (1000000 : Int32) (45 : Int32) y10 t1_0) := ⟨_, rfl⟩
    have e31 : y22 = p29.1 := congrArg (fun z => z.1) (hE27.trans e30.symm)
    have e32 : f23 = p29.2 := congrArg (fun z => z.2) (hE27.trans e30.symm)
    replace b25 : q_F (y10.toInt + 1 ≤ y22.toInt) := b25
    replace b26 : q_F (y22.toInt ≤ y10.toInt + 1) := b26
    replace hF := q_uc hF hu28 (by first | exact (q_sk (q_mi 0 rfl) (q_sk (q_mi 1 rfl) q_s0)) | simp)
    have hR33 := (show F_Wri_begin_p_c17 x2 t0_0 t1_0 p29 = (F_Wri_begin_p x2 t0_0 t1_0) from (by rw [e30, e15, F_Wri_begin_p.eq_1, if_neg c16]))
    exact q_retv C0 V (⟨hI, hF, y22, f23, hO21, hA24, (show x2.toInt ≤ y22.toInt from (by have t1 : 0 ≤ x2.toInt ∧ x2.toInt ≤ 1 := hzx2; have t2 : 0 ≤ y10.toInt := b11; have t3 : y10.toInt + 1 ≤ y22.toInt := b25; omega)), (show y22.toInt ≤ x2.toInt from (by have t1 : 0 ≤ x2.toInt ∧ x2.toInt ≤ 1 := hzx2; have t2 : y10.toInt ≤ 0 := b12; have t3 : x2.toInt ≠ 0 := b18; have t4 : y22.toInt ≤ y10.toInt + 1 := b26; omega)), (show (y22, f23) = (F_Wri_begin_p x2 t0_0 t1_0) from Eq.trans (by rw [e32, e31, F_Wri_begin_p_c17.eq_1]) hR33)⟩) d_12_11_20
theorem d_12_5_0 : decode prog_12_method_5_code 0 = .ok (.aload_n 0, 1) := by decide +kernel
theorem d_12_5_1 : decode prog_12_method_5_code 1 = .ok (.getfield 7, 3) := by decide +kernel
theorem d_12_5_4 : decode prog_12_method_5_code 4 = .ok (.bipush 69, 2) := by decide +kernel
theorem d_12_5_6 : decode prog_12_method_5_code 6 = .ok (.invokevirtual 62, 3) := by decide +kernel
theorem d_12_5_9 : decode prog_12_method_5_code 9 = .ok (.aload_n 0, 1) := by decide +kernel
theorem d_12_5_10 : decode prog_12_method_5_code 10 = .ok (.getfield 7, 3) := by decide +kernel
theorem d_12_5_13 : decode prog_12_method_5_code 13 = .ok (.iload_n 1, 1) := by decide +kernel
theorem d_12_5_14 : decode prog_12_method_5_code 14 = .ok (.ifCond .ge 8, 3) := by decide +kernel
theorem d_12_5_22 : decode prog_12_method_5_code 22 = .ok (.bipush 43, 2) := by decide +kernel
theorem d_12_5_24 : decode prog_12_method_5_code 24 = .ok (.invokevirtual 62, 3) := by decide +kernel
theorem d_12_5_27 : decode prog_12_method_5_code 27 = .ok (.aload_n 0, 1) := by decide +kernel
theorem d_12_5_28 : decode prog_12_method_5_code 28 = .ok (.getfield 7, 3) := by decide +kernel
theorem d_12_5_31 : decode prog_12_method_5_code 31 = .ok (.iload_n 1, 1) := by decide +kernel
theorem d_12_5_32 : decode prog_12_method_5_code 32 = .ok (.iconst 1, 1) := by decide +kernel
theorem d_12_5_33 : decode prog_12_method_5_code 33 = .ok (.invokevirtual 115, 3) := by decide +kernel
set_option maxRecDepth 100000 in
theorem w_1582 : (Cond.methodLink "NumberHouse$Writer" (115 : Nat) ({ cls := "NumberHouse$Sheet", name := "addPower", desc := "(II)V" } : MethodName)) ∈ q_tbl := q_of7 142 rfl (by decide +kernel)
theorem LV_Wri_115 : q_LV "NumberHouse$Writer" 115 y_She_addPower prog_11_method_6_code 6 none 2 := ⟨w_1585, w_2, w_1582, w_1583, w_1584, ⟨by decide, by decide, by decide +kernel⟩⟩
theorem d_12_5_36 : decode prog_12_method_5_code 36 = .ok (.return_, 1) := by decide +kernel
theorem d_12_5_17 : decode prog_12_method_5_code 17 = .ok (.bipush 45, 2) := by decide +kernel
theorem d_12_5_19 : decode prog_12_method_5_code 19 = .ok (.goto 5, 3) := by decide +kernel
def y_Wri_writePower : MethodName := ⟨"NumberHouse$Writer", "writePower", "(I)V"⟩
def F_Wri_writePower_c33 (x2 : Int32) (t0_0 : Int32) (t1_0 : (Nat → Int64)) (p17 : (Int32 × (Nat → Int64))) (p38 : (Int32 × (Nat → Int64))) (p57 : (Int32 × (Nat → Int64))) : Int32 × (Nat → Int64) := ((p57.1 : Int32), (p57.2 : (Nat → Int64)))
def F_Wri_writePower_c24 (x2 : Int32) (t0_0 : Int32) (t1_0 : (Nat → Int64)) (p17 : (Int32 × (Nat → Int64))) (p38 : (Int32 × (Nat → Int64))) : Int32 × (Nat → Int64) := F_Wri_writePower_c33 x2 t0_0 t1_0 p17 p38 ((F_She_addPower_p (11008 : Int32) (1376 : Int32) (1000000 : Int32) x2 (1 : Int32) (p38.1 : Int32) (p38.2 : (Nat → Int64))) : (Int32 × (Nat → Int64)))
def F_Wri_writePower_c33_5 (x2 : Int32) (t0_0 : Int32) (t1_0 : (Nat → Int64)) (p17 : (Int32 × (Nat → Int64))) (p77 : (Int32 × (Nat → Int64))) (p96 : (Int32 × (Nat → Int64))) : Int32 × (Nat → Int64) := ((p96.1 : Int32), (p96.2 : (Nat → Int64)))
def F_Wri_writePower_c24_4 (x2 : Int32) (t0_0 : Int32) (t1_0 : (Nat → Int64)) (p17 : (Int32 × (Nat → Int64))) (p77 : (Int32 × (Nat → Int64))) : Int32 × (Nat → Int64) := F_Wri_writePower_c33_5 x2 t0_0 t1_0 p17 p77 ((F_She_addPower_p (11008 : Int32) (1376 : Int32) (1000000 : Int32) x2 (1 : Int32) (p77.1 : Int32) (p77.2 : (Nat → Int64))) : (Int32 × (Nat → Int64)))
def F_Wri_writePower_c6 (x2 : Int32) (t0_0 : Int32) (t1_0 : (Nat → Int64)) (p17 : (Int32 × (Nat → Int64))) : Int32 × (Nat → Int64) := if (0 : Int32) ≤ x2 then (F_Wri_writePower_c24 x2 t0_0 t1_0 p17 ((F_She_add_p (11008 : Int32) (1376 : Int32) (1000000 : Int32) (43 : Int32) (p17.1 : Int32) (p17.2 : (Nat → Int64))) : (Int32 × (Nat → Int64)))) else (F_Wri_writePower_c24_4 x2 t0_0 t1_0 p17 ((F_She_add_p (11008 : Int32) (1376 : Int32) (1000000 : Int32) (45 : Int32) (p17.1 : Int32) (p17.2 : (Nat → Int64))) : (Int32 × (Nat → Int64))))
def F_Wri_writePower (x2 : Int32) (t0_0 : Int32) (t1_0 : (Nat → Int64)) : Int32 × (Nat → Int64) := F_Wri_writePower_c6 x2 t0_0 t1_0 ((F_She_add_p (11008 : Int32) (1376 : Int32) (1000000 : Int32) (69 : Int32) t0_0 t1_0) : (Int32 × (Nat → Int64)))
set_option maxRecDepth 100000 in
set_option maxHeartbeats 4000000 in
theorem X_Wri_writePower (l : Launch) (D : va_G) (g : Nat → ClassId) (q : Nat → Nat) (ws : va_W) (x2 : Int32) (hI : q_I (nsh g q) q ws) (t0_0 : Int32) (hT0 : ws[3]? = (some (q 3, .inr (1, [.ref (q 4), .int 11008, .int t0_0])) : Option (Nat × va_E))) (t1_0 : (Nat → Int64)) (hT1 : ws[4]? = (some (q 4, .inl (g 1, (1376 : Int32).toNatClampNeg, .inr (.inl t1_0))) : Option (Nat × va_E))) (pre0 : t0_0.toInt ≤ 500000) (pre1 : 0 ≤ x2.toInt + 2147483647) : q_mV l y_Wri_writePower prog_12_method_5_code 2 3 0 0 D g [.ref (q 39), .int x2] ws (fun u => q_I (nsh g q) q u ∧ q_un ws u [3, 4] ∧ ∃ (u0_0 : Int32) (u1_0 : (Nat → Int64)), u[3]? = (some (q 3, .inr (1, [.ref (q 4), .int 11008, .int u0_0])) : Option (Nat × va_E)) ∧ u[4]? = (some (q 4, .inl (g 1, (1376 : Int32).toNatClampNeg, .inr (.inl u1_0))) : Option (Nat × va_E)) ∧ (t0_0.toInt + 2 ≤ u0_0.toInt) ∧ (u0_0.toInt ≤ t0_0.toInt + 7) ∧ (u0_0, u1_0) = (F_Wri_writePower x2 t0_0 t1_0)) := by
  intro sz
  refine q_into (by decide) (Nat.le_of_ble_eq_true rfl) ?_
  intro p e s m below meth c ls hsz C0 V hl
  have hx := C0.1
  have hb := C0.2.1
  have btt0_0 := n_shW hI (n_h3 g q) hT0
  clear btt0_0
  replace pre0 : q_F (t0_0.toInt ≤ 500000) := pre0
  replace pre1 : q_F (0 ≤ x2.toInt + 2147483647) := pre1
  have hF : q_un ws ws [3, 4] := q_u0
  have hl : lv_has ls 2 [(0, .ref (q 39)), (1, .int x2)] := hl
  refine lv_aload_n hx hb d_12_5_0 rfl (lv_at hl 0 rfl) ?_
  have hO6 := n_o39 hI
  refine q_get (ci := 9) (j := 0) (v := .ref (q 3)) C0 V i_Wri rfl rfl hO6 (by decide) w_329 rfl d_12_5_1 ?_
  refine lv_bipush (v := 69) hx hb d_12_5_4 (by decide) ?_
  refine q_gov V (q_runV (As := [.int 69]) (rest := []) (d := 1) (mc := 0) (ms := 0) (ci := 1) C0 V rfl LV_Wri_62 (X_She_add_p l D g q ws 3 11008 1376 1000000 (n_h3 g q) 69 hI t0_0 hT0 t1_0 hT1 (by have y0 : (11008 : Int32).toInt = 11008 := rfl; have y1 : (1376 : Int32).toInt = 1376 := rfl; have y2 : (1000000 : Int32).toInt = 1000000 := rfl; have y3 : (69 : Int32).toInt = 69 := rfl; have t1 : t0_0.toInt ≤ 500000 := pre0; omega) _) rfl rfl hT0 rfl hl.1 rfl (Nat.le_of_ble_eq_true rfl) ⟨by decide, by decide⟩ ⟨Nat.le_of_ble_eq_true rfl, Nat.le_of_ble_eq_true rfl⟩ d_12_5_6) (fun u7 H locs hp8 V => ?_)
  obtain ⟨hI, hZ9⟩ := hp8
  obtain ⟨hu16, hZ9⟩ := hZ9
  obtain ⟨y10, hZ9⟩ := hZ9
  obtain ⟨f11, hZ9⟩ := hZ9
  obtain ⟨hO9, hZ9⟩ := hZ9
  obtain ⟨hA12, hZ9⟩ := hZ9
  obtain ⟨b13, hZ9⟩ := hZ9
  obtain ⟨b14, hE15⟩ := hZ9
  replace hO9 : u7[3]? = (some (q 3, .inr (1, [.ref (q 4), .int 11008, .int y10])) : Option (Nat × va_E)) := hO9
  replace hA12 : u7[4]? = (some (q 4, .inl (g 1, (1376 : Int32).toNatClampNeg, .inr (.inl f11))) : Option (Nat × va_E)) := hA12
  obtain ⟨p17, e18⟩ : ∃ z, z = (F_She_add_p (11008 : Int32) (1376 : Int32) (1000000 : Int32) (69 : Int32) t0_0 t1_0) := ⟨_, rfl⟩
  have e19 : y10 = p17.1 := congrArg (fun z => z.1) (hE15.trans e18.symm)
  have e20 : f11 = p17.2 := congrArg (fun z => z.2) (hE15.trans e18.symm)
  replace b13 : q_F (t0_0.toInt + 1 ≤ y10.toInt) := b13
  replace b14 : q_F (y10.toInt ≤ t0_0.toInt + 1) := b14
  replace hO6 := (hu16 _ (by decide)).trans hO6
  replace hF := q_uc hF hu16 (by first | exact (q_sk (q_mi 0 rfl) (q_sk (q_mi 1 rfl) q_s0)) | simp)
  have hR21 := (show F_Wri_writePower_c6 x2 t0_0 t1_0 p17 = (F_Wri_writePower x2 t0_0 t1_0) from (by rw [e18, F_Wri_writePower.eq_1]))
  refine lv_aload_n hx hb d_12_5_9 rfl (lv_at hl 0 rfl) ?_
  refine q_get (ci := 9) (j := 0) (v := .ref (q 3)) C0 V i_Wri rfl rfl hO6 (by decide) w_329 rfl d_12_5_10 ?_
  refine lv_iload_n hx hb d_12_5_13 rfl (lv_at hl 1 rfl) ?_
  refine lv_if_ge (tgt := 22) hx hb d_12_5_14 (by decide) (fun c26 => ?_) (fun c26 => ?_)
  ·
    refine lv_bipush (v := 43) hx hb d_12_5_22 (by decide) ?_
    refine q_gov V (q_runV (As := [.int 43]) (rest := []) (d := 1) (mc := 0) (ms := 0) (ci := 1) C0 V rfl LV_Wri_62 (X_She_add_p l D g q u7 3 11008 1376 1000000 (n_h3 g q) 43 hI y10 hO9 f11 hA12 (by have y0 : (11008 : Int32).toInt = 11008 := rfl; have y1 : (1376 : Int32).toInt = 1376 := rfl; have y2 : (1000000 : Int32).toInt = 1000000 := rfl; have y3 : (43 : Int32).toInt = 43 := rfl; have t1 : t0_0.toInt ≤ 500000 := pre0; have t2 : y10.toInt ≤ t0_0.toInt + 1 := b14; omega) _) rfl rfl hO9 rfl hl.1 rfl (Nat.le_of_ble_eq_true rfl) ⟨by decide, by decide⟩ ⟨Nat.le_of_ble_eq_true rfl, Nat.le_of_ble_eq_true rfl⟩ d_12_5_24) (fun u28 H locs hp29 V => ?_)
    obtain ⟨hI, hZ9⟩ := hp29
    obtain ⟨hu37, hZ9⟩ := hZ9
    obtain ⟨y31, hZ9⟩ := hZ9
    obtain ⟨f32, hZ9⟩ := hZ9
    obtain ⟨hO30, hZ9⟩ := hZ9
    obtain ⟨hA33, hZ9⟩ := hZ9
    obtain ⟨b34, hZ9⟩ := hZ9
    obtain ⟨b35, hE36⟩ := hZ9
    replace hO30 : u28[3]? = (some (q 3, .inr (1, [.ref (q 4), .int 11008, .int y31])) : Option (Nat × va_E)) := hO30
    replace hA33 : u28[4]? = (some (q 4, .inl (g 1, (1376 : Int32).toNatClampNeg, .inr (.inl f32))) : Option (Nat × va_E)) := hA33
    obtain ⟨p38, e39⟩ : ∃ z, z = (F_She_add_p (11008 : Int32) (1376 : Int32) (1000000 : Int32) (43 : Int32) y10 f11) := ⟨_, rfl⟩
    have e40 : y31 = p38.1 := congrArg (fun z => z.1) (hE36.trans e39.symm)
    have e41 : f32 = p38.2 := congrArg (fun z => z.2) (hE36.trans e39.symm)
    replace b34 : q_F (y10.toInt + 1 ≤ y31.toInt) := b34
    replace b35 : q_F (y31.toInt ≤ y10.toInt + 1) := b35
    replace hO6 := (hu37 _ (by decide)).trans hO6
    replace hF := q_uc hF hu37 (by first | exact (q_sk (q_mi 0 rfl) (q_sk (q_mi 1 rfl) q_s0)) | simp)
    have hR42 := (show F_Wri_writePower_c24 x2 t0_0 t1_0 p17 p38 = (F_Wri_writePower x2 t0_0 t1_0) from Eq.trans (by rw [e39, e20, e19, F_Wri_writePower_c6.eq_1, if_pos c26]) hR21)
    refine lv_aload_n hx hb d_12_5_27 rfl (lv_at hl 0 rfl) ?_
    refine q_get (ci := 9) (j := 0) (v := .ref (q 3)) C0 V i_Wri rfl rfl hO6 (by decide) w_329 rfl d_12_5_28 ?_
    refine lv_iload_n hx hb d_12_5_31 rfl (lv_at hl 1 rfl) ?_
    refine lv_iconst (v := 1) hx hb d_12_5_32 (by decide) ?_
    refine q_gov V (q_runV (As := [.int x2, .int 1]) (rest := []) (d := 2) (mc := 0) (ms := 0) (ci := 1) C0 V rfl LV_Wri_115 (X_She_addPower_p l D g q u28 3 11008 1376 1000000 (n_h3 g q) x2 1 hI y31 hO30 f32 hA33 (by have y0 : (11008 : Int32).toInt = 11008 := rfl; have y1 : (1376 : Int32).toInt = 1376 := rfl; have y2 : (1000000 : Int32).toInt = 1000000 := rfl; have y3 : (1 : Int32).toInt = 1 := rfl; have t1 : t0_0.toInt ≤ 500000 := pre0; have t2 : y10.toInt ≤ t0_0.toInt + 1 := b14; have t3 : y31.toInt ≤ y10.toInt + 1 := b35; omega) (by have y0 : (11008 : Int32).toInt = 11008 := rfl; have y1 : (1376 : Int32).toInt = 1376 := rfl; have y2 : (1000000 : Int32).toInt = 1000000 := rfl; have y3 : (1 : Int32).toInt = 1 := rfl; have t1 : 0 ≤ x2.toInt + 2147483647 := pre1; omega) _) rfl rfl hO30 rfl hl.1 rfl (Nat.le_of_ble_eq_true rfl) ⟨by decide, by decide⟩ ⟨Nat.le_of_ble_eq_true rfl, Nat.le_of_ble_eq_true rfl⟩ d_12_5_33) (fun u47 H locs hp48 V => ?_)
    obtain ⟨hI, hZ9⟩ := hp48
    obtain ⟨hu56, hZ9⟩ := hZ9
    obtain ⟨y50, hZ9⟩ := hZ9
    obtain ⟨f51, hZ9⟩ := hZ9
    obtain ⟨hO49, hZ9⟩ := hZ9
    obtain ⟨hA52, hZ9⟩ := hZ9
    obtain ⟨b53, hZ9⟩ := hZ9
    obtain ⟨b54, hE55⟩ := hZ9
    replace hO49 : u47[3]? = (some (q 3, .inr (1, [.ref (q 4), .int 11008, .int y50])) : Option (Nat × va_E)) := hO49
    replace hA52 : u47[4]? = (some (q 4, .inl (g 1, (1376 : Int32).toNatClampNeg, .inr (.inl f51))) : Option (Nat × va_E)) := hA52
    obtain ⟨p57, e58⟩ : ∃ z, z = (F_She_addPower_p (11008 : Int32) (1376 : Int32) (1000000 : Int32) x2 (1 : Int32) y31 f32) := ⟨_, rfl⟩
    have e59 : y50 = p57.1 := congrArg (fun z => z.1) (hE55.trans e58.symm)
    have e60 : f51 = p57.2 := congrArg (fun z => z.2) (hE55.trans e58.symm)
    replace b53 : q_F (y31.toInt ≤ y50.toInt) := b53
    replace b54 : q_F (y50.toInt ≤ y31.toInt + 5) := b54
    replace hF := q_uc hF hu56 (by first | exact (q_sk (q_mi 0 rfl) (q_sk (q_mi 1 rfl) q_s0)) | simp)
    have hR61 := (show F_Wri_writePower_c33 x2 t0_0 t1_0 p17 p38 p57 = (F_Wri_writePower x2 t0_0 t1_0) from Eq.trans (by rw [e58, e41, e40, F_Wri_writePower_c24.eq_1]) hR42)
    exact q_retv C0 V (⟨hI, hF, y50, f51, hO49, hA52, (show t0_0.toInt + 2 ≤ y50.toInt from (by have t1 : t0_0.toInt + 1 ≤ y10.toInt := b13; have t2 : y10.toInt + 1 ≤ y31.toInt := b34; have t3 : y31.toInt ≤ y50.toInt := b53; omega)), (show y50.toInt ≤ t0_0.toInt + 7 from (by have t1 : y10.toInt ≤ t0_0.toInt + 1 := b14; have t2 : y31.toInt ≤ y10.toInt + 1 := b35; have t3 : y50.toInt ≤ y31.toInt + 5 := b54; omega)), (show (y50, f51) = (F_Wri_writePower x2 t0_0 t1_0) from Eq.trans (by rw [e60, e59, F_Wri_writePower_c33.eq_1]) hR61)⟩) d_12_5_36
  ·
    refine lv_bipush (v := 45) hx hb d_12_5_17 (by decide) ?_
    refine lv_goto (tgt := 24) hx hb d_12_5_19 (by decide) ?_
    refine q_gov V (q_runV (As := [.int 45]) (rest := []) (d := 1) (mc := 0) (ms := 0) (ci := 1) C0 V rfl LV_Wri_62 (X_She_add_p l D g q u7 3 11008 1376 1000000 (n_h3 g q) 45 hI y10 hO9 f11 hA12 (by have y0 : (11008 : Int32).toInt = 11008 := rfl; have y1 : (1376 : Int32).toInt = 1376 := rfl; have y2 : (1000000 : Int32).toInt = 1000000 := rfl; have y3 : (45 : Int32).toInt = 45 := rfl; have t1 : t0_0.toInt ≤ 500000 := pre0; have t2 : y10.toInt ≤ t0_0.toInt + 1 := b14; omega) _) rfl rfl hO9 rfl hl.1 rfl (Nat.le_of_ble_eq_true rfl) ⟨by decide, by decide⟩ ⟨Nat.le_of_ble_eq_true rfl, Nat.le_of_ble_eq_true rfl⟩ d_12_5_24) (fun u67 H locs hp68 V => ?_)
    obtain ⟨hI, hZ9⟩ := hp68
    obtain ⟨hu76, hZ9⟩ := hZ9
    obtain ⟨y70, hZ9⟩ := hZ9
    obtain ⟨f71, hZ9⟩ := hZ9
    obtain ⟨hO69, hZ9⟩ := hZ9
    obtain ⟨hA72, hZ9⟩ := hZ9
    obtain ⟨b73, hZ9⟩ := hZ9
    obtain ⟨b74, hE75⟩ := hZ9
    replace hO69 : u67[3]? = (some (q 3, .inr (1, [.ref (q 4), .int 11008, .int y70])) : Option (Nat × va_E)) := hO69
    replace hA72 : u67[4]? = (some (q 4, .inl (g 1, (1376 : Int32).toNatClampNeg, .inr (.inl f71))) : Option (Nat × va_E)) := hA72
    obtain ⟨p77, e78⟩ : ∃ z, z = (F_She_add_p (11008 : Int32) (1376 : Int32) (1000000 : Int32) (45 : Int32) y10 f11) := ⟨_, rfl⟩
    have e79 : y70 = p77.1 := congrArg (fun z => z.1) (hE75.trans e78.symm)
    have e80 : f71 = p77.2 := congrArg (fun z => z.2) (hE75.trans e78.symm)
    replace b73 : q_F (y10.toInt + 1 ≤ y70.toInt) := b73
    replace b74 : q_F (y70.toInt ≤ y10.toInt + 1) := b74
    replace hO6 := (hu76 _ (by decide)).trans hO6
    replace hF := q_uc hF hu76 (by first | exact (q_sk (q_mi 0 rfl) (q_sk (q_mi 1 rfl) q_s0)) | simp)
    have hR81 := (show F_Wri_writePower_c24_4 x2 t0_0 t1_0 p17 p77 = (F_Wri_writePower x2 t0_0 t1_0) from Eq.trans (by rw [e78, e20, e19, F_Wri_writePower_c6.eq_1, if_neg c26]) hR21)
    refine lv_aload_n hx hb d_12_5_27 rfl (lv_at hl 0 rfl) ?_
    refine q_get (ci := 9) (j := 0) (v := .ref (q 3)) C0 V i_Wri rfl rfl hO6 (by decide) w_329 rfl d_12_5_28 ?_
    refine lv_iload_n hx hb d_12_5_31 rfl (lv_at hl 1 rfl) ?_
    refine lv_iconst (v := 1) hx hb d_12_5_32 (by decide) ?_
    refine q_gov V (q_runV (As := [.int x2, .int 1]) (rest := []) (d := 2) (mc := 0) (ms := 0) (ci := 1) C0 V rfl LV_Wri_115 (X_She_addPower_p l D g q u67 3 11008 1376 1000000 (n_h3 g q) x2 1 hI y70 hO69 f71 hA72 (by have y0 : (11008 : Int32).toInt = 11008 := rfl; have y1 : (1376 : Int32).toInt = 1376 := rfl; have y2 : (1000000 : Int32).toInt = 1000000 := rfl; have y3 : (1 : Int32).toInt = 1 := rfl; have t1 : t0_0.toInt ≤ 500000 := pre0; have t2 : y10.toInt ≤ t0_0.toInt + 1 := b14; have t3 : y70.toInt ≤ y10.toInt + 1 := b74; omega) (by have y0 : (11008 : Int32).toInt = 11008 := rfl; have y1 : (1376 : Int32).toInt = 1376 := rfl; have y2 : (1000000 : Int32).toInt = 1000000 := rfl; have y3 : (1 : Int32).toInt = 1 := rfl; have t1 : 0 ≤ x2.toInt + 2147483647 := pre1; omega) _) rfl rfl hO69 rfl hl.1 rfl (Nat.le_of_ble_eq_true rfl) ⟨by decide, by decide⟩ ⟨Nat.le_of_ble_eq_true rfl, Nat.le_of_ble_eq_true rfl⟩ d_12_5_33) (fun u86 H locs hp87 V => ?_)
    obtain ⟨hI, hZ9⟩ := hp87
    obtain ⟨hu95, hZ9⟩ := hZ9
    obtain ⟨y89, hZ9⟩ := hZ9
    obtain ⟨f90, hZ9⟩ := hZ9
    obtain ⟨hO88, hZ9⟩ := hZ9
    obtain ⟨hA91, hZ9⟩ := hZ9
    obtain ⟨b92, hZ9⟩ := hZ9
    obtain ⟨b93, hE94⟩ := hZ9
    replace hO88 : u86[3]? = (some (q 3, .inr (1, [.ref (q 4), .int 11008, .int y89])) : Option (Nat × va_E)) := hO88
    replace hA91 : u86[4]? = (some (q 4, .inl (g 1, (1376 : Int32).toNatClampNeg, .inr (.inl f90))) : Option (Nat × va_E)) := hA91
    obtain ⟨p96, e97⟩ : ∃ z, z = (F_She_addPower_p (11008 : Int32) (1376 : Int32) (1000000 : Int32) x2 (1 : Int32) y70 f71) := ⟨_, rfl⟩
    have e98 : y89 = p96.1 := congrArg (fun z => z.1) (hE94.trans e97.symm)
    have e99 : f90 = p96.2 := congrArg (fun z => z.2) (hE94.trans e97.symm)
    replace b92 : q_F (y70.toInt ≤ y89.toInt) := b92
    replace b93 : q_F (y89.toInt ≤ y70.toInt + 5) := b93
    replace hF := q_uc hF hu95 (by first | exact (q_sk (q_mi 0 rfl) (q_sk (q_mi 1 rfl) q_s0)) | simp)
    have hR100 := (show F_Wri_writePower_c33_5 x2 t0_0 t1_0 p17 p77 p96 = (F_Wri_writePower x2 t0_0 t1_0) from Eq.trans (by rw [e97, e80, e79, F_Wri_writePower_c24_4.eq_1]) hR81)
    exact q_retv C0 V (⟨hI, hF, y89, f90, hO88, hA91, (show t0_0.toInt + 2 ≤ y89.toInt from (by have t1 : t0_0.toInt + 1 ≤ y10.toInt := b13; have t2 : y10.toInt + 1 ≤ y70.toInt := b73; have t3 : y70.toInt ≤ y89.toInt := b92; omega)), (show y89.toInt ≤ t0_0.toInt + 7 from (by have t1 : y10.toInt ≤ t0_0.toInt + 1 := b14; have t2 : y70.toInt ≤ y10.toInt + 1 := b74; have t3 : y89.toInt ≤ y70.toInt + 5 := b93; omega)), (show (y89, f90) = (F_Wri_writePower x2 t0_0 t1_0) from Eq.trans (by rw [e99, e98, F_Wri_writePower_c33_5.eq_1]) hR100)⟩) d_12_5_36
theorem d_12_9_0 : decode prog_12_method_9_code 0 = .ok (.iload_n 1, 1) := by decide +kernel
theorem d_12_9_1 : decode prog_12_method_9_code 1 = .ok (.ifCond .ge 12, 3) := by decide +kernel
theorem d_12_9_13 : decode prog_12_method_9_code 13 = .ok (.aload_n 0, 1) := by decide +kernel
theorem d_12_9_14 : decode prog_12_method_9_code 14 = .ok (.getfield 7, 3) := by decide +kernel
theorem d_12_9_17 : decode prog_12_method_9_code 17 = .ok (.iload_n 1, 1) := by decide +kernel
theorem d_12_9_18 : decode prog_12_method_9_code 18 = .ok (.iconst 1, 1) := by decide +kernel
theorem d_12_9_19 : decode prog_12_method_9_code 19 = .ok (.invokevirtual 115, 3) := by decide +kernel
theorem d_12_9_22 : decode prog_12_method_9_code 22 = .ok (.return_, 1) := by decide +kernel
theorem d_12_9_4 : decode prog_12_method_9_code 4 = .ok (.aload_n 0, 1) := by decide +kernel
theorem d_12_9_5 : decode prog_12_method_9_code 5 = .ok (.getfield 7, 3) := by decide +kernel
theorem d_12_9_8 : decode prog_12_method_9_code 8 = .ok (.bipush 45, 2) := by decide +kernel
theorem d_12_9_10 : decode prog_12_method_9_code 10 = .ok (.invokevirtual 62, 3) := by decide +kernel
def y_Wri_writeSigned : MethodName := ⟨"NumberHouse$Writer", "writeSigned", "(I)V"⟩
def F_Wri_writeSigned_c19 (x2 : Int32) (t0_0 : Int32) (t1_0 : (Nat → Int64)) (p19 : (Int32 × (Nat → Int64))) : Int32 × (Nat → Int64) := ((p19.1 : Int32), (p19.2 : (Nat → Int64)))
def F_Wri_writeSigned_c19_3 (x2 : Int32) (t0_0 : Int32) (t1_0 : (Nat → Int64)) (p40 : (Int32 × (Nat → Int64))) (p59 : (Int32 × (Nat → Int64))) : Int32 × (Nat → Int64) := ((p59.1 : Int32), (p59.2 : (Nat → Int64)))
def F_Wri_writeSigned_c10 (x2 : Int32) (t0_0 : Int32) (t1_0 : (Nat → Int64)) (p40 : (Int32 × (Nat → Int64))) : Int32 × (Nat → Int64) := F_Wri_writeSigned_c19_3 x2 t0_0 t1_0 p40 ((F_She_addPower_p (11008 : Int32) (1376 : Int32) (1000000 : Int32) x2 (1 : Int32) (p40.1 : Int32) (p40.2 : (Nat → Int64))) : (Int32 × (Nat → Int64)))
def F_Wri_writeSigned (x2 : Int32) (t0_0 : Int32) (t1_0 : (Nat → Int64)) : Int32 × (Nat → Int64) := if (0 : Int32) ≤ x2 then (F_Wri_writeSigned_c19 x2 t0_0 t1_0 ((F_She_addPower_p (11008 : Int32) (1376 : Int32) (1000000 : Int32) x2 (1 : Int32) t0_0 t1_0) : (Int32 × (Nat → Int64)))) else (F_Wri_writeSigned_c10 x2 t0_0 t1_0 ((F_She_add_p (11008 : Int32) (1376 : Int32) (1000000 : Int32) (45 : Int32) t0_0 t1_0) : (Int32 × (Nat → Int64))))
set_option maxRecDepth 100000 in
set_option maxHeartbeats 4000000 in
theorem X_Wri_writeSigned (l : Launch) (D : va_G) (g : Nat → ClassId) (q : Nat → Nat) (ws : va_W) (x2 : Int32) (hI : q_I (nsh g q) q ws) (t0_0 : Int32) (hT0 : ws[3]? = (some (q 3, .inr (1, [.ref (q 4), .int 11008, .int t0_0])) : Option (Nat × va_E))) (t1_0 : (Nat → Int64)) (hT1 : ws[4]? = (some (q 4, .inl (g 1, (1376 : Int32).toNatClampNeg, .inr (.inl t1_0))) : Option (Nat × va_E))) (pre0 : t0_0.toInt ≤ 500000) (pre1 : 0 ≤ x2.toInt + 2147483647) : q_mV l y_Wri_writeSigned prog_12_method_9_code 2 3 0 0 D g [.ref (q 39), .int x2] ws (fun u => q_I (nsh g q) q u ∧ q_un ws u [3, 4] ∧ ∃ (u0_0 : Int32) (u1_0 : (Nat → Int64)), u[3]? = (some (q 3, .inr (1, [.ref (q 4), .int 11008, .int u0_0])) : Option (Nat × va_E)) ∧ u[4]? = (some (q 4, .inl (g 1, (1376 : Int32).toNatClampNeg, .inr (.inl u1_0))) : Option (Nat × va_E)) ∧ (t0_0.toInt ≤ u0_0.toInt) ∧ (u0_0.toInt ≤ t0_0.toInt + 6) ∧ (u0_0, u1_0) = (F_Wri_writeSigned x2 t0_0 t1_0)) := by
  intro sz
  refine q_into (by decide) (Nat.le_of_ble_eq_true rfl) ?_
  intro p e s m below meth c ls hsz C0 V hl
  have hx := C0.1
  have hb := C0.2.1
  have btt0_0 := n_shW hI (n_h3 g q) hT0
  clear btt0_0
  replace pre0 : q_F (t0_0.toInt ≤ 500000) := pre0
  replace pre1 : q_F (0 ≤ x2.toInt + 2147483647) := pre1
  have hF : q_un ws ws [3, 4] := q_u0
  have hl : lv_has ls 2 [(0, .ref (q 39)), (1, .int x2)] := hl
  refine lv_iload_n hx hb d_12_9_0 rfl (lv_at hl 1 rfl) ?_
  refine lv_if_ge (tgt := 13) hx hb d_12_9_1 (by decide) (fun c6 => ?_) (fun c6 => ?_)
  ·
    refine lv_aload_n hx hb d_12_9_13 rfl (lv_at hl 0 rfl) ?_
    have hO8 := n_o39 hI
    refine q_get (ci := 9) (j := 0) (v := .ref (q 3)) C0 V i_Wri rfl rfl hO8 (by decide) w_329 rfl d_12_9_14 ?_
    refine lv_iload_n hx hb d_12_9_17 rfl (lv_at hl 1 rfl) ?_
    refine lv_iconst (v := 1) hx hb d_12_9_18 (by decide) ?_
    refine q_gov V (q_runV (As := [.int x2, .int 1]) (rest := []) (d := 2) (mc := 0) (ms := 0) (ci := 1) C0 V rfl LV_Wri_115 (X_She_addPower_p l D g q ws 3 11008 1376 1000000 (n_h3 g q) x2 1 hI t0_0 hT0 t1_0 hT1 (by have y0 : (11008 : Int32).toInt = 11008 := rfl; have y1 : (1376 : Int32).toInt = 1376 := rfl; have y2 : (1000000 : Int32).toInt = 1000000 := rfl; have y3 : (1 : Int32).toInt = 1 := rfl; have t1 : t0_0.toInt ≤ 500000 := pre0; omega) (by have y0 : (11008 : Int32).toInt = 11008 := rfl; have y1 : (1376 : Int32).toInt = 1376 := rfl; have y2 : (1000000 : Int32).toInt = 1000000 := rfl; have y3 : (1 : Int32).toInt = 1 := rfl; have t1 : 0 ≤ x2.toInt + 2147483647 := pre1; omega) _) rfl rfl hT0 rfl hl.1 rfl (Nat.le_of_ble_eq_true rfl) ⟨by decide, by decide⟩ ⟨Nat.le_of_ble_eq_true rfl, Nat.le_of_ble_eq_true rfl⟩ d_12_9_19) (fun u9 H locs hp10 V => ?_)
    obtain ⟨hI, hZ9⟩ := hp10
    obtain ⟨hu18, hZ9⟩ := hZ9
    obtain ⟨y12, hZ9⟩ := hZ9
    obtain ⟨f13, hZ9⟩ := hZ9
    obtain ⟨hO11, hZ9⟩ := hZ9
    obtain ⟨hA14, hZ9⟩ := hZ9
    obtain ⟨b15, hZ9⟩ := hZ9
    obtain ⟨b16, hE17⟩ := hZ9
    replace hO11 : u9[3]? = (some (q 3, .inr (1, [.ref (q 4), .int 11008, .int y12])) : Option (Nat × va_E)) := hO11
    replace hA14 : u9[4]? = (some (q 4, .inl (g 1, (1376 : Int32).toNatClampNeg, .inr (.inl f13))) : Option (Nat × va_E)) := hA14
    obtain ⟨p19, e20⟩ : ∃ z, z = (F_She_addPower_p (11008 : Int32) (1376 : Int32) (1000000 : Int32) x2 (1 : Int32) t0_0 t1_0) := ⟨_, rfl⟩
    have e21 : y12 = p19.1 := congrArg (fun z => z.1) (hE17.trans e20.symm)
    have e22 : f13 = p19.2 := congrArg (fun z => z.2) (hE17.trans e20.symm)
    replace b15 : q_F (t0_0.toInt ≤ y12.toInt) := b15
    replace b16 : q_F (y12.toInt ≤ t0_0.toInt + 5) := b16
    replace hF := q_uc hF hu18 (by first | exact (q_sk (q_mi 0 rfl) (q_sk (q_mi 1 rfl) q_s0)) | simp)
    have hR23 := (show F_Wri_writeSigned_c19 x2 t0_0 t1_0 p19 = (F_Wri_writeSigned x2 t0_0 t1_0) from (by rw [e20, F_Wri_writeSigned.eq_1, if_pos c6]))
    exact q_retv C0 V (⟨hI, hF, y12, f13, hO11, hA14, (show t0_0.toInt ≤ y12.toInt from (by first | with_reducible exact q_fe b15 | (have t1 : t0_0.toInt ≤ y12.toInt := b15; omega))), (show y12.toInt ≤ t0_0.toInt + 6 from (by first | with_reducible exact q_fe b16 | (have t1 : y12.toInt ≤ t0_0.toInt + 5 := b16; omega))), (show (y12, f13) = (F_Wri_writeSigned x2 t0_0 t1_0) from Eq.trans (by rw [e22, e21, F_Wri_writeSigned_c19.eq_1]) hR23)⟩) d_12_9_22
  ·
    refine lv_aload_n hx hb d_12_9_4 rfl (lv_at hl 0 rfl) ?_
    have hO29 := n_o39 hI
    refine q_get (ci := 9) (j := 0) (v := .ref (q 3)) C0 V i_Wri rfl rfl hO29 (by decide) w_329 rfl d_12_9_5 ?_
    refine lv_bipush (v := 45) hx hb d_12_9_8 (by decide) ?_
    refine q_gov V (q_runV (As := [.int 45]) (rest := []) (d := 1) (mc := 0) (ms := 0) (ci := 1) C0 V rfl LV_Wri_62 (X_She_add_p l D g q ws 3 11008 1376 1000000 (n_h3 g q) 45 hI t0_0 hT0 t1_0 hT1 (by have y0 : (11008 : Int32).toInt = 11008 := rfl; have y1 : (1376 : Int32).toInt = 1376 := rfl; have y2 : (1000000 : Int32).toInt = 1000000 := rfl; have y3 : (45 : Int32).toInt = 45 := rfl; have t1 : t0_0.toInt ≤ 500000 := pre0; omega) _) rfl rfl hT0 rfl hl.1 rfl (Nat.le_of_ble_eq_true rfl) ⟨by decide, by decide⟩ ⟨Nat.le_of_ble_eq_true rfl, Nat.le_of_ble_eq_true rfl⟩ d_12_9_10) (fun u30 H locs hp31 V => ?_)
    obtain ⟨hI, hZ9⟩ := hp31
    obtain ⟨hu39, hZ9⟩ := hZ9
    obtain ⟨y33, hZ9⟩ := hZ9
    obtain ⟨f34, hZ9⟩ := hZ9
    obtain ⟨hO32, hZ9⟩ := hZ9
    obtain ⟨hA35, hZ9⟩ := hZ9
    obtain ⟨b36, hZ9⟩ := hZ9
    obtain ⟨b37, hE38⟩ := hZ9
    replace hO32 : u30[3]? = (some (q 3, .inr (1, [.ref (q 4), .int 11008, .int y33])) : Option (Nat × va_E)) := hO32
    replace hA35 : u30[4]? = (some (q 4, .inl (g 1, (1376 : Int32).toNatClampNeg, .inr (.inl f34))) : Option (Nat × va_E)) := hA35
    obtain ⟨p40, e41⟩ : ∃ z, z = (F_She_add_p (11008 : Int32) (1376 : Int32) (1000000 : Int32) (45 : Int32) t0_0 t1_0) := ⟨_, rfl⟩
    have e42 : y33 = p40.1 := congrArg (fun z => z.1) (hE38.trans e41.symm)
    have e43 : f34 = p40.2 := congrArg (fun z => z.2) (hE38.trans e41.symm)
    replace b36 : q_F (t0_0.toInt + 1 ≤ y33.toInt) := b36
    replace b37 : q_F (y33.toInt ≤ t0_0.toInt + 1) := b37
    replace hO29 := (hu39 _ (by decide)).trans hO29
    replace hF := q_uc hF hu39 (by first | exact (q_sk (q_mi 0 rfl) (q_sk (q_mi 1 rfl) q_s0)) | simp)
    have hR44 := (show F_Wri_writeSigned_c10 x2 t0_0 t1_0 p40 = (F_Wri_writeSigned x2 t0_0 t1_0) from (by rw [e41, F_Wri_writeSigned.eq_1, if_neg c6]))
    refine lv_aload_n hx hb d_12_9_13 rfl (lv_at hl 0 rfl) ?_
    refine q_get (ci := 9) (j := 0) (v := .ref (q 3)) C0 V i_Wri rfl rfl hO29 (by decide) w_329 rfl d_12_9_14 ?_
    refine lv_iload_n hx hb d_12_9_17 rfl (lv_at hl 1 rfl) ?_
    refine lv_iconst (v := 1) hx hb d_12_9_18 (by decide) ?_
    refine q_gov V (q_runV (As := [.int x2, .int 1]) (rest := []) (d := 2) (mc := 0) (ms := 0) (ci := 1) C0 V rfl LV_Wri_115 (X_She_addPower_p l D g q u30 3 11008 1376 1000000 (n_h3 g q) x2 1 hI y33 hO32 f34 hA35 (by have y0 : (11008 : Int32).toInt = 11008 := rfl; have y1 : (1376 : Int32).toInt = 1376 := rfl; have y2 : (1000000 : Int32).toInt = 1000000 := rfl; have y3 : (1 : Int32).toInt = 1 := rfl; have t1 : t0_0.toInt ≤ 500000 := pre0; have t2 : y33.toInt ≤ t0_0.toInt + 1 := b37; omega) (by have y0 : (11008 : Int32).toInt = 11008 := rfl; have y1 : (1376 : Int32).toInt = 1376 := rfl; have y2 : (1000000 : Int32).toInt = 1000000 := rfl; have y3 : (1 : Int32).toInt = 1 := rfl; have t1 : 0 ≤ x2.toInt + 2147483647 := pre1; omega) _) rfl rfl hO32 rfl hl.1 rfl (Nat.le_of_ble_eq_true rfl) ⟨by decide, by decide⟩ ⟨Nat.le_of_ble_eq_true rfl, Nat.le_of_ble_eq_true rfl⟩ d_12_9_19) (fun u49 H locs hp50 V => ?_)
    obtain ⟨hI, hZ9⟩ := hp50
    obtain ⟨hu58, hZ9⟩ := hZ9
    obtain ⟨y52, hZ9⟩ := hZ9
    obtain ⟨f53, hZ9⟩ := hZ9
    obtain ⟨hO51, hZ9⟩ := hZ9
    obtain ⟨hA54, hZ9⟩ := hZ9
    obtain ⟨b55, hZ9⟩ := hZ9
    obtain ⟨b56, hE57⟩ := hZ9
    replace hO51 : u49[3]? = (some (q 3, .inr (1, [.ref (q 4), .int 11008, .int y52])) : Option (Nat × va_E)) := hO51
    replace hA54 : u49[4]? = (some (q 4, .inl (g 1, (1376 : Int32).toNatClampNeg, .inr (.inl f53))) : Option (Nat × va_E)) := hA54
    obtain ⟨p59, e60⟩ : ∃ z, z = (F_She_addPower_p (11008 : Int32) (1376 : Int32) (1000000 : Int32) x2 (1 : Int32) y33 f34) := ⟨_, rfl⟩
    have e61 : y52 = p59.1 := congrArg (fun z => z.1) (hE57.trans e60.symm)
    have e62 : f53 = p59.2 := congrArg (fun z => z.2) (hE57.trans e60.symm)
    replace b55 : q_F (y33.toInt ≤ y52.toInt) := b55
    replace b56 : q_F (y52.toInt ≤ y33.toInt + 5) := b56
    replace hF := q_uc hF hu58 (by first | exact (q_sk (q_mi 0 rfl) (q_sk (q_mi 1 rfl) q_s0)) | simp)
    have hR63 := (show F_Wri_writeSigned_c19_3 x2 t0_0 t1_0 p40 p59 = (F_Wri_writeSigned x2 t0_0 t1_0) from Eq.trans (by rw [e60, e43, e42, F_Wri_writeSigned_c10.eq_1]) hR44)
    exact q_retv C0 V (⟨hI, hF, y52, f53, hO51, hA54, (show t0_0.toInt ≤ y52.toInt from (by have t1 : t0_0.toInt + 1 ≤ y33.toInt := b36; have t2 : y33.toInt ≤ y52.toInt := b55; omega)), (show y52.toInt ≤ t0_0.toInt + 6 from (by have t1 : y33.toInt ≤ t0_0.toInt + 1 := b37; have t2 : y52.toInt ≤ y33.toInt + 5 := b56; omega)), (show (y52, f53) = (F_Wri_writeSigned x2 t0_0 t1_0) from Eq.trans (by rw [e62, e61, F_Wri_writeSigned_c19_3.eq_1]) hR63)⟩) d_12_9_22
theorem d_12_4_0 : decode prog_12_method_4_code 0 = .ok (.aload_n 0, 1) := by decide +kernel
theorem d_12_4_1 : decode prog_12_method_4_code 1 = .ok (.getfield 17, 3) := by decide +kernel
theorem d_12_4_4 : decode prog_12_method_4_code 4 = .ok (.getfield 105, 3) := by decide +kernel
set_option maxRecDepth 100000 in
theorem w_265 : (Cond.fieldLink "NumberHouse$Writer" (105 : Nat) "NumberHouse$Digits" "count" "I") ∈ q_tbl := q_of2 25 rfl (by decide +kernel)
theorem d_12_4_15 : decode prog_12_method_4_code 15 = .ok (.istore_n 3, 1) := by decide +kernel
theorem d_12_4_16 : decode prog_12_method_4_code 16 = .ok (.iload_n 3, 1) := by decide +kernel
theorem d_12_4_39 : decode prog_12_method_4_code 39 = .ok (.istore 4, 2) := by decide +kernel
theorem d_12_4_41 : decode prog_12_method_4_code 41 = .ok (.iload_n 3, 1) := by decide +kernel
theorem d_12_4_55 : decode prog_12_method_4_code 55 = .ok (.istore 5, 2) := by decide +kernel
theorem d_12_4_57 : decode prog_12_method_4_code 57 = .ok (.iload_n 3, 1) := by decide +kernel
theorem d_12_4_71 : decode prog_12_method_4_code 71 = .ok (.istore 6, 2) := by decide +kernel
theorem d_12_4_73 : decode prog_12_method_4_code 73 = .ok (.aload_n 0, 1) := by decide +kernel
theorem d_12_4_74 : decode prog_12_method_4_code 74 = .ok (.getfield 17, 3) := by decide +kernel
theorem d_12_4_77 : decode prog_12_method_4_code 77 = .ok (.aload_n 0, 1) := by decide +kernel
theorem d_12_4_78 : decode prog_12_method_4_code 78 = .ok (.getfield 7, 3) := by decide +kernel
theorem d_12_4_81 : decode prog_12_method_4_code 81 = .ok (.iload 5, 2) := by decide +kernel
theorem d_12_4_83 : decode prog_12_method_4_code 83 = .ok (.iload 6, 2) := by decide +kernel
theorem d_12_4_85 : decode prog_12_method_4_code 85 = .ok (.invokevirtual 111, 3) := by decide +kernel
set_option maxRecDepth 100000 in
theorem w_1597 : (Cond.code ({ cls := "NumberHouse$Digits", name := "writeSplit", desc := "(LNumberHouse$Sheet;II)V" } : MethodName) prog_5_method_12_code (5 : Nat) (none : Option ClassFile.FieldType)) ∈ q_tbl := q_of7 157 rfl (by decide +kernel)
set_option maxRecDepth 100000 in
theorem w_1594 : (Cond.methodLink "NumberHouse$Writer" (111 : Nat) ({ cls := "NumberHouse$Digits", name := "writeSplit", desc := "(LNumberHouse$Sheet;II)V" } : MethodName)) ∈ q_tbl := q_of7 154 rfl (by decide +kernel)
set_option maxRecDepth 100000 in
theorem w_1595 : (Cond.instanceMethod ({ cls := "NumberHouse$Digits", name := "writeSplit", desc := "(LNumberHouse$Sheet;II)V" } : MethodName)) ∈ q_tbl := q_of7 155 rfl (by decide +kernel)
set_option maxRecDepth 100000 in
theorem w_1596 : (Cond.selects "NumberHouse$Digits" ({ cls := "NumberHouse$Digits", name := "writeSplit", desc := "(LNumberHouse$Sheet;II)V" } : MethodName) ({ cls := "NumberHouse$Digits", name := "writeSplit", desc := "(LNumberHouse$Sheet;II)V" } : MethodName)) ∈ q_tbl := q_of7 156 rfl (by decide +kernel)
theorem LV_Wri_111 : q_LV "NumberHouse$Writer" 111 y_Dig_writeSplit prog_5_method_12_code 5 none 3 := ⟨w_1597, w_9, w_1594, w_1595, w_1596, ⟨by decide, by decide, by decide +kernel⟩⟩
theorem d_12_4_88 : decode prog_12_method_4_code 88 = .ok (.iload 4, 2) := by decide +kernel
theorem d_12_4_90 : decode prog_12_method_4_code 90 = .ok (.ifCond .eq 9, 3) := by decide +kernel
theorem d_12_4_99 : decode prog_12_method_4_code 99 = .ok (.return_, 1) := by decide +kernel
theorem d_12_4_93 : decode prog_12_method_4_code 93 = .ok (.aload_n 0, 1) := by decide +kernel
theorem d_12_4_94 : decode prog_12_method_4_code 94 = .ok (.iload 4, 2) := by decide +kernel
theorem d_12_4_96 : decode prog_12_method_4_code 96 = .ok (.invokevirtual 98, 3) := by decide +kernel
set_option maxRecDepth 100000 in
theorem w_1581 : (Cond.code ({ cls := "NumberHouse$Writer", name := "writePower", desc := "(I)V" } : MethodName) prog_12_method_5_code (2 : Nat) (none : Option ClassFile.FieldType)) ∈ q_tbl := q_of7 141 rfl (by decide +kernel)
set_option maxRecDepth 100000 in
theorem w_1578 : (Cond.methodLink "NumberHouse$Writer" (98 : Nat) ({ cls := "NumberHouse$Writer", name := "writePower", desc := "(I)V" } : MethodName)) ∈ q_tbl := q_of7 138 rfl (by decide +kernel)
set_option maxRecDepth 100000 in
theorem w_1580 : (Cond.instanceMethod ({ cls := "NumberHouse$Writer", name := "writePower", desc := "(I)V" } : MethodName)) ∈ q_tbl := q_of7 140 rfl (by decide +kernel)
theorem ws_37 : Cond.selects "NumberHouse$Writer" (⟨"NumberHouse$Writer", "writePower", "(I)V"⟩ : MethodName) (⟨"NumberHouse$Writer", "writePower", "(I)V"⟩ : MethodName) ∈ q_tbl := q_ofs 37 (by decide +kernel) (by decide +kernel)
theorem LV_Wri_98 : q_LV "NumberHouse$Writer" 98 y_Wri_writePower prog_12_method_5_code 2 none 1 := ⟨w_1581, w_11, w_1578, w_1580, ws_37, ⟨by decide, by decide, by decide +kernel⟩⟩
theorem d_12_4_58 : decode prog_12_method_4_code 58 = .ok (.ifCond .eq 12, 3) := by decide +kernel
theorem d_12_4_70 : decode prog_12_method_4_code 70 = .ok (.iload_n 1, 1) := by decide +kernel
theorem d_12_4_61 : decode prog_12_method_4_code 61 = .ok (.iconst 1, 1) := by decide +kernel
theorem d_12_4_62 : decode prog_12_method_4_code 62 = .ok (.iload 4, 2) := by decide +kernel
theorem d_12_4_64 : decode prog_12_method_4_code 64 = .ok (.iadd, 1) := by decide +kernel
theorem d_12_4_65 : decode prog_12_method_4_code 65 = .ok (.iload_n 2, 1) := by decide +kernel
theorem d_12_4_66 : decode prog_12_method_4_code 66 = .ok (.isub, 1) := by decide +kernel
theorem d_12_4_67 : decode prog_12_method_4_code 67 = .ok (.goto 4, 3) := by decide +kernel
theorem d_12_4_42 : decode prog_12_method_4_code 42 = .ok (.ifCond .eq 7, 3) := by decide +kernel
theorem d_12_4_49 : decode prog_12_method_4_code 49 = .ok (.iload_n 2, 1) := by decide +kernel
theorem d_12_4_50 : decode prog_12_method_4_code 50 = .ok (.iload 4, 2) := by decide +kernel
theorem d_12_4_52 : decode prog_12_method_4_code 52 = .ok (.isub, 1) := by decide +kernel
theorem d_12_4_53 : decode prog_12_method_4_code 53 = .ok (.iconst 1, 1) := by decide +kernel
theorem d_12_4_54 : decode prog_12_method_4_code 54 = .ok (.iadd, 1) := by decide +kernel
theorem d_12_4_45 : decode prog_12_method_4_code 45 = .ok (.iconst 1, 1) := by decide +kernel
theorem d_12_4_46 : decode prog_12_method_4_code 46 = .ok (.goto 9, 3) := by decide +kernel
theorem d_12_4_17 : decode prog_12_method_4_code 17 = .ok (.ifCond .eq 15, 3) := by decide +kernel
theorem d_12_4_32 : decode prog_12_method_4_code 32 = .ok (.iconst 3, 1) := by decide +kernel
theorem d_12_4_33 : decode prog_12_method_4_code 33 = .ok (.iload_n 2, 1) := by decide +kernel
theorem d_12_4_34 : decode prog_12_method_4_code 34 = .ok (.iconst 3, 1) := by decide +kernel
theorem d_12_4_35 : decode prog_12_method_4_code 35 = .ok (.invokestatic 108, 3) := by decide +kernel
set_option maxRecDepth 100000 in
theorem w_1593 : (Cond.methodLink "NumberHouse$Writer" (108 : Nat) ({ cls := "java/lang/Math", name := "floorDiv", desc := "(II)I" } : MethodName)) ∈ q_tbl := q_of7 153 rfl (by decide +kernel)
theorem LS_Wri_108 : q_LS "NumberHouse$Writer" 108 y_jMath_floorDiv_III prog_29_method_47_code 3 (some .int) 2 := ⟨w_1486, w_7, w_1593, w_1485, ⟨by decide, by decide, by decide +kernel⟩⟩
theorem d_12_4_38 : decode prog_12_method_4_code 38 = .ok (.imul, 1) := by decide +kernel
theorem d_12_4_20 : decode prog_12_method_4_code 20 = .ok (.bipush (-3), 2) := by decide +kernel
theorem d_12_4_22 : decode prog_12_method_4_code 22 = .ok (.iload_n 2, 1) := by decide +kernel
theorem d_12_4_23 : decode prog_12_method_4_code 23 = .ok (.ineg, 1) := by decide +kernel
theorem d_12_4_24 : decode prog_12_method_4_code 24 = .ok (.iconst 3, 1) := by decide +kernel
theorem d_12_4_25 : decode prog_12_method_4_code 25 = .ok (.invokestatic 108, 3) := by decide +kernel
theorem d_12_4_28 : decode prog_12_method_4_code 28 = .ok (.imul, 1) := by decide +kernel
theorem d_12_4_29 : decode prog_12_method_4_code 29 = .ok (.goto 10, 3) := by decide +kernel
theorem d_12_4_7 : decode prog_12_method_4_code 7 = .ok (.ifCond .ne 7, 3) := by decide +kernel
theorem d_12_4_14 : decode prog_12_method_4_code 14 = .ok (.iconst 0, 1) := by decide +kernel
theorem d_12_4_10 : decode prog_12_method_4_code 10 = .ok (.iconst 1, 1) := by decide +kernel
theorem d_12_4_11 : decode prog_12_method_4_code 11 = .ok (.goto 4, 3) := by decide +kernel
def y_Wri_writeByThrees : MethodName := ⟨"NumberHouse$Writer", "writeByThrees", "(II)V"⟩
def F_Wri_writeByThrees_c96 (x2 : Int32) (x3 : Int32) (t0_0 : Int32) (t1_0 : (Nat → Int64)) (t2_0 : Int32) (t2_1 : Int32) (t3_0 : (Nat → Int32)) (lx15 : Int32) (lx28 : Int32) (lx39 : Int32) (lx50 : Int32) (p75 : (Int32 × (Nat → Int64))) (p98 : (Int32 × (Nat → Int64))) : Int32 × (Nat → Int64) := ((p98.1 : Int32), (p98.2 : (Nat → Int64)))
def F_Wri_writeByThrees_c85 (x2 : Int32) (x3 : Int32) (t0_0 : Int32) (t1_0 : (Nat → Int64)) (t2_0 : Int32) (t2_1 : Int32) (t3_0 : (Nat → Int32)) (lx15 : Int32) (lx28 : Int32) (lx39 : Int32) (lx50 : Int32) (p75 : (Int32 × (Nat → Int64))) : Int32 × (Nat → Int64) := if lx28 = (0 : Int32) then (((p75.1 : Int32), (p75.2 : (Nat → Int64)))) else (F_Wri_writeByThrees_c96 x2 x3 t0_0 t1_0 t2_0 t2_1 t3_0 lx15 lx28 lx39 lx50 p75 ((F_Wri_writePower lx28 (p75.1 : Int32) (p75.2 : (Nat → Int64))) : (Int32 × (Nat → Int64))))
def F_Wri_writeByThrees_J71 (x2 : Int32) (x3 : Int32) (t0_0 : Int32) (t1_0 : (Nat → Int64)) (t2_0 : Int32) (t2_1 : Int32) (t3_0 : (Nat → Int32)) (lx15 : Int32) (lx28 : Int32) (lx39 : Int32) (lx50 : Int32) : Int32 × (Nat → Int64) := F_Wri_writeByThrees_c85 x2 x3 t0_0 t1_0 t2_0 t2_1 t3_0 lx15 lx28 lx39 lx50 ((F_Dig_writeSplit (11008 : Int32) (1376 : Int32) (1000000 : Int32) lx39 lx50 t2_0 t2_1 t3_0 t0_0 t1_0) : (Int32 × (Nat → Int64)))
def F_Wri_writeByThrees_J55 (x2 : Int32) (x3 : Int32) (t0_0 : Int32) (t1_0 : (Nat → Int64)) (t2_0 : Int32) (t2_1 : Int32) (t3_0 : (Nat → Int32)) (lx15 : Int32) (lx28 : Int32) (lx39 : Int32) : Int32 × (Nat → Int64) := if lx15 = (0 : Int32) then (F_Wri_writeByThrees_J71 x2 x3 t0_0 t1_0 t2_0 t2_1 t3_0 lx15 lx28 lx39 x2) else (F_Wri_writeByThrees_J71 x2 x3 t0_0 t1_0 t2_0 t2_1 t3_0 lx15 lx28 lx39 ((1 + lx28 : Int32) - x3 : Int32))
def F_Wri_writeByThrees_J39 (x2 : Int32) (x3 : Int32) (t0_0 : Int32) (t1_0 : (Nat → Int64)) (t2_0 : Int32) (t2_1 : Int32) (t3_0 : (Nat → Int32)) (lx15 : Int32) (lx28 : Int32) : Int32 × (Nat → Int64) := if lx15 = (0 : Int32) then (F_Wri_writeByThrees_J55 x2 x3 t0_0 t1_0 t2_0 t2_1 t3_0 lx15 lx28 ((x3 - lx28 : Int32) + 1 : Int32)) else (F_Wri_writeByThrees_J55 x2 x3 t0_0 t1_0 t2_0 t2_1 t3_0 lx15 lx28 1)
def F_Wri_writeByThrees_J15 (x2 : Int32) (x3 : Int32) (t0_0 : Int32) (t1_0 : (Nat → Int64)) (t2_0 : Int32) (t2_1 : Int32) (t3_0 : (Nat → Int32)) (lx15 : Int32) : Int32 × (Nat → Int64) := if lx15 = (0 : Int32) then (F_Wri_writeByThrees_J39 x2 x3 t0_0 t1_0 t2_0 t2_1 t3_0 lx15 (3 * ((F_jMath_floorDiv_III x3 (3 : Int32)) : Int32) : Int32)) else (F_Wri_writeByThrees_J39 x2 x3 t0_0 t1_0 t2_0 t2_1 t3_0 lx15 ((-3) * ((F_jMath_floorDiv_III (-x3 : Int32) (3 : Int32)) : Int32) : Int32))
def F_Wri_writeByThrees (x2 : Int32) (x3 : Int32) (t0_0 : Int32) (t1_0 : (Nat → Int64)) (t2_0 : Int32) (t2_1 : Int32) (t3_0 : (Nat → Int32)) : Int32 × (Nat → Int64) := if t2_0 = (0 : Int32) then (F_Wri_writeByThrees_J15 x2 x3 t0_0 t1_0 t2_0 t2_1 t3_0 1) else (F_Wri_writeByThrees_J15 x2 x3 t0_0 t1_0 t2_0 t2_1 t3_0 0)
def S_Wri_writeByThrees_c96 (x2 : Int32) (x3 : Int32) (t0_0 : Int32) (t1_0 : (Nat → Int64)) (t2_0 : Int32) (t2_1 : Int32) (t3_0 : (Nat → Int32)) (lx15 : Int32) (lx28 : Int32) (lx39 : Int32) (lx50 : Int32) (p75 : (Int32 × (Nat → Int64))) (p98 : (Int32 × (Nat → Int64))) : Prop := True
def S_Wri_writeByThrees_c85 (x2 : Int32) (x3 : Int32) (t0_0 : Int32) (t1_0 : (Nat → Int64)) (t2_0 : Int32) (t2_1 : Int32) (t3_0 : (Nat → Int32)) (lx15 : Int32) (lx28 : Int32) (lx39 : Int32) (lx50 : Int32) (p75 : (Int32 × (Nat → Int64))) : Prop := if lx28 = (0 : Int32) then (True) else ((0 ≤ lx28.toInt + 2147483647) ∧ (S_Wri_writeByThrees_c96 x2 x3 t0_0 t1_0 t2_0 t2_1 t3_0 lx15 lx28 lx39 lx50 p75 ((F_Wri_writePower lx28 (p75.1 : Int32) (p75.2 : (Nat → Int64))) : (Int32 × (Nat → Int64)))))
def S_Wri_writeByThrees_J71 (x2 : Int32) (x3 : Int32) (t0_0 : Int32) (t1_0 : (Nat → Int64)) (t2_0 : Int32) (t2_1 : Int32) (t3_0 : (Nat → Int32)) (lx15 : Int32) (lx28 : Int32) (lx39 : Int32) (lx50 : Int32) : Prop := (lx39.toInt ≤ 20000) ∧ ((lx50.toInt ≤ 20000) ∧ (S_Wri_writeByThrees_c85 x2 x3 t0_0 t1_0 t2_0 t2_1 t3_0 lx15 lx28 lx39 lx50 ((F_Dig_writeSplit (11008 : Int32) (1376 : Int32) (1000000 : Int32) lx39 lx50 t2_0 t2_1 t3_0 t0_0 t1_0) : (Int32 × (Nat → Int64)))))
def S_Wri_writeByThrees_J55 (x2 : Int32) (x3 : Int32) (t0_0 : Int32) (t1_0 : (Nat → Int64)) (t2_0 : Int32) (t2_1 : Int32) (t3_0 : (Nat → Int32)) (lx15 : Int32) (lx28 : Int32) (lx39 : Int32) : Prop := if lx15 = (0 : Int32) then (S_Wri_writeByThrees_J71 x2 x3 t0_0 t1_0 t2_0 t2_1 t3_0 lx15 lx28 lx39 x2) else (S_Wri_writeByThrees_J71 x2 x3 t0_0 t1_0 t2_0 t2_1 t3_0 lx15 lx28 lx39 ((1 + lx28 : Int32) - x3 : Int32))
def S_Wri_writeByThrees_J39 (x2 : Int32) (x3 : Int32) (t0_0 : Int32) (t1_0 : (Nat → Int64)) (t2_0 : Int32) (t2_1 : Int32) (t3_0 : (Nat → Int32)) (lx15 : Int32) (lx28 : Int32) : Prop := if lx15 = (0 : Int32) then (S_Wri_writeByThrees_J55 x2 x3 t0_0 t1_0 t2_0 t2_1 t3_0 lx15 lx28 ((x3 - lx28 : Int32) + 1 : Int32)) else (S_Wri_writeByThrees_J55 x2 x3 t0_0 t1_0 t2_0 t2_1 t3_0 lx15 lx28 1)
def S_Wri_writeByThrees_J15 (x2 : Int32) (x3 : Int32) (t0_0 : Int32) (t1_0 : (Nat → Int64)) (t2_0 : Int32) (t2_1 : Int32) (t3_0 : (Nat → Int32)) (lx15 : Int32) : Prop := if lx15 = (0 : Int32) then (S_Wri_writeByThrees_J39 x2 x3 t0_0 t1_0 t2_0 t2_1 t3_0 lx15 (3 * ((F_jMath_floorDiv_III x3 (3 : Int32)) : Int32) : Int32)) else (S_Wri_writeByThrees_J39 x2 x3 t0_0 t1_0 t2_0 t2_1 t3_0 lx15 ((-3) * ((F_jMath_floorDiv_III (-x3 : Int32) (3 : Int32)) : Int32) : Int32))
def S_Wri_writeByThrees (x2 : Int32) (x3 : Int32) (t0_0 : Int32) (t1_0 : (Nat → Int64)) (t2_0 : Int32) (t2_1 : Int32) (t3_0 : (Nat → Int32)) : Prop := if t2_0 = (0 : Int32) then (S_Wri_writeByThrees_J15 x2 x3 t0_0 t1_0 t2_0 t2_1 t3_0 1) else (S_Wri_writeByThrees_J15 x2 x3 t0_0 t1_0 t2_0 t2_1 t3_0 0)
set_option maxRecDepth 100000 in
set_option maxHeartbeats 4000000 in
theorem X_Wri_writeByThrees (l : Launch) (D : va_G) (g : Nat → ClassId) (q : Nat → Nat) (ws : va_W) (x2 : Int32) (x3 : Int32) (hI : q_I (nsh g q) q ws) (t0_0 : Int32) (hT0 : ws[3]? = (some (q 3, .inr (1, [.ref (q 4), .int 11008, .int t0_0])) : Option (Nat × va_E))) (t1_0 : (Nat → Int64)) (hT1 : ws[4]? = (some (q 4, .inl (g 1, (1376 : Int32).toNatClampNeg, .inr (.inl t1_0))) : Option (Nat × va_E))) (t2_0 : Int32) (t2_1 : Int32) (hT2 : ws[36]? = (some (q 36, .inr (7, [.int t2_0, .int t2_1, .ref (q 37)])) : Option (Nat × va_E))) (t3_0 : (Nat → Int32)) (hT3 : ws[37]? = (some (q 37, .inl (g 2, 1026, .inl t3_0)) : Option (Nat × va_E))) (pre0 : 1 ≤ x2.toInt) (pre1 : x2.toInt ≤ 1000) (pre2 : 0 ≤ x3.toInt + 10001) (pre3 : x3.toInt ≤ 11000) (pre4 : t0_0.toInt ≤ 10) (hS : True ∧ S_Wri_writeByThrees x2 x3 t0_0 t1_0 t2_0 t2_1 t3_0) : q_mV l y_Wri_writeByThrees prog_12_method_4_code 7 4 0 0 D g [.ref (q 39), .int x2, .int x3] ws (fun u => q_I (nsh g q) q u ∧ q_un ws u [3, 4] ∧ ∃ (u0_0 : Int32) (u1_0 : (Nat → Int64)), u[3]? = (some (q 3, .inr (1, [.ref (q 4), .int 11008, .int u0_0])) : Option (Nat × va_E)) ∧ u[4]? = (some (q 4, .inl (g 1, (1376 : Int32).toNatClampNeg, .inr (.inl u1_0))) : Option (Nat × va_E)) ∧ (t0_0.toInt ≤ u0_0.toInt) ∧ (u0_0.toInt ≤ t0_0.toInt + 40007) ∧ (u0_0, u1_0) = (F_Wri_writeByThrees x2 x3 t0_0 t1_0 t2_0 t2_1 t3_0)) := by
  intro sz
  refine q_into (by decide) (Nat.le_of_ble_eq_true rfl) ?_
  intro p e s m below meth c ls hsz C0 V hl
  have hx := C0.1
  have hb := C0.2.1
  have btt0_0 := n_shW hI (n_h3 g q) hT0
  clear btt0_0
  have btt2_1 := (n_w36 hI hT2).2
  clear btt2_1
  clear pre0
  clear pre1
  clear pre2
  clear pre3
  replace pre4 : q_F (t0_0.toInt ≤ 10) := pre4
  have hF : q_un ws ws [3, 4] := q_u0
  have hl : lv_has ls 7 [(0, .ref (q 39)), (1, .int x2), (2, .int x3)] := hl
  refine lv_aload_n hx hb d_12_4_0 rfl (lv_at hl 0 rfl) ?_
  have hO14 := n_o39 hI
  refine q_get (ci := 9) (j := 2) (v := .ref (q 36)) C0 V i_Wri rfl rfl hO14 (by decide) w_331 rfl d_12_4_1 ?_
  refine q_get (ci := 7) (j := 0) (v := .int t2_0) C0 V i_Dig rfl rfl hT2 (by decide) w_265 rfl d_12_4_4 ?_
  refine q_join (X := Int32) (fun z H locs ls _ => q_F (0 ≤ z.toInt) ∧ q_F (z.toInt ≤ 1) ∧ q_Wd D g (va_A ws sz) s ws H locs ∧ lv_has ls 7 [(0, .ref (q 39)), (1, .int x2), (2, .int x3)] ∧ F_Wri_writeByThrees_J15 x2 x3 t0_0 t1_0 t2_0 t2_1 t3_0 z = (F_Wri_writeByThrees x2 x3 t0_0 t1_0 t2_0 t2_1 t3_0) ∧ True ∧ S_Wri_writeByThrees_J15 x2 x3 t0_0 t1_0 t2_0 t2_1 t3_0 z) (fun z => [.int z]) 15 0 0 ?_ ?_
  ·
    rintro lx15 H locs ls _ hZ9
    replace hZ9 := hZ9.2.2
    obtain ⟨V, hZ9⟩ := hZ9
    obtain ⟨hl, hZ9⟩ := hZ9
    obtain ⟨hR23, hS24⟩ := hZ9
    replace hl : lv_has ls 7 [(0, .ref (q 39)), (1, .int x2), (2, .int x3)] := hl
    refine lv_istore_n (lv' := [(3, .int lx15), (0, .ref (q 39)), (1, .int x2), (2, .int x3)]) hx hb d_12_4_15 rfl hl (by decide) rfl (fun ls hl => ?_)
    refine lv_iload_n hx hb d_12_4_16 rfl (lv_at hl 0 rfl) ?_
    refine q_join (X := Int32) (fun z H locs ls _ => q_Wd D g (va_A ws sz) s ws H locs ∧ lv_has ls 7 [(3, .int lx15), (0, .ref (q 39)), (1, .int x2), (2, .int x3)] ∧ F_Wri_writeByThrees_J39 x2 x3 t0_0 t1_0 t2_0 t2_1 t3_0 lx15 z = (F_Wri_writeByThrees x2 x3 t0_0 t1_0 t2_0 t2_1 t3_0) ∧ True ∧ S_Wri_writeByThrees_J39 x2 x3 t0_0 t1_0 t2_0 t2_1 t3_0 lx15 z) (fun z => [.int z]) 39 0 0 ?_ ?_
    ·
      rintro lx28 H locs ls _ ⟨V, hl, hR34, hS35⟩
      replace hl : lv_has ls 7 [(3, .int lx15), (0, .ref (q 39)), (1, .int x2), (2, .int x3)] := hl
      refine lv_istore (lv' := [(4, .int lx28), (3, .int lx15), (0, .ref (q 39)), (1, .int x2), (2, .int x3)]) hx hb d_12_4_39 hl (by decide) rfl (fun ls hl => ?_)
      refine lv_iload_n hx hb d_12_4_41 rfl (lv_at hl 1 rfl) ?_
      refine q_join (X := Int32) (fun z H locs ls _ => q_Wd D g (va_A ws sz) s ws H locs ∧ lv_has ls 7 [(4, .int lx28), (3, .int lx15), (0, .ref (q 39)), (1, .int x2), (2, .int x3)] ∧ F_Wri_writeByThrees_J55 x2 x3 t0_0 t1_0 t2_0 t2_1 t3_0 lx15 lx28 z = (F_Wri_writeByThrees x2 x3 t0_0 t1_0 t2_0 t2_1 t3_0) ∧ True ∧ S_Wri_writeByThrees_J55 x2 x3 t0_0 t1_0 t2_0 t2_1 t3_0 lx15 lx28 z) (fun z => [.int z]) 55 0 0 ?_ ?_
      ·
        rintro lx39 H locs ls _ ⟨V, hl, hR45, hS46⟩
        replace hl : lv_has ls 7 [(4, .int lx28), (3, .int lx15), (0, .ref (q 39)), (1, .int x2), (2, .int x3)] := hl
        refine lv_istore (lv' := [(5, .int lx39), (4, .int lx28), (3, .int lx15), (0, .ref (q 39)), (1, .int x2), (2, .int x3)]) hx hb d_12_4_55 hl (by decide) rfl (fun ls hl => ?_)
        refine lv_iload_n hx hb d_12_4_57 rfl (lv_at hl 2 rfl) ?_
        refine q_join (X := Int32) (fun z H locs ls _ => q_Wd D g (va_A ws sz) s ws H locs ∧ lv_has ls 7 [(5, .int lx39), (4, .int lx28), (0, .ref (q 39))] ∧ F_Wri_writeByThrees_J71 x2 x3 t0_0 t1_0 t2_0 t2_1 t3_0 lx15 lx28 lx39 z = (F_Wri_writeByThrees x2 x3 t0_0 t1_0 t2_0 t2_1 t3_0) ∧ True ∧ S_Wri_writeByThrees_J71 x2 x3 t0_0 t1_0 t2_0 t2_1 t3_0 lx15 lx28 lx39 z) (fun z => [.int z]) 71 0 0 ?_ ?_
        ·
          rintro lx50 H locs ls _ ⟨V, hl, hR56, hS57⟩
          replace hl : lv_has ls 7 [(5, .int lx39), (4, .int lx28), (0, .ref (q 39))] := hl
          refine lv_istore (lv' := [(6, .int lx50), (5, .int lx39), (4, .int lx28), (0, .ref (q 39))]) hx hb d_12_4_71 hl (by decide) rfl (fun ls hl => ?_)
          refine lv_aload_n hx hb d_12_4_73 rfl (lv_at hl 3 rfl) ?_
          refine q_get (ci := 9) (j := 2) (v := .ref (q 36)) C0 V i_Wri rfl rfl hO14 (by decide) w_331 rfl d_12_4_74 ?_
          refine lv_aload_n hx hb d_12_4_77 rfl (lv_at hl 3 rfl) ?_
          refine q_get (ci := 9) (j := 0) (v := .ref (q 3)) C0 V i_Wri rfl rfl hO14 (by decide) w_329 rfl d_12_4_78 ?_
          refine lv_iload hx hb d_12_4_81 (lv_at hl 1 rfl) ?_
          refine lv_iload hx hb d_12_4_83 (lv_at hl 0 rfl) ?_
          have ob61 : q_F (lx39.toInt ≤ 20000) := (by have h := hS57; rw [S_Wri_writeByThrees_J71.eq_1] at h; exact h.2.1)
          have ob62 : q_F (lx50.toInt ≤ 20000) := (by have h := hS57; rw [S_Wri_writeByThrees_J71.eq_1] at h; replace h := q_s2 h; exact h.2.1)
          refine q_gov V (q_runV (As := [.ref (q 3), .int lx39, .int lx50]) (rest := []) (d := 2) (mc := 0) (ms := 0) (ci := 7) C0 V rfl LV_Wri_111 (X_Dig_writeSplit l D g q ws 3 11008 1376 1000000 (n_h3 g q) lx39 lx50 hI t2_0 t2_1 hT2 t3_0 hT3 t0_0 hT0 t1_0 hT1 (by have y0 : (11008 : Int32).toInt = 11008 := rfl; have y1 : (1376 : Int32).toInt = 1376 := rfl; have y2 : (1000000 : Int32).toInt = 1000000 := rfl; have t1 : lx39.toInt ≤ 20000 := ob61; omega) (by have y0 : (11008 : Int32).toInt = 11008 := rfl; have y1 : (1376 : Int32).toInt = 1376 := rfl; have y2 : (1000000 : Int32).toInt = 1000000 := rfl; have t1 : lx50.toInt ≤ 20000 := ob62; omega) (by have y0 : (11008 : Int32).toInt = 11008 := rfl; have y1 : (1376 : Int32).toInt = 1376 := rfl; have y2 : (1000000 : Int32).toInt = 1000000 := rfl; have t1 : t0_0.toInt ≤ 10 := pre4; omega) (by have y0 : (11008 : Int32).toInt = 11008 := rfl; have y1 : (1376 : Int32).toInt = 1376 := rfl; have y2 : (1000000 : Int32).toInt = 1000000 := rfl; omega) _) rfl rfl hT2 rfl hl.1 rfl (Nat.le_of_ble_eq_true rfl) ⟨by decide, by decide⟩ ⟨Nat.le_of_ble_eq_true rfl, Nat.le_of_ble_eq_true rfl⟩ d_12_4_85) (fun u63 H locs hp64 V => ?_)
          obtain ⟨hI, hZ9⟩ := hp64
          obtain ⟨hu74, hZ9⟩ := hZ9
          obtain ⟨y66, hZ9⟩ := hZ9
          obtain ⟨f67, hZ9⟩ := hZ9
          obtain ⟨hO65, hZ9⟩ := hZ9
          obtain ⟨hA68, hZ9⟩ := hZ9
          replace hZ9 := hZ9.2.2
          obtain ⟨b71, hZ9⟩ := hZ9
          obtain ⟨b72, hE73⟩ := hZ9
          replace hO65 : u63[3]? = (some (q 3, .inr (1, [.ref (q 4), .int 11008, .int y66])) : Option (Nat × va_E)) := hO65
          replace hA68 : u63[4]? = (some (q 4, .inl (g 1, (1376 : Int32).toNatClampNeg, .inr (.inl f67))) : Option (Nat × va_E)) := hA68
          obtain ⟨p75, e76⟩ : ∃ z, z = (F_Dig_writeSplit (11008 : Int32) (1376 : Int32) (1000000 : Int32) lx39 lx50 t2_0 t2_1 t3_0 t0_0 t1_0) := ⟨_, rfl⟩
          have e77 : y66 = p75.1 := congrArg (fun z => z.1) (hE73.trans e76.symm)
          have e78 : f67 = p75.2 := congrArg (fun z => z.2) (hE73.trans e76.symm)
          replace b71 : q_F (t0_0.toInt ≤ y66.toInt) := b71
          replace b72 : q_F (y66.toInt ≤ t0_0.toInt + 40000) := b72
          replace hO14 := (hu74 _ (by decide)).trans hO14
          replace hF := q_uc hF hu74 (by first | exact (q_sk (q_mi 0 rfl) (q_sk (q_mi 1 rfl) q_s0)) | simp)
          have hR79 := (show F_Wri_writeByThrees_c85 x2 x3 t0_0 t1_0 t2_0 t2_1 t3_0 lx15 lx28 lx39 lx50 p75 = (F_Wri_writeByThrees x2 x3 t0_0 t1_0 t2_0 t2_1 t3_0) from Eq.trans (by rw [e76, F_Wri_writeByThrees_J71.eq_1]) hR56)
          have hS80 := (show True ∧ S_Wri_writeByThrees_c85 x2 x3 t0_0 t1_0 t2_0 t2_1 t3_0 lx15 lx28 lx39 lx50 p75 from (by rw [e76]; have h := hS57; rw [S_Wri_writeByThrees_J71.eq_1] at h; replace h := q_s2 h; replace h := q_s2 h; with_reducible exact h))
          refine lv_iload hx hb d_12_4_88 (lv_at hl 2 rfl) ?_
          refine lv_if_eq (tgt := 99) hx hb d_12_4_90 (by decide) (fun c84 => ?_) (fun c84 => ?_)
          ·
            exact q_retv C0 V (⟨hI, hF, y66, f67, hO65, hA68, (show t0_0.toInt ≤ y66.toInt from (by first | with_reducible exact q_fe b71 | (have t1 : t0_0.toInt ≤ y66.toInt := b71; omega))), (show y66.toInt ≤ t0_0.toInt + 40007 from (by first | with_reducible exact q_fe b72 | (have t1 : y66.toInt ≤ t0_0.toInt + 40000 := b72; omega))), (show (y66, f67) = (F_Wri_writeByThrees x2 x3 t0_0 t1_0 t2_0 t2_1 t3_0) from Eq.trans (by rw [e78, e77, F_Wri_writeByThrees_c85.eq_1, if_pos c84]) hR79)⟩) d_12_4_99
          ·
            refine lv_aload_n hx hb d_12_4_93 rfl (lv_at hl 3 rfl) ?_
            refine lv_iload hx hb d_12_4_94 (lv_at hl 2 rfl) ?_
            have ob87 : q_F (0 ≤ lx28.toInt + 2147483647) := (by have h := hS80; rw [S_Wri_writeByThrees_c85.eq_1] at h; rw [if_neg c84] at h; exact h.2.1)
            refine q_gov V (q_runV (As := [.int lx28]) (rest := []) (d := 3) (mc := 0) (ms := 0) (ci := 9) C0 V rfl LV_Wri_98 (X_Wri_writePower l D g q u63  lx28 hI y66 hO65 f67 hA68 (by have t1 : t0_0.toInt ≤ 10 := pre4; have t2 : y66.toInt ≤ t0_0.toInt + 40000 := b72; omega) (by first | with_reducible exact q_fe ob87 | (have t1 : 0 ≤ lx28.toInt + 2147483647 := ob87; omega)) _) rfl rfl hO14 rfl hl.1 rfl (Nat.le_of_ble_eq_true rfl) ⟨by decide, by decide⟩ ⟨Nat.le_of_ble_eq_true rfl, Nat.le_of_ble_eq_true rfl⟩ d_12_4_96) (fun u88 H locs hp89 V => ?_)
            obtain ⟨hI, hZ9⟩ := hp89
            obtain ⟨hu97, hZ9⟩ := hZ9
            obtain ⟨y91, hZ9⟩ := hZ9
            obtain ⟨f92, hZ9⟩ := hZ9
            obtain ⟨hO90, hZ9⟩ := hZ9
            obtain ⟨hA93, hZ9⟩ := hZ9
            obtain ⟨b94, hZ9⟩ := hZ9
            obtain ⟨b95, hE96⟩ := hZ9
            replace hO90 : u88[3]? = (some (q 3, .inr (1, [.ref (q 4), .int 11008, .int y91])) : Option (Nat × va_E)) := hO90
            replace hA93 : u88[4]? = (some (q 4, .inl (g 1, (1376 : Int32).toNatClampNeg, .inr (.inl f92))) : Option (Nat × va_E)) := hA93
            obtain ⟨p98, e99⟩ : ∃ z, z = (F_Wri_writePower lx28 y66 f67) := ⟨_, rfl⟩
            have e100 : y91 = p98.1 := congrArg (fun z => z.1) (hE96.trans e99.symm)
            have e101 : f92 = p98.2 := congrArg (fun z => z.2) (hE96.trans e99.symm)
            replace b94 : q_F (y66.toInt + 2 ≤ y91.toInt) := b94
            replace b95 : q_F (y91.toInt ≤ y66.toInt + 7) := b95
            replace hF := q_uc hF hu97 (by first | exact (q_sk (q_mi 0 rfl) (q_sk (q_mi 1 rfl) q_s0)) | simp)
            have hR102 := (show F_Wri_writeByThrees_c96 x2 x3 t0_0 t1_0 t2_0 t2_1 t3_0 lx15 lx28 lx39 lx50 p75 p98 = (F_Wri_writeByThrees x2 x3 t0_0 t1_0 t2_0 t2_1 t3_0) from Eq.trans (by rw [e99, e78, e77, F_Wri_writeByThrees_c85.eq_1, if_neg c84]) hR79)
            have hS103 := (show True ∧ S_Wri_writeByThrees_c96 x2 x3 t0_0 t1_0 t2_0 t2_1 t3_0 lx15 lx28 lx39 lx50 p75 p98 from (by rw [e99, e78, e77]; have h := hS80; rw [S_Wri_writeByThrees_c85.eq_1] at h; rw [if_neg c84] at h; replace h := q_s2 h; with_reducible exact h))
            exact q_retv C0 V (⟨hI, hF, y91, f92, hO90, hA93, (show t0_0.toInt ≤ y91.toInt from (by have t1 : t0_0.toInt ≤ y66.toInt := b71; have t2 : y66.toInt + 2 ≤ y91.toInt := b94; omega)), (show y91.toInt ≤ t0_0.toInt + 40007 from (by have t1 : y66.toInt ≤ t0_0.toInt + 40000 := b72; have t2 : y91.toInt ≤ y66.toInt + 7 := b95; omega)), (show (y91, f92) = (F_Wri_writeByThrees x2 x3 t0_0 t1_0 t2_0 t2_1 t3_0) from Eq.trans (by rw [e101, e100, F_Wri_writeByThrees_c96.eq_1]) hR102)⟩) d_12_4_99
        ·
          intro J55
          refine lv_if_eq (tgt := 70) hx hb d_12_4_58 (by decide) (fun c107 => ?_) (fun c107 => ?_)
          ·
            refine lv_iload_n hx hb d_12_4_70 rfl (lv_at hl 4 rfl) ?_
            exact J55 ((x2 : Int32)) _ _ _ ws ⟨V, q_lw hl (q_lw1 0 rfl (q_lw1 1 rfl (q_lw1 3 rfl q_lw0))), (show F_Wri_writeByThrees_J71 x2 x3 t0_0 t1_0 t2_0 t2_1 t3_0 lx15 lx28 lx39 x2 = (F_Wri_writeByThrees x2 x3 t0_0 t1_0 t2_0 t2_1 t3_0) from Eq.trans (by rw [F_Wri_writeByThrees_J55.eq_1, if_pos c107]) hR45), (show True ∧ S_Wri_writeByThrees_J71 x2 x3 t0_0 t1_0 t2_0 t2_1 t3_0 lx15 lx28 lx39 x2 from (by have h := hS46; rw [S_Wri_writeByThrees_J55.eq_1] at h; rw [if_pos c107] at h; with_reducible exact h))⟩
          ·
            refine lv_iconst (v := 1) hx hb d_12_4_61 (by decide) ?_
            refine lv_iload hx hb d_12_4_62 (lv_at hl 1 rfl) ?_
            refine lv_iadd hx hb d_12_4_64 ?_
            obtain ⟨a110, e111⟩ := q_nm (1 + lx28 : Int32)
            refine q_ti (v := a110) e111 ?_
            refine lv_iload_n hx hb d_12_4_65 rfl (lv_at hl 5 rfl) ?_
            refine lv_isub hx hb d_12_4_66 ?_
            obtain ⟨a112, e113⟩ := q_nm (a110 - x3 : Int32)
            refine q_ti (v := a112) e113 ?_
            refine lv_goto (tgt := 71) hx hb d_12_4_67 (by decide) ?_
            exact J55 ((a112 : Int32)) _ _ _ ws ⟨V, q_lw hl (q_lw1 0 rfl (q_lw1 1 rfl (q_lw1 3 rfl q_lw0))), (show F_Wri_writeByThrees_J71 x2 x3 t0_0 t1_0 t2_0 t2_1 t3_0 lx15 lx28 lx39 a112 = (F_Wri_writeByThrees x2 x3 t0_0 t1_0 t2_0 t2_1 t3_0) from Eq.trans (by rw [← e113, ← e111, F_Wri_writeByThrees_J55.eq_1, if_neg c107]) hR45), (show True ∧ S_Wri_writeByThrees_J71 x2 x3 t0_0 t1_0 t2_0 t2_1 t3_0 lx15 lx28 lx39 a112 from (by rw [← e113, ← e111]; have h := hS46; rw [S_Wri_writeByThrees_J55.eq_1] at h; rw [if_neg c107] at h; with_reducible exact h))⟩
      ·
        intro J44
        refine lv_if_eq (tgt := 49) hx hb d_12_4_42 (by decide) (fun c114 => ?_) (fun c114 => ?_)
        ·
          refine lv_iload_n hx hb d_12_4_49 rfl (lv_at hl 4 rfl) ?_
          refine lv_iload hx hb d_12_4_50 (lv_at hl 0 rfl) ?_
          refine lv_isub hx hb d_12_4_52 ?_
          obtain ⟨a116, e117⟩ := q_nm (x3 - lx28 : Int32)
          refine q_ti (v := a116) e117 ?_
          refine lv_iconst (v := 1) hx hb d_12_4_53 (by decide) ?_
          refine lv_iadd hx hb d_12_4_54 ?_
          obtain ⟨a118, e119⟩ := q_nm (a116 + 1 : Int32)
          refine q_ti (v := a118) e119 ?_
          exact J44 ((a118 : Int32)) _ _ _ ws ⟨V, q_lw hl (q_lw1 0 rfl (q_lw1 1 rfl (q_lw1 2 rfl (q_lw1 3 rfl (q_lw1 4 rfl q_lw0))))), (show F_Wri_writeByThrees_J55 x2 x3 t0_0 t1_0 t2_0 t2_1 t3_0 lx15 lx28 a118 = (F_Wri_writeByThrees x2 x3 t0_0 t1_0 t2_0 t2_1 t3_0) from Eq.trans (by rw [← e119, ← e117, F_Wri_writeByThrees_J39.eq_1, if_pos c114]) hR34), (show True ∧ S_Wri_writeByThrees_J55 x2 x3 t0_0 t1_0 t2_0 t2_1 t3_0 lx15 lx28 a118 from (by rw [← e119, ← e117]; have h := hS35; rw [S_Wri_writeByThrees_J39.eq_1] at h; rw [if_pos c114] at h; with_reducible exact h))⟩
        ·
          refine lv_iconst (v := 1) hx hb d_12_4_45 (by decide) ?_
          refine lv_goto (tgt := 55) hx hb d_12_4_46 (by decide) ?_
          exact J44 ((1 : Int32)) _ _ _ ws ⟨V, q_lw hl (q_lw1 0 rfl (q_lw1 1 rfl (q_lw1 2 rfl (q_lw1 3 rfl (q_lw1 4 rfl q_lw0))))), (show F_Wri_writeByThrees_J55 x2 x3 t0_0 t1_0 t2_0 t2_1 t3_0 lx15 lx28 1 = (F_Wri_writeByThrees x2 x3 t0_0 t1_0 t2_0 t2_1 t3_0) from Eq.trans (by rw [F_Wri_writeByThrees_J39.eq_1, if_neg c114]) hR34), (show True ∧ S_Wri_writeByThrees_J55 x2 x3 t0_0 t1_0 t2_0 t2_1 t3_0 lx15 lx28 1 from (by have h := hS35; rw [S_Wri_writeByThrees_J39.eq_1] at h; rw [if_neg c114] at h; with_reducible exact h))⟩
    ·
      intro J33
      refine lv_if_eq (tgt := 32) hx hb d_12_4_17 (by decide) (fun c121 => ?_) (fun c121 => ?_)
      ·
        refine lv_iconst (v := 3) hx hb d_12_4_32 (by decide) ?_
        refine lv_iload_n hx hb d_12_4_33 rfl (lv_at hl 3 rfl) ?_
        refine lv_iconst (v := 3) hx hb d_12_4_34 (by decide) ?_
        refine q_goi V (q_runS (As := [.int x3, .int 3]) (rest := [.int 3]) (d := 1) (mc := 0) (ms := 0) C0 V rfl LS_Wri_108 (X_jMath_floorDiv_III l D g q ws  x3 3 hI  (by have y0 : (3 : Int32).toInt = 3 := rfl; omega) _) rfl hl.1 rfl (Nat.le_of_ble_eq_true rfl) ⟨by decide, by decide⟩ ⟨Nat.le_of_ble_eq_true rfl, Nat.le_of_ble_eq_true rfl⟩ d_12_4_35) (fun a125 u123 H locs hp124 V => ?_)
        obtain ⟨rfl, hE126⟩ := hp124
        have e127 : a125 = (F_jMath_floorDiv_III x3 (3 : Int32)) := hE126
        refine lv_imul hx hb d_12_4_38 ?_
        obtain ⟨a128, e129⟩ := q_nm (3 * a125 : Int32)
        refine q_ti (v := a128) e129 ?_
        exact J33 ((a128 : Int32)) _ _ _ ws ⟨V, q_lw hl (q_lw1 0 rfl (q_lw1 1 rfl (q_lw1 2 rfl (q_lw1 3 rfl q_lw0)))), (show F_Wri_writeByThrees_J39 x2 x3 t0_0 t1_0 t2_0 t2_1 t3_0 lx15 a128 = (F_Wri_writeByThrees x2 x3 t0_0 t1_0 t2_0 t2_1 t3_0) from Eq.trans (by rw [← e129, e127, F_Wri_writeByThrees_J15.eq_1, if_pos c121]) hR23), (show True ∧ S_Wri_writeByThrees_J39 x2 x3 t0_0 t1_0 t2_0 t2_1 t3_0 lx15 a128 from (by rw [← e129, e127]; have h := hS24; rw [S_Wri_writeByThrees_J15.eq_1] at h; rw [if_pos c121] at h; with_reducible exact h))⟩
      ·
        refine lv_bipush (v := (-3)) hx hb d_12_4_20 (by decide) ?_
        refine lv_iload_n hx hb d_12_4_22 rfl (lv_at hl 3 rfl) ?_
        refine lv_ineg hx hb d_12_4_23 ?_
        obtain ⟨a131, e132⟩ := q_nm (-x3 : Int32)
        refine q_ti (v := a131) e132 ?_
        refine lv_iconst (v := 3) hx hb d_12_4_24 (by decide) ?_
        refine q_goi V (q_runS (As := [.int a131, .int 3]) (rest := [.int (-3)]) (d := 1) (mc := 0) (ms := 0) C0 V rfl LS_Wri_108 (X_jMath_floorDiv_III l D g q ws  a131 3 hI  (by have y0 : (3 : Int32).toInt = 3 := rfl; omega) _) rfl hl.1 rfl (Nat.le_of_ble_eq_true rfl) ⟨by decide, by decide⟩ ⟨Nat.le_of_ble_eq_true rfl, Nat.le_of_ble_eq_true rfl⟩ d_12_4_25) (fun a136 u134 H locs hp135 V => ?_)
        obtain ⟨rfl, hE137⟩ := hp135
        have e138 : a136 = (F_jMath_floorDiv_III a131 (3 : Int32)) := hE137
        refine lv_imul hx hb d_12_4_28 ?_
        obtain ⟨a139, e140⟩ := q_nm ((-3) * a136 : Int32)
        refine q_ti (v := a139) e140 ?_
        refine lv_goto (tgt := 39) hx hb d_12_4_29 (by decide) ?_
        exact J33 ((a139 : Int32)) _ _ _ ws ⟨V, q_lw hl (q_lw1 0 rfl (q_lw1 1 rfl (q_lw1 2 rfl (q_lw1 3 rfl q_lw0)))), (show F_Wri_writeByThrees_J39 x2 x3 t0_0 t1_0 t2_0 t2_1 t3_0 lx15 a139 = (F_Wri_writeByThrees x2 x3 t0_0 t1_0 t2_0 t2_1 t3_0) from Eq.trans (by rw [← e140, e138, ← e132, F_Wri_writeByThrees_J15.eq_1, if_neg c121]) hR23), (show True ∧ S_Wri_writeByThrees_J39 x2 x3 t0_0 t1_0 t2_0 t2_1 t3_0 lx15 a139 from (by rw [← e140, e138, ← e132]; have h := hS24; rw [S_Wri_writeByThrees_J15.eq_1] at h; rw [if_neg c121] at h; with_reducible exact h))⟩
  ·
    intro J20
    refine lv_if_ne (tgt := 14) hx hb d_12_4_7 (by decide) (fun c141 => ?_) (fun c141 => ?_)
    ·
      refine lv_iconst (v := 0) hx hb d_12_4_14 (by decide) ?_
      exact J20 ((0 : Int32)) _ _ _ ws ⟨(show q_F (0 ≤ 0) from (show 0 ≤ 0 from by omega)), (show q_F (0 ≤ 1) from (show 0 ≤ 1 from by omega)), V, q_lw hl (q_lw1 0 rfl (q_lw1 1 rfl (q_lw1 2 rfl q_lw0))), (show F_Wri_writeByThrees_J15 x2 x3 t0_0 t1_0 t2_0 t2_1 t3_0 0 = (F_Wri_writeByThrees x2 x3 t0_0 t1_0 t2_0 t2_1 t3_0) from (by rw [F_Wri_writeByThrees.eq_1, if_neg c141])), (show True ∧ S_Wri_writeByThrees_J15 x2 x3 t0_0 t1_0 t2_0 t2_1 t3_0 0 from (by have h := hS; rw [S_Wri_writeByThrees.eq_1] at h; rw [if_neg c141] at h; with_reducible exact h))⟩
    ·
      refine lv_iconst (v := 1) hx hb d_12_4_10 (by decide) ?_
      refine lv_goto (tgt := 15) hx hb d_12_4_11 (by decide) ?_
      exact J20 ((1 : Int32)) _ _ _ ws ⟨(show q_F (0 ≤ 1) from (show 0 ≤ 1 from by omega)), (show q_F (1 ≤ 1) from (show 1 ≤ 1 from by omega)), V, q_lw hl (q_lw1 0 rfl (q_lw1 1 rfl (q_lw1 2 rfl q_lw0))), (show F_Wri_writeByThrees_J15 x2 x3 t0_0 t1_0 t2_0 t2_1 t3_0 1 = (F_Wri_writeByThrees x2 x3 t0_0 t1_0 t2_0 t2_1 t3_0) from (by rw [F_Wri_writeByThrees.eq_1, if_pos c141])), (show True ∧ S_Wri_writeByThrees_J15 x2 x3 t0_0 t1_0 t2_0 t2_1 t3_0 1 from (by have h := hS; rw [S_Wri_writeByThrees.eq_1] at h; rw [if_pos c141] at h; with_reducible exact h))⟩
theorem d_12_3_0 : decode prog_12_method_3_code 0 = .ok (.aload_n 0, 1) := by decide +kernel
theorem d_12_3_1 : decode prog_12_method_3_code 1 = .ok (.aload_n 1, 1) := by decide +kernel
theorem d_12_3_2 : decode prog_12_method_3_code 2 = .ok (.getfield 69, 3) := by decide +kernel
set_option maxRecDepth 100000 in
theorem w_173 : (Cond.fieldLink "NumberHouse$Writer" (69 : Nat) "NumberHouse$Dec" "number" "LNumberHouse$Big;") ∈ q_tbl := q_of1 173 rfl (by decide +kernel)
theorem d_12_3_5 : decode prog_12_method_3_code 5 = .ok (.getfield 21, 3) := by decide +kernel
theorem d_12_3_8 : decode prog_12_method_3_code 8 = .ok (.invokevirtual 27, 3) := by decide +kernel
theorem d_12_3_11 : decode prog_12_method_3_code 11 = .ok (.aload_n 0, 1) := by decide +kernel
theorem d_12_3_12 : decode prog_12_method_3_code 12 = .ok (.getfield 13, 3) := by decide +kernel
theorem d_12_3_15 : decode prog_12_method_3_code 15 = .ok (.getfield 39, 3) := by decide +kernel
theorem d_12_3_18 : decode prog_12_method_3_code 18 = .ok (.aload_n 1, 1) := by decide +kernel
theorem d_12_3_19 : decode prog_12_method_3_code 19 = .ok (.getfield 69, 3) := by decide +kernel
theorem d_12_3_22 : decode prog_12_method_3_code 22 = .ok (.invokevirtual 45, 3) := by decide +kernel
theorem d_12_3_25 : decode prog_12_method_3_code 25 = .ok (.aload_n 0, 1) := by decide +kernel
theorem d_12_3_26 : decode prog_12_method_3_code 26 = .ok (.getfield 17, 3) := by decide +kernel
theorem d_12_3_29 : decode prog_12_method_3_code 29 = .ok (.aload_n 0, 1) := by decide +kernel
theorem d_12_3_30 : decode prog_12_method_3_code 30 = .ok (.getfield 13, 3) := by decide +kernel
theorem d_12_3_33 : decode prog_12_method_3_code 33 = .ok (.getfield 39, 3) := by decide +kernel
theorem d_12_3_36 : decode prog_12_method_3_code 36 = .ok (.aload_n 1, 1) := by decide +kernel
theorem d_12_3_37 : decode prog_12_method_3_code 37 = .ok (.getfield 72, 3) := by decide +kernel
set_option maxRecDepth 100000 in
theorem w_177 : (Cond.fieldLink "NumberHouse$Writer" (72 : Nat) "NumberHouse$Dec" "scale" "I") ∈ q_tbl := q_of1 177 rfl (by decide +kernel)
theorem d_12_3_40 : decode prog_12_method_3_code 40 = .ok (.invokevirtual 75, 3) := by decide +kernel
set_option maxRecDepth 100000 in
theorem w_1141 : (Cond.code ({ cls := "NumberHouse$Digits", name := "fill", desc := "(LNumberHouse$Big;I)V" } : MethodName) prog_5_method_2_code (6 : Nat) (none : Option ClassFile.FieldType)) ∈ q_tbl := q_of5 181 rfl (by decide +kernel)
set_option maxRecDepth 100000 in
theorem w_1565 : (Cond.methodLink "NumberHouse$Writer" (75 : Nat) ({ cls := "NumberHouse$Digits", name := "fill", desc := "(LNumberHouse$Big;I)V" } : MethodName)) ∈ q_tbl := q_of7 125 rfl (by decide +kernel)
set_option maxRecDepth 100000 in
theorem w_1139 : (Cond.instanceMethod ({ cls := "NumberHouse$Digits", name := "fill", desc := "(LNumberHouse$Big;I)V" } : MethodName)) ∈ q_tbl := q_of5 179 rfl (by decide +kernel)
set_option maxRecDepth 100000 in
theorem w_1140 : (Cond.selects "NumberHouse$Digits" ({ cls := "NumberHouse$Digits", name := "fill", desc := "(LNumberHouse$Big;I)V" } : MethodName) ({ cls := "NumberHouse$Digits", name := "fill", desc := "(LNumberHouse$Big;I)V" } : MethodName)) ∈ q_tbl := q_of5 180 rfl (by decide +kernel)
theorem LV_Wri_75 : q_LV "NumberHouse$Writer" 75 y_Dig_fill prog_5_method_2_code 6 none 2 := ⟨w_1141, w_9, w_1565, w_1139, w_1140, ⟨by decide, by decide, by decide +kernel⟩⟩
theorem d_12_3_43 : decode prog_12_method_3_code 43 = .ok (.iconst 0, 1) := by decide +kernel
theorem d_12_3_44 : decode prog_12_method_3_code 44 = .ok (.aload_n 1, 1) := by decide +kernel
theorem d_12_3_45 : decode prog_12_method_3_code 45 = .ok (.getfield 72, 3) := by decide +kernel
theorem d_12_3_48 : decode prog_12_method_3_code 48 = .ok (.invokestatic 81, 3) := by decide +kernel
set_option maxRecDepth 100000 in
theorem w_1566 : (Cond.methodLink "NumberHouse$Writer" (81 : Nat) ({ cls := "java/lang/Math", name := "max", desc := "(II)I" } : MethodName)) ∈ q_tbl := q_of7 126 rfl (by decide +kernel)
theorem d_12_3_51 : decode prog_12_method_3_code 51 = .ok (.istore_n 3, 1) := by decide +kernel
theorem d_12_3_52 : decode prog_12_method_3_code 52 = .ok (.aload_n 1, 1) := by decide +kernel
theorem d_12_3_53 : decode prog_12_method_3_code 53 = .ok (.getfield 87, 3) := by decide +kernel
set_option maxRecDepth 100000 in
theorem w_181 : (Cond.fieldLink "NumberHouse$Writer" (87 : Nat) "NumberHouse$Dec" "figureCount" "I") ∈ q_tbl := q_of1 181 rfl (by decide +kernel)
theorem d_12_3_56 : decode prog_12_method_3_code 56 = .ok (.iconst 1, 1) := by decide +kernel
theorem d_12_3_57 : decode prog_12_method_3_code 57 = .ok (.isub, 1) := by decide +kernel
theorem d_12_3_58 : decode prog_12_method_3_code 58 = .ok (.aload_n 1, 1) := by decide +kernel
theorem d_12_3_59 : decode prog_12_method_3_code 59 = .ok (.getfield 72, 3) := by decide +kernel
theorem d_12_3_62 : decode prog_12_method_3_code 62 = .ok (.isub, 1) := by decide +kernel
theorem d_12_3_63 : decode prog_12_method_3_code 63 = .ok (.istore 4, 2) := by decide +kernel
theorem d_12_3_65 : decode prog_12_method_3_code 65 = .ok (.iload_n 2, 1) := by decide +kernel
theorem d_12_3_66 : decode prog_12_method_3_code 66 = .ok (.iconst 1, 1) := by decide +kernel
theorem d_12_3_67 : decode prog_12_method_3_code 67 = .ok (.if_icmp .eq 24, 3) := by decide +kernel
theorem d_12_3_91 : decode prog_12_method_3_code 91 = .ok (.aload_n 0, 1) := by decide +kernel
theorem d_12_3_92 : decode prog_12_method_3_code 92 = .ok (.getfield 17, 3) := by decide +kernel
theorem d_12_3_95 : decode prog_12_method_3_code 95 = .ok (.aload_n 0, 1) := by decide +kernel
theorem d_12_3_96 : decode prog_12_method_3_code 96 = .ok (.getfield 7, 3) := by decide +kernel
theorem d_12_3_99 : decode prog_12_method_3_code 99 = .ok (.iload_n 3, 1) := by decide +kernel
theorem d_12_3_100 : decode prog_12_method_3_code 100 = .ok (.iconst 0, 1) := by decide +kernel
theorem d_12_3_101 : decode prog_12_method_3_code 101 = .ok (.iconst 0, 1) := by decide +kernel
theorem d_12_3_102 : decode prog_12_method_3_code 102 = .ok (.invokevirtual 90, 3) := by decide +kernel
set_option maxRecDepth 100000 in
theorem w_1567 : (Cond.methodLink "NumberHouse$Writer" (90 : Nat) ({ cls := "NumberHouse$Digits", name := "writePlain", desc := "(LNumberHouse$Sheet;IZZ)V" } : MethodName)) ∈ q_tbl := q_of7 127 rfl (by decide +kernel)
theorem LV_Wri_90 : q_LV "NumberHouse$Writer" 90 y_Dig_writePlain prog_5_method_9_code 6 none 4 := ⟨w_1570, w_9, w_1567, w_1568, w_1569, ⟨by decide, by decide, by decide +kernel⟩⟩
theorem d_12_3_105 : decode prog_12_method_3_code 105 = .ok (.goto 42, 3) := by decide +kernel
theorem d_12_3_147 : decode prog_12_method_3_code 147 = .ok (.return_, 1) := by decide +kernel
theorem d_12_3_70 : decode prog_12_method_3_code 70 = .ok (.aload_n 1, 1) := by decide +kernel
theorem d_12_3_71 : decode prog_12_method_3_code 71 = .ok (.getfield 72, 3) := by decide +kernel
theorem d_12_3_74 : decode prog_12_method_3_code 74 = .ok (.ifCond .eq 17, 3) := by decide +kernel
theorem d_12_3_77 : decode prog_12_method_3_code 77 = .ok (.aload_n 1, 1) := by decide +kernel
theorem d_12_3_78 : decode prog_12_method_3_code 78 = .ok (.getfield 72, 3) := by decide +kernel
theorem d_12_3_108 : decode prog_12_method_3_code 108 = .ok (.iload_n 2, 1) := by decide +kernel
theorem d_12_3_109 : decode prog_12_method_3_code 109 = .ok (.ifCond .ne 28, 3) := by decide +kernel
theorem d_12_3_137 : decode prog_12_method_3_code 137 = .ok (.aload_n 0, 1) := by decide +kernel
theorem d_12_3_138 : decode prog_12_method_3_code 138 = .ok (.aload_n 1, 1) := by decide +kernel
theorem d_12_3_139 : decode prog_12_method_3_code 139 = .ok (.getfield 87, 3) := by decide +kernel
theorem d_12_3_142 : decode prog_12_method_3_code 142 = .ok (.iload 4, 2) := by decide +kernel
theorem d_12_3_144 : decode prog_12_method_3_code 144 = .ok (.invokevirtual 101, 3) := by decide +kernel
set_option maxRecDepth 100000 in
theorem w_1592 : (Cond.code ({ cls := "NumberHouse$Writer", name := "writeByThrees", desc := "(II)V" } : MethodName) prog_12_method_4_code (7 : Nat) (none : Option ClassFile.FieldType)) ∈ q_tbl := q_of7 152 rfl (by decide +kernel)
set_option maxRecDepth 100000 in
theorem w_1589 : (Cond.methodLink "NumberHouse$Writer" (101 : Nat) ({ cls := "NumberHouse$Writer", name := "writeByThrees", desc := "(II)V" } : MethodName)) ∈ q_tbl := q_of7 149 rfl (by decide +kernel)
set_option maxRecDepth 100000 in
theorem w_1591 : (Cond.instanceMethod ({ cls := "NumberHouse$Writer", name := "writeByThrees", desc := "(II)V" } : MethodName)) ∈ q_tbl := q_of7 151 rfl (by decide +kernel)
theorem ws_38 : Cond.selects "NumberHouse$Writer" (⟨"NumberHouse$Writer", "writeByThrees", "(II)V"⟩ : MethodName) (⟨"NumberHouse$Writer", "writeByThrees", "(II)V"⟩ : MethodName) ∈ q_tbl := q_ofs 38 (by decide +kernel) (by decide +kernel)
theorem LV_Wri_101 : q_LV "NumberHouse$Writer" 101 y_Wri_writeByThrees prog_12_method_4_code 7 none 2 := ⟨w_1592, w_11, w_1589, w_1591, ws_38, ⟨by decide, by decide, by decide +kernel⟩⟩
theorem d_12_3_112 : decode prog_12_method_3_code 112 = .ok (.aload_n 0, 1) := by decide +kernel
theorem d_12_3_113 : decode prog_12_method_3_code 113 = .ok (.getfield 17, 3) := by decide +kernel
theorem d_12_3_116 : decode prog_12_method_3_code 116 = .ok (.aload_n 0, 1) := by decide +kernel
theorem d_12_3_117 : decode prog_12_method_3_code 117 = .ok (.getfield 7, 3) := by decide +kernel
theorem d_12_3_120 : decode prog_12_method_3_code 120 = .ok (.aload_n 1, 1) := by decide +kernel
theorem d_12_3_121 : decode prog_12_method_3_code 121 = .ok (.getfield 87, 3) := by decide +kernel
theorem d_12_3_124 : decode prog_12_method_3_code 124 = .ok (.iconst 0, 1) := by decide +kernel
theorem d_12_3_125 : decode prog_12_method_3_code 125 = .ok (.invokevirtual 94, 3) := by decide +kernel
set_option maxRecDepth 100000 in
theorem w_1574 : (Cond.methodLink "NumberHouse$Writer" (94 : Nat) ({ cls := "NumberHouse$Digits", name := "writeHead", desc := "(LNumberHouse$Sheet;IZ)V" } : MethodName)) ∈ q_tbl := q_of7 134 rfl (by decide +kernel)
theorem LV_Wri_94 : q_LV "NumberHouse$Writer" 94 y_Dig_writeHead prog_5_method_11_code 5 none 3 := ⟨w_1577, w_9, w_1574, w_1575, w_1576, ⟨by decide, by decide, by decide +kernel⟩⟩
theorem d_12_3_128 : decode prog_12_method_3_code 128 = .ok (.aload_n 0, 1) := by decide +kernel
theorem d_12_3_129 : decode prog_12_method_3_code 129 = .ok (.iload 4, 2) := by decide +kernel
theorem d_12_3_131 : decode prog_12_method_3_code 131 = .ok (.invokevirtual 98, 3) := by decide +kernel
theorem d_12_3_134 : decode prog_12_method_3_code 134 = .ok (.goto 13, 3) := by decide +kernel
theorem d_12_3_81 : decode prog_12_method_3_code 81 = .ok (.ifCond .le 27, 3) := by decide +kernel
theorem d_12_3_84 : decode prog_12_method_3_code 84 = .ok (.iload 4, 2) := by decide +kernel
theorem d_12_3_86 : decode prog_12_method_3_code 86 = .ok (.bipush (-6), 2) := by decide +kernel
theorem d_12_3_88 : decode prog_12_method_3_code 88 = .ok (.if_icmp .lt 20, 3) := by decide +kernel
def y_Wri_decimalText : MethodName := ⟨"NumberHouse$Writer", "decimalText", "(LNumberHouse$Dec;I)V"⟩
def F_Wri_decimalText_c102 (R : Int32) (x3 : Int32) (t0_0 : Int32) (t1_0 : (Nat → Int64)) (t2_0 : Int32) (t2_1 : Int32) (t3_0 : (Nat → Int32)) (t4_0 : Int32) (t4_1 : Int32) (t5_0 : (Nat → Int32)) (t6_0 : Int32) (t6_1 : Int32) (t7_0 : Int32) (t7_1 : Int32) (t8_0 : (Nat → Int32)) (p46 : (Int32 × (Nat → Int64))) (y39 : Int32) (f40 : (Nat → Int64)) (p70 : (Int32 × Int32 × (Nat → Int32))) (p104 : (Int32 × Int32 × (Nat → Int32) × Int32 × Int32 × (Nat → Int32))) (a123 : Int32) (a117 : Int32) (y84 : Int32) (y85 : Int32) (f86 : (Nat → Int32)) (y89 : Int32) (y90 : Int32) (f91 : (Nat → Int32)) (p143 : (Int32 × (Nat → Int64))) : Int32 × (Nat → Int64) × Int32 × Int32 × (Nat → Int32) × Int32 × Int32 × (Nat → Int32) := ((p143.1 : Int32), (p143.2 : (Nat → Int64)), y84, y85, f86, y89, y90, f91)
def F_Wri_decimalText_c102_5 (R : Int32) (x3 : Int32) (t0_0 : Int32) (t1_0 : (Nat → Int64)) (t2_0 : Int32) (t2_1 : Int32) (t3_0 : (Nat → Int32)) (t4_0 : Int32) (t4_1 : Int32) (t5_0 : (Nat → Int32)) (t6_0 : Int32) (t6_1 : Int32) (t7_0 : Int32) (t7_1 : Int32) (t8_0 : (Nat → Int32)) (p46 : (Int32 × (Nat → Int64))) (y39 : Int32) (f40 : (Nat → Int64)) (p70 : (Int32 × Int32 × (Nat → Int32))) (p104 : (Int32 × Int32 × (Nat → Int32) × Int32 × Int32 × (Nat → Int32))) (a123 : Int32) (a117 : Int32) (y84 : Int32) (y85 : Int32) (f86 : (Nat → Int32)) (y89 : Int32) (y90 : Int32) (f91 : (Nat → Int32)) (p170 : (Int32 × (Nat → Int64))) : Int32 × (Nat → Int64) × Int32 × Int32 × (Nat → Int32) × Int32 × Int32 × (Nat → Int32) := ((p170.1 : Int32), (p170.2 : (Nat → Int64)), y84, y85, f86, y89, y90, f91)
def F_Wri_decimalText_c144 (R : Int32) (x3 : Int32) (t0_0 : Int32) (t1_0 : (Nat → Int64)) (t2_0 : Int32) (t2_1 : Int32) (t3_0 : (Nat → Int32)) (t4_0 : Int32) (t4_1 : Int32) (t5_0 : (Nat → Int32)) (t6_0 : Int32) (t6_1 : Int32) (t7_0 : Int32) (t7_1 : Int32) (t8_0 : (Nat → Int32)) (p46 : (Int32 × (Nat → Int64))) (y39 : Int32) (f40 : (Nat → Int64)) (p70 : (Int32 × Int32 × (Nat → Int32))) (p104 : (Int32 × Int32 × (Nat → Int32) × Int32 × Int32 × (Nat → Int32))) (a123 : Int32) (y84 : Int32) (y85 : Int32) (f86 : (Nat → Int32)) (y89 : Int32) (y90 : Int32) (f91 : (Nat → Int32)) (p208 : (Int32 × (Nat → Int64))) : Int32 × (Nat → Int64) × Int32 × Int32 × (Nat → Int32) × Int32 × Int32 × (Nat → Int32) := ((p208.1 : Int32), (p208.2 : (Nat → Int64)), y84, y85, f86, y89, y90, f91)
def F_Wri_decimalText_c131 (R : Int32) (x3 : Int32) (t0_0 : Int32) (t1_0 : (Nat → Int64)) (t2_0 : Int32) (t2_1 : Int32) (t3_0 : (Nat → Int32)) (t4_0 : Int32) (t4_1 : Int32) (t5_0 : (Nat → Int32)) (t6_0 : Int32) (t6_1 : Int32) (t7_0 : Int32) (t7_1 : Int32) (t8_0 : (Nat → Int32)) (p46 : (Int32 × (Nat → Int64))) (y39 : Int32) (f40 : (Nat → Int64)) (p70 : (Int32 × Int32 × (Nat → Int32))) (p104 : (Int32 × Int32 × (Nat → Int32) × Int32 × Int32 × (Nat → Int32))) (a123 : Int32) (y84 : Int32) (y85 : Int32) (f86 : (Nat → Int32)) (y89 : Int32) (y90 : Int32) (f91 : (Nat → Int32)) (p230 : (Int32 × (Nat → Int64))) (p249 : (Int32 × (Nat → Int64))) : Int32 × (Nat → Int64) × Int32 × Int32 × (Nat → Int32) × Int32 × Int32 × (Nat → Int32) := ((p249.1 : Int32), (p249.2 : (Nat → Int64)), y84, y85, f86, y89, y90, f91)
def F_Wri_decimalText_c125 (R : Int32) (x3 : Int32) (t0_0 : Int32) (t1_0 : (Nat → Int64)) (t2_0 : Int32) (t2_1 : Int32) (t3_0 : (Nat → Int32)) (t4_0 : Int32) (t4_1 : Int32) (t5_0 : (Nat → Int32)) (t6_0 : Int32) (t6_1 : Int32) (t7_0 : Int32) (t7_1 : Int32) (t8_0 : (Nat → Int32)) (p46 : (Int32 × (Nat → Int64))) (y39 : Int32) (f40 : (Nat → Int64)) (p70 : (Int32 × Int32 × (Nat → Int32))) (p104 : (Int32 × Int32 × (Nat → Int32) × Int32 × Int32 × (Nat → Int32))) (a123 : Int32) (y84 : Int32) (y85 : Int32) (f86 : (Nat → Int32)) (y89 : Int32) (y90 : Int32) (f91 : (Nat → Int32)) (p230 : (Int32 × (Nat → Int64))) : Int32 × (Nat → Int64) × Int32 × Int32 × (Nat → Int32) × Int32 × Int32 × (Nat → Int32) := F_Wri_decimalText_c131 R x3 t0_0 t1_0 t2_0 t2_1 t3_0 t4_0 t4_1 t5_0 t6_0 t6_1 t7_0 t7_1 t8_0 p46 y39 f40 p70 p104 a123 y84 y85 f86 y89 y90 f91 p230 ((F_Wri_writePower a123 (p230.1 : Int32) (p230.2 : (Nat → Int64))) : (Int32 × (Nat → Int64)))
def F_Wri_decimalText_J108 (R : Int32) (x3 : Int32) (t0_0 : Int32) (t1_0 : (Nat → Int64)) (t2_0 : Int32) (t2_1 : Int32) (t3_0 : (Nat → Int32)) (t4_0 : Int32) (t4_1 : Int32) (t5_0 : (Nat → Int32)) (t6_0 : Int32) (t6_1 : Int32) (t7_0 : Int32) (t7_1 : Int32) (t8_0 : (Nat → Int32)) (p46 : (Int32 × (Nat → Int64))) (y39 : Int32) (f40 : (Nat → Int64)) (p70 : (Int32 × Int32 × (Nat → Int32))) (p104 : (Int32 × Int32 × (Nat → Int32) × Int32 × Int32 × (Nat → Int32))) (a123 : Int32) (y84 : Int32) (y85 : Int32) (f86 : (Nat → Int32)) (y89 : Int32) (y90 : Int32) (f91 : (Nat → Int32)) : Int32 × (Nat → Int64) × Int32 × Int32 × (Nat → Int32) × Int32 × Int32 × (Nat → Int32) := if x3 = (0 : Int32) then (F_Wri_decimalText_c125 R x3 t0_0 t1_0 t2_0 t2_1 t3_0 t4_0 t4_1 t5_0 t6_0 t6_1 t7_0 t7_1 t8_0 p46 y39 f40 p70 p104 a123 y84 y85 f86 y89 y90 f91 ((F_Dig_writeHead (11008 : Int32) (1376 : Int32) (1000000 : Int32) t6_1 (0 : Int32) y84 y85 f86 y39 f40) : (Int32 × (Nat → Int64)))) else (F_Wri_decimalText_c144 R x3 t0_0 t1_0 t2_0 t2_1 t3_0 t4_0 t4_1 t5_0 t6_0 t6_1 t7_0 t7_1 t8_0 p46 y39 f40 p70 p104 a123 y84 y85 f86 y89 y90 f91 ((F_Wri_writeByThrees t6_1 a123 y39 f40 y84 y85 f86) : (Int32 × (Nat → Int64))))
def F_Wri_decimalText_c102_10 (R : Int32) (x3 : Int32) (t0_0 : Int32) (t1_0 : (Nat → Int64)) (t2_0 : Int32) (t2_1 : Int32) (t3_0 : (Nat → Int32)) (t4_0 : Int32) (t4_1 : Int32) (t5_0 : (Nat → Int32)) (t6_0 : Int32) (t6_1 : Int32) (t7_0 : Int32) (t7_1 : Int32) (t8_0 : (Nat → Int32)) (p46 : (Int32 × (Nat → Int64))) (y39 : Int32) (f40 : (Nat → Int64)) (p70 : (Int32 × Int32 × (Nat → Int32))) (p104 : (Int32 × Int32 × (Nat → Int32) × Int32 × Int32 × (Nat → Int32))) (a123 : Int32) (a117 : Int32) (y84 : Int32) (y85 : Int32) (f86 : (Nat → Int32)) (y89 : Int32) (y90 : Int32) (f91 : (Nat → Int32)) (p279 : (Int32 × (Nat → Int64))) : Int32 × (Nat → Int64) × Int32 × Int32 × (Nat → Int32) × Int32 × Int32 × (Nat → Int32) := ((p279.1 : Int32), (p279.2 : (Nat → Int64)), y84, y85, f86, y89, y90, f91)
def F_Wri_decimalText_c40 (R : Int32) (x3 : Int32) (t0_0 : Int32) (t1_0 : (Nat → Int64)) (t2_0 : Int32) (t2_1 : Int32) (t3_0 : (Nat → Int32)) (t4_0 : Int32) (t4_1 : Int32) (t5_0 : (Nat → Int32)) (t6_0 : Int32) (t6_1 : Int32) (t7_0 : Int32) (t7_1 : Int32) (t8_0 : (Nat → Int32)) (p46 : (Int32 × (Nat → Int64))) (y39 : Int32) (f40 : (Nat → Int64)) (p70 : (Int32 × Int32 × (Nat → Int32))) (p104 : (Int32 × Int32 × (Nat → Int32) × Int32 × Int32 × (Nat → Int32))) : Int32 × (Nat → Int64) × Int32 × Int32 × (Nat → Int32) × Int32 × Int32 × (Nat → Int32) := if x3 = (1 : Int32) then (F_Wri_decimalText_c102 R x3 t0_0 t1_0 t2_0 t2_1 t3_0 t4_0 t4_1 t5_0 t6_0 t6_1 t7_0 t7_1 t8_0 p46 y39 f40 p70 p104 ((t6_1 - 1 : Int32) - t6_0 : Int32) (if 0 < t6_0 then t6_0 else 0 : Int32) (p104.1 : Int32) (p104.2.1 : Int32) (p104.2.2.1 : (Nat → Int32)) (p104.2.2.2.1 : Int32) (p104.2.2.2.2.1 : Int32) (p104.2.2.2.2.2 : (Nat → Int32)) ((F_Dig_writePlain (11008 : Int32) (1376 : Int32) (1000000 : Int32) (if 0 < t6_0 then t6_0 else 0 : Int32) (0 : Int32) (0 : Int32) (p104.1 : Int32) (p104.2.1 : Int32) (p104.2.2.1 : (Nat → Int32)) y39 f40) : (Int32 × (Nat → Int64)))) else (if t6_0 = (0 : Int32) then (F_Wri_decimalText_c102_5 R x3 t0_0 t1_0 t2_0 t2_1 t3_0 t4_0 t4_1 t5_0 t6_0 t6_1 t7_0 t7_1 t8_0 p46 y39 f40 p70 p104 ((t6_1 - 1 : Int32) - t6_0 : Int32) (if 0 < t6_0 then t6_0 else 0 : Int32) (p104.1 : Int32) (p104.2.1 : Int32) (p104.2.2.1 : (Nat → Int32)) (p104.2.2.2.1 : Int32) (p104.2.2.2.2.1 : Int32) (p104.2.2.2.2.2 : (Nat → Int32)) ((F_Dig_writePlain (11008 : Int32) (1376 : Int32) (1000000 : Int32) (if 0 < t6_0 then t6_0 else 0 : Int32) (0 : Int32) (0 : Int32) (p104.1 : Int32) (p104.2.1 : Int32) (p104.2.2.1 : (Nat → Int32)) y39 f40) : (Int32 × (Nat → Int64)))) else (if t6_0 ≤ (0 : Int32) then (F_Wri_decimalText_J108 R x3 t0_0 t1_0 t2_0 t2_1 t3_0 t4_0 t4_1 t5_0 t6_0 t6_1 t7_0 t7_1 t8_0 p46 y39 f40 p70 p104 ((t6_1 - 1 : Int32) - t6_0 : Int32) (p104.1 : Int32) (p104.2.1 : Int32) (p104.2.2.1 : (Nat → Int32)) (p104.2.2.2.1 : Int32) (p104.2.2.2.2.1 : Int32) (p104.2.2.2.2.2 : (Nat → Int32))) else (if ((t6_1 - 1 : Int32) - t6_0 : Int32) < (-6 : Int32) then (F_Wri_decimalText_J108 R x3 t0_0 t1_0 t2_0 t2_1 t3_0 t4_0 t4_1 t5_0 t6_0 t6_1 t7_0 t7_1 t8_0 p46 y39 f40 p70 p104 ((t6_1 - 1 : Int32) - t6_0 : Int32) (p104.1 : Int32) (p104.2.1 : Int32) (p104.2.2.1 : (Nat → Int32)) (p104.2.2.2.1 : Int32) (p104.2.2.2.2.1 : Int32) (p104.2.2.2.2.2 : (Nat → Int32))) else (F_Wri_decimalText_c102_10 R x3 t0_0 t1_0 t2_0 t2_1 t3_0 t4_0 t4_1 t5_0 t6_0 t6_1 t7_0 t7_1 t8_0 p46 y39 f40 p70 p104 ((t6_1 - 1 : Int32) - t6_0 : Int32) (if 0 < t6_0 then t6_0 else 0 : Int32) (p104.1 : Int32) (p104.2.1 : Int32) (p104.2.2.1 : (Nat → Int32)) (p104.2.2.2.1 : Int32) (p104.2.2.2.2.1 : Int32) (p104.2.2.2.2.2 : (Nat → Int32)) ((F_Dig_writePlain (11008 : Int32) (1376 : Int32) (1000000 : Int32) (if 0 < t6_0 then t6_0 else 0 : Int32) (0 : Int32) (0 : Int32) (p104.1 : Int32) (p104.2.1 : Int32) (p104.2.2.1 : (Nat → Int32)) y39 f40) : (Int32 × (Nat → Int64)))))))
def F_Wri_decimalText_c22 (R : Int32) (x3 : Int32) (t0_0 : Int32) (t1_0 : (Nat → Int64)) (t2_0 : Int32) (t2_1 : Int32) (t3_0 : (Nat → Int32)) (t4_0 : Int32) (t4_1 : Int32) (t5_0 : (Nat → Int32)) (t6_0 : Int32) (t6_1 : Int32) (t7_0 : Int32) (t7_1 : Int32) (t8_0 : (Nat → Int32)) (p46 : (Int32 × (Nat → Int64))) (y39 : Int32) (f40 : (Nat → Int64)) (p70 : (Int32 × Int32 × (Nat → Int32))) : Int32 × (Nat → Int64) × Int32 × Int32 × (Nat → Int32) × Int32 × Int32 × (Nat → Int32) := F_Wri_decimalText_c40 R x3 t0_0 t1_0 t2_0 t2_1 t3_0 t4_0 t4_1 t5_0 t6_0 t6_1 t7_0 t7_1 t8_0 p46 y39 f40 p70 ((F_Dig_fill (220 : Int32) t6_0 t2_0 t2_1 t3_0 (p70.1 : Int32) (p70.2.1 : Int32) (p70.2.2 : (Nat → Int32))) : (Int32 × Int32 × (Nat → Int32) × Int32 × Int32 × (Nat → Int32)))
def F_Wri_decimalText_c8 (R : Int32) (x3 : Int32) (t0_0 : Int32) (t1_0 : (Nat → Int64)) (t2_0 : Int32) (t2_1 : Int32) (t3_0 : (Nat → Int32)) (t4_0 : Int32) (t4_1 : Int32) (t5_0 : (Nat → Int32)) (t6_0 : Int32) (t6_1 : Int32) (t7_0 : Int32) (t7_1 : Int32) (t8_0 : (Nat → Int32)) (p46 : (Int32 × (Nat → Int64))) : Int32 × (Nat → Int64) × Int32 × Int32 × (Nat → Int32) × Int32 × Int32 × (Nat → Int32) := F_Wri_decimalText_c22 R x3 t0_0 t1_0 t2_0 t2_1 t3_0 t4_0 t4_1 t5_0 t6_0 t6_1 t7_0 t7_1 t8_0 p46 (p46.1 : Int32) (p46.2 : (Nat → Int64)) ((F_Big_copy (220 : Int32) R t4_0 t4_1 t5_0 t7_0 t7_1 t8_0) : (Int32 × Int32 × (Nat → Int32)))
def F_Wri_decimalText (R : Int32) (x3 : Int32) (t0_0 : Int32) (t1_0 : (Nat → Int64)) (t2_0 : Int32) (t2_1 : Int32) (t3_0 : (Nat → Int32)) (t4_0 : Int32) (t4_1 : Int32) (t5_0 : (Nat → Int32)) (t6_0 : Int32) (t6_1 : Int32) (t7_0 : Int32) (t7_1 : Int32) (t8_0 : (Nat → Int32)) : Int32 × (Nat → Int64) × Int32 × Int32 × (Nat → Int32) × Int32 × Int32 × (Nat → Int32) := F_Wri_decimalText_c8 R x3 t0_0 t1_0 t2_0 t2_1 t3_0 t4_0 t4_1 t5_0 t6_0 t6_1 t7_0 t7_1 t8_0 ((F_Wri_begin_p t7_1 t0_0 t1_0) : (Int32 × (Nat → Int64)))
def S_Wri_decimalText_c102 (R : Int32) (x3 : Int32) (t0_0 : Int32) (t1_0 : (Nat → Int64)) (t2_0 : Int32) (t2_1 : Int32) (t3_0 : (Nat → Int32)) (t4_0 : Int32) (t4_1 : Int32) (t5_0 : (Nat → Int32)) (t6_0 : Int32) (t6_1 : Int32) (t7_0 : Int32) (t7_1 : Int32) (t8_0 : (Nat → Int32)) (p46 : (Int32 × (Nat → Int64))) (y39 : Int32) (f40 : (Nat → Int64)) (p70 : (Int32 × Int32 × (Nat → Int32))) (p104 : (Int32 × Int32 × (Nat → Int32) × Int32 × Int32 × (Nat → Int32))) (a123 : Int32) (a117 : Int32) (y84 : Int32) (y85 : Int32) (f86 : (Nat → Int32)) (y89 : Int32) (y90 : Int32) (f91 : (Nat → Int32)) (p143 : (Int32 × (Nat → Int64))) : Prop := True
def S_Wri_decimalText_c102_5 (R : Int32) (x3 : Int32) (t0_0 : Int32) (t1_0 : (Nat → Int64)) (t2_0 : Int32) (t2_1 : Int32) (t3_0 : (Nat → Int32)) (t4_0 : Int32) (t4_1 : Int32) (t5_0 : (Nat → Int32)) (t6_0 : Int32) (t6_1 : Int32) (t7_0 : Int32) (t7_1 : Int32) (t8_0 : (Nat → Int32)) (p46 : (Int32 × (Nat → Int64))) (y39 : Int32) (f40 : (Nat → Int64)) (p70 : (Int32 × Int32 × (Nat → Int32))) (p104 : (Int32 × Int32 × (Nat → Int32) × Int32 × Int32 × (Nat → Int32))) (a123 : Int32) (a117 : Int32) (y84 : Int32) (y85 : Int32) (f86 : (Nat → Int32)) (y89 : Int32) (y90 : Int32) (f91 : (Nat → Int32)) (p170 : (Int32 × (Nat → Int64))) : Prop := True
def S_Wri_decimalText_c144 (R : Int32) (x3 : Int32) (t0_0 : Int32) (t1_0 : (Nat → Int64)) (t2_0 : Int32) (t2_1 : Int32) (t3_0 : (Nat → Int32)) (t4_0 : Int32) (t4_1 : Int32) (t5_0 : (Nat → Int32)) (t6_0 : Int32) (t6_1 : Int32) (t7_0 : Int32) (t7_1 : Int32) (t8_0 : (Nat → Int32)) (p46 : (Int32 × (Nat → Int64))) (y39 : Int32) (f40 : (Nat → Int64)) (p70 : (Int32 × Int32 × (Nat → Int32))) (p104 : (Int32 × Int32 × (Nat → Int32) × Int32 × Int32 × (Nat → Int32))) (a123 : Int32) (y84 : Int32) (y85 : Int32) (f86 : (Nat → Int32)) (y89 : Int32) (y90 : Int32) (f91 : (Nat → Int32)) (p208 : (Int32 × (Nat → Int64))) : Prop := True
def S_Wri_decimalText_c131 (R : Int32) (x3 : Int32) (t0_0 : Int32) (t1_0 : (Nat → Int64)) (t2_0 : Int32) (t2_1 : Int32) (t3_0 : (Nat → Int32)) (t4_0 : Int32) (t4_1 : Int32) (t5_0 : (Nat → Int32)) (t6_0 : Int32) (t6_1 : Int32) (t7_0 : Int32) (t7_1 : Int32) (t8_0 : (Nat → Int32)) (p46 : (Int32 × (Nat → Int64))) (y39 : Int32) (f40 : (Nat → Int64)) (p70 : (Int32 × Int32 × (Nat → Int32))) (p104 : (Int32 × Int32 × (Nat → Int32) × Int32 × Int32 × (Nat → Int32))) (a123 : Int32) (y84 : Int32) (y85 : Int32) (f86 : (Nat → Int32)) (y89 : Int32) (y90 : Int32) (f91 : (Nat → Int32)) (p230 : (Int32 × (Nat → Int64))) (p249 : (Int32 × (Nat → Int64))) : Prop := True
def S_Wri_decimalText_c125 (R : Int32) (x3 : Int32) (t0_0 : Int32) (t1_0 : (Nat → Int64)) (t2_0 : Int32) (t2_1 : Int32) (t3_0 : (Nat → Int32)) (t4_0 : Int32) (t4_1 : Int32) (t5_0 : (Nat → Int32)) (t6_0 : Int32) (t6_1 : Int32) (t7_0 : Int32) (t7_1 : Int32) (t8_0 : (Nat → Int32)) (p46 : (Int32 × (Nat → Int64))) (y39 : Int32) (f40 : (Nat → Int64)) (p70 : (Int32 × Int32 × (Nat → Int32))) (p104 : (Int32 × Int32 × (Nat → Int32) × Int32 × Int32 × (Nat → Int32))) (a123 : Int32) (y84 : Int32) (y85 : Int32) (f86 : (Nat → Int32)) (y89 : Int32) (y90 : Int32) (f91 : (Nat → Int32)) (p230 : (Int32 × (Nat → Int64))) : Prop := S_Wri_decimalText_c131 R x3 t0_0 t1_0 t2_0 t2_1 t3_0 t4_0 t4_1 t5_0 t6_0 t6_1 t7_0 t7_1 t8_0 p46 y39 f40 p70 p104 a123 y84 y85 f86 y89 y90 f91 p230 ((F_Wri_writePower a123 (p230.1 : Int32) (p230.2 : (Nat → Int64))) : (Int32 × (Nat → Int64)))
def S_Wri_decimalText_J108 (R : Int32) (x3 : Int32) (t0_0 : Int32) (t1_0 : (Nat → Int64)) (t2_0 : Int32) (t2_1 : Int32) (t3_0 : (Nat → Int32)) (t4_0 : Int32) (t4_1 : Int32) (t5_0 : (Nat → Int32)) (t6_0 : Int32) (t6_1 : Int32) (t7_0 : Int32) (t7_1 : Int32) (t8_0 : (Nat → Int32)) (p46 : (Int32 × (Nat → Int64))) (y39 : Int32) (f40 : (Nat → Int64)) (p70 : (Int32 × Int32 × (Nat → Int32))) (p104 : (Int32 × Int32 × (Nat → Int32) × Int32 × Int32 × (Nat → Int32))) (a123 : Int32) (y84 : Int32) (y85 : Int32) (f86 : (Nat → Int32)) (y89 : Int32) (y90 : Int32) (f91 : (Nat → Int32)) : Prop := if x3 = (0 : Int32) then (S_Wri_decimalText_c125 R x3 t0_0 t1_0 t2_0 t2_1 t3_0 t4_0 t4_1 t5_0 t6_0 t6_1 t7_0 t7_1 t8_0 p46 y39 f40 p70 p104 a123 y84 y85 f86 y89 y90 f91 ((F_Dig_writeHead (11008 : Int32) (1376 : Int32) (1000000 : Int32) t6_1 (0 : Int32) y84 y85 f86 y39 f40) : (Int32 × (Nat → Int64)))) else ((True ∧ S_Wri_writeByThrees t6_1 a123 y39 f40 y84 y85 f86) ∧ (S_Wri_decimalText_c144 R x3 t0_0 t1_0 t2_0 t2_1 t3_0 t4_0 t4_1 t5_0 t6_0 t6_1 t7_0 t7_1 t8_0 p46 y39 f40 p70 p104 a123 y84 y85 f86 y89 y90 f91 ((F_Wri_writeByThrees t6_1 a123 y39 f40 y84 y85 f86) : (Int32 × (Nat → Int64)))))
def S_Wri_decimalText_c102_10 (R : Int32) (x3 : Int32) (t0_0 : Int32) (t1_0 : (Nat → Int64)) (t2_0 : Int32) (t2_1 : Int32) (t3_0 : (Nat → Int32)) (t4_0 : Int32) (t4_1 : Int32) (t5_0 : (Nat → Int32)) (t6_0 : Int32) (t6_1 : Int32) (t7_0 : Int32) (t7_1 : Int32) (t8_0 : (Nat → Int32)) (p46 : (Int32 × (Nat → Int64))) (y39 : Int32) (f40 : (Nat → Int64)) (p70 : (Int32 × Int32 × (Nat → Int32))) (p104 : (Int32 × Int32 × (Nat → Int32) × Int32 × Int32 × (Nat → Int32))) (a123 : Int32) (a117 : Int32) (y84 : Int32) (y85 : Int32) (f86 : (Nat → Int32)) (y89 : Int32) (y90 : Int32) (f91 : (Nat → Int32)) (p279 : (Int32 × (Nat → Int64))) : Prop := True
def S_Wri_decimalText_c40 (R : Int32) (x3 : Int32) (t0_0 : Int32) (t1_0 : (Nat → Int64)) (t2_0 : Int32) (t2_1 : Int32) (t3_0 : (Nat → Int32)) (t4_0 : Int32) (t4_1 : Int32) (t5_0 : (Nat → Int32)) (t6_0 : Int32) (t6_1 : Int32) (t7_0 : Int32) (t7_1 : Int32) (t8_0 : (Nat → Int32)) (p46 : (Int32 × (Nat → Int64))) (y39 : Int32) (f40 : (Nat → Int64)) (p70 : (Int32 × Int32 × (Nat → Int32))) (p104 : (Int32 × Int32 × (Nat → Int32) × Int32 × Int32 × (Nat → Int32))) : Prop := if x3 = (1 : Int32) then (((p104.2.1 : Int32).toInt ≤ 200000) ∧ (S_Wri_decimalText_c102 R x3 t0_0 t1_0 t2_0 t2_1 t3_0 t4_0 t4_1 t5_0 t6_0 t6_1 t7_0 t7_1 t8_0 p46 y39 f40 p70 p104 ((t6_1 - 1 : Int32) - t6_0 : Int32) (if 0 < t6_0 then t6_0 else 0 : Int32) (p104.1 : Int32) (p104.2.1 : Int32) (p104.2.2.1 : (Nat → Int32)) (p104.2.2.2.1 : Int32) (p104.2.2.2.2.1 : Int32) (p104.2.2.2.2.2 : (Nat → Int32)) ((F_Dig_writePlain (11008 : Int32) (1376 : Int32) (1000000 : Int32) (if 0 < t6_0 then t6_0 else 0 : Int32) (0 : Int32) (0 : Int32) (p104.1 : Int32) (p104.2.1 : Int32) (p104.2.2.1 : (Nat → Int32)) y39 f40) : (Int32 × (Nat → Int64))))) else (if t6_0 = (0 : Int32) then (((p104.2.1 : Int32).toInt ≤ 200000) ∧ (S_Wri_decimalText_c102_5 R x3 t0_0 t1_0 t2_0 t2_1 t3_0 t4_0 t4_1 t5_0 t6_0 t6_1 t7_0 t7_1 t8_0 p46 y39 f40 p70 p104 ((t6_1 - 1 : Int32) - t6_0 : Int32) (if 0 < t6_0 then t6_0 else 0 : Int32) (p104.1 : Int32) (p104.2.1 : Int32) (p104.2.2.1 : (Nat → Int32)) (p104.2.2.2.1 : Int32) (p104.2.2.2.2.1 : Int32) (p104.2.2.2.2.2 : (Nat → Int32)) ((F_Dig_writePlain (11008 : Int32) (1376 : Int32) (1000000 : Int32) (if 0 < t6_0 then t6_0 else 0 : Int32) (0 : Int32) (0 : Int32) (p104.1 : Int32) (p104.2.1 : Int32) (p104.2.2.1 : (Nat → Int32)) y39 f40) : (Int32 × (Nat → Int64))))) else (if t6_0 ≤ (0 : Int32) then (S_Wri_decimalText_J108 R x3 t0_0 t1_0 t2_0 t2_1 t3_0 t4_0 t4_1 t5_0 t6_0 t6_1 t7_0 t7_1 t8_0 p46 y39 f40 p70 p104 ((t6_1 - 1 : Int32) - t6_0 : Int32) (p104.1 : Int32) (p104.2.1 : Int32) (p104.2.2.1 : (Nat → Int32)) (p104.2.2.2.1 : Int32) (p104.2.2.2.2.1 : Int32) (p104.2.2.2.2.2 : (Nat → Int32))) else (if ((t6_1 - 1 : Int32) - t6_0 : Int32) < (-6 : Int32) then (S_Wri_decimalText_J108 R x3 t0_0 t1_0 t2_0 t2_1 t3_0 t4_0 t4_1 t5_0 t6_0 t6_1 t7_0 t7_1 t8_0 p46 y39 f40 p70 p104 ((t6_1 - 1 : Int32) - t6_0 : Int32) (p104.1 : Int32) (p104.2.1 : Int32) (p104.2.2.1 : (Nat → Int32)) (p104.2.2.2.1 : Int32) (p104.2.2.2.2.1 : Int32) (p104.2.2.2.2.2 : (Nat → Int32))) else (((p104.2.1 : Int32).toInt ≤ 200000) ∧ (S_Wri_decimalText_c102_10 R x3 t0_0 t1_0 t2_0 t2_1 t3_0 t4_0 t4_1 t5_0 t6_0 t6_1 t7_0 t7_1 t8_0 p46 y39 f40 p70 p104 ((t6_1 - 1 : Int32) - t6_0 : Int32) (if 0 < t6_0 then t6_0 else 0 : Int32) (p104.1 : Int32) (p104.2.1 : Int32) (p104.2.2.1 : (Nat → Int32)) (p104.2.2.2.1 : Int32) (p104.2.2.2.2.1 : Int32) (p104.2.2.2.2.2 : (Nat → Int32)) ((F_Dig_writePlain (11008 : Int32) (1376 : Int32) (1000000 : Int32) (if 0 < t6_0 then t6_0 else 0 : Int32) (0 : Int32) (0 : Int32) (p104.1 : Int32) (p104.2.1 : Int32) (p104.2.2.1 : (Nat → Int32)) y39 f40) : (Int32 × (Nat → Int64))))))))
def S_Wri_decimalText_c22 (R : Int32) (x3 : Int32) (t0_0 : Int32) (t1_0 : (Nat → Int64)) (t2_0 : Int32) (t2_1 : Int32) (t3_0 : (Nat → Int32)) (t4_0 : Int32) (t4_1 : Int32) (t5_0 : (Nat → Int32)) (t6_0 : Int32) (t6_1 : Int32) (t7_0 : Int32) (t7_1 : Int32) (t8_0 : (Nat → Int32)) (p46 : (Int32 × (Nat → Int64))) (y39 : Int32) (f40 : (Nat → Int64)) (p70 : (Int32 × Int32 × (Nat → Int32))) : Prop := (True ∧ S_Dig_fill (220 : Int32) t6_0 t2_0 t2_1 t3_0 (p70.1 : Int32) (p70.2.1 : Int32) (p70.2.2 : (Nat → Int32))) ∧ (S_Wri_decimalText_c40 R x3 t0_0 t1_0 t2_0 t2_1 t3_0 t4_0 t4_1 t5_0 t6_0 t6_1 t7_0 t7_1 t8_0 p46 y39 f40 p70 ((F_Dig_fill (220 : Int32) t6_0 t2_0 t2_1 t3_0 (p70.1 : Int32) (p70.2.1 : Int32) (p70.2.2 : (Nat → Int32))) : (Int32 × Int32 × (Nat → Int32) × Int32 × Int32 × (Nat → Int32))))
def S_Wri_decimalText_c8 (R : Int32) (x3 : Int32) (t0_0 : Int32) (t1_0 : (Nat → Int64)) (t2_0 : Int32) (t2_1 : Int32) (t3_0 : (Nat → Int32)) (t4_0 : Int32) (t4_1 : Int32) (t5_0 : (Nat → Int32)) (t6_0 : Int32) (t6_1 : Int32) (t7_0 : Int32) (t7_1 : Int32) (t8_0 : (Nat → Int32)) (p46 : (Int32 × (Nat → Int64))) : Prop := S_Wri_decimalText_c22 R x3 t0_0 t1_0 t2_0 t2_1 t3_0 t4_0 t4_1 t5_0 t6_0 t6_1 t7_0 t7_1 t8_0 p46 (p46.1 : Int32) (p46.2 : (Nat → Int64)) ((F_Big_copy (220 : Int32) R t4_0 t4_1 t5_0 t7_0 t7_1 t8_0) : (Int32 × Int32 × (Nat → Int32)))
def S_Wri_decimalText (R : Int32) (x3 : Int32) (t0_0 : Int32) (t1_0 : (Nat → Int64)) (t2_0 : Int32) (t2_1 : Int32) (t3_0 : (Nat → Int32)) (t4_0 : Int32) (t4_1 : Int32) (t5_0 : (Nat → Int32)) (t6_0 : Int32) (t6_1 : Int32) (t7_0 : Int32) (t7_1 : Int32) (t8_0 : (Nat → Int32)) : Prop := S_Wri_decimalText_c8 R x3 t0_0 t1_0 t2_0 t2_1 t3_0 t4_0 t4_1 t5_0 t6_0 t6_1 t7_0 t7_1 t8_0 ((F_Wri_begin_p t7_1 t0_0 t1_0) : (Int32 × (Nat → Int64)))
set_option maxRecDepth 100000 in
set_option maxHeartbeats 4000000 in
theorem X_Wri_decimalText (l : Launch) (D : va_G) (g : Nat → ClassId) (q : Nat → Nat) (ws : va_W) (k2 : Nat) (R : Int32) (hB2 : q_isDec (nsh g q) g q k2 R) (zk2 : (10 ≤ k2 ∧ k2 ≤ 31) ∨ 66 ≤ k2) (x3 : Int32) (ne_k2_10 : k2 ≠ 10) (ne_k2_11 : k2 ≠ 11) (ne_k2_9 : k2 ≠ 9) (ne_k2_8 : k2 ≠ 8) (ne_k2_3 : k2 ≠ 3) (ne_k2_4 : k2 ≠ 4) (ne_k2_2 : k2 ≠ 2) (ne_k2_1 : k2 ≠ 1) (ne_k2_36 : k2 ≠ 36) (ne_k2_37 : k2 ≠ 37) (ne_k2_35 : k2 ≠ 35) (ne_k2_34 : k2 ≠ 34) (hI : q_I (nsh g q) q ws) (t0_0 : Int32) (hT0 : ws[3]? = (some (q 3, .inr (1, [.ref (q 4), .int 11008, .int t0_0])) : Option (Nat × va_E))) (t1_0 : (Nat → Int64)) (hT1 : ws[4]? = (some (q 4, .inl (g 1, (1376 : Int32).toNatClampNeg, .inr (.inl t1_0))) : Option (Nat × va_E))) (t2_0 : Int32) (t2_1 : Int32) (hT2 : ws[36]? = (some (q 36, .inr (7, [.int t2_0, .int t2_1, .ref (q 37)])) : Option (Nat × va_E))) (t3_0 : (Nat → Int32)) (hT3 : ws[37]? = (some (q 37, .inl (g 2, 1026, .inl t3_0)) : Option (Nat × va_E))) (t4_0 : Int32) (t4_1 : Int32) (hT4 : ws[10]? = (some (q 10, .inr (2, [.ref (q 11), .int t4_0, .int t4_1])) : Option (Nat × va_E))) (t5_0 : (Nat → Int32)) (hT5 : ws[11]? = (some (q 11, .inl (g 0, (220 : Int32).toNatClampNeg, .inl t5_0)) : Option (Nat × va_E))) (t6_0 : Int32) (t6_1 : Int32) (hT6 : ws[k2]? = (some (q k2, .inr (3, [.ref (q (k2 + 1)), .int t6_0, .int t6_1])) : Option (Nat × va_E))) (t7_0 : Int32) (t7_1 : Int32) (hT7 : ws[k2 + 1]? = (some (q (k2 + 1), .inr (2, [.ref (q (k2 + 2)), .int t7_0, .int t7_1])) : Option (Nat × va_E))) (t8_0 : (Nat → Int32)) (hT8 : ws[k2 + 2]? = (some (q (k2 + 2), .inl (g 0, R.toNatClampNeg, .inl t8_0)) : Option (Nat × va_E))) (hS : True ∧ S_Wri_decimalText R x3 t0_0 t1_0 t2_0 t2_1 t3_0 t4_0 t4_1 t5_0 t6_0 t6_1 t7_0 t7_1 t8_0) : q_mV l y_Wri_decimalText prog_12_method_3_code 5 5 0 0 D g [.ref (q 39), .ref (q k2), .int x3] ws (fun u => q_I (nsh g q) q u ∧ q_un ws u [3, 4, 10, 11, 36, 37] ∧ ∃ (u0_0 : Int32) (u1_0 : (Nat → Int64)) (u2_0 : Int32) (u2_1 : Int32) (u3_0 : (Nat → Int32)) (u4_0 : Int32) (u4_1 : Int32) (u5_0 : (Nat → Int32)), u[3]? = (some (q 3, .inr (1, [.ref (q 4), .int 11008, .int u0_0])) : Option (Nat × va_E)) ∧ u[4]? = (some (q 4, .inl (g 1, (1376 : Int32).toNatClampNeg, .inr (.inl u1_0))) : Option (Nat × va_E)) ∧ u[36]? = (some (q 36, .inr (7, [.int u2_0, .int u2_1, .ref (q 37)])) : Option (Nat × va_E)) ∧ u[37]? = (some (q 37, .inl (g 2, 1026, .inl u3_0)) : Option (Nat × va_E)) ∧ u[10]? = (some (q 10, .inr (2, [.ref (q 11), .int u4_0, .int u4_1])) : Option (Nat × va_E)) ∧ u[11]? = (some (q 11, .inl (g 0, (220 : Int32).toNatClampNeg, .inl u5_0)) : Option (Nat × va_E)) ∧ (0 ≤ u2_0.toInt) ∧ (u2_0.toInt ≤ 1026) ∧ (0 ≤ u2_1.toInt + 1000000) ∧ (u2_1.toInt ≤ 1000000) ∧ (0 ≤ u4_0.toInt) ∧ (0 ≤ u4_1.toInt) ∧ (t7_1.toInt ≤ u0_0.toInt) ∧ (u0_0.toInt ≤ t7_1.toInt + 420003) ∧ (u4_0.toInt ≤ t7_0.toInt) ∧ (u4_1.toInt ≤ t7_1.toInt) ∧ (u2_1.toInt ≤ u2_0.toInt + 999999) ∧ (u0_0, u1_0, u2_0, u2_1, u3_0, u4_0, u4_1, u5_0) = (F_Wri_decimalText R x3 t0_0 t1_0 t2_0 t2_1 t3_0 t4_0 t4_1 t5_0 t6_0 t6_1 t7_0 t7_1 t8_0)) := by
  intro sz
  refine q_into (by decide) (Nat.le_of_ble_eq_true rfl) ?_
  intro p e s m below meth c ls hsz C0 V hl
  have hx := C0.1
  have hb := C0.2.1
  have btt0_0 := n_shW hI (n_h3 g q) hT0
  clear btt0_0
  have btt2_1 := (n_w36 hI hT2).2
  clear btt2_1
  have btt4_1 := (q_bigW hI (n_b10 g q) hT4).2
  clear btt4_1
  obtain ⟨btt6_0, btt6_1⟩ := n_deW hI hB2 hT6
  replace btt6_0 : q_F (-10000 ≤ t6_0.toInt ∧ t6_0.toInt ≤ 10000) := btt6_0
  replace btt6_1 : q_F (1 ≤ t6_1.toInt ∧ t6_1.toInt ≤ 1000) := btt6_1
  have btt7_1 := (q_bigW hI hB2.2 hT7).2
  replace btt7_1 : q_F (0 ≤ t7_1.toInt ∧ t7_1.toInt ≤ 1) := btt7_1
  have hF : q_un ws ws [3, 4, 10, 11, 36, 37] := q_u0
  have hl : lv_has ls 5 [(0, .ref (q 39)), (1, .ref (q k2)), (2, .int x3)] := hl
  refine lv_aload_n hx hb d_12_3_0 rfl (lv_at hl 0 rfl) ?_
  refine lv_aload_n hx hb d_12_3_1 rfl (lv_at hl 1 rfl) ?_
  refine q_get (ci := 3) (j := 0) (v := .ref (q (k2 + 1))) C0 V i_Dec rfl rfl hT6 (by decide) w_173 rfl d_12_3_2 ?_
  refine q_get (ci := 2) (j := 2) (v := .int t7_1) C0 V i_Big rfl rfl hT7 (by decide) w_93 rfl d_12_3_5 ?_
  have hO35 := n_o39 hI
  refine q_gov V (q_runV (As := [.int t7_1]) (rest := []) (d := 2) (mc := 0) (ms := 0) (ci := 9) C0 V rfl LV_Wri_27 (X_Wri_begin_p l D g q ws  t7_1 hI t0_0 hT0 t1_0 hT1 (by first | with_reducible exact q_fe btt7_1 | exact ⟨(by have t1 : 0 ≤ t7_1.toInt ∧ t7_1.toInt ≤ 1 := btt7_1; omega), (by have t1 : 0 ≤ t7_1.toInt ∧ t7_1.toInt ≤ 1 := btt7_1; omega)⟩) _) rfl rfl hO35 rfl hl.1 rfl (Nat.le_of_ble_eq_true rfl) ⟨by decide, by decide⟩ ⟨Nat.le_of_ble_eq_true rfl, Nat.le_of_ble_eq_true rfl⟩ d_12_3_8) (fun u36 H locs hp37 V => ?_)
  obtain ⟨hI, hZ9⟩ := hp37
  obtain ⟨hu45, hZ9⟩ := hZ9
  obtain ⟨y39, hZ9⟩ := hZ9
  obtain ⟨f40, hZ9⟩ := hZ9
  obtain ⟨hO38, hZ9⟩ := hZ9
  obtain ⟨hA41, hZ9⟩ := hZ9
  obtain ⟨b42, hZ9⟩ := hZ9
  obtain ⟨b43, hE44⟩ := hZ9
  replace hO38 : u36[3]? = (some (q 3, .inr (1, [.ref (q 4), .int 11008, .int y39])) : Option (Nat × va_E)) := hO38
  replace hA41 : u36[4]? = (some (q 4, .inl (g 1, (1376 : Int32).toNatClampNeg, .inr (.inl f40))) : Option (Nat × va_E)) := hA41
  obtain ⟨p46, e47⟩ : ∃ z, z = (F_Wri_begin_p t7_1 t0_0 t1_0) := ⟨_, rfl⟩
  have e48 : y39 = p46.1 := congrArg (fun z => z.1) (hE44.trans e47.symm)
  have e49 : f40 = p46.2 := congrArg (fun z => z.2) (hE44.trans e47.symm)
  replace b42 : q_F (t7_1.toInt ≤ y39.toInt) := b42
  replace b43 : q_F (y39.toInt ≤ t7_1.toInt) := b43
  replace hT2 := (hu45 _ (by decide)).trans hT2
  replace hT3 := (hu45 _ (by decide)).trans hT3
  replace hT4 := (hu45 _ (by decide)).trans hT4
  replace hT5 := (hu45 _ (by decide)).trans hT5
  replace hT6 := (hu45 _ (by have z0 := zk2; simp only [List.mem_cons, List.not_mem_nil, or_false, not_or]; omega)).trans hT6
  replace hT7 := (hu45 _ (by have z0 := zk2; simp only [List.mem_cons, List.not_mem_nil, or_false, not_or]; omega)).trans hT7
  replace hT8 := (hu45 _ (by have z0 := zk2; simp only [List.mem_cons, List.not_mem_nil, or_false, not_or]; omega)).trans hT8
  replace hO35 := (hu45 _ (by decide)).trans hO35
  replace hF := q_uc hF hu45 (by first | exact (q_sk (q_mi 0 rfl) (q_sk (q_mi 1 rfl) q_s0)) | simp)
  have hR50 := (show F_Wri_decimalText_c8 R x3 t0_0 t1_0 t2_0 t2_1 t3_0 t4_0 t4_1 t5_0 t6_0 t6_1 t7_0 t7_1 t8_0 p46 = (F_Wri_decimalText R x3 t0_0 t1_0 t2_0 t2_1 t3_0 t4_0 t4_1 t5_0 t6_0 t6_1 t7_0 t7_1 t8_0) from (by rw [e47, F_Wri_decimalText.eq_1]))
  have hS51 := (show True ∧ S_Wri_decimalText_c8 R x3 t0_0 t1_0 t2_0 t2_1 t3_0 t4_0 t4_1 t5_0 t6_0 t6_1 t7_0 t7_1 t8_0 p46 from (by rw [e47]; have h := hS; rw [S_Wri_decimalText.eq_1] at h; with_reducible exact h))
  refine lv_aload_n hx hb d_12_3_11 rfl (lv_at hl 0 rfl) ?_
  refine q_get (ci := 9) (j := 1) (v := .ref (q 9)) C0 V i_Wri rfl rfl hO35 (by decide) w_330 rfl d_12_3_12 ?_
  have hO55 := n_o9 hI
  refine q_get (ci := 4) (j := 0) (v := .ref (q 10)) C0 V i_Mil rfl rfl hO55 (by decide) w_110 rfl d_12_3_15 ?_
  refine lv_aload_n hx hb d_12_3_18 rfl (lv_at hl 1 rfl) ?_
  refine q_get (ci := 3) (j := 0) (v := .ref (q (k2 + 1))) C0 V i_Dec rfl rfl hT6 (by decide) w_173 rfl d_12_3_19 ?_
  refine q_gov V (q_runV (As := [.ref (q (k2 + 1))]) (rest := []) (d := 2) (mc := 0) (ms := 0) (ci := 2) C0 V rfl LV_Wri_45 (X_Big_copy l D g q u36 10 220 (n_b10 g q) (by decide) (k2 + 1) R hB2.2 (by have z := zk2; omega)  (by have z := ne_k2_9; omega) hI t4_0 t4_1 hT4 t5_0 hT5 t7_0 t7_1 hT7 t8_0 hT8  _) rfl rfl hT4 rfl hl.1 rfl (Nat.le_of_ble_eq_true rfl) ⟨by decide, by decide⟩ ⟨Nat.le_of_ble_eq_true rfl, Nat.le_of_ble_eq_true rfl⟩ d_12_3_22) (fun u56 H locs hp57 V => ?_)
  obtain ⟨hI, hZ9⟩ := hp57
  obtain ⟨hu69, hZ9⟩ := hZ9
  obtain ⟨y59, hZ9⟩ := hZ9
  obtain ⟨y60, hZ9⟩ := hZ9
  obtain ⟨f61, hZ9⟩ := hZ9
  obtain ⟨hO58, hZ9⟩ := hZ9
  obtain ⟨hA62, hZ9⟩ := hZ9
  replace hZ9 := hZ9.2
  obtain ⟨b64, hZ9⟩ := hZ9
  replace hZ9 := hZ9.2.2
  obtain ⟨b67, hE68⟩ := hZ9
  replace hO58 : u56[10]? = (some (q 10, .inr (2, [.ref (q 11), .int y59, .int y60])) : Option (Nat × va_E)) := hO58
  replace hA62 : u56[11]? = (some (q 11, .inl (g 0, (220 : Int32).toNatClampNeg, .inl f61)) : Option (Nat × va_E)) := hA62
  obtain ⟨p70, e71⟩ : ∃ z, z = (F_Big_copy (220 : Int32) R t4_0 t4_1 t5_0 t7_0 t7_1 t8_0) := ⟨_, rfl⟩
  have e72 : y59 = p70.1 := congrArg (fun z => z.1) (hE68.trans e71.symm)
  have e73 : y60 = p70.2.1 := congrArg (fun z => z.2.1) (hE68.trans e71.symm)
  have e74 : f61 = p70.2.2 := congrArg (fun z => z.2.2) (hE68.trans e71.symm)
  replace b64 : q_F (y59.toInt ≤ t7_0.toInt) := b64
  replace b67 : q_F (y60.toInt ≤ t7_1.toInt) := b67
  replace hO38 := (hu69 _ (by decide)).trans hO38
  replace hA41 := (hu69 _ (by decide)).trans hA41
  replace hT2 := (hu69 _ (by decide)).trans hT2
  replace hT3 := (hu69 _ (by decide)).trans hT3
  replace hT6 := (hu69 _ (by have z0 := zk2; simp only [List.mem_cons, List.not_mem_nil, or_false, not_or]; omega)).trans hT6
  replace hO35 := (hu69 _ (by decide)).trans hO35
  replace hO55 := (hu69 _ (by decide)).trans hO55
  replace hF := q_uc hF hu69 (by first | exact (q_sk (q_mi 2 rfl) (q_sk (q_mi 3 rfl) q_s0)) | simp)
  have hR75 := (show F_Wri_decimalText_c22 R x3 t0_0 t1_0 t2_0 t2_1 t3_0 t4_0 t4_1 t5_0 t6_0 t6_1 t7_0 t7_1 t8_0 p46 y39 f40 p70 = (F_Wri_decimalText R x3 t0_0 t1_0 t2_0 t2_1 t3_0 t4_0 t4_1 t5_0 t6_0 t6_1 t7_0 t7_1 t8_0) from Eq.trans (by rw [e71, e49, e48, F_Wri_decimalText_c8.eq_1]) hR50)
  have hS76 := (show True ∧ S_Wri_decimalText_c22 R x3 t0_0 t1_0 t2_0 t2_1 t3_0 t4_0 t4_1 t5_0 t6_0 t6_1 t7_0 t7_1 t8_0 p46 y39 f40 p70 from (by rw [e71, e49, e48]; have h := hS51; rw [S_Wri_decimalText_c8.eq_1] at h; with_reducible exact h))
  refine lv_aload_n hx hb d_12_3_25 rfl (lv_at hl 0 rfl) ?_
  refine q_get (ci := 9) (j := 2) (v := .ref (q 36)) C0 V i_Wri rfl rfl hO35 (by decide) w_331 rfl d_12_3_26 ?_
  refine lv_aload_n hx hb d_12_3_29 rfl (lv_at hl 0 rfl) ?_
  refine q_get (ci := 9) (j := 1) (v := .ref (q 9)) C0 V i_Wri rfl rfl hO35 (by decide) w_330 rfl d_12_3_30 ?_
  refine q_get (ci := 4) (j := 0) (v := .ref (q 10)) C0 V i_Mil rfl rfl hO55 (by decide) w_110 rfl d_12_3_33 ?_
  refine lv_aload_n hx hb d_12_3_36 rfl (lv_at hl 1 rfl) ?_
  refine q_get (ci := 3) (j := 1) (v := .int t6_0) C0 V i_Dec rfl rfl hT6 (by decide) w_177 rfl d_12_3_37 ?_
  have ob80 : True ∧ S_Dig_fill (220 : Int32) t6_0 t2_0 t2_1 t3_0 y59 y60 f61 := (by rw [e74, e73, e72]; have h := hS76; rw [S_Wri_decimalText_c22.eq_1] at h; with_reducible exact h.2.1)
  refine q_gov V (q_runV (As := [.ref (q 10), .int t6_0]) (rest := []) (d := 3) (mc := 0) (ms := 0) (ci := 7) C0 V rfl LV_Wri_75 (X_Dig_fill l D g q u56 10 220 (n_b10 g q) (by decide) t6_0 hI t2_0 t2_1 hT2 t3_0 hT3 y59 y60 hO58 f61 hA62 ob80 _) rfl rfl hT2 rfl hl.1 rfl (Nat.le_of_ble_eq_true rfl) ⟨by decide, by decide⟩ ⟨Nat.le_of_ble_eq_true rfl, Nat.le_of_ble_eq_true rfl⟩ d_12_3_40) (fun u81 H locs hp82 V => ?_)
  obtain ⟨hI, hZ9⟩ := hp82
  obtain ⟨hu103, hZ9⟩ := hZ9
  obtain ⟨y84, hZ9⟩ := hZ9
  obtain ⟨y85, hZ9⟩ := hZ9
  obtain ⟨f86, hZ9⟩ := hZ9
  obtain ⟨y89, hZ9⟩ := hZ9
  obtain ⟨y90, hZ9⟩ := hZ9
  obtain ⟨f91, hZ9⟩ := hZ9
  obtain ⟨hO83, hZ9⟩ := hZ9
  obtain ⟨hA87, hZ9⟩ := hZ9
  obtain ⟨hO88, hZ9⟩ := hZ9
  obtain ⟨hA92, hZ9⟩ := hZ9
  obtain ⟨b93, hZ9⟩ := hZ9
  obtain ⟨b94, hZ9⟩ := hZ9
  obtain ⟨b95, hZ9⟩ := hZ9
  obtain ⟨b96, hZ9⟩ := hZ9
  obtain ⟨b97, hZ9⟩ := hZ9
  obtain ⟨b98, hZ9⟩ := hZ9
  obtain ⟨b99, hZ9⟩ := hZ9
  obtain ⟨b100, hZ9⟩ := hZ9
  obtain ⟨b101, hE102⟩ := hZ9
  replace hO83 : u81[36]? = (some (q 36, .inr (7, [.int y84, .int y85, .ref (q 37)])) : Option (Nat × va_E)) := hO83
  replace hA87 : u81[37]? = (some (q 37, .inl (g 2, 1026, .inl f86)) : Option (Nat × va_E)) := hA87
  replace hO88 : u81[10]? = (some (q 10, .inr (2, [.ref (q 11), .int y89, .int y90])) : Option (Nat × va_E)) := hO88
  replace hA92 : u81[11]? = (some (q 11, .inl (g 0, (220 : Int32).toNatClampNeg, .inl f91)) : Option (Nat × va_E)) := hA92
  obtain ⟨p104, e105⟩ : ∃ z, z = (F_Dig_fill (220 : Int32) t6_0 t2_0 t2_1 t3_0 y59 y60 f61) := ⟨_, rfl⟩
  have e106 : y84 = p104.1 := congrArg (fun z => z.1) (hE102.trans e105.symm)
  have e107 : y85 = p104.2.1 := congrArg (fun z => z.2.1) (hE102.trans e105.symm)
  have e108 : f86 = p104.2.2.1 := congrArg (fun z => z.2.2.1) (hE102.trans e105.symm)
  have e109 : y89 = p104.2.2.2.1 := congrArg (fun z => z.2.2.2.1) (hE102.trans e105.symm)
  have e110 : y90 = p104.2.2.2.2.1 := congrArg (fun z => z.2.2.2.2.1) (hE102.trans e105.symm)
  have e111 : f91 = p104.2.2.2.2.2 := congrArg (fun z => z.2.2.2.2.2) (hE102.trans e105.symm)
  replace b93 : q_F (0 ≤ y84.toInt) := b93
  replace b94 : q_F (y84.toInt ≤ 1026) := b94
  replace b95 : q_F (0 ≤ y85.toInt + 1000000) := b95
  replace b96 : q_F (y85.toInt ≤ 1000000) := b96
  replace b97 : q_F (0 ≤ y89.toInt) := b97
  replace b98 : q_F (0 ≤ y90.toInt) := b98
  replace b99 : q_F (y89.toInt ≤ y59.toInt) := b99
  replace b100 : q_F (y90.toInt ≤ y60.toInt) := b100
  replace b101 : q_F (y85.toInt ≤ y84.toInt + 999999) := b101
  replace hO38 := (hu103 _ (by decide)).trans hO38
  replace hA41 := (hu103 _ (by decide)).trans hA41
  replace hT6 := (hu103 _ (by have z0 := zk2; simp only [List.mem_cons, List.not_mem_nil, or_false, not_or]; omega)).trans hT6
  replace hO35 := (hu103 _ (by decide)).trans hO35
  replace hF := q_uc hF hu103 (by first | exact (q_sk (q_mi 4 rfl) (q_sk (q_mi 5 rfl) (q_sk (q_mi 2 rfl) (q_sk (q_mi 3 rfl) q_s0)))) | simp)
  have hR112 := (show F_Wri_decimalText_c40 R x3 t0_0 t1_0 t2_0 t2_1 t3_0 t4_0 t4_1 t5_0 t6_0 t6_1 t7_0 t7_1 t8_0 p46 y39 f40 p70 p104 = (F_Wri_decimalText R x3 t0_0 t1_0 t2_0 t2_1 t3_0 t4_0 t4_1 t5_0 t6_0 t6_1 t7_0 t7_1 t8_0) from Eq.trans (by rw [e105, e74, e73, e72, F_Wri_decimalText_c22.eq_1]) hR75)
  have hS113 := (show True ∧ S_Wri_decimalText_c40 R x3 t0_0 t1_0 t2_0 t2_1 t3_0 t4_0 t4_1 t5_0 t6_0 t6_1 t7_0 t7_1 t8_0 p46 y39 f40 p70 p104 from (by rw [e105, e74, e73, e72]; have h := hS76; rw [S_Wri_decimalText_c22.eq_1] at h; replace h := q_s2 h; with_reducible exact h))
  refine lv_iconst (v := 0) hx hb d_12_3_43 (by decide) ?_
  refine lv_aload_n hx hb d_12_3_44 rfl (lv_at hl 1 rfl) ?_
  refine q_get (ci := 3) (j := 1) (v := .int t6_0) C0 V i_Dec rfl rfl hT6 (by decide) w_177 rfl d_12_3_45 ?_
  refine q_max C0 hl.1 rfl w_1566 w_803 w_7 w_804 ⟨Nat.le_of_ble_eq_true rfl, Nat.le_of_ble_eq_true rfl⟩ ⟨Nat.le_of_ble_eq_true rfl, Nat.le_of_ble_eq_true rfl⟩ d_12_3_48 ?_
  obtain ⟨a117, e118⟩ := q_nm (if 0 < t6_0 then t6_0 else 0 : Int32)
  refine q_ti (v := a117) e118 ?_
  have b119 : q_F (0 ≤ a117.toInt ∧ t6_0.toInt ≤ a117.toInt ∧ (a117.toInt = 0 ∨ a117.toInt = t6_0.toInt)) := (by rw [← e118]; show 0 ≤ (if 0 < t6_0 then t6_0 else 0 : Int32).toInt ∧ t6_0.toInt ≤ (if 0 < t6_0 then t6_0 else 0 : Int32).toInt ∧ ((if 0 < t6_0 then t6_0 else 0 : Int32).toInt = 0 ∨ (if 0 < t6_0 then t6_0 else 0 : Int32).toInt = t6_0.toInt); exact (by have y0 : (0 : Int32).toInt = 0 := rfl; have z := s_max (a := 0) (b := t6_0); omega))
  refine lv_istore_n (lv' := [(3, .int a117), (0, .ref (q 39)), (1, .ref (q k2)), (2, .int x3)]) hx hb d_12_3_51 rfl hl (by decide) rfl (fun ls hl => ?_)
  refine lv_aload_n hx hb d_12_3_52 rfl (lv_at hl 2 rfl) ?_
  refine q_get (ci := 3) (j := 2) (v := .int t6_1) C0 V i_Dec rfl rfl hT6 (by decide) w_181 rfl d_12_3_53 ?_
  refine lv_iconst (v := 1) hx hb d_12_3_56 (by decide) ?_
  refine lv_isub hx hb d_12_3_57 ?_
  obtain ⟨a120, e121⟩ := q_nm (t6_1 - 1 : Int32)
  refine q_ti (v := a120) e121 ?_
  have b122 : q_F (a120.toInt = t6_1.toInt - 1) := (by rw [← e121]; show (t6_1 - 1 : Int32).toInt = t6_1.toInt - 1; exact q_subI (x := t6_1.toInt) (y := 1) rfl (by decide) (by first | with_reducible exact (q_fe btt6_1).2 | with_reducible exact (q_fe btt6_1).1 | (have t1 : 1 ≤ t6_1.toInt ∧ t6_1.toInt ≤ 1000 := btt6_1; omega)) (by first | with_reducible exact (q_fe btt6_1).2 | with_reducible exact (q_fe btt6_1).1 | (have t1 : 1 ≤ t6_1.toInt ∧ t6_1.toInt ≤ 1000 := btt6_1; omega)))
  refine lv_aload_n hx hb d_12_3_58 rfl (lv_at hl 2 rfl) ?_
  refine q_get (ci := 3) (j := 1) (v := .int t6_0) C0 V i_Dec rfl rfl hT6 (by decide) w_177 rfl d_12_3_59 ?_
  refine lv_isub hx hb d_12_3_62 ?_
  obtain ⟨a123, e124⟩ := q_nm (a120 - t6_0 : Int32)
  refine q_ti (v := a123) e124 ?_
  have b125 : q_F (a123.toInt = a120.toInt - t6_0.toInt) := (by rw [← e124]; show (a120 - t6_0 : Int32).toInt = a120.toInt - t6_0.toInt; exact q_subI (x := a120.toInt) (y := t6_0.toInt) rfl rfl (by have t1 : -10000 ≤ t6_0.toInt ∧ t6_0.toInt ≤ 10000 := btt6_0; have t2 : 1 ≤ t6_1.toInt ∧ t6_1.toInt ≤ 1000 := btt6_1; have t3 : a120.toInt = t6_1.toInt - 1 := b122; omega) (by have t1 : -10000 ≤ t6_0.toInt ∧ t6_0.toInt ≤ 10000 := btt6_0; have t2 : 1 ≤ t6_1.toInt ∧ t6_1.toInt ≤ 1000 := btt6_1; have t3 : a120.toInt = t6_1.toInt - 1 := b122; omega))
  refine lv_istore (lv' := [(4, .int a123), (3, .int a117), (0, .ref (q 39)), (1, .ref (q k2)), (2, .int x3)]) hx hb d_12_3_63 hl (by decide) rfl (fun ls hl => ?_)
  refine lv_iload_n hx hb d_12_3_65 rfl (lv_at hl 4 rfl) ?_
  refine lv_iconst (v := 1) hx hb d_12_3_66 (by decide) ?_
  refine lv_icmp_eq (tgt := 91) hx hb d_12_3_67 (by decide) (fun c126 => ?_) (fun c126 => ?_)
  ·
    refine lv_aload_n hx hb d_12_3_91 rfl (lv_at hl 2 rfl) ?_
    refine q_get (ci := 9) (j := 2) (v := .ref (q 36)) C0 V i_Wri rfl rfl hO35 (by decide) w_331 rfl d_12_3_92 ?_
    refine lv_aload_n hx hb d_12_3_95 rfl (lv_at hl 2 rfl) ?_
    refine q_get (ci := 9) (j := 0) (v := .ref (q 3)) C0 V i_Wri rfl rfl hO35 (by decide) w_329 rfl d_12_3_96 ?_
    refine lv_iload_n hx hb d_12_3_99 rfl (lv_at hl 1 rfl) ?_
    refine lv_iconst (v := 0) hx hb d_12_3_100 (by decide) ?_
    refine lv_iconst (v := 0) hx hb d_12_3_101 (by decide) ?_
    have ob128 : q_F (y85.toInt ≤ 200000) := (by rw [e107]; have h := hS113; rw [S_Wri_decimalText_c40.eq_1] at h; rw [if_pos c126] at h; exact h.2.1)
    refine q_gov V (q_runV (As := [.ref (q 3), .int a117, .int 0, .int 0]) (rest := []) (d := 2) (mc := 0) (ms := 0) (ci := 7) C0 V rfl LV_Wri_90 (X_Dig_writePlain l D g q u81 3 11008 1376 1000000 (n_h3 g q) a117 0 0 hI y84 y85 hO83 f86 hA87 y39 hO38 f40 hA41 ⟨(by have y0 : (11008 : Int32).toInt = 11008 := rfl; have y1 : (1376 : Int32).toInt = 1376 := rfl; have y2 : (1000000 : Int32).toInt = 1000000 := rfl; have y3 : (0 : Int32).toInt = 0 := rfl; have y4 : (0 : Int32).toInt = 0 := rfl; omega), (by have y0 : (11008 : Int32).toInt = 11008 := rfl; have y1 : (1376 : Int32).toInt = 1376 := rfl; have y2 : (1000000 : Int32).toInt = 1000000 := rfl; have y3 : (0 : Int32).toInt = 0 := rfl; have y4 : (0 : Int32).toInt = 0 := rfl; omega)⟩ ⟨(by have y0 : (11008 : Int32).toInt = 11008 := rfl; have y1 : (1376 : Int32).toInt = 1376 := rfl; have y2 : (1000000 : Int32).toInt = 1000000 := rfl; have y3 : (0 : Int32).toInt = 0 := rfl; have y4 : (0 : Int32).toInt = 0 := rfl; omega), (by have y0 : (11008 : Int32).toInt = 11008 := rfl; have y1 : (1376 : Int32).toInt = 1376 := rfl; have y2 : (1000000 : Int32).toInt = 1000000 := rfl; have y3 : (0 : Int32).toInt = 0 := rfl; have y4 : (0 : Int32).toInt = 0 := rfl; omega)⟩ (by have y0 : (11008 : Int32).toInt = 11008 := rfl; have y1 : (1376 : Int32).toInt = 1376 := rfl; have y2 : (1000000 : Int32).toInt = 1000000 := rfl; have y3 : (0 : Int32).toInt = 0 := rfl; have y4 : (0 : Int32).toInt = 0 := rfl; have t1 : y85.toInt ≤ 200000 := ob128; omega) (by have y0 : (11008 : Int32).toInt = 11008 := rfl; have y1 : (1376 : Int32).toInt = 1376 := rfl; have y2 : (1000000 : Int32).toInt = 1000000 := rfl; have y3 : (0 : Int32).toInt = 0 := rfl; have y4 : (0 : Int32).toInt = 0 := rfl; have t1 : -10000 ≤ t6_0.toInt ∧ t6_0.toInt ≤ 10000 := btt6_0; have t2 : 0 ≤ a117.toInt ∧ t6_0.toInt ≤ a117.toInt ∧ (a117.toInt = 0 ∨ a117.toInt = t6_0.toInt) := b119; omega) (by have y0 : (11008 : Int32).toInt = 11008 := rfl; have y1 : (1376 : Int32).toInt = 1376 := rfl; have y2 : (1000000 : Int32).toInt = 1000000 := rfl; have y3 : (0 : Int32).toInt = 0 := rfl; have y4 : (0 : Int32).toInt = 0 := rfl; have t1 : 0 ≤ t7_1.toInt ∧ t7_1.toInt ≤ 1 := btt7_1; have t2 : y39.toInt ≤ t7_1.toInt := b43; omega) (by have y0 : (11008 : Int32).toInt = 11008 := rfl; have y1 : (1376 : Int32).toInt = 1376 := rfl; have y2 : (1000000 : Int32).toInt = 1000000 := rfl; have y3 : (0 : Int32).toInt = 0 := rfl; have y4 : (0 : Int32).toInt = 0 := rfl; omega) _) rfl rfl hO83 rfl hl.1 rfl (Nat.le_of_ble_eq_true rfl) ⟨by decide, by decide⟩ ⟨Nat.le_of_ble_eq_true rfl, Nat.le_of_ble_eq_true rfl⟩ d_12_3_102) (fun u129 H locs hp130 V => ?_)
    obtain ⟨hI, hZ9⟩ := hp130
    obtain ⟨hu142, hZ9⟩ := hZ9
    obtain ⟨y132, hZ9⟩ := hZ9
    obtain ⟨f133, hZ9⟩ := hZ9
    obtain ⟨hO131, hZ9⟩ := hZ9
    obtain ⟨hA134, hZ9⟩ := hZ9
    replace hZ9 := hZ9.2
    obtain ⟨b136, hZ9⟩ := hZ9
    replace hZ9 := hZ9.2.2.2
    obtain ⟨b140, hE141⟩ := hZ9
    replace hO131 : u129[3]? = (some (q 3, .inr (1, [.ref (q 4), .int 11008, .int y132])) : Option (Nat × va_E)) := hO131
    replace hA134 : u129[4]? = (some (q 4, .inl (g 1, (1376 : Int32).toNatClampNeg, .inr (.inl f133))) : Option (Nat × va_E)) := hA134
    obtain ⟨p143, e144⟩ : ∃ z, z = (F_Dig_writePlain (11008 : Int32) (1376 : Int32) (1000000 : Int32) a117 (0 : Int32) (0 : Int32) y84 y85 f86 y39 f40) := ⟨_, rfl⟩
    have e145 : y132 = p143.1 := congrArg (fun z => z.1) (hE141.trans e144.symm)
    have e146 : f133 = p143.2 := congrArg (fun z => z.2) (hE141.trans e144.symm)
    replace b136 : q_F (0 + 1 ≤ y132.toInt) := b136
    replace b140 : q_F (y132.toInt ≤ y39.toInt + 420003) := b140
    replace hO83 := (hu142 _ (by decide)).trans hO83
    replace hA87 := (hu142 _ (by decide)).trans hA87
    replace hO88 := (hu142 _ (by decide)).trans hO88
    replace hA92 := (hu142 _ (by decide)).trans hA92
    replace hF := q_uc hF hu142 (by first | exact (q_sk (q_mi 0 rfl) (q_sk (q_mi 1 rfl) q_s0)) | simp)
    have hR147 := (show F_Wri_decimalText_c102 R x3 t0_0 t1_0 t2_0 t2_1 t3_0 t4_0 t4_1 t5_0 t6_0 t6_1 t7_0 t7_1 t8_0 p46 y39 f40 p70 p104 a123 a117 y84 y85 f86 y89 y90 f91 p143 = (F_Wri_decimalText R x3 t0_0 t1_0 t2_0 t2_1 t3_0 t4_0 t4_1 t5_0 t6_0 t6_1 t7_0 t7_1 t8_0) from Eq.trans (by rw [e144, ← e124, ← e121, ← e118, e111, e110, e109, e108, e107, e106, F_Wri_decimalText_c40.eq_1, if_pos c126]) hR112)
    have hS148 := (show True ∧ S_Wri_decimalText_c102 R x3 t0_0 t1_0 t2_0 t2_1 t3_0 t4_0 t4_1 t5_0 t6_0 t6_1 t7_0 t7_1 t8_0 p46 y39 f40 p70 p104 a123 a117 y84 y85 f86 y89 y90 f91 p143 from (by rw [e144, ← e124, ← e121, ← e118, e111, e110, e109, e108, e107, e106]; have h := hS113; rw [S_Wri_decimalText_c40.eq_1] at h; rw [if_pos c126] at h; replace h := q_s2 h; with_reducible exact h))
    refine lv_goto (tgt := 147) hx hb d_12_3_105 (by decide) ?_
    exact q_retv C0 V (⟨hI, hF, y132, f133, y84, y85, f86, y89, y90, f91, hO131, hA134, hO83, hA87, hO88, hA92, (show 0 ≤ y84.toInt from (by first | with_reducible exact q_fe b93 | (have t1 : 0 ≤ y84.toInt := b93; omega))), (show y84.toInt ≤ 1026 from (by first | with_reducible exact q_fe b94 | (have t1 : y84.toInt ≤ 1026 := b94; omega))), (show 0 ≤ y85.toInt + 1000000 from (by first | with_reducible exact q_fe b95 | (have t1 : 0 ≤ y85.toInt + 1000000 := b95; omega))), (show y85.toInt ≤ 1000000 from (by first | with_reducible exact q_fe b96 | (have t1 : y85.toInt ≤ 1000000 := b96; omega))), (show 0 ≤ y89.toInt from (by first | with_reducible exact q_fe b97 | (have t1 : 0 ≤ y89.toInt := b97; omega))), (show 0 ≤ y90.toInt from (by first | with_reducible exact q_fe b98 | (have t1 : 0 ≤ y90.toInt := b98; omega))), (show t7_1.toInt ≤ y132.toInt from (by have t1 : 0 ≤ t7_1.toInt ∧ t7_1.toInt ≤ 1 := btt7_1; have t2 : 0 + 1 ≤ y132.toInt := b136; omega)), (show y132.toInt ≤ t7_1.toInt + 420003 from (by have t1 : y39.toInt ≤ t7_1.toInt := b43; have t2 : y132.toInt ≤ y39.toInt + 420003 := b140; omega)), (show y89.toInt ≤ t7_0.toInt from (by have t1 : y59.toInt ≤ t7_0.toInt := b64; have t2 : y89.toInt ≤ y59.toInt := b99; omega)), (show y90.toInt ≤ t7_1.toInt from (by have t1 : y60.toInt ≤ t7_1.toInt := b67; have t2 : y90.toInt ≤ y60.toInt := b100; omega)), (show y85.toInt ≤ y84.toInt + 999999 from (by first | with_reducible exact q_fe b101 | (have t1 : y85.toInt ≤ y84.toInt + 999999 := b101; omega))), (show (y132, f133, y84, y85, f86, y89, y90, f91) = (F_Wri_decimalText R x3 t0_0 t1_0 t2_0 t2_1 t3_0 t4_0 t4_1 t5_0 t6_0 t6_1 t7_0 t7_1 t8_0) from Eq.trans (by rw [e146, e145, F_Wri_decimalText_c102.eq_1]) hR147)⟩) d_12_3_147
  ·
    refine lv_aload_n hx hb d_12_3_70 rfl (lv_at hl 3 rfl) ?_
    refine q_get (ci := 3) (j := 1) (v := .int t6_0) C0 V i_Dec rfl rfl hT6 (by decide) w_177 rfl d_12_3_71 ?_
    refine lv_if_eq (tgt := 91) hx hb d_12_3_74 (by decide) (fun c153 => ?_) (fun c153 => ?_)
    ·
      refine lv_aload_n hx hb d_12_3_91 rfl (lv_at hl 2 rfl) ?_
      refine q_get (ci := 9) (j := 2) (v := .ref (q 36)) C0 V i_Wri rfl rfl hO35 (by decide) w_331 rfl d_12_3_92 ?_
      refine lv_aload_n hx hb d_12_3_95 rfl (lv_at hl 2 rfl) ?_
      refine q_get (ci := 9) (j := 0) (v := .ref (q 3)) C0 V i_Wri rfl rfl hO35 (by decide) w_329 rfl d_12_3_96 ?_
      refine lv_iload_n hx hb d_12_3_99 rfl (lv_at hl 1 rfl) ?_
      refine lv_iconst (v := 0) hx hb d_12_3_100 (by decide) ?_
      refine lv_iconst (v := 0) hx hb d_12_3_101 (by decide) ?_
      have ob155 : q_F (y85.toInt ≤ 200000) := (by rw [e107]; have h := hS113; rw [S_Wri_decimalText_c40.eq_1] at h; rw [if_neg c126] at h; rw [if_pos c153] at h; exact h.2.1)
      refine q_gov V (q_runV (As := [.ref (q 3), .int a117, .int 0, .int 0]) (rest := []) (d := 2) (mc := 0) (ms := 0) (ci := 7) C0 V rfl LV_Wri_90 (X_Dig_writePlain l D g q u81 3 11008 1376 1000000 (n_h3 g q) a117 0 0 hI y84 y85 hO83 f86 hA87 y39 hO38 f40 hA41 ⟨(by have y0 : (11008 : Int32).toInt = 11008 := rfl; have y1 : (1376 : Int32).toInt = 1376 := rfl; have y2 : (1000000 : Int32).toInt = 1000000 := rfl; have y3 : (0 : Int32).toInt = 0 := rfl; have y4 : (0 : Int32).toInt = 0 := rfl; omega), (by have y0 : (11008 : Int32).toInt = 11008 := rfl; have y1 : (1376 : Int32).toInt = 1376 := rfl; have y2 : (1000000 : Int32).toInt = 1000000 := rfl; have y3 : (0 : Int32).toInt = 0 := rfl; have y4 : (0 : Int32).toInt = 0 := rfl; omega)⟩ ⟨(by have y0 : (11008 : Int32).toInt = 11008 := rfl; have y1 : (1376 : Int32).toInt = 1376 := rfl; have y2 : (1000000 : Int32).toInt = 1000000 := rfl; have y3 : (0 : Int32).toInt = 0 := rfl; have y4 : (0 : Int32).toInt = 0 := rfl; omega), (by have y0 : (11008 : Int32).toInt = 11008 := rfl; have y1 : (1376 : Int32).toInt = 1376 := rfl; have y2 : (1000000 : Int32).toInt = 1000000 := rfl; have y3 : (0 : Int32).toInt = 0 := rfl; have y4 : (0 : Int32).toInt = 0 := rfl; omega)⟩ (by have y0 : (11008 : Int32).toInt = 11008 := rfl; have y1 : (1376 : Int32).toInt = 1376 := rfl; have y2 : (1000000 : Int32).toInt = 1000000 := rfl; have y3 : (0 : Int32).toInt = 0 := rfl; have y4 : (0 : Int32).toInt = 0 := rfl; have t1 : y85.toInt ≤ 200000 := ob155; omega) (by have y0 : (11008 : Int32).toInt = 11008 := rfl; have y1 : (1376 : Int32).toInt = 1376 := rfl; have y2 : (1000000 : Int32).toInt = 1000000 := rfl; have y3 : (0 : Int32).toInt = 0 := rfl; have y4 : (0 : Int32).toInt = 0 := rfl; have t1 : -10000 ≤ t6_0.toInt ∧ t6_0.toInt ≤ 10000 := btt6_0; have t2 : 0 ≤ a117.toInt ∧ t6_0.toInt ≤ a117.toInt ∧ (a117.toInt = 0 ∨ a117.toInt = t6_0.toInt) := b119; omega) (by have y0 : (11008 : Int32).toInt = 11008 := rfl; have y1 : (1376 : Int32).toInt = 1376 := rfl; have y2 : (1000000 : Int32).toInt = 1000000 := rfl; have y3 : (0 : Int32).toInt = 0 := rfl; have y4 : (0 : Int32).toInt = 0 := rfl; have t1 : 0 ≤ t7_1.toInt ∧ t7_1.toInt ≤ 1 := btt7_1; have t2 : y39.toInt ≤ t7_1.toInt := b43; omega) (by have y0 : (11008 : Int32).toInt = 11008 := rfl; have y1 : (1376 : Int32).toInt = 1376 := rfl; have y2 : (1000000 : Int32).toInt = 1000000 := rfl; have y3 : (0 : Int32).toInt = 0 := rfl; have y4 : (0 : Int32).toInt = 0 := rfl; omega) _) rfl rfl hO83 rfl hl.1 rfl (Nat.le_of_ble_eq_true rfl) ⟨by decide, by decide⟩ ⟨Nat.le_of_ble_eq_true rfl, Nat.le_of_ble_eq_true rfl⟩ d_12_3_102) (fun u156 H locs hp157 V => ?_)
      obtain ⟨hI, hZ9⟩ := hp157
      obtain ⟨hu169, hZ9⟩ := hZ9
      obtain ⟨y159, hZ9⟩ := hZ9
      obtain ⟨f160, hZ9⟩ := hZ9
      obtain ⟨hO158, hZ9⟩ := hZ9
      obtain ⟨hA161, hZ9⟩ := hZ9
      replace hZ9 := hZ9.2
      obtain ⟨b163, hZ9⟩ := hZ9
      replace hZ9 := hZ9.2.2.2
      obtain ⟨b167, hE168⟩ := hZ9
      replace hO158 : u156[3]? = (some (q 3, .inr (1, [.ref (q 4), .int 11008, .int y159])) : Option (Nat × va_E)) := hO158
      replace hA161 : u156[4]? = (some (q 4, .inl (g 1, (1376 : Int32).toNatClampNeg, .inr (.inl f160))) : Option (Nat × va_E)) := hA161
      obtain ⟨p170, e171⟩ : ∃ z, z = (F_Dig_writePlain (11008 : Int32) (1376 : Int32) (1000000 : Int32) a117 (0 : Int32) (0 : Int32) y84 y85 f86 y39 f40) := ⟨_, rfl⟩
      have e172 : y159 = p170.1 := congrArg (fun z => z.1) (hE168.trans e171.symm)
      have e173 : f160 = p170.2 := congrArg (fun z => z.2) (hE168.trans e171.symm)
      replace b163 : q_F (0 + 1 ≤ y159.toInt) := b163
      replace b167 : q_F (y159.toInt ≤ y39.toInt + 420003) := b167
      replace hO83 := (hu169 _ (by decide)).trans hO83
      replace hA87 := (hu169 _ (by decide)).trans hA87
      replace hO88 := (hu169 _ (by decide)).trans hO88
      replace hA92 := (hu169 _ (by decide)).trans hA92
      replace hF := q_uc hF hu169 (by first | exact (q_sk (q_mi 0 rfl) (q_sk (q_mi 1 rfl) q_s0)) | simp)
      have hR174 := (show F_Wri_decimalText_c102_5 R x3 t0_0 t1_0 t2_0 t2_1 t3_0 t4_0 t4_1 t5_0 t6_0 t6_1 t7_0 t7_1 t8_0 p46 y39 f40 p70 p104 a123 a117 y84 y85 f86 y89 y90 f91 p170 = (F_Wri_decimalText R x3 t0_0 t1_0 t2_0 t2_1 t3_0 t4_0 t4_1 t5_0 t6_0 t6_1 t7_0 t7_1 t8_0) from Eq.trans (by rw [e171, ← e124, ← e121, ← e118, e111, e110, e109, e108, e107, e106, F_Wri_decimalText_c40.eq_1, if_neg c126, if_pos c153]) hR112)
      have hS175 := (show True ∧ S_Wri_decimalText_c102_5 R x3 t0_0 t1_0 t2_0 t2_1 t3_0 t4_0 t4_1 t5_0 t6_0 t6_1 t7_0 t7_1 t8_0 p46 y39 f40 p70 p104 a123 a117 y84 y85 f86 y89 y90 f91 p170 from (by rw [e171, ← e124, ← e121, ← e118, e111, e110, e109, e108, e107, e106]; have h := hS113; rw [S_Wri_decimalText_c40.eq_1] at h; rw [if_neg c126] at h; rw [if_pos c153] at h; replace h := q_s2 h; with_reducible exact h))
      refine lv_goto (tgt := 147) hx hb d_12_3_105 (by decide) ?_
      exact q_retv C0 V (⟨hI, hF, y159, f160, y84, y85, f86, y89, y90, f91, hO158, hA161, hO83, hA87, hO88, hA92, (show 0 ≤ y84.toInt from (by first | with_reducible exact q_fe b93 | (have t1 : 0 ≤ y84.toInt := b93; omega))), (show y84.toInt ≤ 1026 from (by first | with_reducible exact q_fe b94 | (have t1 : y84.toInt ≤ 1026 := b94; omega))), (show 0 ≤ y85.toInt + 1000000 from (by first | with_reducible exact q_fe b95 | (have t1 : 0 ≤ y85.toInt + 1000000 := b95; omega))), (show y85.toInt ≤ 1000000 from (by first | with_reducible exact q_fe b96 | (have t1 : y85.toInt ≤ 1000000 := b96; omega))), (show 0 ≤ y89.toInt from (by first | with_reducible exact q_fe b97 | (have t1 : 0 ≤ y89.toInt := b97; omega))), (show 0 ≤ y90.toInt from (by first | with_reducible exact q_fe b98 | (have t1 : 0 ≤ y90.toInt := b98; omega))), (show t7_1.toInt ≤ y159.toInt from (by have t1 : 0 ≤ t7_1.toInt ∧ t7_1.toInt ≤ 1 := btt7_1; have t2 : 0 + 1 ≤ y159.toInt := b163; omega)), (show y159.toInt ≤ t7_1.toInt + 420003 from (by have t1 : y39.toInt ≤ t7_1.toInt := b43; have t2 : y159.toInt ≤ y39.toInt + 420003 := b167; omega)), (show y89.toInt ≤ t7_0.toInt from (by have t1 : y59.toInt ≤ t7_0.toInt := b64; have t2 : y89.toInt ≤ y59.toInt := b99; omega)), (show y90.toInt ≤ t7_1.toInt from (by have t1 : y60.toInt ≤ t7_1.toInt := b67; have t2 : y90.toInt ≤ y60.toInt := b100; omega)), (show y85.toInt ≤ y84.toInt + 999999 from (by first | with_reducible exact q_fe b101 | (have t1 : y85.toInt ≤ y84.toInt + 999999 := b101; omega))), (show (y159, f160, y84, y85, f86, y89, y90, f91) = (F_Wri_decimalText R x3 t0_0 t1_0 t2_0 t2_1 t3_0 t4_0 t4_1 t5_0 t6_0 t6_1 t7_0 t7_1 t8_0) from Eq.trans (by rw [e173, e172, F_Wri_decimalText_c102_5.eq_1]) hR174)⟩) d_12_3_147
    ·
      refine lv_aload_n hx hb d_12_3_77 rfl (lv_at hl 3 rfl) ?_
      refine q_get (ci := 3) (j := 1) (v := .int t6_0) C0 V i_Dec rfl rfl hT6 (by decide) w_177 rfl d_12_3_78 ?_
      refine q_join (X := Unit) (fun z H locs ls _ => q_Wd D g (va_A ws sz) s u81 H locs ∧ lv_has ls 5 [(4, .int a123), (0, .ref (q 39)), (1, .ref (q k2)), (2, .int x3)] ∧ F_Wri_decimalText_J108 R x3 t0_0 t1_0 t2_0 t2_1 t3_0 t4_0 t4_1 t5_0 t6_0 t6_1 t7_0 t7_1 t8_0 p46 y39 f40 p70 p104 a123 y84 y85 f86 y89 y90 f91 = (F_Wri_decimalText R x3 t0_0 t1_0 t2_0 t2_1 t3_0 t4_0 t4_1 t5_0 t6_0 t6_1 t7_0 t7_1 t8_0) ∧ True ∧ S_Wri_decimalText_J108 R x3 t0_0 t1_0 t2_0 t2_1 t3_0 t4_0 t4_1 t5_0 t6_0 t6_1 t7_0 t7_1 t8_0 p46 y39 f40 p70 p104 a123 y84 y85 f86 y89 y90 f91) (fun z => []) 108 0 0 ?_ ?_
      ·
        rintro _ H locs ls _ ⟨V, hl, hR190, hS191⟩
        replace hl : lv_has ls 5 [(4, .int a123), (0, .ref (q 39)), (1, .ref (q k2)), (2, .int x3)] := hl
        refine lv_iload_n hx hb d_12_3_108 rfl (lv_at hl 3 rfl) ?_
        refine lv_if_ne (tgt := 137) hx hb d_12_3_109 (by decide) (fun c195 => ?_) (fun c195 => ?_)
        ·
          refine lv_aload_n hx hb d_12_3_137 rfl (lv_at hl 1 rfl) ?_
          refine lv_aload_n hx hb d_12_3_138 rfl (lv_at hl 2 rfl) ?_
          refine q_get (ci := 3) (j := 2) (v := .int t6_1) C0 V i_Dec rfl rfl hT6 (by decide) w_181 rfl d_12_3_139 ?_
          refine lv_iload hx hb d_12_3_142 (lv_at hl 0 rfl) ?_
          have ob197 : True ∧ S_Wri_writeByThrees t6_1 a123 y39 f40 y84 y85 f86 := (by have h := hS191; rw [S_Wri_decimalText_J108.eq_1] at h; rw [if_neg c195] at h; with_reducible exact h.2.1)
          refine q_gov V (q_runV (As := [.int t6_1, .int a123]) (rest := []) (d := 4) (mc := 0) (ms := 0) (ci := 9) C0 V rfl LV_Wri_101 (X_Wri_writeByThrees l D g q u81  t6_1 a123 hI y39 hO38 f40 hA41 y84 y85 hO83 f86 hA87 (by first | with_reducible exact (q_fe btt6_1).2 | with_reducible exact (q_fe btt6_1).1 | (have t1 : 1 ≤ t6_1.toInt ∧ t6_1.toInt ≤ 1000 := btt6_1; omega)) (by first | with_reducible exact (q_fe btt6_1).2 | with_reducible exact (q_fe btt6_1).1 | (have t1 : 1 ≤ t6_1.toInt ∧ t6_1.toInt ≤ 1000 := btt6_1; omega)) (by have t1 : -10000 ≤ t6_0.toInt ∧ t6_0.toInt ≤ 10000 := btt6_0; have t2 : 1 ≤ t6_1.toInt ∧ t6_1.toInt ≤ 1000 := btt6_1; have t3 : a120.toInt = t6_1.toInt - 1 := b122; have t4 : a123.toInt = a120.toInt - t6_0.toInt := b125; omega) (by have t1 : -10000 ≤ t6_0.toInt ∧ t6_0.toInt ≤ 10000 := btt6_0; have t2 : 1 ≤ t6_1.toInt ∧ t6_1.toInt ≤ 1000 := btt6_1; have t3 : a120.toInt = t6_1.toInt - 1 := b122; have t4 : a123.toInt = a120.toInt - t6_0.toInt := b125; omega) (by have t1 : 0 ≤ t7_1.toInt ∧ t7_1.toInt ≤ 1 := btt7_1; have t2 : y39.toInt ≤ t7_1.toInt := b43; omega) ob197 _) rfl rfl hO35 rfl hl.1 rfl (Nat.le_of_ble_eq_true rfl) ⟨by decide, by decide⟩ ⟨Nat.le_of_ble_eq_true rfl, Nat.le_of_ble_eq_true rfl⟩ d_12_3_144) (fun u198 H locs hp199 V => ?_)
          obtain ⟨hI, hZ9⟩ := hp199
          obtain ⟨hu207, hZ9⟩ := hZ9
          obtain ⟨y201, hZ9⟩ := hZ9
          obtain ⟨f202, hZ9⟩ := hZ9
          obtain ⟨hO200, hZ9⟩ := hZ9
          obtain ⟨hA203, hZ9⟩ := hZ9
          obtain ⟨b204, hZ9⟩ := hZ9
          obtain ⟨b205, hE206⟩ := hZ9
          replace hO200 : u198[3]? = (some (q 3, .inr (1, [.ref (q 4), .int 11008, .int y201])) : Option (Nat × va_E)) := hO200
          replace hA203 : u198[4]? = (some (q 4, .inl (g 1, (1376 : Int32).toNatClampNeg, .inr (.inl f202))) : Option (Nat × va_E)) := hA203
          obtain ⟨p208, e209⟩ : ∃ z, z = (F_Wri_writeByThrees t6_1 a123 y39 f40 y84 y85 f86) := ⟨_, rfl⟩
          have e210 : y201 = p208.1 := congrArg (fun z => z.1) (hE206.trans e209.symm)
          have e211 : f202 = p208.2 := congrArg (fun z => z.2) (hE206.trans e209.symm)
          replace b204 : q_F (y39.toInt ≤ y201.toInt) := b204
          replace b205 : q_F (y201.toInt ≤ y39.toInt + 40007) := b205
          replace hO83 := (hu207 _ (by decide)).trans hO83
          replace hA87 := (hu207 _ (by decide)).trans hA87
          replace hO88 := (hu207 _ (by decide)).trans hO88
          replace hA92 := (hu207 _ (by decide)).trans hA92
          replace hF := q_uc hF hu207 (by first | exact (q_sk (q_mi 0 rfl) (q_sk (q_mi 1 rfl) q_s0)) | simp)
          have hR212 := (show F_Wri_decimalText_c144 R x3 t0_0 t1_0 t2_0 t2_1 t3_0 t4_0 t4_1 t5_0 t6_0 t6_1 t7_0 t7_1 t8_0 p46 y39 f40 p70 p104 a123 y84 y85 f86 y89 y90 f91 p208 = (F_Wri_decimalText R x3 t0_0 t1_0 t2_0 t2_1 t3_0 t4_0 t4_1 t5_0 t6_0 t6_1 t7_0 t7_1 t8_0) from Eq.trans (by rw [e209, F_Wri_decimalText_J108.eq_1, if_neg c195]) hR190)
          have hS213 := (show True ∧ S_Wri_decimalText_c144 R x3 t0_0 t1_0 t2_0 t2_1 t3_0 t4_0 t4_1 t5_0 t6_0 t6_1 t7_0 t7_1 t8_0 p46 y39 f40 p70 p104 a123 y84 y85 f86 y89 y90 f91 p208 from (by rw [e209]; have h := hS191; rw [S_Wri_decimalText_J108.eq_1] at h; rw [if_neg c195] at h; replace h := q_s2 h; with_reducible exact h))
          exact q_retv C0 V (⟨hI, hF, y201, f202, y84, y85, f86, y89, y90, f91, hO200, hA203, hO83, hA87, hO88, hA92, (show 0 ≤ y84.toInt from (by first | with_reducible exact q_fe b93 | (have t1 : 0 ≤ y84.toInt := b93; omega))), (show y84.toInt ≤ 1026 from (by first | with_reducible exact q_fe b94 | (have t1 : y84.toInt ≤ 1026 := b94; omega))), (show 0 ≤ y85.toInt + 1000000 from (by first | with_reducible exact q_fe b95 | (have t1 : 0 ≤ y85.toInt + 1000000 := b95; omega))), (show y85.toInt ≤ 1000000 from (by first | with_reducible exact q_fe b96 | (have t1 : y85.toInt ≤ 1000000 := b96; omega))), (show 0 ≤ y89.toInt from (by first | with_reducible exact q_fe b97 | (have t1 : 0 ≤ y89.toInt := b97; omega))), (show 0 ≤ y90.toInt from (by first | with_reducible exact q_fe b98 | (have t1 : 0 ≤ y90.toInt := b98; omega))), (show t7_1.toInt ≤ y201.toInt from (by have t1 : t7_1.toInt ≤ y39.toInt := b42; have t2 : y39.toInt ≤ y201.toInt := b204; omega)), (show y201.toInt ≤ t7_1.toInt + 420003 from (by have t1 : y39.toInt ≤ t7_1.toInt := b43; have t2 : y201.toInt ≤ y39.toInt + 40007 := b205; omega)), (show y89.toInt ≤ t7_0.toInt from (by have t1 : y59.toInt ≤ t7_0.toInt := b64; have t2 : y89.toInt ≤ y59.toInt := b99; omega)), (show y90.toInt ≤ t7_1.toInt from (by have t1 : y60.toInt ≤ t7_1.toInt := b67; have t2 : y90.toInt ≤ y60.toInt := b100; omega)), (show y85.toInt ≤ y84.toInt + 999999 from (by first | with_reducible exact q_fe b101 | (have t1 : y85.toInt ≤ y84.toInt + 999999 := b101; omega))), (show (y201, f202, y84, y85, f86, y89, y90, f91) = (F_Wri_decimalText R x3 t0_0 t1_0 t2_0 t2_1 t3_0 t4_0 t4_1 t5_0 t6_0 t6_1 t7_0 t7_1 t8_0) from Eq.trans (by rw [e211, e210, F_Wri_decimalText_c144.eq_1]) hR212)⟩) d_12_3_147
        ·
          refine lv_aload_n hx hb d_12_3_112 rfl (lv_at hl 1 rfl) ?_
          refine q_get (ci := 9) (j := 2) (v := .ref (q 36)) C0 V i_Wri rfl rfl hO35 (by decide) w_331 rfl d_12_3_113 ?_
          refine lv_aload_n hx hb d_12_3_116 rfl (lv_at hl 1 rfl) ?_
          refine q_get (ci := 9) (j := 0) (v := .ref (q 3)) C0 V i_Wri rfl rfl hO35 (by decide) w_329 rfl d_12_3_117 ?_
          refine lv_aload_n hx hb d_12_3_120 rfl (lv_at hl 2 rfl) ?_
          refine q_get (ci := 3) (j := 2) (v := .int t6_1) C0 V i_Dec rfl rfl hT6 (by decide) w_181 rfl d_12_3_121 ?_
          refine lv_iconst (v := 0) hx hb d_12_3_124 (by decide) ?_
          refine q_gov V (q_runV (As := [.ref (q 3), .int t6_1, .int 0]) (rest := []) (d := 2) (mc := 0) (ms := 0) (ci := 7) C0 V rfl LV_Wri_94 (X_Dig_writeHead l D g q u81 3 11008 1376 1000000 (n_h3 g q) t6_1 0 hI y84 y85 hO83 f86 hA87 y39 hO38 f40 hA41 ⟨(by have y0 : (11008 : Int32).toInt = 11008 := rfl; have y1 : (1376 : Int32).toInt = 1376 := rfl; have y2 : (1000000 : Int32).toInt = 1000000 := rfl; have y3 : (0 : Int32).toInt = 0 := rfl; omega), (by have y0 : (11008 : Int32).toInt = 11008 := rfl; have y1 : (1376 : Int32).toInt = 1376 := rfl; have y2 : (1000000 : Int32).toInt = 1000000 := rfl; have y3 : (0 : Int32).toInt = 0 := rfl; omega)⟩ (by have y0 : (11008 : Int32).toInt = 11008 := rfl; have y1 : (1376 : Int32).toInt = 1376 := rfl; have y2 : (1000000 : Int32).toInt = 1000000 := rfl; have y3 : (0 : Int32).toInt = 0 := rfl; have t1 : 1 ≤ t6_1.toInt ∧ t6_1.toInt ≤ 1000 := btt6_1; omega) (by have y0 : (11008 : Int32).toInt = 11008 := rfl; have y1 : (1376 : Int32).toInt = 1376 := rfl; have y2 : (1000000 : Int32).toInt = 1000000 := rfl; have y3 : (0 : Int32).toInt = 0 := rfl; have t1 : 0 ≤ t7_1.toInt ∧ t7_1.toInt ≤ 1 := btt7_1; have t2 : y39.toInt ≤ t7_1.toInt := b43; omega) (by have y0 : (11008 : Int32).toInt = 11008 := rfl; have y1 : (1376 : Int32).toInt = 1376 := rfl; have y2 : (1000000 : Int32).toInt = 1000000 := rfl; have y3 : (0 : Int32).toInt = 0 := rfl; omega) _) rfl rfl hO83 rfl hl.1 rfl (Nat.le_of_ble_eq_true rfl) ⟨by decide, by decide⟩ ⟨Nat.le_of_ble_eq_true rfl, Nat.le_of_ble_eq_true rfl⟩ d_12_3_125) (fun u218 H locs hp219 V => ?_)
          obtain ⟨hI, hZ9⟩ := hp219
          obtain ⟨hu229, hZ9⟩ := hZ9
          obtain ⟨y221, hZ9⟩ := hZ9
          obtain ⟨f222, hZ9⟩ := hZ9
          obtain ⟨hO220, hZ9⟩ := hZ9
          obtain ⟨hA223, hZ9⟩ := hZ9
          replace hZ9 := hZ9.2
          obtain ⟨b225, hZ9⟩ := hZ9
          replace hZ9 := hZ9.2
          obtain ⟨b227, hE228⟩ := hZ9
          replace hO220 : u218[3]? = (some (q 3, .inr (1, [.ref (q 4), .int 11008, .int y221])) : Option (Nat × va_E)) := hO220
          replace hA223 : u218[4]? = (some (q 4, .inl (g 1, (1376 : Int32).toNatClampNeg, .inr (.inl f222))) : Option (Nat × va_E)) := hA223
          obtain ⟨p230, e231⟩ : ∃ z, z = (F_Dig_writeHead (11008 : Int32) (1376 : Int32) (1000000 : Int32) t6_1 (0 : Int32) y84 y85 f86 y39 f40) := ⟨_, rfl⟩
          have e232 : y221 = p230.1 := congrArg (fun z => z.1) (hE228.trans e231.symm)
          have e233 : f222 = p230.2 := congrArg (fun z => z.2) (hE228.trans e231.symm)
          replace b225 : q_F (0 + 1 ≤ y221.toInt) := b225
          replace b227 : q_F (y221.toInt ≤ y39.toInt + 20001) := b227
          replace hO83 := (hu229 _ (by decide)).trans hO83
          replace hA87 := (hu229 _ (by decide)).trans hA87
          replace hO88 := (hu229 _ (by decide)).trans hO88
          replace hA92 := (hu229 _ (by decide)).trans hA92
          replace hO35 := (hu229 _ (by decide)).trans hO35
          replace hF := q_uc hF hu229 (by first | exact (q_sk (q_mi 0 rfl) (q_sk (q_mi 1 rfl) q_s0)) | simp)
          have hR234 := (show F_Wri_decimalText_c125 R x3 t0_0 t1_0 t2_0 t2_1 t3_0 t4_0 t4_1 t5_0 t6_0 t6_1 t7_0 t7_1 t8_0 p46 y39 f40 p70 p104 a123 y84 y85 f86 y89 y90 f91 p230 = (F_Wri_decimalText R x3 t0_0 t1_0 t2_0 t2_1 t3_0 t4_0 t4_1 t5_0 t6_0 t6_1 t7_0 t7_1 t8_0) from Eq.trans (by rw [e231, F_Wri_decimalText_J108.eq_1, if_pos c195]) hR190)
          have hS235 := (show True ∧ S_Wri_decimalText_c125 R x3 t0_0 t1_0 t2_0 t2_1 t3_0 t4_0 t4_1 t5_0 t6_0 t6_1 t7_0 t7_1 t8_0 p46 y39 f40 p70 p104 a123 y84 y85 f86 y89 y90 f91 p230 from (by rw [e231]; have h := hS191; rw [S_Wri_decimalText_J108.eq_1] at h; rw [if_pos c195] at h; with_reducible exact h))
          refine lv_aload_n hx hb d_12_3_128 rfl (lv_at hl 1 rfl) ?_
          refine lv_iload hx hb d_12_3_129 (lv_at hl 0 rfl) ?_
          refine q_gov V (q_runV (As := [.int a123]) (rest := []) (d := 3) (mc := 0) (ms := 0) (ci := 9) C0 V rfl LV_Wri_98 (X_Wri_writePower l D g q u218  a123 hI y221 hO220 f222 hA223 (by have t1 : 0 ≤ t7_1.toInt ∧ t7_1.toInt ≤ 1 := btt7_1; have t2 : y39.toInt ≤ t7_1.toInt := b43; have t3 : y221.toInt ≤ y39.toInt + 20001 := b227; omega) (by have t1 : -10000 ≤ t6_0.toInt ∧ t6_0.toInt ≤ 10000 := btt6_0; have t2 : 1 ≤ t6_1.toInt ∧ t6_1.toInt ≤ 1000 := btt6_1; have t3 : a120.toInt = t6_1.toInt - 1 := b122; have t4 : a123.toInt = a120.toInt - t6_0.toInt := b125; omega) _) rfl rfl hO35 rfl hl.1 rfl (Nat.le_of_ble_eq_true rfl) ⟨by decide, by decide⟩ ⟨Nat.le_of_ble_eq_true rfl, Nat.le_of_ble_eq_true rfl⟩ d_12_3_131) (fun u239 H locs hp240 V => ?_)
          obtain ⟨hI, hZ9⟩ := hp240
          obtain ⟨hu248, hZ9⟩ := hZ9
          obtain ⟨y242, hZ9⟩ := hZ9
          obtain ⟨f243, hZ9⟩ := hZ9
          obtain ⟨hO241, hZ9⟩ := hZ9
          obtain ⟨hA244, hZ9⟩ := hZ9
          obtain ⟨b245, hZ9⟩ := hZ9
          obtain ⟨b246, hE247⟩ := hZ9
          replace hO241 : u239[3]? = (some (q 3, .inr (1, [.ref (q 4), .int 11008, .int y242])) : Option (Nat × va_E)) := hO241
          replace hA244 : u239[4]? = (some (q 4, .inl (g 1, (1376 : Int32).toNatClampNeg, .inr (.inl f243))) : Option (Nat × va_E)) := hA244
          obtain ⟨p249, e250⟩ : ∃ z, z = (F_Wri_writePower a123 y221 f222) := ⟨_, rfl⟩
          have e251 : y242 = p249.1 := congrArg (fun z => z.1) (hE247.trans e250.symm)
          have e252 : f243 = p249.2 := congrArg (fun z => z.2) (hE247.trans e250.symm)
          replace b245 : q_F (y221.toInt + 2 ≤ y242.toInt) := b245
          replace b246 : q_F (y242.toInt ≤ y221.toInt + 7) := b246
          replace hO83 := (hu248 _ (by decide)).trans hO83
          replace hA87 := (hu248 _ (by decide)).trans hA87
          replace hO88 := (hu248 _ (by decide)).trans hO88
          replace hA92 := (hu248 _ (by decide)).trans hA92
          replace hF := q_uc hF hu248 (by first | exact (q_sk (q_mi 0 rfl) (q_sk (q_mi 1 rfl) q_s0)) | simp)
          have hR253 := (show F_Wri_decimalText_c131 R x3 t0_0 t1_0 t2_0 t2_1 t3_0 t4_0 t4_1 t5_0 t6_0 t6_1 t7_0 t7_1 t8_0 p46 y39 f40 p70 p104 a123 y84 y85 f86 y89 y90 f91 p230 p249 = (F_Wri_decimalText R x3 t0_0 t1_0 t2_0 t2_1 t3_0 t4_0 t4_1 t5_0 t6_0 t6_1 t7_0 t7_1 t8_0) from Eq.trans (by rw [e250, e233, e232, F_Wri_decimalText_c125.eq_1]) hR234)
          have hS254 := (show True ∧ S_Wri_decimalText_c131 R x3 t0_0 t1_0 t2_0 t2_1 t3_0 t4_0 t4_1 t5_0 t6_0 t6_1 t7_0 t7_1 t8_0 p46 y39 f40 p70 p104 a123 y84 y85 f86 y89 y90 f91 p230 p249 from (by rw [e250, e233, e232]; have h := hS235; rw [S_Wri_decimalText_c125.eq_1] at h; with_reducible exact h))
          refine lv_goto (tgt := 147) hx hb d_12_3_134 (by decide) ?_
          exact q_retv C0 V (⟨hI, hF, y242, f243, y84, y85, f86, y89, y90, f91, hO241, hA244, hO83, hA87, hO88, hA92, (show 0 ≤ y84.toInt from (by first | with_reducible exact q_fe b93 | (have t1 : 0 ≤ y84.toInt := b93; omega))), (show y84.toInt ≤ 1026 from (by first | with_reducible exact q_fe b94 | (have t1 : y84.toInt ≤ 1026 := b94; omega))), (show 0 ≤ y85.toInt + 1000000 from (by first | with_reducible exact q_fe b95 | (have t1 : 0 ≤ y85.toInt + 1000000 := b95; omega))), (show y85.toInt ≤ 1000000 from (by first | with_reducible exact q_fe b96 | (have t1 : y85.toInt ≤ 1000000 := b96; omega))), (show 0 ≤ y89.toInt from (by first | with_reducible exact q_fe b97 | (have t1 : 0 ≤ y89.toInt := b97; omega))), (show 0 ≤ y90.toInt from (by first | with_reducible exact q_fe b98 | (have t1 : 0 ≤ y90.toInt := b98; omega))), (show t7_1.toInt ≤ y242.toInt from (by have t1 : 0 ≤ t7_1.toInt ∧ t7_1.toInt ≤ 1 := btt7_1; have t2 : 0 + 1 ≤ y221.toInt := b225; have t3 : y221.toInt + 2 ≤ y242.toInt := b245; omega)), (show y242.toInt ≤ t7_1.toInt + 420003 from (by have t1 : y39.toInt ≤ t7_1.toInt := b43; have t2 : y221.toInt ≤ y39.toInt + 20001 := b227; have t3 : y242.toInt ≤ y221.toInt + 7 := b246; omega)), (show y89.toInt ≤ t7_0.toInt from (by have t1 : y59.toInt ≤ t7_0.toInt := b64; have t2 : y89.toInt ≤ y59.toInt := b99; omega)), (show y90.toInt ≤ t7_1.toInt from (by have t1 : y60.toInt ≤ t7_1.toInt := b67; have t2 : y90.toInt ≤ y60.toInt := b100; omega)), (show y85.toInt ≤ y84.toInt + 999999 from (by first | with_reducible exact q_fe b101 | (have t1 : y85.toInt ≤ y84.toInt + 999999 := b101; omega))), (show (y242, f243, y84, y85, f86, y89, y90, f91) = (F_Wri_decimalText R x3 t0_0 t1_0 t2_0 t2_1 t3_0 t4_0 t4_1 t5_0 t6_0 t6_1 t7_0 t7_1 t8_0) from Eq.trans (by rw [e252, e251, F_Wri_decimalText_c131.eq_1]) hR253)⟩) d_12_3_147
      ·
        intro J189
        refine lv_if_le (tgt := 108) hx hb d_12_3_81 (by decide) (fun c258 => ?_) (fun c258 => ?_)
        ·
          exact J189 (()) _ _ _ u81 ⟨V, q_lw hl (q_lw1 0 rfl (q_lw1 2 rfl (q_lw1 3 rfl (q_lw1 4 rfl q_lw0)))), (show F_Wri_decimalText_J108 R x3 t0_0 t1_0 t2_0 t2_1 t3_0 t4_0 t4_1 t5_0 t6_0 t6_1 t7_0 t7_1 t8_0 p46 y39 f40 p70 p104 a123 y84 y85 f86 y89 y90 f91 = (F_Wri_decimalText R x3 t0_0 t1_0 t2_0 t2_1 t3_0 t4_0 t4_1 t5_0 t6_0 t6_1 t7_0 t7_1 t8_0) from Eq.trans (by rw [← e124, ← e121, e111, e110, e109, e108, e107, e106, F_Wri_decimalText_c40.eq_1, if_neg c126, if_neg c153, if_pos c258]) hR112), (show True ∧ S_Wri_decimalText_J108 R x3 t0_0 t1_0 t2_0 t2_1 t3_0 t4_0 t4_1 t5_0 t6_0 t6_1 t7_0 t7_1 t8_0 p46 y39 f40 p70 p104 a123 y84 y85 f86 y89 y90 f91 from (by rw [← e124, ← e121, e111, e110, e109, e108, e107, e106]; have h := hS113; rw [S_Wri_decimalText_c40.eq_1] at h; rw [if_neg c126] at h; rw [if_neg c153] at h; rw [if_pos c258] at h; with_reducible exact h))⟩
        ·
          refine lv_iload hx hb d_12_3_84 (lv_at hl 0 rfl) ?_
          refine lv_bipush (v := (-6)) hx hb d_12_3_86 (by decide) ?_
          refine lv_icmp_lt (tgt := 108) hx hb d_12_3_88 (by decide) (fun c261 => ?_) (fun c261 => ?_)
          ·
            exact J189 (()) _ _ _ u81 ⟨V, q_lw hl (q_lw1 0 rfl (q_lw1 2 rfl (q_lw1 3 rfl (q_lw1 4 rfl q_lw0)))), (show F_Wri_decimalText_J108 R x3 t0_0 t1_0 t2_0 t2_1 t3_0 t4_0 t4_1 t5_0 t6_0 t6_1 t7_0 t7_1 t8_0 p46 y39 f40 p70 p104 a123 y84 y85 f86 y89 y90 f91 = (F_Wri_decimalText R x3 t0_0 t1_0 t2_0 t2_1 t3_0 t4_0 t4_1 t5_0 t6_0 t6_1 t7_0 t7_1 t8_0) from Eq.trans (by have c261x := c261; rw [← e124, ← e121] at c261x; rw [← e124, ← e121, e111, e110, e109, e108, e107, e106, F_Wri_decimalText_c40.eq_1, if_neg c126, if_neg c153, if_neg c258, if_pos c261x]) hR112), (show True ∧ S_Wri_decimalText_J108 R x3 t0_0 t1_0 t2_0 t2_1 t3_0 t4_0 t4_1 t5_0 t6_0 t6_1 t7_0 t7_1 t8_0 p46 y39 f40 p70 p104 a123 y84 y85 f86 y89 y90 f91 from (by rw [← e124, ← e121, e111, e110, e109, e108, e107, e106]; have h := hS113; rw [S_Wri_decimalText_c40.eq_1] at h; rw [if_neg c126] at h; rw [if_neg c153] at h; rw [if_neg c258] at h; have c261x := c261; rw [← e124, ← e121] at c261x; rw [if_pos c261x] at h; with_reducible exact h))⟩
          ·
            refine lv_aload_n hx hb d_12_3_91 rfl (lv_at hl 2 rfl) ?_
            refine q_get (ci := 9) (j := 2) (v := .ref (q 36)) C0 V i_Wri rfl rfl hO35 (by decide) w_331 rfl d_12_3_92 ?_
            refine lv_aload_n hx hb d_12_3_95 rfl (lv_at hl 2 rfl) ?_
            refine q_get (ci := 9) (j := 0) (v := .ref (q 3)) C0 V i_Wri rfl rfl hO35 (by decide) w_329 rfl d_12_3_96 ?_
            refine lv_iload_n hx hb d_12_3_99 rfl (lv_at hl 1 rfl) ?_
            refine lv_iconst (v := 0) hx hb d_12_3_100 (by decide) ?_
            refine lv_iconst (v := 0) hx hb d_12_3_101 (by decide) ?_
            have ob264 : q_F (y85.toInt ≤ 200000) := (by rw [e107]; have h := hS113; rw [S_Wri_decimalText_c40.eq_1] at h; rw [if_neg c126] at h; rw [if_neg c153] at h; rw [if_neg c258] at h; have c261x := c261; rw [← e124, ← e121] at c261x; rw [if_neg c261x] at h; exact h.2.1)
            refine q_gov V (q_runV (As := [.ref (q 3), .int a117, .int 0, .int 0]) (rest := []) (d := 2) (mc := 0) (ms := 0) (ci := 7) C0 V rfl LV_Wri_90 (X_Dig_writePlain l D g q u81 3 11008 1376 1000000 (n_h3 g q) a117 0 0 hI y84 y85 hO83 f86 hA87 y39 hO38 f40 hA41 ⟨(by have y0 : (11008 : Int32).toInt = 11008 := rfl; have y1 : (1376 : Int32).toInt = 1376 := rfl; have y2 : (1000000 : Int32).toInt = 1000000 := rfl; have y3 : (0 : Int32).toInt = 0 := rfl; have y4 : (0 : Int32).toInt = 0 := rfl; omega), (by have y0 : (11008 : Int32).toInt = 11008 := rfl; have y1 : (1376 : Int32).toInt = 1376 := rfl; have y2 : (1000000 : Int32).toInt = 1000000 := rfl; have y3 : (0 : Int32).toInt = 0 := rfl; have y4 : (0 : Int32).toInt = 0 := rfl; omega)⟩ ⟨(by have y0 : (11008 : Int32).toInt = 11008 := rfl; have y1 : (1376 : Int32).toInt = 1376 := rfl; have y2 : (1000000 : Int32).toInt = 1000000 := rfl; have y3 : (0 : Int32).toInt = 0 := rfl; have y4 : (0 : Int32).toInt = 0 := rfl; omega), (by have y0 : (11008 : Int32).toInt = 11008 := rfl; have y1 : (1376 : Int32).toInt = 1376 := rfl; have y2 : (1000000 : Int32).toInt = 1000000 := rfl; have y3 : (0 : Int32).toInt = 0 := rfl; have y4 : (0 : Int32).toInt = 0 := rfl; omega)⟩ (by have y0 : (11008 : Int32).toInt = 11008 := rfl; have y1 : (1376 : Int32).toInt = 1376 := rfl; have y2 : (1000000 : Int32).toInt = 1000000 := rfl; have y3 : (0 : Int32).toInt = 0 := rfl; have y4 : (0 : Int32).toInt = 0 := rfl; have t1 : y85.toInt ≤ 200000 := ob264; omega) (by have y0 : (11008 : Int32).toInt = 11008 := rfl; have y1 : (1376 : Int32).toInt = 1376 := rfl; have y2 : (1000000 : Int32).toInt = 1000000 := rfl; have y3 : (0 : Int32).toInt = 0 := rfl; have y4 : (0 : Int32).toInt = 0 := rfl; have t1 : -10000 ≤ t6_0.toInt ∧ t6_0.toInt ≤ 10000 := btt6_0; have t2 : 0 ≤ a117.toInt ∧ t6_0.toInt ≤ a117.toInt ∧ (a117.toInt = 0 ∨ a117.toInt = t6_0.toInt) := b119; omega) (by have y0 : (11008 : Int32).toInt = 11008 := rfl; have y1 : (1376 : Int32).toInt = 1376 := rfl; have y2 : (1000000 : Int32).toInt = 1000000 := rfl; have y3 : (0 : Int32).toInt = 0 := rfl; have y4 : (0 : Int32).toInt = 0 := rfl; have t1 : 0 ≤ t7_1.toInt ∧ t7_1.toInt ≤ 1 := btt7_1; have t2 : y39.toInt ≤ t7_1.toInt := b43; omega) (by have y0 : (11008 : Int32).toInt = 11008 := rfl; have y1 : (1376 : Int32).toInt = 1376 := rfl; have y2 : (1000000 : Int32).toInt = 1000000 := rfl; have y3 : (0 : Int32).toInt = 0 := rfl; have y4 : (0 : Int32).toInt = 0 := rfl; omega) _) rfl rfl hO83 rfl hl.1 rfl (Nat.le_of_ble_eq_true rfl) ⟨by decide, by decide⟩ ⟨Nat.le_of_ble_eq_true rfl, Nat.le_of_ble_eq_true rfl⟩ d_12_3_102) (fun u265 H locs hp266 V => ?_)
            obtain ⟨hI, hZ9⟩ := hp266
            obtain ⟨hu278, hZ9⟩ := hZ9
            obtain ⟨y268, hZ9⟩ := hZ9
            obtain ⟨f269, hZ9⟩ := hZ9
            obtain ⟨hO267, hZ9⟩ := hZ9
            obtain ⟨hA270, hZ9⟩ := hZ9
            replace hZ9 := hZ9.2
            obtain ⟨b272, hZ9⟩ := hZ9
            replace hZ9 := hZ9.2.2.2
            obtain ⟨b276, hE277⟩ := hZ9
            replace hO267 : u265[3]? = (some (q 3, .inr (1, [.ref (q 4), .int 11008, .int y268])) : Option (Nat × va_E)) := hO267
            replace hA270 : u265[4]? = (some (q 4, .inl (g 1, (1376 : Int32).toNatClampNeg, .inr (.inl f269))) : Option (Nat × va_E)) := hA270
            obtain ⟨p279, e280⟩ : ∃ z, z = (F_Dig_writePlain (11008 : Int32) (1376 : Int32) (1000000 : Int32) a117 (0 : Int32) (0 : Int32) y84 y85 f86 y39 f40) := ⟨_, rfl⟩
            have e281 : y268 = p279.1 := congrArg (fun z => z.1) (hE277.trans e280.symm)
            have e282 : f269 = p279.2 := congrArg (fun z => z.2) (hE277.trans e280.symm)
            replace b272 : q_F (0 + 1 ≤ y268.toInt) := b272
            replace b276 : q_F (y268.toInt ≤ y39.toInt + 420003) := b276
            replace hO83 := (hu278 _ (by decide)).trans hO83
            replace hA87 := (hu278 _ (by decide)).trans hA87
            replace hO88 := (hu278 _ (by decide)).trans hO88
            replace hA92 := (hu278 _ (by decide)).trans hA92
            replace hF := q_uc hF hu278 (by first | exact (q_sk (q_mi 0 rfl) (q_sk (q_mi 1 rfl) q_s0)) | simp)
            have hR283 := (show F_Wri_decimalText_c102_10 R x3 t0_0 t1_0 t2_0 t2_1 t3_0 t4_0 t4_1 t5_0 t6_0 t6_1 t7_0 t7_1 t8_0 p46 y39 f40 p70 p104 a123 a117 y84 y85 f86 y89 y90 f91 p279 = (F_Wri_decimalText R x3 t0_0 t1_0 t2_0 t2_1 t3_0 t4_0 t4_1 t5_0 t6_0 t6_1 t7_0 t7_1 t8_0) from Eq.trans (by have c261x := c261; rw [← e124, ← e121] at c261x; rw [e280, ← e124, ← e121, ← e118, e111, e110, e109, e108, e107, e106, F_Wri_decimalText_c40.eq_1, if_neg c126, if_neg c153, if_neg c258, if_neg c261x]) hR112)
            have hS284 := (show True ∧ S_Wri_decimalText_c102_10 R x3 t0_0 t1_0 t2_0 t2_1 t3_0 t4_0 t4_1 t5_0 t6_0 t6_1 t7_0 t7_1 t8_0 p46 y39 f40 p70 p104 a123 a117 y84 y85 f86 y89 y90 f91 p279 from (by rw [e280, ← e124, ← e121, ← e118, e111, e110, e109, e108, e107, e106]; have h := hS113; rw [S_Wri_decimalText_c40.eq_1] at h; rw [if_neg c126] at h; rw [if_neg c153] at h; rw [if_neg c258] at h; have c261x := c261; rw [← e124, ← e121] at c261x; rw [if_neg c261x] at h; replace h := q_s2 h; with_reducible exact h))
            refine lv_goto (tgt := 147) hx hb d_12_3_105 (by decide) ?_
            exact q_retv C0 V (⟨hI, hF, y268, f269, y84, y85, f86, y89, y90, f91, hO267, hA270, hO83, hA87, hO88, hA92, (show 0 ≤ y84.toInt from (by first | with_reducible exact q_fe b93 | (have t1 : 0 ≤ y84.toInt := b93; omega))), (show y84.toInt ≤ 1026 from (by first | with_reducible exact q_fe b94 | (have t1 : y84.toInt ≤ 1026 := b94; omega))), (show 0 ≤ y85.toInt + 1000000 from (by first | with_reducible exact q_fe b95 | (have t1 : 0 ≤ y85.toInt + 1000000 := b95; omega))), (show y85.toInt ≤ 1000000 from (by first | with_reducible exact q_fe b96 | (have t1 : y85.toInt ≤ 1000000 := b96; omega))), (show 0 ≤ y89.toInt from (by first | with_reducible exact q_fe b97 | (have t1 : 0 ≤ y89.toInt := b97; omega))), (show 0 ≤ y90.toInt from (by first | with_reducible exact q_fe b98 | (have t1 : 0 ≤ y90.toInt := b98; omega))), (show t7_1.toInt ≤ y268.toInt from (by have t1 : 0 ≤ t7_1.toInt ∧ t7_1.toInt ≤ 1 := btt7_1; have t2 : 0 + 1 ≤ y268.toInt := b272; omega)), (show y268.toInt ≤ t7_1.toInt + 420003 from (by have t1 : y39.toInt ≤ t7_1.toInt := b43; have t2 : y268.toInt ≤ y39.toInt + 420003 := b276; omega)), (show y89.toInt ≤ t7_0.toInt from (by have t1 : y59.toInt ≤ t7_0.toInt := b64; have t2 : y89.toInt ≤ y59.toInt := b99; omega)), (show y90.toInt ≤ t7_1.toInt from (by have t1 : y60.toInt ≤ t7_1.toInt := b67; have t2 : y90.toInt ≤ y60.toInt := b100; omega)), (show y85.toInt ≤ y84.toInt + 999999 from (by first | with_reducible exact q_fe b101 | (have t1 : y85.toInt ≤ y84.toInt + 999999 := b101; omega))), (show (y268, f269, y84, y85, f86, y89, y90, f91) = (F_Wri_decimalText R x3 t0_0 t1_0 t2_0 t2_1 t3_0 t4_0 t4_1 t5_0 t6_0 t6_1 t7_0 t7_1 t8_0) from Eq.trans (by rw [e282, e281, F_Wri_decimalText_c102_10.eq_1]) hR283)⟩) d_12_3_147

