def F_Dig_writeHead_c46 (K_F_Dig_writeHead_L30 : Int32 → Int32 → (Nat → Int64) → (Int32 × (Nat → Int64))) (R : Int32) (N : Int32) (K : Int32) (x3 : Int32) (x4 : Int32) (t0_0 : Int32) (t0_1 : Int32) (t1_0 : (Nat → Int32)) (t2_0 : Int32) (t3_0 : (Nat → Int64)) (p31 : (Int32 × (Nat → Int64))) (lx40 : Int32) (lx41 : (Nat → Int64)) (lx58 : Int32) (lx59 : Int32) (lx60 : (Nat → Int64)) (p96 : (Int32 × (Nat → Int64))) : Int32 × (Nat → Int64) := K_F_Dig_writeHead_L30 (lx58 + 1 : Int32) (p96.1 : Int32) (p96.2 : (Nat → Int64))
def F_Dig_writeHead_L30 (R : Int32) (N : Int32) (K : Int32) (x3 : Int32) (x4 : Int32) (t0_0 : Int32) (t0_1 : Int32) (t1_0 : (Nat → Int32)) (t2_0 : Int32) (t3_0 : (Nat → Int64)) (p31 : (Int32 × (Nat → Int64))) (lx40 : Int32) (lx41 : (Nat → Int64)) : Nat → Int32 → Int32 → (Nat → Int64) → (Int32 × (Nat → Int64))
  | 0, _, _, _ => default
  | fm + 1, lx58, lx59, lx60 => if x3 ≤ lx58 then ((lx59, lx60)) else (F_Dig_writeHead_c46 (F_Dig_writeHead_L30 R N K x3 x4 t0_0 t0_1 t1_0 t2_0 t3_0 p31 lx40 lx41 fm) R N K x3 x4 t0_0 t0_1 t1_0 t2_0 t3_0 p31 lx40 lx41 lx58 lx59 lx60 ((F_She_add_p R N K (48 + ((F_Dig_figure lx58 t0_0 t0_1 t1_0) : Int32) : Int32) lx59 lx60) : (Int32 × (Nat → Int64))))
def F_Dig_writeHead_J27 (R : Int32) (N : Int32) (K : Int32) (x3 : Int32) (x4 : Int32) (t0_0 : Int32) (t0_1 : Int32) (t1_0 : (Nat → Int32)) (t2_0 : Int32) (t3_0 : (Nat → Int64)) (p31 : (Int32 × (Nat → Int64))) (lx40 : Int32) (lx41 : (Nat → Int64)) : Int32 × (Nat → Int64) := F_Dig_writeHead_L30 R N K x3 x4 t0_0 t0_1 t1_0 t2_0 t3_0 p31 lx40 lx41 ((20000 - (1 : Int32).toInt).toNat + 1) 1 lx40 lx41
def F_Dig_writeHead_c24 (R : Int32) (N : Int32) (K : Int32) (x3 : Int32) (x4 : Int32) (t0_0 : Int32) (t0_1 : Int32) (t1_0 : (Nat → Int32)) (t2_0 : Int32) (t3_0 : (Nat → Int64)) (p31 : (Int32 × (Nat → Int64))) (y24 : Int32) (f25 : (Nat → Int64)) (p128 : (Int32 × (Nat → Int64))) : Int32 × (Nat → Int64) := F_Dig_writeHead_J27 R N K x3 x4 t0_0 t0_1 t1_0 t2_0 t3_0 p31 (p128.1 : Int32) (p128.2 : (Nat → Int64))
def F_Dig_writeHead_J21 (R : Int32) (N : Int32) (K : Int32) (x3 : Int32) (x4 : Int32) (t0_0 : Int32) (t0_1 : Int32) (t1_0 : (Nat → Int32)) (t2_0 : Int32) (t3_0 : (Nat → Int64)) (p31 : (Int32 × (Nat → Int64))) (y24 : Int32) (f25 : (Nat → Int64)) : Int32 × (Nat → Int64) := F_Dig_writeHead_c24 R N K x3 x4 t0_0 t0_1 t1_0 t2_0 t3_0 p31 y24 f25 ((F_She_add_p R N K (46 : Int32) y24 f25) : (Int32 × (Nat → Int64)))
def F_Dig_writeHead_c9 (R : Int32) (N : Int32) (K : Int32) (x3 : Int32) (x4 : Int32) (t0_0 : Int32) (t0_1 : Int32) (t1_0 : (Nat → Int32)) (t2_0 : Int32) (t3_0 : (Nat → Int64)) (p31 : (Int32 × (Nat → Int64))) : Int32 × (Nat → Int64) := if (1 : Int32) < x3 then (F_Dig_writeHead_J21 R N K x3 x4 t0_0 t0_1 t1_0 t2_0 t3_0 p31 (p31.1 : Int32) (p31.2 : (Nat → Int64))) else (if x4 = (0 : Int32) then (F_Dig_writeHead_J27 R N K x3 x4 t0_0 t0_1 t1_0 t2_0 t3_0 p31 (p31.1 : Int32) (p31.2 : (Nat → Int64))) else (F_Dig_writeHead_J21 R N K x3 x4 t0_0 t0_1 t1_0 t2_0 t3_0 p31 (p31.1 : Int32) (p31.2 : (Nat → Int64))))
def F_Dig_writeHead (R : Int32) (N : Int32) (K : Int32) (x3 : Int32) (x4 : Int32) (t0_0 : Int32) (t0_1 : Int32) (t1_0 : (Nat → Int32)) (t2_0 : Int32) (t3_0 : (Nat → Int64)) : Int32 × (Nat → Int64) := F_Dig_writeHead_c9 R N K x3 x4 t0_0 t0_1 t1_0 t2_0 t3_0 ((F_She_add_p R N K (48 + ((F_Dig_figure (0 : Int32) t0_0 t0_1 t1_0) : Int32) : Int32) t2_0 t3_0) : (Int32 × (Nat → Int64)))
set_option maxRecDepth 100000 in
set_option maxHeartbeats 4000000 in
theorem X_Dig_writeHead (l : Launch) (D : va_G) (g : Nat → ClassId) (q : Nat → Nat) (ws : va_W) (k2 : Nat) (R N K : Int32) (hB2 : q_isShe (nsh g q) g q k2 R N K) (x3 : Int32) (x4 : Int32) (hI : q_I (nsh g q) q ws) (t0_0 : Int32) (t0_1 : Int32) (hT0 : ws[36]? = (some (q 36, .inr (7, [.int t0_0, .int t0_1, .ref (q 37)])) : Option (Nat × va_E))) (t1_0 : (Nat → Int32)) (hT1 : ws[37]? = (some (q 37, .inl (g 2, 1026, .inl t1_0)) : Option (Nat × va_E))) (t2_0 : Int32) (hT2 : ws[k2]? = (some (q k2, .inr (1, [.ref (q (k2 + 1)), .int R, .int t2_0])) : Option (Nat × va_E))) (t3_0 : (Nat → Int64)) (hT3 : ws[k2 + 1]? = (some (q (k2 + 1), .inl (g 1, N.toNatClampNeg, .inr (.inl t3_0))) : Option (Nat × va_E))) (hzx4 : 0 ≤ x4.toInt ∧ x4.toInt ≤ 1) (pre0 : x3.toInt ≤ 20000) (pre1 : t2_0.toInt ≤ 400000) (pre2 : 1000000 ≤ K.toInt) : q_mV l y_Dig_writeHead prog_5_method_11_code 5 2 0 0 D g [.ref (q 36), .ref (q k2), .int x3, .int x4] ws (fun u => q_I (nsh g q) q u ∧ q_un ws u [k2, k2 + 1] ∧ ∃ (u2_0 : Int32) (u3_0 : (Nat → Int64)), u[k2]? = (some (q k2, .inr (1, [.ref (q (k2 + 1)), .int R, .int u2_0])) : Option (Nat × va_E)) ∧ u[k2 + 1]? = (some (q (k2 + 1), .inl (g 1, N.toNatClampNeg, .inr (.inl u3_0))) : Option (Nat × va_E)) ∧ (x3.toInt ≤ u2_0.toInt) ∧ (x4.toInt + 1 ≤ u2_0.toInt) ∧ (t2_0.toInt + 1 ≤ u2_0.toInt) ∧ (u2_0.toInt ≤ t2_0.toInt + 20001) ∧ (u2_0, u3_0) = (F_Dig_writeHead R N K x3 x4 t0_0 t0_1 t1_0 t2_0 t3_0)) := by
  intro sz
  refine q_into (by decide) (Nat.le_of_ble_eq_true rfl) ?_
  intro p e s m below meth c ls hsz C0 V hl
  have hx := C0.1
  have hb := C0.2.1
  have hfk20 : q_F (0 ≤ R.toInt ∧ R.toInt ≤ 8 * N.toInt ∧ 0 ≤ N.toInt ∧ N.toInt ≤ 1376 ∧ 64 ≤ R.toInt ∧ 64 ≤ K.toInt ∧ K.toInt ≤ 1000000) := hB2.2.2.1
  replace hzx4 : q_F (0 ≤ x4.toInt ∧ x4.toInt ≤ 1) := hzx4
  obtain ⟨yy0_0, yy0_1, hh0, btt0_0, btt0_1⟩ := n_o36 hI
  obtain ⟨rfl, rfl⟩ : t0_0 = yy0_0 ∧ t0_1 = yy0_1 := by have z := Option.some.inj (hT0.symm.trans hh0); simpa using z
  replace btt0_0 : q_F (0 ≤ t0_0.toInt ∧ t0_0.toInt ≤ 1026) := btt0_0
  replace btt0_1 : q_F (-1000000 ≤ t0_1.toInt ∧ t0_1.toInt ≤ 1000000) := btt0_1
  obtain ⟨yy2_0, hh2, btt2_0⟩ := n_shO hI hB2
  obtain ⟨rfl⟩ : t2_0 = yy2_0 := by have z := Option.some.inj (hT2.symm.trans hh2); simpa using z
  replace btt2_0 : q_F (0 ≤ t2_0.toInt ∧ t2_0.toInt ≤ K.toInt) := btt2_0
  replace pre0 : q_F (x3.toInt ≤ 20000) := pre0
  replace pre1 : q_F (t2_0.toInt ≤ 400000) := pre1
  replace pre2 : q_F (1000000 ≤ K.toInt) := pre2
  have hF : q_un ws ws [k2, k2 + 1] := q_u0
  have hl : lv_has ls 5 [(0, .ref (q 36)), (1, .ref (q k2)), (2, .int x3), (3, .int x4)] := hl
  refine lv_aload_n hx hb d_5_11_0 rfl (lv_at hl 1 rfl) ?_
  refine lv_bipush (v := 48) hx hb d_5_11_1 (by decide) ?_
  refine lv_aload_n hx hb d_5_11_3 rfl (lv_at hl 0 rfl) ?_
  refine lv_iconst (v := 0) hx hb d_5_11_4 (by decide) ?_
  refine q_goi V (q_runV (As := [.int 0]) (rest := [.int 48, .ref (q k2)]) (d := 1) (mc := 0) (ms := 0) (ci := 7) C0 V rfl LV_Dig_49 (X_Dig_figure l D g q ws  0 hI t0_0 t0_1 hT0 t1_0 hT1  _) rfl rfl hT0 rfl hl.1 rfl (Nat.le_of_ble_eq_true rfl) ⟨by decide, by decide⟩ ⟨Nat.le_of_ble_eq_true rfl, Nat.le_of_ble_eq_true rfl⟩ d_5_11_5) (fun a16 u14 H locs hp15 V => ?_)
  obtain ⟨rfl, hE17⟩ := hp15
  have e18 : a16 = (F_Dig_figure (0 : Int32) t0_0 t0_1 t1_0) := hE17
  refine lv_iadd hx hb d_5_11_8 ?_
  obtain ⟨a19, e20⟩ := q_nm (48 + a16 : Int32)
  refine q_ti (v := a19) e20 ?_
  refine q_gov V (q_runV (As := [.int a19]) (rest := []) (d := 1) (mc := 0) (ms := 0) (ci := 1) C0 V rfl LV_Dig_52 (X_She_add_p l D g q ws k2 R N K hB2 a19 hI t2_0 hT2 t3_0 hT3 (by have t1 : t2_0.toInt ≤ 400000 := pre1; have t2 : 1000000 ≤ K.toInt := pre2; omega) _) rfl rfl hT2 rfl hl.1 rfl (Nat.le_of_ble_eq_true rfl) ⟨by decide, by decide⟩ ⟨Nat.le_of_ble_eq_true rfl, Nat.le_of_ble_eq_true rfl⟩ d_5_11_9) (fun u21 H locs hp22 V => ?_)
  obtain ⟨hI, hu30, y24, f25, hO23, hA26, b27, b28, hE29⟩ := hp22
  replace hO23 : u21[k2]? = (some (q k2, .inr (1, [.ref (q (k2 + 1)), .int R, .int y24])) : Option (Nat × va_E)) := hO23
  replace hA26 : u21[k2 + 1]? = (some (q (k2 + 1), .inl (g 1, N.toNatClampNeg, .inr (.inl f25))) : Option (Nat × va_E)) := hA26
  obtain ⟨p31, e32⟩ : ∃ z, z = (F_She_add_p R N K a19 t2_0 t3_0) := ⟨_, rfl⟩
  have e33 : y24 = p31.1 := congrArg (fun z => z.1) (hE29.trans e32.symm)
  have e34 : f25 = p31.2 := congrArg (fun z => z.2) (hE29.trans e32.symm)
  replace b27 : q_F (t2_0.toInt + 1 ≤ y24.toInt) := b27
  replace b28 : q_F (y24.toInt ≤ t2_0.toInt + 1) := b28
  replace hT0 := (hu30 _ (by have z0 := hB2.2.2.2; simp only [List.mem_cons, List.not_mem_nil, or_false, not_or]; omega)).trans hT0
  replace hT1 := (hu30 _ (by have z0 := hB2.2.2.2; simp only [List.mem_cons, List.not_mem_nil, or_false, not_or]; omega)).trans hT1
  replace hF := q_uc hF hu30 (by simp)
  have hR35 := (show F_Dig_writeHead_c9 R N K x3 x4 t0_0 t0_1 t1_0 t2_0 t3_0 p31 = (F_Dig_writeHead R N K x3 x4 t0_0 t0_1 t1_0 t2_0 t3_0) from (by rw [e32, ← e20, e18, F_Dig_writeHead.eq_1]))
  refine lv_iload_n hx hb d_5_11_12 rfl (lv_at hl 2 rfl) ?_
  refine lv_iconst (v := 1) hx hb d_5_11_13 (by decide) ?_
  refine q_join (X := Int32 × (Nat → Int64)) (fun z H locs ls w51 => q_F (x3.toInt ≤ z.1.toInt + 19998) ∧ q_F (x4.toInt + 1 ≤ z.1.toInt) ∧ q_F (t2_0.toInt + 1 ≤ z.1.toInt) ∧ q_F (z.1.toInt ≤ t2_0.toInt + 2) ∧ q_Wd D g (va_A ws sz) s w51 H locs ∧ lv_has ls 5 [(0, .ref (q 36)), (1, .ref (q k2)), (2, .int x3)] ∧ q_I (nsh g q) q w51 ∧ q_un ws w51 [k2, k2 + 1] ∧ w51[36]? = (some (q 36, .inr (7, [.int t0_0, .int t0_1, .ref (q 37)])) : Option (Nat × va_E)) ∧ w51[37]? = (some (q 37, .inl (g 2, 1026, .inl t1_0)) : Option (Nat × va_E)) ∧ w51[k2]? = (some (q k2, .inr (1, [.ref (q (k2 + 1)), .int R, .int z.1])) : Option (Nat × va_E)) ∧ w51[k2 + 1]? = (some (q (k2 + 1), .inl (g 1, N.toNatClampNeg, .inr (.inl z.2))) : Option (Nat × va_E)) ∧ F_Dig_writeHead_J27 R N K x3 x4 t0_0 t0_1 t1_0 t2_0 t3_0 p31 z.1 z.2 = (F_Dig_writeHead R N K x3 x4 t0_0 t0_1 t1_0 t2_0 t3_0)) (fun z => []) 27 0 0 ?_ ?_
  ·
    rintro ⟨lx40, lx41⟩ H locs ls w51 ⟨i47, i48, i49, i50, V, hl, hI, hF, hO42, hA43, hO44, hA45, hR52⟩
    replace i47 : q_F (x3.toInt ≤ lx40.toInt + 19998) := i47
    replace i48 : q_F (x4.toInt + 1 ≤ lx40.toInt) := i48
    replace i49 : q_F (t2_0.toInt + 1 ≤ lx40.toInt) := i49
    replace i50 : q_F (lx40.toInt ≤ t2_0.toInt + 2) := i50
    replace hl : lv_has ls 5 [(0, .ref (q 36)), (1, .ref (q k2)), (2, .int x3)] := hl
    replace hO42 : w51[36]? = (some (q 36, .inr (7, [.int t0_0, .int t0_1, .ref (q 37)])) : Option (Nat × va_E)) := hO42
    replace hA43 : w51[37]? = (some (q 37, .inl (g 2, 1026, .inl t1_0)) : Option (Nat × va_E)) := hA43
    replace hO44 : w51[k2]? = (some (q k2, .inr (1, [.ref (q (k2 + 1)), .int R, .int lx40])) : Option (Nat × va_E)) := hO44
    replace hA45 : w51[k2 + 1]? = (some (q (k2 + 1), .inl (g 1, N.toNatClampNeg, .inr (.inl lx41))) : Option (Nat × va_E)) := hA45
    refine lv_iconst (v := 1) hx hb d_5_11_27 (by decide) ?_
    refine lv_istore (lv' := [(4, .int 1), (0, .ref (q 36)), (1, .ref (q k2)), (2, .int x3)]) hx hb d_5_11_28 hl (by decide) rfl (fun ls hl => ?_)
    refine q_loop (X := Int32 × Int32 × (Nat → Int64)) (fun z H locs ls w66 => q_F (z.1.toInt ≤ 20000) ∧ q_F (lx40.toInt + 1 ≤ z.1.toInt + z.2.1.toInt) ∧ q_F (z.2.1.toInt + 1 ≤ z.1.toInt + lx40.toInt) ∧ q_F (z.1.toInt + lx40.toInt ≤ z.2.1.toInt + 1) ∧ q_Wd D g (va_A ws sz) s w66 H locs ∧ lv_has ls 5 [(4, .int z.1), (0, .ref (q 36)), (1, .ref (q k2)), (2, .int x3)] ∧ q_I (nsh g q) q w66 ∧ q_un ws w66 [k2, k2 + 1] ∧ w66[36]? = (some (q 36, .inr (7, [.int t0_0, .int t0_1, .ref (q 37)])) : Option (Nat × va_E)) ∧ w66[37]? = (some (q 37, .inl (g 2, 1026, .inl t1_0)) : Option (Nat × va_E)) ∧ w66[k2]? = (some (q k2, .inr (1, [.ref (q (k2 + 1)), .int R, .int z.2.1])) : Option (Nat × va_E)) ∧ w66[k2 + 1]? = (some (q (k2 + 1), .inl (g 1, N.toNatClampNeg, .inr (.inl z.2.2))) : Option (Nat × va_E)) ∧ (∃ n, (20000 - z.1.toInt).toNat < n ∧ F_Dig_writeHead_L30 R N K x3 x4 t0_0 t0_1 t1_0 t2_0 t3_0 p31 lx40 lx41 n z.1 z.2.1 z.2.2 = (F_Dig_writeHead R N K x3 x4 t0_0 t0_1 t1_0 t2_0 t3_0))) (fun z => (20000 - z.1.toInt).toNat) ?_ ((1 : Int32), (lx40 : Int32), (lx41 : (Nat → Int64))) _ _ _ w51 ⟨(show q_F (1 ≤ 20000) from (show 1 ≤ 20000 from by omega)), (show q_F (lx40.toInt + 1 ≤ 1 + lx40.toInt) from (show lx40.toInt + 1 ≤ 1 + lx40.toInt from by omega)), (show q_F (lx40.toInt + 1 ≤ 1 + lx40.toInt) from (show lx40.toInt + 1 ≤ 1 + lx40.toInt from by omega)), (show q_F (1 + lx40.toInt ≤ lx40.toInt + 1) from (show 1 + lx40.toInt ≤ lx40.toInt + 1 from by omega)), V, q_lw hl (q_lw1 0 rfl (q_lw1 1 rfl (q_lw1 2 rfl (q_lw1 3 rfl q_lw0)))), hI, hF, hO42, hA43, hO44, hA45, ⟨((20000 - (1 : Int32).toInt).toNat + 1), Nat.lt_succ_self _, (show F_Dig_writeHead_L30 R N K x3 x4 t0_0 t0_1 t1_0 t2_0 t3_0 p31 lx40 lx41 ((20000 - (1 : Int32).toInt).toNat + 1) 1 lx40 lx41 = (F_Dig_writeHead R N K x3 x4 t0_0 t0_1 t1_0 t2_0 t3_0) from Eq.trans (by rw [F_Dig_writeHead_J27.eq_1]) hR52)⟩⟩
    rintro ⟨lx58, lx59, lx60⟩ H locs ls w66 ⟨i61, i62, i63, i64, V, hl, hI, hF, hO67, hO68, hO69, hO70, ⟨fu73, hf74, hR71⟩⟩ ih65
    obtain ⟨fm75, rfl⟩ : ∃ m, fu73 = m + 1 := ⟨fu73 - 1, by omega⟩
    replace i61 : q_F (lx58.toInt ≤ 20000) := i61
    replace i62 : q_F (lx40.toInt + 1 ≤ lx58.toInt + lx59.toInt) := i62
    replace i63 : q_F (lx59.toInt + 1 ≤ lx58.toInt + lx40.toInt) := i63
    replace i64 : q_F (lx58.toInt + lx40.toInt ≤ lx59.toInt + 1) := i64
    replace hl : lv_has ls 5 [(4, .int lx58), (0, .ref (q 36)), (1, .ref (q k2)), (2, .int x3)] := hl
    replace hO67 : w66[36]? = (some (q 36, .inr (7, [.int t0_0, .int t0_1, .ref (q 37)])) : Option (Nat × va_E)) := hO67
    replace hO68 : w66[37]? = (some (q 37, .inl (g 2, 1026, .inl t1_0)) : Option (Nat × va_E)) := hO68
    replace hO69 : w66[k2]? = (some (q k2, .inr (1, [.ref (q (k2 + 1)), .int R, .int lx59])) : Option (Nat × va_E)) := hO69
    replace hO70 : w66[k2 + 1]? = (some (q (k2 + 1), .inl (g 1, N.toNatClampNeg, .inr (.inl lx60))) : Option (Nat × va_E)) := hO70
    refine lv_iload hx hb d_5_11_30 (lv_at hl 0 rfl) ?_
    refine lv_iload_n hx hb d_5_11_32 rfl (lv_at hl 3 rfl) ?_
    refine lv_icmp_ge (tgt := 55) hx hb d_5_11_33 (by decide) (fun c76 => ?_) (fun c76 => ?_)
    ·
      have b77 : q_F (x3.toInt ≤ lx58.toInt) := (q_leI c76)
      exact q_retv C0 V (⟨hI, hF, lx59, lx60, hO69, hO70, (show x3.toInt ≤ lx59.toInt from (by have t1 : 0 ≤ x4.toInt ∧ x4.toInt ≤ 1 := hzx4; have t2 : x4.toInt + 1 ≤ lx40.toInt := i48; have t3 : lx58.toInt + lx40.toInt ≤ lx59.toInt + 1 := i64; have t4 : x3.toInt ≤ lx58.toInt := b77; omega)), (show x4.toInt + 1 ≤ lx59.toInt from (by have t1 : x4.toInt + 1 ≤ lx40.toInt := i48; have t2 : lx40.toInt + 1 ≤ lx58.toInt + lx59.toInt := i62; have t3 : lx58.toInt + lx40.toInt ≤ lx59.toInt + 1 := i64; omega)), (show t2_0.toInt + 1 ≤ lx59.toInt from (by have t1 : t2_0.toInt + 1 ≤ lx40.toInt := i49; have t2 : lx40.toInt + 1 ≤ lx58.toInt + lx59.toInt := i62; have t3 : lx58.toInt + lx40.toInt ≤ lx59.toInt + 1 := i64; omega)), (show lx59.toInt ≤ t2_0.toInt + 20001 from (by have t1 : lx40.toInt ≤ t2_0.toInt + 2 := i50; have t2 : lx58.toInt ≤ 20000 := i61; have t3 : lx59.toInt + 1 ≤ lx58.toInt + lx40.toInt := i63; omega)), (show (lx59, lx60) = (F_Dig_writeHead R N K x3 x4 t0_0 t0_1 t1_0 t2_0 t3_0) from Eq.trans (by rw [F_Dig_writeHead_L30.eq_2, if_pos c76]) hR71)⟩) d_5_11_55
    ·
      have b78 : q_F (lx58.toInt < x3.toInt) := (q_nleI c76)
      refine lv_aload_n hx hb d_5_11_36 rfl (lv_at hl 2 rfl) ?_
      refine lv_bipush (v := 48) hx hb d_5_11_37 (by decide) ?_
      refine lv_aload_n hx hb d_5_11_39 rfl (lv_at hl 1 rfl) ?_
      refine lv_iload hx hb d_5_11_40 (lv_at hl 0 rfl) ?_
      refine q_goi V (q_runV (As := [.int lx58]) (rest := [.int 48, .ref (q k2)]) (d := 1) (mc := 0) (ms := 0) (ci := 7) C0 V rfl LV_Dig_49 (X_Dig_figure l D g q w66  lx58 hI t0_0 t0_1 hO67 t1_0 hO68  _) rfl rfl hO67 rfl hl.1 rfl (Nat.le_of_ble_eq_true rfl) ⟨by decide, by decide⟩ ⟨Nat.le_of_ble_eq_true rfl, Nat.le_of_ble_eq_true rfl⟩ d_5_11_42) (fun a81 u79 H locs hp80 V => ?_)
      obtain ⟨rfl, hE82⟩ := hp80
      have e83 : a81 = (F_Dig_figure lx58 t0_0 t0_1 t1_0) := hE82
      refine lv_iadd hx hb d_5_11_45 ?_
      obtain ⟨a84, e85⟩ := q_nm (48 + a81 : Int32)
      refine q_ti (v := a84) e85 ?_
      refine q_gov V (q_runV (As := [.int a84]) (rest := []) (d := 1) (mc := 0) (ms := 0) (ci := 1) C0 V rfl LV_Dig_52 (X_She_add_p l D g q w66 k2 R N K hB2 a84 hI lx59 hO69 lx60 hO70 (by have t1 : t2_0.toInt ≤ 400000 := pre1; have t2 : 1000000 ≤ K.toInt := pre2; have t3 : lx40.toInt ≤ t2_0.toInt + 2 := i50; have t4 : lx58.toInt ≤ 20000 := i61; have t5 : lx59.toInt + 1 ≤ lx58.toInt + lx40.toInt := i63; omega) _) rfl rfl hO69 rfl hl.1 rfl (Nat.le_of_ble_eq_true rfl) ⟨by decide, by decide⟩ ⟨Nat.le_of_ble_eq_true rfl, Nat.le_of_ble_eq_true rfl⟩ d_5_11_46) (fun u86 H locs hp87 V => ?_)
      obtain ⟨hI, hu95, y89, f90, hO88, hA91, b92, b93, hE94⟩ := hp87
      replace hO88 : u86[k2]? = (some (q k2, .inr (1, [.ref (q (k2 + 1)), .int R, .int y89])) : Option (Nat × va_E)) := hO88
      replace hA91 : u86[k2 + 1]? = (some (q (k2 + 1), .inl (g 1, N.toNatClampNeg, .inr (.inl f90))) : Option (Nat × va_E)) := hA91
      obtain ⟨p96, e97⟩ : ∃ z, z = (F_She_add_p R N K a84 lx59 lx60) := ⟨_, rfl⟩
      have e98 : y89 = p96.1 := congrArg (fun z => z.1) (hE94.trans e97.symm)
      have e99 : f90 = p96.2 := congrArg (fun z => z.2) (hE94.trans e97.symm)
      replace b92 : q_F (lx59.toInt + 1 ≤ y89.toInt) := b92
      replace b93 : q_F (y89.toInt ≤ lx59.toInt + 1) := b93
      replace hO67 := (hu95 _ (by have z0 := hB2.2.2.2; simp only [List.mem_cons, List.not_mem_nil, or_false, not_or]; omega)).trans hO67
      replace hO68 := (hu95 _ (by have z0 := hB2.2.2.2; simp only [List.mem_cons, List.not_mem_nil, or_false, not_or]; omega)).trans hO68
      replace hF := q_uc hF hu95 (by simp)
      have hR100 := (show F_Dig_writeHead_c46 (F_Dig_writeHead_L30 R N K x3 x4 t0_0 t0_1 t1_0 t2_0 t3_0 p31 lx40 lx41 fm75) R N K x3 x4 t0_0 t0_1 t1_0 t2_0 t3_0 p31 lx40 lx41 lx58 lx59 lx60 p96 = (F_Dig_writeHead R N K x3 x4 t0_0 t0_1 t1_0 t2_0 t3_0) from Eq.trans (by rw [e97, ← e85, e83, F_Dig_writeHead_L30.eq_2, if_neg c76]) hR71)
      obtain ⟨a105, e106⟩ := q_nm (lx58 + 1 : Int32)
      have b107 : q_F (a105.toInt = lx58.toInt + 1) := (by rw [← e106]; exact q_addI (y := 1) rfl (by decide) (by have t1 : lx40.toInt + 1 ≤ lx58.toInt + lx59.toInt := i62; have t2 : lx59.toInt + 1 ≤ lx58.toInt + lx40.toInt := i63; have t3 : lx58.toInt ≤ 20000 := i61; omega) (by have t1 : lx40.toInt + 1 ≤ lx58.toInt + lx59.toInt := i62; have t2 : lx59.toInt + 1 ≤ lx58.toInt + lx40.toInt := i63; have t3 : lx58.toInt ≤ 20000 := i61; omega))
      refine lv_iinc (v := a105) (lv' := [(4, .int a105), (0, .ref (q 36)), (1, .ref (q k2)), (2, .int x3)]) hx hb d_5_11_49 hl (k := 0) rfl (e106) (by decide) rfl (fun ls hl => ?_)
      refine lv_goto (tgt := 30) hx hb d_5_11_52 (by decide) ?_
      exact ih65 ((a105 : Int32), (y89 : Int32), (f90 : (Nat → Int64))) _ _ _ _ (show (20000 - a105.toInt).toNat < (20000 - lx58.toInt).toNat from by have t1 : a105.toInt = lx58.toInt + 1 := b107; have t2 : lx58.toInt ≤ 20000 := i61; have t3 : x3.toInt ≤ 20000 := pre0; have t4 : lx58.toInt < x3.toInt := b78; omega) ⟨(show q_F (a105.toInt ≤ 20000) from (show a105.toInt ≤ 20000 from by have t1 : x3.toInt ≤ 20000 := pre0; have t2 : lx58.toInt < x3.toInt := b78; have t3 : a105.toInt = lx58.toInt + 1 := b107; omega)), (show q_F (lx40.toInt + 1 ≤ a105.toInt + y89.toInt) from (show lx40.toInt + 1 ≤ a105.toInt + y89.toInt from by have t1 : lx40.toInt + 1 ≤ lx58.toInt + lx59.toInt := i62; have t2 : lx59.toInt + 1 ≤ y89.toInt := b92; have t3 : a105.toInt = lx58.toInt + 1 := b107; omega)), (show q_F (y89.toInt + 1 ≤ a105.toInt + lx40.toInt) from (show y89.toInt + 1 ≤ a105.toInt + lx40.toInt from by have t1 : lx59.toInt + 1 ≤ lx58.toInt + lx40.toInt := i63; have t2 : y89.toInt ≤ lx59.toInt + 1 := b93; have t3 : a105.toInt = lx58.toInt + 1 := b107; omega)), (show q_F (a105.toInt + lx40.toInt ≤ y89.toInt + 1) from (show a105.toInt + lx40.toInt ≤ y89.toInt + 1 from by have t1 : lx58.toInt + lx40.toInt ≤ lx59.toInt + 1 := i64; have t2 : lx59.toInt + 1 ≤ y89.toInt := b92; have t3 : a105.toInt = lx58.toInt + 1 := b107; omega)), V, q_lw hl (q_lw1 0 rfl (q_lw1 1 rfl (q_lw1 2 rfl (q_lw1 3 rfl q_lw0)))), hI, hF, hO67, hO68, hO88, hA91, ⟨fm75, Nat.lt_of_lt_of_le (show (20000 - a105.toInt).toNat < (20000 - lx58.toInt).toNat from by have t1 : a105.toInt = lx58.toInt + 1 := b107; have t2 : lx58.toInt ≤ 20000 := i61; have t3 : x3.toInt ≤ 20000 := pre0; have t4 : lx58.toInt < x3.toInt := b78; omega) (Nat.le_of_lt_succ hf74), (show F_Dig_writeHead_L30 R N K x3 x4 t0_0 t0_1 t1_0 t2_0 t3_0 p31 lx40 lx41 fm75 a105 y89 f90 = (F_Dig_writeHead R N K x3 x4 t0_0 t0_1 t1_0 t2_0 t3_0) from Eq.trans (by rw [← e106, e99, e98, F_Dig_writeHead_c46.eq_1]) hR100)⟩⟩
  ·
    intro J46
    refine q_join (X := Unit) (fun z H locs ls _ => q_Wd D g (va_A ws sz) s u21 H locs ∧ lv_has ls 5 [(0, .ref (q 36)), (1, .ref (q k2)), (2, .int x3)] ∧ F_Dig_writeHead_J21 R N K x3 x4 t0_0 t0_1 t1_0 t2_0 t3_0 p31 y24 f25 = (F_Dig_writeHead R N K x3 x4 t0_0 t0_1 t1_0 t2_0 t3_0)) (fun z => []) 21 0 0 ?_ ?_
    ·
      rintro _ H locs ls _ ⟨V, hl, hR113⟩
      replace hl : lv_has ls 5 [(0, .ref (q 36)), (1, .ref (q k2)), (2, .int x3)] := hl
      refine lv_aload_n hx hb d_5_11_21 rfl (lv_at hl 1 rfl) ?_
      refine lv_bipush (v := 46) hx hb d_5_11_22 (by decide) ?_
      refine q_gov V (q_runV (As := [.int 46]) (rest := []) (d := 1) (mc := 0) (ms := 0) (ci := 1) C0 V rfl LV_Dig_52 (X_She_add_p l D g q u21 k2 R N K hB2 46 hI y24 hO23 f25 hA26 (by have y0 : (46 : Int32).toInt = 46 := rfl; have t1 : t2_0.toInt ≤ 400000 := pre1; have t2 : 1000000 ≤ K.toInt := pre2; have t3 : y24.toInt ≤ t2_0.toInt + 1 := b28; omega) _) rfl rfl hO23 rfl hl.1 rfl (Nat.le_of_ble_eq_true rfl) ⟨by decide, by decide⟩ ⟨Nat.le_of_ble_eq_true rfl, Nat.le_of_ble_eq_true rfl⟩ d_5_11_24) (fun u118 H locs hp119 V => ?_)
      obtain ⟨hI, hu127, y121, f122, hO120, hA123, b124, b125, hE126⟩ := hp119
      replace hO120 : u118[k2]? = (some (q k2, .inr (1, [.ref (q (k2 + 1)), .int R, .int y121])) : Option (Nat × va_E)) := hO120
      replace hA123 : u118[k2 + 1]? = (some (q (k2 + 1), .inl (g 1, N.toNatClampNeg, .inr (.inl f122))) : Option (Nat × va_E)) := hA123
      obtain ⟨p128, e129⟩ : ∃ z, z = (F_She_add_p R N K (46 : Int32) y24 f25) := ⟨_, rfl⟩
      have e130 : y121 = p128.1 := congrArg (fun z => z.1) (hE126.trans e129.symm)
      have e131 : f122 = p128.2 := congrArg (fun z => z.2) (hE126.trans e129.symm)
      replace b124 : q_F (y24.toInt + 1 ≤ y121.toInt) := b124
      replace b125 : q_F (y121.toInt ≤ y24.toInt + 1) := b125
      replace hT0 := (hu127 _ (by have z0 := hB2.2.2.2; simp only [List.mem_cons, List.not_mem_nil, or_false, not_or]; omega)).trans hT0
      replace hT1 := (hu127 _ (by have z0 := hB2.2.2.2; simp only [List.mem_cons, List.not_mem_nil, or_false, not_or]; omega)).trans hT1
      replace hF := q_uc hF hu127 (by simp)
      have hR132 := (show F_Dig_writeHead_c24 R N K x3 x4 t0_0 t0_1 t1_0 t2_0 t3_0 p31 y24 f25 p128 = (F_Dig_writeHead R N K x3 x4 t0_0 t0_1 t1_0 t2_0 t3_0) from Eq.trans (by rw [e129, F_Dig_writeHead_J21.eq_1]) hR113)
      exact J46 ((y121 : Int32), (f122 : (Nat → Int64))) _ _ _ _ ⟨(show q_F (x3.toInt ≤ y121.toInt + 19998) from (show x3.toInt ≤ y121.toInt + 19998 from by have t1 : 0 ≤ t2_0.toInt ∧ t2_0.toInt ≤ K.toInt := btt2_0; have t2 : x3.toInt ≤ 20000 := pre0; have t3 : t2_0.toInt + 1 ≤ y24.toInt := b27; have t4 : y24.toInt + 1 ≤ y121.toInt := b124; omega)), (show q_F (x4.toInt + 1 ≤ y121.toInt) from (show x4.toInt + 1 ≤ y121.toInt from by have t1 : 0 ≤ x4.toInt ∧ x4.toInt ≤ 1 := hzx4; have t2 : 0 ≤ t2_0.toInt ∧ t2_0.toInt ≤ K.toInt := btt2_0; have t3 : t2_0.toInt + 1 ≤ y24.toInt := b27; have t4 : y24.toInt + 1 ≤ y121.toInt := b124; omega)), (show q_F (t2_0.toInt + 1 ≤ y121.toInt) from (show t2_0.toInt + 1 ≤ y121.toInt from by have t1 : t2_0.toInt + 1 ≤ y24.toInt := b27; have t2 : y24.toInt + 1 ≤ y121.toInt := b124; omega)), (show q_F (y121.toInt ≤ t2_0.toInt + 2) from (show y121.toInt ≤ t2_0.toInt + 2 from by have t1 : y24.toInt ≤ t2_0.toInt + 1 := b28; have t2 : y121.toInt ≤ y24.toInt + 1 := b125; omega)), V, q_lw hl (q_lw1 0 rfl (q_lw1 1 rfl (q_lw1 2 rfl q_lw0))), hI, hF, hT0, hT1, hO120, hA123, (show F_Dig_writeHead_J27 R N K x3 x4 t0_0 t0_1 t1_0 t2_0 t3_0 p31 y121 f122 = (F_Dig_writeHead R N K x3 x4 t0_0 t0_1 t1_0 t2_0 t3_0) from Eq.trans (by rw [e131, e130, F_Dig_writeHead_c24.eq_1]) hR132)⟩
    ·
      intro J112
      refine lv_icmp_gt (tgt := 21) hx hb d_5_11_14 (by decide) (fun c137 => ?_) (fun c137 => ?_)
      ·
        have b138 : q_F (1 < x3.toInt) := (q_ltI c137)
        exact J112 (()) _ _ _ u21 ⟨V, q_lw hl (q_lw1 0 rfl (q_lw1 1 rfl (q_lw1 2 rfl q_lw0))), (show F_Dig_writeHead_J21 R N K x3 x4 t0_0 t0_1 t1_0 t2_0 t3_0 p31 y24 f25 = (F_Dig_writeHead R N K x3 x4 t0_0 t0_1 t1_0 t2_0 t3_0) from Eq.trans (by rw [e34, e33, F_Dig_writeHead_c9.eq_1, if_pos c137]) hR35)⟩
      ·
        have b139 : q_F (x3.toInt ≤ 1) := (q_nltI c137)
        refine lv_iload_n hx hb d_5_11_17 rfl (lv_at hl 3 rfl) ?_
        refine lv_if_eq (tgt := 27) hx hb d_5_11_18 (by decide) (fun c140 => ?_) (fun c140 => ?_)
        ·
          have b141 : q_F (x4.toInt = 0) := (q_eqI c140)
          exact J46 ((y24 : Int32), (f25 : (Nat → Int64))) _ _ _ _ ⟨(show q_F (x3.toInt ≤ y24.toInt + 19998) from (show x3.toInt ≤ y24.toInt + 19998 from by have t1 : 0 ≤ t2_0.toInt ∧ t2_0.toInt ≤ K.toInt := btt2_0; have t2 : t2_0.toInt + 1 ≤ y24.toInt := b27; have t3 : x3.toInt ≤ 1 := b139; omega)), (show q_F (x4.toInt + 1 ≤ y24.toInt) from (show x4.toInt + 1 ≤ y24.toInt from by have t1 : 0 ≤ t2_0.toInt ∧ t2_0.toInt ≤ K.toInt := btt2_0; have t2 : t2_0.toInt + 1 ≤ y24.toInt := b27; have t3 : x4.toInt = 0 := b141; omega)), (show q_F (t2_0.toInt + 1 ≤ y24.toInt) from (show t2_0.toInt + 1 ≤ y24.toInt from by have t1 : t2_0.toInt + 1 ≤ y24.toInt := b27; omega)), (show q_F (y24.toInt ≤ t2_0.toInt + 2) from (show y24.toInt ≤ t2_0.toInt + 2 from by have t1 : y24.toInt ≤ t2_0.toInt + 1 := b28; omega)), V, q_lw hl (q_lw1 0 rfl (q_lw1 1 rfl (q_lw1 2 rfl q_lw0))), hI, hF, hT0, hT1, hO23, hA26, (show F_Dig_writeHead_J27 R N K x3 x4 t0_0 t0_1 t1_0 t2_0 t3_0 p31 y24 f25 = (F_Dig_writeHead R N K x3 x4 t0_0 t0_1 t1_0 t2_0 t3_0) from Eq.trans (by rw [e34, e33, F_Dig_writeHead_c9.eq_1, if_neg c137, if_pos c140]) hR35)⟩
        ·
          have b142 : q_F (x4.toInt ≠ 0) := (q_neI c140)
          exact J112 (()) _ _ _ u21 ⟨V, q_lw hl (q_lw1 0 rfl (q_lw1 1 rfl (q_lw1 2 rfl q_lw0))), (show F_Dig_writeHead_J21 R N K x3 x4 t0_0 t0_1 t1_0 t2_0 t3_0 p31 y24 f25 = (F_Dig_writeHead R N K x3 x4 t0_0 t0_1 t1_0 t2_0 t3_0) from Eq.trans (by rw [e34, e33, F_Dig_writeHead_c9.eq_1, if_neg c137, if_neg c140]) hR35)⟩
def F_Dig_writeScience_c37 (R : Int32) (N : Int32) (K : Int32) (x3 : Int32) (x4 : Int32) (t0_0 : Int32) (t0_1 : Int32) (t1_0 : (Nat → Int32)) (t2_0 : Int32) (t3_0 : (Nat → Int64)) (p26 : (Int32 × (Nat → Int64))) (p45 : (Int32 × (Nat → Int64))) (p66 : (Int32 × (Nat → Int64))) (p85 : (Int32 × (Nat → Int64))) : Int32 × (Nat → Int64) := ((p85.1 : Int32), (p85.2 : (Nat → Int64)))
def F_Dig_writeScience_c28 (R : Int32) (N : Int32) (K : Int32) (x3 : Int32) (x4 : Int32) (t0_0 : Int32) (t0_1 : Int32) (t1_0 : (Nat → Int32)) (t2_0 : Int32) (t3_0 : (Nat → Int64)) (p26 : (Int32 × (Nat → Int64))) (p45 : (Int32 × (Nat → Int64))) (p66 : (Int32 × (Nat → Int64))) : Int32 × (Nat → Int64) := F_Dig_writeScience_c37 R N K x3 x4 t0_0 t0_1 t1_0 t2_0 t3_0 p26 p45 p66 ((F_She_addPower_p R N K t0_1 (2 : Int32) (p66.1 : Int32) (p66.2 : (Nat → Int64))) : (Int32 × (Nat → Int64)))
def F_Dig_writeScience_c37_6 (R : Int32) (N : Int32) (K : Int32) (x3 : Int32) (x4 : Int32) (t0_0 : Int32) (t0_1 : Int32) (t1_0 : (Nat → Int32)) (t2_0 : Int32) (t3_0 : (Nat → Int64)) (p26 : (Int32 × (Nat → Int64))) (p45 : (Int32 × (Nat → Int64))) (p105 : (Int32 × (Nat → Int64))) (p124 : (Int32 × (Nat → Int64))) : Int32 × (Nat → Int64) := ((p124.1 : Int32), (p124.2 : (Nat → Int64)))
def F_Dig_writeScience_c28_5 (R : Int32) (N : Int32) (K : Int32) (x3 : Int32) (x4 : Int32) (t0_0 : Int32) (t0_1 : Int32) (t1_0 : (Nat → Int32)) (t2_0 : Int32) (t3_0 : (Nat → Int64)) (p26 : (Int32 × (Nat → Int64))) (p45 : (Int32 × (Nat → Int64))) (p105 : (Int32 × (Nat → Int64))) : Int32 × (Nat → Int64) := F_Dig_writeScience_c37_6 R N K x3 x4 t0_0 t0_1 t1_0 t2_0 t3_0 p26 p45 p105 ((F_She_addPower_p R N K t0_1 (2 : Int32) (p105.1 : Int32) (p105.2 : (Nat → Int64))) : (Int32 × (Nat → Int64)))
def F_Dig_writeScience_c10 (R : Int32) (N : Int32) (K : Int32) (x3 : Int32) (x4 : Int32) (t0_0 : Int32) (t0_1 : Int32) (t1_0 : (Nat → Int32)) (t2_0 : Int32) (t3_0 : (Nat → Int64)) (p26 : (Int32 × (Nat → Int64))) (p45 : (Int32 × (Nat → Int64))) : Int32 × (Nat → Int64) := if (0 : Int32) ≤ t0_1 then (F_Dig_writeScience_c28 R N K x3 x4 t0_0 t0_1 t1_0 t2_0 t3_0 p26 p45 ((F_She_add_p R N K (43 : Int32) (p45.1 : Int32) (p45.2 : (Nat → Int64))) : (Int32 × (Nat → Int64)))) else (F_Dig_writeScience_c28_5 R N K x3 x4 t0_0 t0_1 t1_0 t2_0 t3_0 p26 p45 ((F_She_add_p R N K (45 : Int32) (p45.1 : Int32) (p45.2 : (Nat → Int64))) : (Int32 × (Nat → Int64))))
def F_Dig_writeScience_c4 (R : Int32) (N : Int32) (K : Int32) (x3 : Int32) (x4 : Int32) (t0_0 : Int32) (t0_1 : Int32) (t1_0 : (Nat → Int32)) (t2_0 : Int32) (t3_0 : (Nat → Int64)) (p26 : (Int32 × (Nat → Int64))) : Int32 × (Nat → Int64) := F_Dig_writeScience_c10 R N K x3 x4 t0_0 t0_1 t1_0 t2_0 t3_0 p26 ((F_She_add_p R N K (101 : Int32) (p26.1 : Int32) (p26.2 : (Nat → Int64))) : (Int32 × (Nat → Int64)))
def F_Dig_writeScience (R : Int32) (N : Int32) (K : Int32) (x3 : Int32) (x4 : Int32) (t0_0 : Int32) (t0_1 : Int32) (t1_0 : (Nat → Int32)) (t2_0 : Int32) (t3_0 : (Nat → Int64)) : Int32 × (Nat → Int64) := F_Dig_writeScience_c4 R N K x3 x4 t0_0 t0_1 t1_0 t2_0 t3_0 ((F_Dig_writeHead R N K x3 x4 t0_0 t0_1 t1_0 t2_0 t3_0) : (Int32 × (Nat → Int64)))
set_option maxRecDepth 100000 in
set_option maxHeartbeats 4000000 in
theorem X_Dig_writeScience (l : Launch) (D : va_G) (g : Nat → ClassId) (q : Nat → Nat) (ws : va_W) (k2 : Nat) (R N K : Int32) (hB2 : q_isShe (nsh g q) g q k2 R N K) (x3 : Int32) (x4 : Int32) (hI : q_I (nsh g q) q ws) (t0_0 : Int32) (t0_1 : Int32) (hT0 : ws[36]? = (some (q 36, .inr (7, [.int t0_0, .int t0_1, .ref (q 37)])) : Option (Nat × va_E))) (t1_0 : (Nat → Int32)) (hT1 : ws[37]? = (some (q 37, .inl (g 2, 1026, .inl t1_0)) : Option (Nat × va_E))) (t2_0 : Int32) (hT2 : ws[k2]? = (some (q k2, .inr (1, [.ref (q (k2 + 1)), .int R, .int t2_0])) : Option (Nat × va_E))) (t3_0 : (Nat → Int64)) (hT3 : ws[k2 + 1]? = (some (q (k2 + 1), .inl (g 1, N.toNatClampNeg, .inr (.inl t3_0))) : Option (Nat × va_E))) (hzx4 : 0 ≤ x4.toInt ∧ x4.toInt ≤ 1) (pre0 : x3.toInt ≤ 20000) (pre1 : t2_0.toInt ≤ 400000) (pre2 : 1000000 ≤ K.toInt) : q_mV l y_Dig_writeScience prog_5_method_10_code 4 3 0 0 D g [.ref (q 36), .ref (q k2), .int x3, .int x4] ws (fun u => q_I (nsh g q) q u ∧ q_un ws u [k2, k2 + 1] ∧ ∃ (u2_0 : Int32) (u3_0 : (Nat → Int64)), u[k2]? = (some (q k2, .inr (1, [.ref (q (k2 + 1)), .int R, .int u2_0])) : Option (Nat × va_E)) ∧ u[k2 + 1]? = (some (q (k2 + 1), .inl (g 1, N.toNatClampNeg, .inr (.inl u3_0))) : Option (Nat × va_E)) ∧ (x3.toInt + 2 ≤ u2_0.toInt) ∧ (x4.toInt + 3 ≤ u2_0.toInt) ∧ (t2_0.toInt + 3 ≤ u2_0.toInt) ∧ (u2_0.toInt ≤ t2_0.toInt + 20008) ∧ (u2_0, u3_0) = (F_Dig_writeScience R N K x3 x4 t0_0 t0_1 t1_0 t2_0 t3_0)) := by
  intro sz
  refine q_into (by decide) (Nat.le_of_ble_eq_true rfl) ?_
  intro p e s m below meth c ls hsz C0 V hl
  have hx := C0.1
  have hb := C0.2.1
  have hfk20 : q_F (0 ≤ R.toInt ∧ R.toInt ≤ 8 * N.toInt ∧ 0 ≤ N.toInt ∧ N.toInt ≤ 1376 ∧ 64 ≤ R.toInt ∧ 64 ≤ K.toInt ∧ K.toInt ≤ 1000000) := hB2.2.2.1
  replace hzx4 : q_F (0 ≤ x4.toInt ∧ x4.toInt ≤ 1) := hzx4
  obtain ⟨yy0_0, yy0_1, hh0, btt0_0, btt0_1⟩ := n_o36 hI
  obtain ⟨rfl, rfl⟩ : t0_0 = yy0_0 ∧ t0_1 = yy0_1 := by have z := Option.some.inj (hT0.symm.trans hh0); simpa using z
  replace btt0_0 : q_F (0 ≤ t0_0.toInt ∧ t0_0.toInt ≤ 1026) := btt0_0
  replace btt0_1 : q_F (-1000000 ≤ t0_1.toInt ∧ t0_1.toInt ≤ 1000000) := btt0_1
  obtain ⟨yy2_0, hh2, btt2_0⟩ := n_shO hI hB2
  obtain ⟨rfl⟩ : t2_0 = yy2_0 := by have z := Option.some.inj (hT2.symm.trans hh2); simpa using z
  replace btt2_0 : q_F (0 ≤ t2_0.toInt ∧ t2_0.toInt ≤ K.toInt) := btt2_0
  replace pre0 : q_F (x3.toInt ≤ 20000) := pre0
  replace pre1 : q_F (t2_0.toInt ≤ 400000) := pre1
  replace pre2 : q_F (1000000 ≤ K.toInt) := pre2
  have hF : q_un ws ws [k2, k2 + 1] := q_u0
  have hl : lv_has ls 4 [(0, .ref (q 36)), (1, .ref (q k2)), (2, .int x3), (3, .int x4)] := hl
  refine lv_aload_n hx hb d_5_10_0 rfl (lv_at hl 0 rfl) ?_
  refine lv_aload_n hx hb d_5_10_1 rfl (lv_at hl 1 rfl) ?_
  refine lv_iload_n hx hb d_5_10_2 rfl (lv_at hl 2 rfl) ?_
  refine lv_iload_n hx hb d_5_10_3 rfl (lv_at hl 3 rfl) ?_
  refine q_gov V (q_runV (As := [.ref (q k2), .int x3, .int x4]) (rest := []) (d := 2) (mc := 0) (ms := 0) (ci := 7) C0 V rfl LV_Dig_57 (X_Dig_writeHead l D g q ws k2 R N K hB2 x3 x4 hI t0_0 t0_1 hT0 t1_0 hT1 t2_0 hT2 t3_0 hT3 ⟨(by have t1 : 0 ≤ x4.toInt ∧ x4.toInt ≤ 1 := hzx4; omega), (by have t1 : 0 ≤ x4.toInt ∧ x4.toInt ≤ 1 := hzx4; omega)⟩ (by have t1 : x3.toInt ≤ 20000 := pre0; omega) (by have t1 : t2_0.toInt ≤ 400000 := pre1; omega) (by have t1 : 1000000 ≤ K.toInt := pre2; omega) _) rfl rfl hT0 rfl hl.1 rfl (Nat.le_of_ble_eq_true rfl) ⟨by decide, by decide⟩ ⟨Nat.le_of_ble_eq_true rfl, Nat.le_of_ble_eq_true rfl⟩ d_5_10_4) (fun u14 H locs hp15 V => ?_)
  obtain ⟨hI, hu25, y17, f18, hO16, hA19, b20, b21, b22, b23, hE24⟩ := hp15
  replace hO16 : u14[k2]? = (some (q k2, .inr (1, [.ref (q (k2 + 1)), .int R, .int y17])) : Option (Nat × va_E)) := hO16
  replace hA19 : u14[k2 + 1]? = (some (q (k2 + 1), .inl (g 1, N.toNatClampNeg, .inr (.inl f18))) : Option (Nat × va_E)) := hA19
  obtain ⟨p26, e27⟩ : ∃ z, z = (F_Dig_writeHead R N K x3 x4 t0_0 t0_1 t1_0 t2_0 t3_0) := ⟨_, rfl⟩
  have e28 : y17 = p26.1 := congrArg (fun z => z.1) (hE24.trans e27.symm)
  have e29 : f18 = p26.2 := congrArg (fun z => z.2) (hE24.trans e27.symm)
  replace b20 : q_F (x3.toInt ≤ y17.toInt) := b20
  replace b21 : q_F (x4.toInt + 1 ≤ y17.toInt) := b21
  replace b22 : q_F (t2_0.toInt + 1 ≤ y17.toInt) := b22
  replace b23 : q_F (y17.toInt ≤ t2_0.toInt + 20001) := b23
  replace hT0 := (hu25 _ (by have z0 := hB2.2.2.2; simp only [List.mem_cons, List.not_mem_nil, or_false, not_or]; omega)).trans hT0
  replace hT1 := (hu25 _ (by have z0 := hB2.2.2.2; simp only [List.mem_cons, List.not_mem_nil, or_false, not_or]; omega)).trans hT1
  replace hF := q_uc hF hu25 (by simp)
  have hR30 := (show F_Dig_writeScience_c4 R N K x3 x4 t0_0 t0_1 t1_0 t2_0 t3_0 p26 = (F_Dig_writeScience R N K x3 x4 t0_0 t0_1 t1_0 t2_0 t3_0) from (by rw [e27, F_Dig_writeScience.eq_1]))
  refine lv_aload_n hx hb d_5_10_7 rfl (lv_at hl 1 rfl) ?_
  refine lv_bipush (v := 101) hx hb d_5_10_8 (by decide) ?_
  refine q_gov V (q_runV (As := [.int 101]) (rest := []) (d := 1) (mc := 0) (ms := 0) (ci := 1) C0 V rfl LV_Dig_52 (X_She_add_p l D g q u14 k2 R N K hB2 101 hI y17 hO16 f18 hA19 (by have y0 : (101 : Int32).toInt = 101 := rfl; have t1 : t2_0.toInt ≤ 400000 := pre1; have t2 : 1000000 ≤ K.toInt := pre2; have t3 : y17.toInt ≤ t2_0.toInt + 20001 := b23; omega) _) rfl rfl hO16 rfl hl.1 rfl (Nat.le_of_ble_eq_true rfl) ⟨by decide, by decide⟩ ⟨Nat.le_of_ble_eq_true rfl, Nat.le_of_ble_eq_true rfl⟩ d_5_10_10) (fun u35 H locs hp36 V => ?_)
  obtain ⟨hI, hu44, y38, f39, hO37, hA40, b41, b42, hE43⟩ := hp36
  replace hO37 : u35[k2]? = (some (q k2, .inr (1, [.ref (q (k2 + 1)), .int R, .int y38])) : Option (Nat × va_E)) := hO37
  replace hA40 : u35[k2 + 1]? = (some (q (k2 + 1), .inl (g 1, N.toNatClampNeg, .inr (.inl f39))) : Option (Nat × va_E)) := hA40
  obtain ⟨p45, e46⟩ : ∃ z, z = (F_She_add_p R N K (101 : Int32) y17 f18) := ⟨_, rfl⟩
  have e47 : y38 = p45.1 := congrArg (fun z => z.1) (hE43.trans e46.symm)
  have e48 : f39 = p45.2 := congrArg (fun z => z.2) (hE43.trans e46.symm)
  replace b41 : q_F (y17.toInt + 1 ≤ y38.toInt) := b41
  replace b42 : q_F (y38.toInt ≤ y17.toInt + 1) := b42
  replace hT0 := (hu44 _ (by have z0 := hB2.2.2.2; simp only [List.mem_cons, List.not_mem_nil, or_false, not_or]; omega)).trans hT0
  replace hT1 := (hu44 _ (by have z0 := hB2.2.2.2; simp only [List.mem_cons, List.not_mem_nil, or_false, not_or]; omega)).trans hT1
  replace hF := q_uc hF hu44 (by simp)
  have hR49 := (show F_Dig_writeScience_c10 R N K x3 x4 t0_0 t0_1 t1_0 t2_0 t3_0 p26 p45 = (F_Dig_writeScience R N K x3 x4 t0_0 t0_1 t1_0 t2_0 t3_0) from Eq.trans (by rw [e46, e29, e28, F_Dig_writeScience_c4.eq_1]) hR30)
  refine lv_aload_n hx hb d_5_10_13 rfl (lv_at hl 1 rfl) ?_
  refine lv_aload_n hx hb d_5_10_14 rfl (lv_at hl 0 rfl) ?_
  refine q_get (ci := 7) (j := 1) (v := .int t0_1) C0 V i_Dig rfl rfl hT0 (by decide) w_266 rfl d_5_10_15 ?_
  refine lv_if_ge (tgt := 26) hx hb d_5_10_18 (by decide) (fun c54 => ?_) (fun c54 => ?_)
  ·
    have b55 : q_F (0 ≤ t0_1.toInt) := (q_leI c54)
    refine lv_bipush (v := 43) hx hb d_5_10_26 (by decide) ?_
    refine q_gov V (q_runV (As := [.int 43]) (rest := []) (d := 1) (mc := 0) (ms := 0) (ci := 1) C0 V rfl LV_Dig_52 (X_She_add_p l D g q u35 k2 R N K hB2 43 hI y38 hO37 f39 hA40 (by have y0 : (43 : Int32).toInt = 43 := rfl; have t1 : t2_0.toInt ≤ 400000 := pre1; have t2 : 1000000 ≤ K.toInt := pre2; have t3 : y17.toInt ≤ t2_0.toInt + 20001 := b23; have t4 : y38.toInt ≤ y17.toInt + 1 := b42; omega) _) rfl rfl hO37 rfl hl.1 rfl (Nat.le_of_ble_eq_true rfl) ⟨by decide, by decide⟩ ⟨Nat.le_of_ble_eq_true rfl, Nat.le_of_ble_eq_true rfl⟩ d_5_10_28) (fun u56 H locs hp57 V => ?_)
    obtain ⟨hI, hu65, y59, f60, hO58, hA61, b62, b63, hE64⟩ := hp57
    replace hO58 : u56[k2]? = (some (q k2, .inr (1, [.ref (q (k2 + 1)), .int R, .int y59])) : Option (Nat × va_E)) := hO58
    replace hA61 : u56[k2 + 1]? = (some (q (k2 + 1), .inl (g 1, N.toNatClampNeg, .inr (.inl f60))) : Option (Nat × va_E)) := hA61
    obtain ⟨p66, e67⟩ : ∃ z, z = (F_She_add_p R N K (43 : Int32) y38 f39) := ⟨_, rfl⟩
    have e68 : y59 = p66.1 := congrArg (fun z => z.1) (hE64.trans e67.symm)
    have e69 : f60 = p66.2 := congrArg (fun z => z.2) (hE64.trans e67.symm)
    replace b62 : q_F (y38.toInt + 1 ≤ y59.toInt) := b62
    replace b63 : q_F (y59.toInt ≤ y38.toInt + 1) := b63
    replace hT0 := (hu65 _ (by have z0 := hB2.2.2.2; simp only [List.mem_cons, List.not_mem_nil, or_false, not_or]; omega)).trans hT0
    replace hT1 := (hu65 _ (by have z0 := hB2.2.2.2; simp only [List.mem_cons, List.not_mem_nil, or_false, not_or]; omega)).trans hT1
    replace hF := q_uc hF hu65 (by simp)
    have hR70 := (show F_Dig_writeScience_c28 R N K x3 x4 t0_0 t0_1 t1_0 t2_0 t3_0 p26 p45 p66 = (F_Dig_writeScience R N K x3 x4 t0_0 t0_1 t1_0 t2_0 t3_0) from Eq.trans (by rw [e67, e48, e47, F_Dig_writeScience_c10.eq_1, if_pos c54]) hR49)
    refine lv_aload_n hx hb d_5_10_31 rfl (lv_at hl 1 rfl) ?_
    refine lv_aload_n hx hb d_5_10_32 rfl (lv_at hl 0 rfl) ?_
    refine q_get (ci := 7) (j := 1) (v := .int t0_1) C0 V i_Dig rfl rfl hT0 (by decide) w_266 rfl d_5_10_33 ?_
    refine lv_iconst (v := 2) hx hb d_5_10_36 (by decide) ?_
    refine q_gov V (q_runV (As := [.int t0_1, .int 2]) (rest := []) (d := 2) (mc := 0) (ms := 0) (ci := 1) C0 V rfl LV_Dig_61 (X_She_addPower_p l D g q u56 k2 R N K hB2 t0_1 2 hI y59 hO58 f60 hA61 (by have y0 : (2 : Int32).toInt = 2 := rfl; have t1 : t2_0.toInt ≤ 400000 := pre1; have t2 : 1000000 ≤ K.toInt := pre2; have t3 : y17.toInt ≤ t2_0.toInt + 20001 := b23; have t4 : y38.toInt ≤ y17.toInt + 1 := b42; have t5 : y59.toInt ≤ y38.toInt + 1 := b63; omega) (by have y0 : (2 : Int32).toInt = 2 := rfl; have t1 : -1000000 ≤ t0_1.toInt ∧ t0_1.toInt ≤ 1000000 := btt0_1; omega) _) rfl rfl hO58 rfl hl.1 rfl (Nat.le_of_ble_eq_true rfl) ⟨by decide, by decide⟩ ⟨Nat.le_of_ble_eq_true rfl, Nat.le_of_ble_eq_true rfl⟩ d_5_10_37) (fun u75 H locs hp76 V => ?_)
    obtain ⟨hI, hu84, y78, f79, hO77, hA80, b81, b82, hE83⟩ := hp76
    replace hO77 : u75[k2]? = (some (q k2, .inr (1, [.ref (q (k2 + 1)), .int R, .int y78])) : Option (Nat × va_E)) := hO77
    replace hA80 : u75[k2 + 1]? = (some (q (k2 + 1), .inl (g 1, N.toNatClampNeg, .inr (.inl f79))) : Option (Nat × va_E)) := hA80
    obtain ⟨p85, e86⟩ : ∃ z, z = (F_She_addPower_p R N K t0_1 (2 : Int32) y59 f60) := ⟨_, rfl⟩
    have e87 : y78 = p85.1 := congrArg (fun z => z.1) (hE83.trans e86.symm)
    have e88 : f79 = p85.2 := congrArg (fun z => z.2) (hE83.trans e86.symm)
    replace b81 : q_F (y59.toInt ≤ y78.toInt) := b81
    replace b82 : q_F (y78.toInt ≤ y59.toInt + 5) := b82
    replace hT0 := (hu84 _ (by have z0 := hB2.2.2.2; simp only [List.mem_cons, List.not_mem_nil, or_false, not_or]; omega)).trans hT0
    replace hT1 := (hu84 _ (by have z0 := hB2.2.2.2; simp only [List.mem_cons, List.not_mem_nil, or_false, not_or]; omega)).trans hT1
    replace hF := q_uc hF hu84 (by simp)
    have hR89 := (show F_Dig_writeScience_c37 R N K x3 x4 t0_0 t0_1 t1_0 t2_0 t3_0 p26 p45 p66 p85 = (F_Dig_writeScience R N K x3 x4 t0_0 t0_1 t1_0 t2_0 t3_0) from Eq.trans (by rw [e86, e69, e68, F_Dig_writeScience_c28.eq_1]) hR70)
    exact q_retv C0 V (⟨hI, hF, y78, f79, hO77, hA80, (show x3.toInt + 2 ≤ y78.toInt from (by have t1 : x3.toInt ≤ y17.toInt := b20; have t2 : y17.toInt + 1 ≤ y38.toInt := b41; have t3 : y38.toInt + 1 ≤ y59.toInt := b62; have t4 : y59.toInt ≤ y78.toInt := b81; omega)), (show x4.toInt + 3 ≤ y78.toInt from (by have t1 : x4.toInt + 1 ≤ y17.toInt := b21; have t2 : y17.toInt + 1 ≤ y38.toInt := b41; have t3 : y38.toInt + 1 ≤ y59.toInt := b62; have t4 : y59.toInt ≤ y78.toInt := b81; omega)), (show t2_0.toInt + 3 ≤ y78.toInt from (by have t1 : t2_0.toInt + 1 ≤ y17.toInt := b22; have t2 : y17.toInt + 1 ≤ y38.toInt := b41; have t3 : y38.toInt + 1 ≤ y59.toInt := b62; have t4 : y59.toInt ≤ y78.toInt := b81; omega)), (show y78.toInt ≤ t2_0.toInt + 20008 from (by have t1 : y17.toInt ≤ t2_0.toInt + 20001 := b23; have t2 : y38.toInt ≤ y17.toInt + 1 := b42; have t3 : y59.toInt ≤ y38.toInt + 1 := b63; have t4 : y78.toInt ≤ y59.toInt + 5 := b82; omega)), (show (y78, f79) = (F_Dig_writeScience R N K x3 x4 t0_0 t0_1 t1_0 t2_0 t3_0) from Eq.trans (by rw [e88, e87, F_Dig_writeScience_c37.eq_1]) hR89)⟩) d_5_10_40
  ·
    have b94 : q_F (t0_1.toInt < 0) := (q_nleI c54)
    refine lv_bipush (v := 45) hx hb d_5_10_21 (by decide) ?_
    refine lv_goto (tgt := 28) hx hb d_5_10_23 (by decide) ?_
    refine q_gov V (q_runV (As := [.int 45]) (rest := []) (d := 1) (mc := 0) (ms := 0) (ci := 1) C0 V rfl LV_Dig_52 (X_She_add_p l D g q u35 k2 R N K hB2 45 hI y38 hO37 f39 hA40 (by have y0 : (45 : Int32).toInt = 45 := rfl; have t1 : t2_0.toInt ≤ 400000 := pre1; have t2 : 1000000 ≤ K.toInt := pre2; have t3 : y17.toInt ≤ t2_0.toInt + 20001 := b23; have t4 : y38.toInt ≤ y17.toInt + 1 := b42; omega) _) rfl rfl hO37 rfl hl.1 rfl (Nat.le_of_ble_eq_true rfl) ⟨by decide, by decide⟩ ⟨Nat.le_of_ble_eq_true rfl, Nat.le_of_ble_eq_true rfl⟩ d_5_10_28) (fun u95 H locs hp96 V => ?_)
    obtain ⟨hI, hu104, y98, f99, hO97, hA100, b101, b102, hE103⟩ := hp96
    replace hO97 : u95[k2]? = (some (q k2, .inr (1, [.ref (q (k2 + 1)), .int R, .int y98])) : Option (Nat × va_E)) := hO97
    replace hA100 : u95[k2 + 1]? = (some (q (k2 + 1), .inl (g 1, N.toNatClampNeg, .inr (.inl f99))) : Option (Nat × va_E)) := hA100
    obtain ⟨p105, e106⟩ : ∃ z, z = (F_She_add_p R N K (45 : Int32) y38 f39) := ⟨_, rfl⟩
    have e107 : y98 = p105.1 := congrArg (fun z => z.1) (hE103.trans e106.symm)
    have e108 : f99 = p105.2 := congrArg (fun z => z.2) (hE103.trans e106.symm)
    replace b101 : q_F (y38.toInt + 1 ≤ y98.toInt) := b101
    replace b102 : q_F (y98.toInt ≤ y38.toInt + 1) := b102
    replace hT0 := (hu104 _ (by have z0 := hB2.2.2.2; simp only [List.mem_cons, List.not_mem_nil, or_false, not_or]; omega)).trans hT0
    replace hT1 := (hu104 _ (by have z0 := hB2.2.2.2; simp only [List.mem_cons, List.not_mem_nil, or_false, not_or]; omega)).trans hT1
    replace hF := q_uc hF hu104 (by simp)
    have hR109 := (show F_Dig_writeScience_c28_5 R N K x3 x4 t0_0 t0_1 t1_0 t2_0 t3_0 p26 p45 p105 = (F_Dig_writeScience R N K x3 x4 t0_0 t0_1 t1_0 t2_0 t3_0) from Eq.trans (by rw [e106, e48, e47, F_Dig_writeScience_c10.eq_1, if_neg c54]) hR49)
    refine lv_aload_n hx hb d_5_10_31 rfl (lv_at hl 1 rfl) ?_
    refine lv_aload_n hx hb d_5_10_32 rfl (lv_at hl 0 rfl) ?_
    refine q_get (ci := 7) (j := 1) (v := .int t0_1) C0 V i_Dig rfl rfl hT0 (by decide) w_266 rfl d_5_10_33 ?_
    refine lv_iconst (v := 2) hx hb d_5_10_36 (by decide) ?_
    refine q_gov V (q_runV (As := [.int t0_1, .int 2]) (rest := []) (d := 2) (mc := 0) (ms := 0) (ci := 1) C0 V rfl LV_Dig_61 (X_She_addPower_p l D g q u95 k2 R N K hB2 t0_1 2 hI y98 hO97 f99 hA100 (by have y0 : (2 : Int32).toInt = 2 := rfl; have t1 : t2_0.toInt ≤ 400000 := pre1; have t2 : 1000000 ≤ K.toInt := pre2; have t3 : y17.toInt ≤ t2_0.toInt + 20001 := b23; have t4 : y38.toInt ≤ y17.toInt + 1 := b42; have t5 : y98.toInt ≤ y38.toInt + 1 := b102; omega) (by have y0 : (2 : Int32).toInt = 2 := rfl; have t1 : -1000000 ≤ t0_1.toInt ∧ t0_1.toInt ≤ 1000000 := btt0_1; omega) _) rfl rfl hO97 rfl hl.1 rfl (Nat.le_of_ble_eq_true rfl) ⟨by decide, by decide⟩ ⟨Nat.le_of_ble_eq_true rfl, Nat.le_of_ble_eq_true rfl⟩ d_5_10_37) (fun u114 H locs hp115 V => ?_)
    obtain ⟨hI, hu123, y117, f118, hO116, hA119, b120, b121, hE122⟩ := hp115
    replace hO116 : u114[k2]? = (some (q k2, .inr (1, [.ref (q (k2 + 1)), .int R, .int y117])) : Option (Nat × va_E)) := hO116
    replace hA119 : u114[k2 + 1]? = (some (q (k2 + 1), .inl (g 1, N.toNatClampNeg, .inr (.inl f118))) : Option (Nat × va_E)) := hA119
    obtain ⟨p124, e125⟩ : ∃ z, z = (F_She_addPower_p R N K t0_1 (2 : Int32) y98 f99) := ⟨_, rfl⟩
    have e126 : y117 = p124.1 := congrArg (fun z => z.1) (hE122.trans e125.symm)
    have e127 : f118 = p124.2 := congrArg (fun z => z.2) (hE122.trans e125.symm)
    replace b120 : q_F (y98.toInt ≤ y117.toInt) := b120
    replace b121 : q_F (y117.toInt ≤ y98.toInt + 5) := b121
    replace hT0 := (hu123 _ (by have z0 := hB2.2.2.2; simp only [List.mem_cons, List.not_mem_nil, or_false, not_or]; omega)).trans hT0
    replace hT1 := (hu123 _ (by have z0 := hB2.2.2.2; simp only [List.mem_cons, List.not_mem_nil, or_false, not_or]; omega)).trans hT1
    replace hF := q_uc hF hu123 (by simp)
    have hR128 := (show F_Dig_writeScience_c37_6 R N K x3 x4 t0_0 t0_1 t1_0 t2_0 t3_0 p26 p45 p105 p124 = (F_Dig_writeScience R N K x3 x4 t0_0 t0_1 t1_0 t2_0 t3_0) from Eq.trans (by rw [e125, e108, e107, F_Dig_writeScience_c28_5.eq_1]) hR109)
    exact q_retv C0 V (⟨hI, hF, y117, f118, hO116, hA119, (show x3.toInt + 2 ≤ y117.toInt from (by have t1 : x3.toInt ≤ y17.toInt := b20; have t2 : y17.toInt + 1 ≤ y38.toInt := b41; have t3 : y38.toInt + 1 ≤ y98.toInt := b101; have t4 : y98.toInt ≤ y117.toInt := b120; omega)), (show x4.toInt + 3 ≤ y117.toInt from (by have t1 : x4.toInt + 1 ≤ y17.toInt := b21; have t2 : y17.toInt + 1 ≤ y38.toInt := b41; have t3 : y38.toInt + 1 ≤ y98.toInt := b101; have t4 : y98.toInt ≤ y117.toInt := b120; omega)), (show t2_0.toInt + 3 ≤ y117.toInt from (by have t1 : t2_0.toInt + 1 ≤ y17.toInt := b22; have t2 : y17.toInt + 1 ≤ y38.toInt := b41; have t3 : y38.toInt + 1 ≤ y98.toInt := b101; have t4 : y98.toInt ≤ y117.toInt := b120; omega)), (show y117.toInt ≤ t2_0.toInt + 20008 from (by have t1 : y17.toInt ≤ t2_0.toInt + 20001 := b23; have t2 : y38.toInt ≤ y17.toInt + 1 := b42; have t3 : y98.toInt ≤ y38.toInt + 1 := b102; have t4 : y117.toInt ≤ y98.toInt + 5 := b121; omega)), (show (y117, f118) = (F_Dig_writeScience R N K x3 x4 t0_0 t0_1 t1_0 t2_0 t3_0) from Eq.trans (by rw [e127, e126, F_Dig_writeScience_c37_6.eq_1]) hR128)⟩) d_5_10_40
def F_Dig_writeSplit_c35 (K_F_Dig_writeSplit_L3 : Int32 → Int32 → (Nat → Int64) → (Int32 × (Nat → Int64))) (R : Int32) (N : Int32) (K : Int32) (x3 : Int32) (x4 : Int32) (t0_0 : Int32) (t0_1 : Int32) (t1_0 : (Nat → Int32)) (t2_0 : Int32) (t3_0 : (Nat → Int64)) (lx18 : Int32) (lx19 : Int32) (lx20 : (Nat → Int64)) (p60 : (Int32 × (Nat → Int64))) : Int32 × (Nat → Int64) := K_F_Dig_writeSplit_L3 (lx18 + 1 : Int32) (p60.1 : Int32) (p60.2 : (Nat → Int64))
def F_Dig_writeSplit_c35_4 (K_F_Dig_writeSplit_L3 : Int32 → Int32 → (Nat → Int64) → (Int32 × (Nat → Int64))) (R : Int32) (N : Int32) (K : Int32) (x3 : Int32) (x4 : Int32) (t0_0 : Int32) (t0_1 : Int32) (t1_0 : (Nat → Int32)) (t2_0 : Int32) (t3_0 : (Nat → Int64)) (lx18 : Int32) (lx19 : Int32) (lx20 : (Nat → Int64)) (p83 : (Int32 × (Nat → Int64))) (p109 : (Int32 × (Nat → Int64))) : Int32 × (Nat → Int64) := K_F_Dig_writeSplit_L3 (lx18 + 1 : Int32) (p109.1 : Int32) (p109.2 : (Nat → Int64))
def F_Dig_writeSplit_c22 (K_F_Dig_writeSplit_L3 : Int32 → Int32 → (Nat → Int64) → (Int32 × (Nat → Int64))) (R : Int32) (N : Int32) (K : Int32) (x3 : Int32) (x4 : Int32) (t0_0 : Int32) (t0_1 : Int32) (t1_0 : (Nat → Int32)) (t2_0 : Int32) (t3_0 : (Nat → Int64)) (lx18 : Int32) (lx19 : Int32) (lx20 : (Nat → Int64)) (p83 : (Int32 × (Nat → Int64))) : Int32 × (Nat → Int64) := F_Dig_writeSplit_c35_4 K_F_Dig_writeSplit_L3 R N K x3 x4 t0_0 t0_1 t1_0 t2_0 t3_0 lx18 lx19 lx20 p83 ((F_She_add_p R N K (48 + ((F_Dig_figure lx18 t0_0 t0_1 t1_0) : Int32) : Int32) (p83.1 : Int32) (p83.2 : (Nat → Int64))) : (Int32 × (Nat → Int64)))
def F_Dig_writeSplit_L3 (R : Int32) (N : Int32) (K : Int32) (x3 : Int32) (x4 : Int32) (t0_0 : Int32) (t0_1 : Int32) (t1_0 : (Nat → Int32)) (t2_0 : Int32) (t3_0 : (Nat → Int64)) : Nat → Int32 → Int32 → (Nat → Int64) → (Int32 × (Nat → Int64))
  | 0, _, _, _ => default
  | fm + 1, lx18, lx19, lx20 => if (if x3 < x4 then x4 else x3 : Int32) ≤ lx18 then ((lx19, lx20)) else (if lx18 = x3 then (F_Dig_writeSplit_c22 (F_Dig_writeSplit_L3 R N K x3 x4 t0_0 t0_1 t1_0 t2_0 t3_0 fm) R N K x3 x4 t0_0 t0_1 t1_0 t2_0 t3_0 lx18 lx19 lx20 ((F_She_add_p R N K (46 : Int32) lx19 lx20) : (Int32 × (Nat → Int64)))) else (F_Dig_writeSplit_c35 (F_Dig_writeSplit_L3 R N K x3 x4 t0_0 t0_1 t1_0 t2_0 t3_0 fm) R N K x3 x4 t0_0 t0_1 t1_0 t2_0 t3_0 lx18 lx19 lx20 ((F_She_add_p R N K (48 + ((F_Dig_figure lx18 t0_0 t0_1 t1_0) : Int32) : Int32) lx19 lx20) : (Int32 × (Nat → Int64)))))
def F_Dig_writeSplit (R : Int32) (N : Int32) (K : Int32) (x3 : Int32) (x4 : Int32) (t0_0 : Int32) (t0_1 : Int32) (t1_0 : (Nat → Int32)) (t2_0 : Int32) (t3_0 : (Nat → Int64)) : Int32 × (Nat → Int64) := F_Dig_writeSplit_L3 R N K x3 x4 t0_0 t0_1 t1_0 t2_0 t3_0 ((20000 - (0 : Int32).toInt).toNat + 1) 0 t2_0 t3_0
set_option maxRecDepth 100000 in
set_option maxHeartbeats 4000000 in
theorem X_Dig_writeSplit (l : Launch) (D : va_G) (g : Nat → ClassId) (q : Nat → Nat) (ws : va_W) (k2 : Nat) (R N K : Int32) (hB2 : q_isShe (nsh g q) g q k2 R N K) (x3 : Int32) (x4 : Int32) (hI : q_I (nsh g q) q ws) (t0_0 : Int32) (t0_1 : Int32) (hT0 : ws[36]? = (some (q 36, .inr (7, [.int t0_0, .int t0_1, .ref (q 37)])) : Option (Nat × va_E))) (t1_0 : (Nat → Int32)) (hT1 : ws[37]? = (some (q 37, .inl (g 2, 1026, .inl t1_0)) : Option (Nat × va_E))) (t2_0 : Int32) (hT2 : ws[k2]? = (some (q k2, .inr (1, [.ref (q (k2 + 1)), .int R, .int t2_0])) : Option (Nat × va_E))) (t3_0 : (Nat → Int64)) (hT3 : ws[k2 + 1]? = (some (q (k2 + 1), .inl (g 1, N.toNatClampNeg, .inr (.inl t3_0))) : Option (Nat × va_E))) (pre0 : x3.toInt ≤ 20000) (pre1 : x4.toInt ≤ 20000) (pre2 : t2_0.toInt ≤ 400000) (pre3 : 1000000 ≤ K.toInt) : q_mV l y_Dig_writeSplit prog_5_method_12_code 5 2 0 0 D g [.ref (q 36), .ref (q k2), .int x3, .int x4] ws (fun u => q_I (nsh g q) q u ∧ q_un ws u [k2, k2 + 1] ∧ ∃ (u2_0 : Int32) (u3_0 : (Nat → Int64)), u[k2]? = (some (q k2, .inr (1, [.ref (q (k2 + 1)), .int R, .int u2_0])) : Option (Nat × va_E)) ∧ u[k2 + 1]? = (some (q (k2 + 1), .inl (g 1, N.toNatClampNeg, .inr (.inl u3_0))) : Option (Nat × va_E)) ∧ (x3.toInt ≤ u2_0.toInt) ∧ (x4.toInt ≤ u2_0.toInt) ∧ (t2_0.toInt ≤ u2_0.toInt) ∧ (u2_0.toInt ≤ t2_0.toInt + 40000) ∧ (u2_0, u3_0) = (F_Dig_writeSplit R N K x3 x4 t0_0 t0_1 t1_0 t2_0 t3_0)) := by
  intro sz
  refine q_into (by decide) (Nat.le_of_ble_eq_true rfl) ?_
  intro p e s m below meth c ls hsz C0 V hl
  have hx := C0.1
  have hb := C0.2.1
  have hfk20 : q_F (0 ≤ R.toInt ∧ R.toInt ≤ 8 * N.toInt ∧ 0 ≤ N.toInt ∧ N.toInt ≤ 1376 ∧ 64 ≤ R.toInt ∧ 64 ≤ K.toInt ∧ K.toInt ≤ 1000000) := hB2.2.2.1
  obtain ⟨yy0_0, yy0_1, hh0, btt0_0, btt0_1⟩ := n_o36 hI
  obtain ⟨rfl, rfl⟩ : t0_0 = yy0_0 ∧ t0_1 = yy0_1 := by have z := Option.some.inj (hT0.symm.trans hh0); simpa using z
  replace btt0_0 : q_F (0 ≤ t0_0.toInt ∧ t0_0.toInt ≤ 1026) := btt0_0
  replace btt0_1 : q_F (-1000000 ≤ t0_1.toInt ∧ t0_1.toInt ≤ 1000000) := btt0_1
  obtain ⟨yy2_0, hh2, btt2_0⟩ := n_shO hI hB2
  obtain ⟨rfl⟩ : t2_0 = yy2_0 := by have z := Option.some.inj (hT2.symm.trans hh2); simpa using z
  replace btt2_0 : q_F (0 ≤ t2_0.toInt ∧ t2_0.toInt ≤ K.toInt) := btt2_0
  replace pre0 : q_F (x3.toInt ≤ 20000) := pre0
  replace pre1 : q_F (x4.toInt ≤ 20000) := pre1
  replace pre2 : q_F (t2_0.toInt ≤ 400000) := pre2
  replace pre3 : q_F (1000000 ≤ K.toInt) := pre3
  have hF : q_un ws ws [k2, k2 + 1] := q_u0
  have hl : lv_has ls 5 [(0, .ref (q 36)), (1, .ref (q k2)), (2, .int x3), (3, .int x4)] := hl
  refine lv_iconst (v := 0) hx hb d_5_12_0 (by decide) ?_
  refine lv_istore (lv' := [(4, .int 0), (0, .ref (q 36)), (1, .ref (q k2)), (2, .int x3), (3, .int x4)]) hx hb d_5_12_1 hl (by decide) rfl (fun ls hl => ?_)
  refine q_loop (X := Int32 × Int32 × (Nat → Int64)) (fun z H locs ls w25 => q_F (z.1.toInt ≤ 20000) ∧ q_F (z.1.toInt + t2_0.toInt ≤ z.2.1.toInt) ∧ q_F (z.2.1.toInt ≤ 2 * z.1.toInt + t2_0.toInt) ∧ q_Wd D g (va_A ws sz) s w25 H locs ∧ lv_has ls 5 [(4, .int z.1), (0, .ref (q 36)), (1, .ref (q k2)), (2, .int x3), (3, .int x4)] ∧ q_I (nsh g q) q w25 ∧ q_un ws w25 [k2, k2 + 1] ∧ w25[36]? = (some (q 36, .inr (7, [.int t0_0, .int t0_1, .ref (q 37)])) : Option (Nat × va_E)) ∧ w25[37]? = (some (q 37, .inl (g 2, 1026, .inl t1_0)) : Option (Nat × va_E)) ∧ w25[k2]? = (some (q k2, .inr (1, [.ref (q (k2 + 1)), .int R, .int z.2.1])) : Option (Nat × va_E)) ∧ w25[k2 + 1]? = (some (q (k2 + 1), .inl (g 1, N.toNatClampNeg, .inr (.inl z.2.2))) : Option (Nat × va_E)) ∧ (∃ n, (20000 - z.1.toInt).toNat < n ∧ F_Dig_writeSplit_L3 R N K x3 x4 t0_0 t0_1 t1_0 t2_0 t3_0 n z.1 z.2.1 z.2.2 = (F_Dig_writeSplit R N K x3 x4 t0_0 t0_1 t1_0 t2_0 t3_0))) (fun z => (20000 - z.1.toInt).toNat) ?_ ((0 : Int32), (t2_0 : Int32), (t3_0 : (Nat → Int64))) _ _ _ ws ⟨(show q_F (0 ≤ 20000) from (show 0 ≤ 20000 from by omega)), (show q_F (0 + t2_0.toInt ≤ t2_0.toInt) from (show 0 + t2_0.toInt ≤ t2_0.toInt from by omega)), (show q_F (t2_0.toInt ≤ 2 * 0 + t2_0.toInt) from (show t2_0.toInt ≤ 2 * 0 + t2_0.toInt from by omega)), V, q_lw hl (q_lw1 0 rfl (q_lw1 1 rfl (q_lw1 2 rfl (q_lw1 3 rfl (q_lw1 4 rfl q_lw0))))), hI, hF, hT0, hT1, hT2, hT3, ⟨((20000 - (0 : Int32).toInt).toNat + 1), Nat.lt_succ_self _, (show F_Dig_writeSplit_L3 R N K x3 x4 t0_0 t0_1 t1_0 t2_0 t3_0 ((20000 - (0 : Int32).toInt).toNat + 1) 0 t2_0 t3_0 = (F_Dig_writeSplit R N K x3 x4 t0_0 t0_1 t1_0 t2_0 t3_0) from (by rw [F_Dig_writeSplit.eq_1]))⟩⟩
  rintro ⟨lx18, lx19, lx20⟩ H locs ls w25 ⟨i21, i22, i23, V, hl, hI, hF, hO26, hO27, hO28, hO29, ⟨fu32, hf33, hR30⟩⟩ ih24
  obtain ⟨fm34, rfl⟩ : ∃ m, fu32 = m + 1 := ⟨fu32 - 1, by omega⟩
  replace i21 : q_F (lx18.toInt ≤ 20000) := i21
  replace i22 : q_F (lx18.toInt + t2_0.toInt ≤ lx19.toInt) := i22
  replace i23 : q_F (lx19.toInt ≤ 2 * lx18.toInt + t2_0.toInt) := i23
  replace hl : lv_has ls 5 [(4, .int lx18), (0, .ref (q 36)), (1, .ref (q k2)), (2, .int x3), (3, .int x4)] := hl
  replace hO26 : w25[36]? = (some (q 36, .inr (7, [.int t0_0, .int t0_1, .ref (q 37)])) : Option (Nat × va_E)) := hO26
  replace hO27 : w25[37]? = (some (q 37, .inl (g 2, 1026, .inl t1_0)) : Option (Nat × va_E)) := hO27
  replace hO28 : w25[k2]? = (some (q k2, .inr (1, [.ref (q (k2 + 1)), .int R, .int lx19])) : Option (Nat × va_E)) := hO28
  replace hO29 : w25[k2 + 1]? = (some (q (k2 + 1), .inl (g 1, N.toNatClampNeg, .inr (.inl lx20))) : Option (Nat × va_E)) := hO29
  refine lv_iload hx hb d_5_12_3 (lv_at hl 0 rfl) ?_
  refine lv_iload_n hx hb d_5_12_5 rfl (lv_at hl 3 rfl) ?_
  refine lv_iload_n hx hb d_5_12_6 rfl (lv_at hl 4 rfl) ?_
  refine q_max C0 hl.1 rfl w_1571 w_803 w_7 w_804 ⟨Nat.le_of_ble_eq_true rfl, Nat.le_of_ble_eq_true rfl⟩ ⟨Nat.le_of_ble_eq_true rfl, Nat.le_of_ble_eq_true rfl⟩ d_5_12_7 ?_
  obtain ⟨a35, e36⟩ := q_nm (if x3 < x4 then x4 else x3 : Int32)
  refine q_ti (v := a35) e36 ?_
  have b37 : q_F (x3.toInt ≤ a35.toInt ∧ x4.toInt ≤ a35.toInt ∧ (a35.toInt = x3.toInt ∨ a35.toInt = x4.toInt)) := (by rw [← e36]; show x3.toInt ≤ (if x3 < x4 then x4 else x3 : Int32).toInt ∧ x4.toInt ≤ (if x3 < x4 then x4 else x3 : Int32).toInt ∧ ((if x3 < x4 then x4 else x3 : Int32).toInt = x3.toInt ∨ (if x3 < x4 then x4 else x3 : Int32).toInt = x4.toInt); exact s_max (a := x3) (b := x4))
  refine lv_icmp_ge (tgt := 44) hx hb d_5_12_10 (by decide) (fun c38 => ?_) (fun c38 => ?_)
  ·
    have b39 : q_F (a35.toInt ≤ lx18.toInt) := (q_leI c38)
    exact q_retv C0 V (⟨hI, hF, lx19, lx20, hO28, hO29, (show x3.toInt ≤ lx19.toInt from (by have t1 : 0 ≤ t2_0.toInt ∧ t2_0.toInt ≤ K.toInt := btt2_0; have t2 : lx18.toInt + t2_0.toInt ≤ lx19.toInt := i22; have t3 : x3.toInt ≤ a35.toInt ∧ x4.toInt ≤ a35.toInt ∧ (a35.toInt = x3.toInt ∨ a35.toInt = x4.toInt) := b37; have t4 : a35.toInt ≤ lx18.toInt := b39; omega)), (show x4.toInt ≤ lx19.toInt from (by have t1 : 0 ≤ t2_0.toInt ∧ t2_0.toInt ≤ K.toInt := btt2_0; have t2 : lx18.toInt + t2_0.toInt ≤ lx19.toInt := i22; have t3 : x3.toInt ≤ a35.toInt ∧ x4.toInt ≤ a35.toInt ∧ (a35.toInt = x3.toInt ∨ a35.toInt = x4.toInt) := b37; have t4 : a35.toInt ≤ lx18.toInt := b39; omega)), (show t2_0.toInt ≤ lx19.toInt from (by have t1 : lx18.toInt + t2_0.toInt ≤ lx19.toInt := i22; have t2 : lx19.toInt ≤ 2 * lx18.toInt + t2_0.toInt := i23; omega)), (show lx19.toInt ≤ t2_0.toInt + 40000 from (by have t1 : lx18.toInt ≤ 20000 := i21; have t2 : lx19.toInt ≤ 2 * lx18.toInt + t2_0.toInt := i23; omega)), (show (lx19, lx20) = (F_Dig_writeSplit R N K x3 x4 t0_0 t0_1 t1_0 t2_0 t3_0) from Eq.trans (by have c38x := c38; rw [← e36] at c38x; rw [F_Dig_writeSplit_L3.eq_2, if_pos c38x]) hR30)⟩) d_5_12_44
  ·
    have b40 : q_F (lx18.toInt < a35.toInt) := (q_nleI c38)
    refine lv_iload hx hb d_5_12_13 (lv_at hl 0 rfl) ?_
    refine lv_iload_n hx hb d_5_12_15 rfl (lv_at hl 3 rfl) ?_
    refine lv_icmp_ne (tgt := 25) hx hb d_5_12_16 (by decide) (fun c41 => ?_) (fun c41 => ?_)
    ·
      have b42 : q_F (lx18.toInt ≠ x3.toInt) := (q_neI c41)
      refine lv_aload_n hx hb d_5_12_25 rfl (lv_at hl 2 rfl) ?_
      refine lv_bipush (v := 48) hx hb d_5_12_26 (by decide) ?_
      refine lv_aload_n hx hb d_5_12_28 rfl (lv_at hl 1 rfl) ?_
      refine lv_iload hx hb d_5_12_29 (lv_at hl 0 rfl) ?_
      refine q_goi V (q_runV (As := [.int lx18]) (rest := [.int 48, .ref (q k2)]) (d := 1) (mc := 0) (ms := 0) (ci := 7) C0 V rfl LV_Dig_49 (X_Dig_figure l D g q w25  lx18 hI t0_0 t0_1 hO26 t1_0 hO27  _) rfl rfl hO26 rfl hl.1 rfl (Nat.le_of_ble_eq_true rfl) ⟨by decide, by decide⟩ ⟨Nat.le_of_ble_eq_true rfl, Nat.le_of_ble_eq_true rfl⟩ d_5_12_31) (fun a45 u43 H locs hp44 V => ?_)
      obtain ⟨rfl, hE46⟩ := hp44
      have e47 : a45 = (F_Dig_figure lx18 t0_0 t0_1 t1_0) := hE46
      refine lv_iadd hx hb d_5_12_34 ?_
      obtain ⟨a48, e49⟩ := q_nm (48 + a45 : Int32)
      refine q_ti (v := a48) e49 ?_
      refine q_gov V (q_runV (As := [.int a48]) (rest := []) (d := 1) (mc := 0) (ms := 0) (ci := 1) C0 V rfl LV_Dig_52 (X_She_add_p l D g q w25 k2 R N K hB2 a48 hI lx19 hO28 lx20 hO29 (by have t1 : t2_0.toInt ≤ 400000 := pre2; have t2 : 1000000 ≤ K.toInt := pre3; have t3 : lx18.toInt ≤ 20000 := i21; have t4 : lx19.toInt ≤ 2 * lx18.toInt + t2_0.toInt := i23; omega) _) rfl rfl hO28 rfl hl.1 rfl (Nat.le_of_ble_eq_true rfl) ⟨by decide, by decide⟩ ⟨Nat.le_of_ble_eq_true rfl, Nat.le_of_ble_eq_true rfl⟩ d_5_12_35) (fun u50 H locs hp51 V => ?_)
      obtain ⟨hI, hu59, y53, f54, hO52, hA55, b56, b57, hE58⟩ := hp51
      replace hO52 : u50[k2]? = (some (q k2, .inr (1, [.ref (q (k2 + 1)), .int R, .int y53])) : Option (Nat × va_E)) := hO52
      replace hA55 : u50[k2 + 1]? = (some (q (k2 + 1), .inl (g 1, N.toNatClampNeg, .inr (.inl f54))) : Option (Nat × va_E)) := hA55
      obtain ⟨p60, e61⟩ : ∃ z, z = (F_She_add_p R N K a48 lx19 lx20) := ⟨_, rfl⟩
      have e62 : y53 = p60.1 := congrArg (fun z => z.1) (hE58.trans e61.symm)
      have e63 : f54 = p60.2 := congrArg (fun z => z.2) (hE58.trans e61.symm)
      replace b56 : q_F (lx19.toInt + 1 ≤ y53.toInt) := b56
      replace b57 : q_F (y53.toInt ≤ lx19.toInt + 1) := b57
      replace hO26 := (hu59 _ (by have z0 := hB2.2.2.2; simp only [List.mem_cons, List.not_mem_nil, or_false, not_or]; omega)).trans hO26
      replace hO27 := (hu59 _ (by have z0 := hB2.2.2.2; simp only [List.mem_cons, List.not_mem_nil, or_false, not_or]; omega)).trans hO27
      replace hF := q_uc hF hu59 (by simp)
      have hR64 := (show F_Dig_writeSplit_c35 (F_Dig_writeSplit_L3 R N K x3 x4 t0_0 t0_1 t1_0 t2_0 t3_0 fm34) R N K x3 x4 t0_0 t0_1 t1_0 t2_0 t3_0 lx18 lx19 lx20 p60 = (F_Dig_writeSplit R N K x3 x4 t0_0 t0_1 t1_0 t2_0 t3_0) from Eq.trans (by have c38x := c38; rw [← e36] at c38x; rw [e61, ← e49, e47, F_Dig_writeSplit_L3.eq_2, if_neg c38x, if_neg c41]) hR30)
      obtain ⟨a69, e70⟩ := q_nm (lx18 + 1 : Int32)
      have b71 : q_F (a69.toInt = lx18.toInt + 1) := (by rw [← e70]; exact q_addI (y := 1) rfl (by decide) (by have t1 : lx18.toInt + t2_0.toInt ≤ lx19.toInt := i22; have t2 : lx19.toInt ≤ 2 * lx18.toInt + t2_0.toInt := i23; have t3 : lx18.toInt ≤ 20000 := i21; omega) (by have t1 : lx18.toInt + t2_0.toInt ≤ lx19.toInt := i22; have t2 : lx19.toInt ≤ 2 * lx18.toInt + t2_0.toInt := i23; have t3 : lx18.toInt ≤ 20000 := i21; omega))
      refine lv_iinc (v := a69) (lv' := [(4, .int a69), (0, .ref (q 36)), (1, .ref (q k2)), (2, .int x3), (3, .int x4)]) hx hb d_5_12_38 hl (k := 0) rfl (e70) (by decide) rfl (fun ls hl => ?_)
      refine lv_goto (tgt := 3) hx hb d_5_12_41 (by decide) ?_
      exact ih24 ((a69 : Int32), (y53 : Int32), (f54 : (Nat → Int64))) _ _ _ _ (show (20000 - a69.toInt).toNat < (20000 - lx18.toInt).toNat from by have t1 : a69.toInt = lx18.toInt + 1 := b71; have t2 : lx18.toInt ≤ 20000 := i21; have t3 : x3.toInt ≤ 20000 := pre0; have t4 : x4.toInt ≤ 20000 := pre1; have t5 : x3.toInt ≤ a35.toInt ∧ x4.toInt ≤ a35.toInt ∧ (a35.toInt = x3.toInt ∨ a35.toInt = x4.toInt) := b37; have t6 : lx18.toInt < a35.toInt := b40; omega) ⟨(show q_F (a69.toInt ≤ 20000) from (show a69.toInt ≤ 20000 from by have t1 : x3.toInt ≤ 20000 := pre0; have t2 : x4.toInt ≤ 20000 := pre1; have t3 : x3.toInt ≤ a35.toInt ∧ x4.toInt ≤ a35.toInt ∧ (a35.toInt = x3.toInt ∨ a35.toInt = x4.toInt) := b37; have t4 : lx18.toInt < a35.toInt := b40; have t5 : a69.toInt = lx18.toInt + 1 := b71; omega)), (show q_F (a69.toInt + t2_0.toInt ≤ y53.toInt) from (show a69.toInt + t2_0.toInt ≤ y53.toInt from by have t1 : lx18.toInt + t2_0.toInt ≤ lx19.toInt := i22; have t2 : lx19.toInt + 1 ≤ y53.toInt := b56; have t3 : a69.toInt = lx18.toInt + 1 := b71; omega)), (show q_F (y53.toInt ≤ 2 * a69.toInt + t2_0.toInt) from (show y53.toInt ≤ 2 * a69.toInt + t2_0.toInt from by have t1 : lx19.toInt ≤ 2 * lx18.toInt + t2_0.toInt := i23; have t2 : y53.toInt ≤ lx19.toInt + 1 := b57; have t3 : a69.toInt = lx18.toInt + 1 := b71; omega)), V, q_lw hl (q_lw1 0 rfl (q_lw1 1 rfl (q_lw1 2 rfl (q_lw1 3 rfl (q_lw1 4 rfl q_lw0))))), hI, hF, hO26, hO27, hO52, hA55, ⟨fm34, Nat.lt_of_lt_of_le (show (20000 - a69.toInt).toNat < (20000 - lx18.toInt).toNat from by have t1 : a69.toInt = lx18.toInt + 1 := b71; have t2 : lx18.toInt ≤ 20000 := i21; have t3 : x3.toInt ≤ 20000 := pre0; have t4 : x4.toInt ≤ 20000 := pre1; have t5 : x3.toInt ≤ a35.toInt ∧ x4.toInt ≤ a35.toInt ∧ (a35.toInt = x3.toInt ∨ a35.toInt = x4.toInt) := b37; have t6 : lx18.toInt < a35.toInt := b40; omega) (Nat.le_of_lt_succ hf33), (show F_Dig_writeSplit_L3 R N K x3 x4 t0_0 t0_1 t1_0 t2_0 t3_0 fm34 a69 y53 f54 = (F_Dig_writeSplit R N K x3 x4 t0_0 t0_1 t1_0 t2_0 t3_0) from Eq.trans (by rw [← e70, e63, e62, F_Dig_writeSplit_c35.eq_1]) hR64)⟩⟩
    ·
      have b72 : q_F (lx18.toInt = x3.toInt) := (q_eqI c41)
      refine lv_aload_n hx hb d_5_12_19 rfl (lv_at hl 2 rfl) ?_
      refine lv_bipush (v := 46) hx hb d_5_12_20 (by decide) ?_
      refine q_gov V (q_runV (As := [.int 46]) (rest := []) (d := 1) (mc := 0) (ms := 0) (ci := 1) C0 V rfl LV_Dig_52 (X_She_add_p l D g q w25 k2 R N K hB2 46 hI lx19 hO28 lx20 hO29 (by have y0 : (46 : Int32).toInt = 46 := rfl; have t1 : t2_0.toInt ≤ 400000 := pre2; have t2 : 1000000 ≤ K.toInt := pre3; have t3 : lx18.toInt ≤ 20000 := i21; have t4 : lx19.toInt ≤ 2 * lx18.toInt + t2_0.toInt := i23; omega) _) rfl rfl hO28 rfl hl.1 rfl (Nat.le_of_ble_eq_true rfl) ⟨by decide, by decide⟩ ⟨Nat.le_of_ble_eq_true rfl, Nat.le_of_ble_eq_true rfl⟩ d_5_12_22) (fun u73 H locs hp74 V => ?_)
      obtain ⟨hI, hu82, y76, f77, hO75, hA78, b79, b80, hE81⟩ := hp74
      replace hO75 : u73[k2]? = (some (q k2, .inr (1, [.ref (q (k2 + 1)), .int R, .int y76])) : Option (Nat × va_E)) := hO75
      replace hA78 : u73[k2 + 1]? = (some (q (k2 + 1), .inl (g 1, N.toNatClampNeg, .inr (.inl f77))) : Option (Nat × va_E)) := hA78
      obtain ⟨p83, e84⟩ : ∃ z, z = (F_She_add_p R N K (46 : Int32) lx19 lx20) := ⟨_, rfl⟩
      have e85 : y76 = p83.1 := congrArg (fun z => z.1) (hE81.trans e84.symm)
      have e86 : f77 = p83.2 := congrArg (fun z => z.2) (hE81.trans e84.symm)
      replace b79 : q_F (lx19.toInt + 1 ≤ y76.toInt) := b79
      replace b80 : q_F (y76.toInt ≤ lx19.toInt + 1) := b80
      replace hO26 := (hu82 _ (by have z0 := hB2.2.2.2; simp only [List.mem_cons, List.not_mem_nil, or_false, not_or]; omega)).trans hO26
      replace hO27 := (hu82 _ (by have z0 := hB2.2.2.2; simp only [List.mem_cons, List.not_mem_nil, or_false, not_or]; omega)).trans hO27
      replace hF := q_uc hF hu82 (by simp)
      have hR87 := (show F_Dig_writeSplit_c22 (F_Dig_writeSplit_L3 R N K x3 x4 t0_0 t0_1 t1_0 t2_0 t3_0 fm34) R N K x3 x4 t0_0 t0_1 t1_0 t2_0 t3_0 lx18 lx19 lx20 p83 = (F_Dig_writeSplit R N K x3 x4 t0_0 t0_1 t1_0 t2_0 t3_0) from Eq.trans (by have c38x := c38; rw [← e36] at c38x; rw [e84, F_Dig_writeSplit_L3.eq_2, if_neg c38x, if_pos c41]) hR30)
      refine lv_aload_n hx hb d_5_12_25 rfl (lv_at hl 2 rfl) ?_
      refine lv_bipush (v := 48) hx hb d_5_12_26 (by decide) ?_
      refine lv_aload_n hx hb d_5_12_28 rfl (lv_at hl 1 rfl) ?_
      refine lv_iload hx hb d_5_12_29 (lv_at hl 0 rfl) ?_
      refine q_goi V (q_runV (As := [.int lx18]) (rest := [.int 48, .ref (q k2)]) (d := 1) (mc := 0) (ms := 0) (ci := 7) C0 V rfl LV_Dig_49 (X_Dig_figure l D g q u73  lx18 hI t0_0 t0_1 hO26 t1_0 hO27  _) rfl rfl hO26 rfl hl.1 rfl (Nat.le_of_ble_eq_true rfl) ⟨by decide, by decide⟩ ⟨Nat.le_of_ble_eq_true rfl, Nat.le_of_ble_eq_true rfl⟩ d_5_12_31) (fun a94 u92 H locs hp93 V => ?_)
      obtain ⟨rfl, hE95⟩ := hp93
      have e96 : a94 = (F_Dig_figure lx18 t0_0 t0_1 t1_0) := hE95
      refine lv_iadd hx hb d_5_12_34 ?_
      obtain ⟨a97, e98⟩ := q_nm (48 + a94 : Int32)
      refine q_ti (v := a97) e98 ?_
      refine q_gov V (q_runV (As := [.int a97]) (rest := []) (d := 1) (mc := 0) (ms := 0) (ci := 1) C0 V rfl LV_Dig_52 (X_She_add_p l D g q u73 k2 R N K hB2 a97 hI y76 hO75 f77 hA78 (by have t1 : t2_0.toInt ≤ 400000 := pre2; have t2 : 1000000 ≤ K.toInt := pre3; have t3 : lx18.toInt ≤ 20000 := i21; have t4 : lx19.toInt ≤ 2 * lx18.toInt + t2_0.toInt := i23; have t5 : y76.toInt ≤ lx19.toInt + 1 := b80; omega) _) rfl rfl hO75 rfl hl.1 rfl (Nat.le_of_ble_eq_true rfl) ⟨by decide, by decide⟩ ⟨Nat.le_of_ble_eq_true rfl, Nat.le_of_ble_eq_true rfl⟩ d_5_12_35) (fun u99 H locs hp100 V => ?_)
      obtain ⟨hI, hu108, y102, f103, hO101, hA104, b105, b106, hE107⟩ := hp100
      replace hO101 : u99[k2]? = (some (q k2, .inr (1, [.ref (q (k2 + 1)), .int R, .int y102])) : Option (Nat × va_E)) := hO101
      replace hA104 : u99[k2 + 1]? = (some (q (k2 + 1), .inl (g 1, N.toNatClampNeg, .inr (.inl f103))) : Option (Nat × va_E)) := hA104
      obtain ⟨p109, e110⟩ : ∃ z, z = (F_She_add_p R N K a97 y76 f77) := ⟨_, rfl⟩
      have e111 : y102 = p109.1 := congrArg (fun z => z.1) (hE107.trans e110.symm)
      have e112 : f103 = p109.2 := congrArg (fun z => z.2) (hE107.trans e110.symm)
      replace b105 : q_F (y76.toInt + 1 ≤ y102.toInt) := b105
      replace b106 : q_F (y102.toInt ≤ y76.toInt + 1) := b106
      replace hO26 := (hu108 _ (by have z0 := hB2.2.2.2; simp only [List.mem_cons, List.not_mem_nil, or_false, not_or]; omega)).trans hO26
      replace hO27 := (hu108 _ (by have z0 := hB2.2.2.2; simp only [List.mem_cons, List.not_mem_nil, or_false, not_or]; omega)).trans hO27
      replace hF := q_uc hF hu108 (by simp)
      have hR113 := (show F_Dig_writeSplit_c35_4 (F_Dig_writeSplit_L3 R N K x3 x4 t0_0 t0_1 t1_0 t2_0 t3_0 fm34) R N K x3 x4 t0_0 t0_1 t1_0 t2_0 t3_0 lx18 lx19 lx20 p83 p109 = (F_Dig_writeSplit R N K x3 x4 t0_0 t0_1 t1_0 t2_0 t3_0) from Eq.trans (by rw [e110, ← e98, e96, e86, e85, F_Dig_writeSplit_c22.eq_1]) hR87)
      obtain ⟨a118, e119⟩ := q_nm (lx18 + 1 : Int32)
      have b120 : q_F (a118.toInt = lx18.toInt + 1) := (by rw [← e119]; exact q_addI (y := 1) rfl (by decide) (by have t1 : lx18.toInt + t2_0.toInt ≤ lx19.toInt := i22; have t2 : lx19.toInt ≤ 2 * lx18.toInt + t2_0.toInt := i23; have t3 : lx18.toInt ≤ 20000 := i21; omega) (by have t1 : lx18.toInt + t2_0.toInt ≤ lx19.toInt := i22; have t2 : lx19.toInt ≤ 2 * lx18.toInt + t2_0.toInt := i23; have t3 : lx18.toInt ≤ 20000 := i21; omega))
      refine lv_iinc (v := a118) (lv' := [(4, .int a118), (0, .ref (q 36)), (1, .ref (q k2)), (2, .int x3), (3, .int x4)]) hx hb d_5_12_38 hl (k := 0) rfl (e119) (by decide) rfl (fun ls hl => ?_)
      refine lv_goto (tgt := 3) hx hb d_5_12_41 (by decide) ?_
      exact ih24 ((a118 : Int32), (y102 : Int32), (f103 : (Nat → Int64))) _ _ _ _ (show (20000 - a118.toInt).toNat < (20000 - lx18.toInt).toNat from by have t1 : a118.toInt = lx18.toInt + 1 := b120; have t2 : lx18.toInt ≤ 20000 := i21; have t3 : x3.toInt ≤ 20000 := pre0; have t4 : x4.toInt ≤ 20000 := pre1; have t5 : x3.toInt ≤ a35.toInt ∧ x4.toInt ≤ a35.toInt ∧ (a35.toInt = x3.toInt ∨ a35.toInt = x4.toInt) := b37; have t6 : lx18.toInt < a35.toInt := b40; omega) ⟨(show q_F (a118.toInt ≤ 20000) from (show a118.toInt ≤ 20000 from by have t1 : x3.toInt ≤ 20000 := pre0; have t2 : x4.toInt ≤ 20000 := pre1; have t3 : x3.toInt ≤ a35.toInt ∧ x4.toInt ≤ a35.toInt ∧ (a35.toInt = x3.toInt ∨ a35.toInt = x4.toInt) := b37; have t4 : lx18.toInt < a35.toInt := b40; have t5 : a118.toInt = lx18.toInt + 1 := b120; omega)), (show q_F (a118.toInt + t2_0.toInt ≤ y102.toInt) from (show a118.toInt + t2_0.toInt ≤ y102.toInt from by have t1 : lx18.toInt + t2_0.toInt ≤ lx19.toInt := i22; have t2 : lx19.toInt + 1 ≤ y76.toInt := b79; have t3 : y76.toInt + 1 ≤ y102.toInt := b105; have t4 : a118.toInt = lx18.toInt + 1 := b120; omega)), (show q_F (y102.toInt ≤ 2 * a118.toInt + t2_0.toInt) from (show y102.toInt ≤ 2 * a118.toInt + t2_0.toInt from by have t1 : lx19.toInt ≤ 2 * lx18.toInt + t2_0.toInt := i23; have t2 : y76.toInt ≤ lx19.toInt + 1 := b80; have t3 : y102.toInt ≤ y76.toInt + 1 := b106; have t4 : a118.toInt = lx18.toInt + 1 := b120; omega)), V, q_lw hl (q_lw1 0 rfl (q_lw1 1 rfl (q_lw1 2 rfl (q_lw1 3 rfl (q_lw1 4 rfl q_lw0))))), hI, hF, hO26, hO27, hO101, hA104, ⟨fm34, Nat.lt_of_lt_of_le (show (20000 - a118.toInt).toNat < (20000 - lx18.toInt).toNat from by have t1 : a118.toInt = lx18.toInt + 1 := b120; have t2 : lx18.toInt ≤ 20000 := i21; have t3 : x3.toInt ≤ 20000 := pre0; have t4 : x4.toInt ≤ 20000 := pre1; have t5 : x3.toInt ≤ a35.toInt ∧ x4.toInt ≤ a35.toInt ∧ (a35.toInt = x3.toInt ∨ a35.toInt = x4.toInt) := b37; have t6 : lx18.toInt < a35.toInt := b40; omega) (Nat.le_of_lt_succ hf33), (show F_Dig_writeSplit_L3 R N K x3 x4 t0_0 t0_1 t1_0 t2_0 t3_0 fm34 a118 y102 f103 = (F_Dig_writeSplit R N K x3 x4 t0_0 t0_1 t1_0 t2_0 t3_0) from Eq.trans (by rw [← e119, e112, e111, F_Dig_writeSplit_c35_4.eq_1]) hR113)⟩⟩
