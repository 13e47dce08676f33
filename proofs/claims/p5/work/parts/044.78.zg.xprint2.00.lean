/-! Printer, exactly: the bodies -/
def F_Pri_writeNumber_c238 (t0_0 : Int32) (t0_1 : Int32) (t1_0 : (Nat → Int32)) (t2_0 : Int32) (t3_0 : (Nat → Int64)) (t4_0 : Int32) (t4_1 : Int32) (t4_2 : Int32) (t4_3 : Int32) (t4_4 : Int32) (t4_5 : Int32) (t4_6 : Int32) (lx40 : Int32) (lx52 : Int32) (lx68 : Int32) (lx69 : Int32) (lx70 : Int32) (lx71 : Int32) (lx72 : (Nat → Int32)) (a108 : Int32) (p134 : (Int32 × Int32 × (Nat → Int32))) (y121 : Int32) (y122 : Int32) (f123 : (Nat → Int32)) (p159 : (Int32 × (Nat → Int64))) : Int32 × Int32 × (Nat → Int32) × Int32 × (Nat → Int64) := (y121, y122, f123, (p159.1 : Int32), (p159.2 : (Nat → Int64)))
def F_Pri_writeNumber_c223 (t0_0 : Int32) (t0_1 : Int32) (t1_0 : (Nat → Int32)) (t2_0 : Int32) (t3_0 : (Nat → Int64)) (t4_0 : Int32) (t4_1 : Int32) (t4_2 : Int32) (t4_3 : Int32) (t4_4 : Int32) (t4_5 : Int32) (t4_6 : Int32) (lx40 : Int32) (lx52 : Int32) (lx68 : Int32) (lx69 : Int32) (lx70 : Int32) (lx71 : Int32) (lx72 : (Nat → Int32)) (a108 : Int32) (p134 : (Int32 × Int32 × (Nat → Int32))) : Int32 × Int32 × (Nat → Int32) × Int32 × (Nat → Int64) := F_Pri_writeNumber_c238 t0_0 t0_1 t1_0 t2_0 t3_0 t4_0 t4_1 t4_2 t4_3 t4_4 t4_5 t4_6 lx40 lx52 lx68 lx69 lx70 lx71 lx72 a108 p134 (p134.1 : Int32) (p134.2.1 : Int32) (p134.2.2 : (Nat → Int32)) ((F_Dig_writeScience (4104 : Int32) (513 : Int32) (1000000 : Int32) (lx68 + 1 : Int32) a108 (p134.1 : Int32) (p134.2.1 : Int32) (p134.2.2 : (Nat → Int32)) t2_0 t3_0) : (Int32 × (Nat → Int64)))
def F_Pri_writeNumber_c209 (t0_0 : Int32) (t0_1 : Int32) (t1_0 : (Nat → Int32)) (t2_0 : Int32) (t3_0 : (Nat → Int64)) (t4_0 : Int32) (t4_1 : Int32) (t4_2 : Int32) (t4_3 : Int32) (t4_4 : Int32) (t4_5 : Int32) (t4_6 : Int32) (lx40 : Int32) (lx52 : Int32) (lx68 : Int32) (lx69 : Int32) (lx70 : Int32) (lx71 : Int32) (lx72 : (Nat → Int32)) (a108 : Int32) (p193 : (Int32 × Int32 × (Nat → Int32))) (y178 : Int32) (y179 : Int32) (f180 : (Nat → Int32)) (p224 : (Int32 × (Nat → Int64))) : Int32 × Int32 × (Nat → Int32) × Int32 × (Nat → Int64) := (y178, y179, f180, (p224.1 : Int32), (p224.2 : (Nat → Int64)))
def F_Pri_writeNumber_c187 (t0_0 : Int32) (t0_1 : Int32) (t1_0 : (Nat → Int32)) (t2_0 : Int32) (t3_0 : (Nat → Int64)) (t4_0 : Int32) (t4_1 : Int32) (t4_2 : Int32) (t4_3 : Int32) (t4_4 : Int32) (t4_5 : Int32) (t4_6 : Int32) (lx40 : Int32) (lx52 : Int32) (lx68 : Int32) (lx69 : Int32) (lx70 : Int32) (lx71 : Int32) (lx72 : (Nat → Int32)) (a108 : Int32) (p193 : (Int32 × Int32 × (Nat → Int32))) : Int32 × Int32 × (Nat → Int32) × Int32 × (Nat → Int64) := F_Pri_writeNumber_c209 t0_0 t0_1 t1_0 t2_0 t3_0 t4_0 t4_1 t4_2 t4_3 t4_4 t4_5 t4_6 lx40 lx52 lx68 lx69 lx70 lx71 lx72 a108 p193 (p193.1 : Int32) (p193.2.1 : Int32) (p193.2.2 : (Nat → Int32)) ((F_Dig_writePlain (4104 : Int32) (513 : Int32) (1000000 : Int32) lx68 ((F_Dir_has (16 : Int32) t4_0 t4_1 t4_2 t4_3 t4_4 t4_5 t4_6) : Int32) a108 (p193.1 : Int32) (p193.2.1 : Int32) (p193.2.2 : (Nat → Int32)) t2_0 t3_0) : (Int32 × (Nat → Int64)))
def F_Pri_writeNumber_J156 (t0_0 : Int32) (t0_1 : Int32) (t1_0 : (Nat → Int32)) (t2_0 : Int32) (t3_0 : (Nat → Int64)) (t4_0 : Int32) (t4_1 : Int32) (t4_2 : Int32) (t4_3 : Int32) (t4_4 : Int32) (t4_5 : Int32) (t4_6 : Int32) (lx40 : Int32) (lx52 : Int32) (lx68 : Int32) (lx69 : Int32) (lx70 : Int32) (lx71 : Int32) (lx72 : (Nat → Int32)) : Int32 × Int32 × (Nat → Int32) × Int32 × (Nat → Int64) := if lx69 = (102 : Int32) then (F_Pri_writeNumber_c187 t0_0 t0_1 t1_0 t2_0 t3_0 t4_0 t4_1 t4_2 t4_3 t4_4 t4_5 t4_6 lx40 lx52 lx68 lx69 lx70 lx71 lx72 ((F_Dir_has (2 : Int32) t4_0 t4_1 t4_2 t4_3 t4_4 t4_5 t4_6) : Int32) ((F_Dig_round_2 ((lx71 + 1 : Int32) + lx68 : Int32) (2 : Int32) lx70 lx71 lx72) : (Int32 × Int32 × (Nat → Int32)))) else (F_Pri_writeNumber_c223 t0_0 t0_1 t1_0 t2_0 t3_0 t4_0 t4_1 t4_2 t4_3 t4_4 t4_5 t4_6 lx40 lx52 lx68 lx69 lx70 lx71 lx72 ((F_Dir_has (2 : Int32) t4_0 t4_1 t4_2 t4_3 t4_4 t4_5 t4_6) : Int32) ((F_Dig_round_1 (lx68 + 1 : Int32) (2 : Int32) lx70 lx71 lx72) : (Int32 × Int32 × (Nat → Int32))))
def F_Pri_writeNumber_J117 (t0_0 : Int32) (t0_1 : Int32) (t1_0 : (Nat → Int32)) (t2_0 : Int32) (t3_0 : (Nat → Int64)) (t4_0 : Int32) (t4_1 : Int32) (t4_2 : Int32) (t4_3 : Int32) (t4_4 : Int32) (t4_5 : Int32) (t4_6 : Int32) (lx40 : Int32) (lx52 : Int32) (a238 : Int32) (p257 : (Int32 × Int32 × (Nat → Int32))) (y244 : Int32) (y245 : Int32) (f246 : (Nat → Int32)) : Int32 × Int32 × (Nat → Int32) × Int32 × (Nat → Int64) := F_Pri_writeNumber_J156 t0_0 t0_1 t1_0 t2_0 t3_0 t4_0 t4_1 t4_2 t4_3 t4_4 t4_5 t4_6 lx40 lx52 (a238 - 1 : Int32) 101 y244 y245 f246
def F_Pri_writeNumber_c87 (t0_0 : Int32) (t0_1 : Int32) (t1_0 : (Nat → Int32)) (t2_0 : Int32) (t3_0 : (Nat → Int64)) (t4_0 : Int32) (t4_1 : Int32) (t4_2 : Int32) (t4_3 : Int32) (t4_4 : Int32) (t4_5 : Int32) (t4_6 : Int32) (lx40 : Int32) (lx52 : Int32) (a238 : Int32) (p257 : (Int32 × Int32 × (Nat → Int32))) : Int32 × Int32 × (Nat → Int32) × Int32 × (Nat → Int64) := if (p257.2.1 : Int32) < (-4 : Int32) then (F_Pri_writeNumber_J117 t0_0 t0_1 t1_0 t2_0 t3_0 t4_0 t4_1 t4_2 t4_3 t4_4 t4_5 t4_6 lx40 lx52 a238 p257 (p257.1 : Int32) (p257.2.1 : Int32) (p257.2.2 : (Nat → Int32))) else (if a238 ≤ (p257.2.1 : Int32) then (F_Pri_writeNumber_J117 t0_0 t0_1 t1_0 t2_0 t3_0 t4_0 t4_1 t4_2 t4_3 t4_4 t4_5 t4_6 lx40 lx52 a238 p257 (p257.1 : Int32) (p257.2.1 : Int32) (p257.2.2 : (Nat → Int32))) else (F_Pri_writeNumber_J156 t0_0 t0_1 t1_0 t2_0 t3_0 t4_0 t4_1 t4_2 t4_3 t4_4 t4_5 t4_6 lx40 lx52 ((a238 - 1 : Int32) - (p257.2.1 : Int32) : Int32) 102 (p257.1 : Int32) (p257.2.1 : Int32) (p257.2.2 : (Nat → Int32))))
def F_Pri_writeNumber_J54 (t0_0 : Int32) (t0_1 : Int32) (t1_0 : (Nat → Int32)) (t2_0 : Int32) (t3_0 : (Nat → Int64)) (t4_0 : Int32) (t4_1 : Int32) (t4_2 : Int32) (t4_3 : Int32) (t4_4 : Int32) (t4_5 : Int32) (t4_6 : Int32) (lx40 : Int32) (lx52 : Int32) : Int32 × Int32 × (Nat → Int32) × Int32 × (Nat → Int64) := if lx40 = (100 : Int32) then (F_Pri_writeNumber_J156 t0_0 t0_1 t1_0 t2_0 t3_0 t4_0 t4_1 t4_2 t4_3 t4_4 t4_5 t4_6 lx40 lx52 0 102 t0_0 t0_1 t1_0) else (if lx40 = (103 : Int32) then (F_Pri_writeNumber_c87 t0_0 t0_1 t1_0 t2_0 t3_0 t4_0 t4_1 t4_2 t4_3 t4_4 t4_5 t4_6 lx40 lx52 (if lx52 < 1 then 1 else lx52 : Int32) ((F_Dig_round_1 (if lx52 < 1 then 1 else lx52 : Int32) (2 : Int32) t0_0 t0_1 t1_0) : (Int32 × Int32 × (Nat → Int32)))) else (F_Pri_writeNumber_J156 t0_0 t0_1 t1_0 t2_0 t3_0 t4_0 t4_1 t4_2 t4_3 t4_4 t4_5 t4_6 lx40 lx52 lx52 lx40 t0_0 t0_1 t1_0))
def F_Pri_writeNumber_J30 (t0_0 : Int32) (t0_1 : Int32) (t1_0 : (Nat → Int32)) (t2_0 : Int32) (t3_0 : (Nat → Int64)) (t4_0 : Int32) (t4_1 : Int32) (t4_2 : Int32) (t4_3 : Int32) (t4_4 : Int32) (t4_5 : Int32) (t4_6 : Int32) (lx40 : Int32) : Int32 × Int32 × (Nat → Int32) × Int32 × (Nat → Int64) := if t4_3 = (-1 : Int32) then (F_Pri_writeNumber_J54 t0_0 t0_1 t1_0 t2_0 t3_0 t4_0 t4_1 t4_2 t4_3 t4_4 t4_5 t4_6 lx40 6) else (F_Pri_writeNumber_J54 t0_0 t0_1 t1_0 t2_0 t3_0 t4_0 t4_1 t4_2 t4_3 t4_4 t4_5 t4_6 lx40 t4_3)
def F_Pri_writeNumber (t0_0 : Int32) (t0_1 : Int32) (t1_0 : (Nat → Int32)) (t2_0 : Int32) (t3_0 : (Nat → Int64)) (t4_0 : Int32) (t4_1 : Int32) (t4_2 : Int32) (t4_3 : Int32) (t4_4 : Int32) (t4_5 : Int32) (t4_6 : Int32) : Int32 × Int32 × (Nat → Int32) × Int32 × (Nat → Int64) := if ((F_Dir_isLarge t4_0 t4_1 t4_2 t4_3 t4_4 t4_5 t4_6) : Int32) = (0 : Int32) then (F_Pri_writeNumber_J30 t0_0 t0_1 t1_0 t2_0 t3_0 t4_0 t4_1 t4_2 t4_3 t4_4 t4_5 t4_6 t4_4) else (F_Pri_writeNumber_J30 t0_0 t0_1 t1_0 t2_0 t3_0 t4_0 t4_1 t4_2 t4_3 t4_4 t4_5 t4_6 (t4_4 + 32 : Int32))
set_option maxRecDepth 100000 in
set_option maxHeartbeats 4000000 in
theorem X_Pri_writeNumber (l : Launch) (D : va_G) (g : Nat → ClassId) (q : Nat → Nat) (ws : va_W) (hI : q_I (nsh g q) q ws) (t0_0 : Int32) (t0_1 : Int32) (hT0 : ws[36]? = (some (q 36, .inr (7, [.int t0_0, .int t0_1, .ref (q 37)])) : Option (Nat × va_E))) (t1_0 : (Nat → Int32)) (hT1 : ws[37]? = (some (q 37, .inl (g 2, 1026, .inl t1_0)) : Option (Nat × va_E))) (t2_0 : Int32) (hT2 : ws[45]? = (some (q 45, .inr (1, [.ref (q 46), .int 4104, .int t2_0])) : Option (Nat × va_E))) (t3_0 : (Nat → Int64)) (hT3 : ws[46]? = (some (q 46, .inl (g 1, (513 : Int32).toNatClampNeg, .inr (.inl t3_0))) : Option (Nat × va_E))) (t4_0 : Int32) (t4_1 : Int32) (t4_2 : Int32) (t4_3 : Int32) (t4_4 : Int32) (t4_5 : Int32) (t4_6 : Int32) (hT4 : ws[47]? = (some (q 47, .inr (10, [.int t4_0, .int t4_1, .int t4_2, .int t4_3, .int t4_4, .int t4_5, .ref (q 1), .int t4_6])) : Option (Nat × va_E))) (pre0 : 0 ≤ t0_1.toInt + 100000) (pre1 : t0_1.toInt ≤ 60000) (pre2 : t2_0.toInt ≤ 10) : q_mV l y_Pri_writeNumber prog_9_method_14_code 5 4 0 0 D g [.ref (q 40)] ws (fun u => q_I (nsh g q) q u ∧ q_un ws u [36, 37, 45, 46] ∧ ∃ (u0_0 : Int32) (u0_1 : Int32) (u1_0 : (Nat → Int32)) (u2_0 : Int32) (u3_0 : (Nat → Int64)), u[36]? = (some (q 36, .inr (7, [.int u0_0, .int u0_1, .ref (q 37)])) : Option (Nat × va_E)) ∧ u[37]? = (some (q 37, .inl (g 2, 1026, .inl u1_0)) : Option (Nat × va_E)) ∧ u[45]? = (some (q 45, .inr (1, [.ref (q 46), .int 4104, .int u2_0])) : Option (Nat × va_E)) ∧ u[46]? = (some (q 46, .inl (g 1, (513 : Int32).toNatClampNeg, .inr (.inl u3_0))) : Option (Nat × va_E)) ∧ (0 ≤ u0_0.toInt) ∧ (u0_0.toInt ≤ 1026) ∧ (u0_1.toInt ≤ 100001) ∧ (u0_0.toInt ≤ t0_0.toInt + 1) ∧ (u0_1.toInt ≤ t0_0.toInt + 100000) ∧ (t0_1.toInt ≤ u0_1.toInt) ∧ (u0_1.toInt ≤ t0_1.toInt + 100001) ∧ (t0_1.toInt ≤ u2_0.toInt + 59997) ∧ (t2_0.toInt + 1 ≤ u2_0.toInt) ∧ (u2_0.toInt ≤ t2_0.toInt + 420003) ∧ (u0_1.toInt ≤ u0_0.toInt + 100000) ∧ (u0_1.toInt ≤ u2_0.toInt + 59999) ∧ (u0_0, u0_1, u1_0, u2_0, u3_0) = (F_Pri_writeNumber t0_0 t0_1 t1_0 t2_0 t3_0 t4_0 t4_1 t4_2 t4_3 t4_4 t4_5 t4_6)) := by
  intro sz
  refine q_into (by decide) (Nat.le_of_ble_eq_true rfl) ?_
  intro p e s m below meth c ls hsz C0 V hl
  have hx := C0.1
  have hb := C0.2.1
  obtain ⟨btt0_0, btt0_1⟩ := n_w36 hI hT0
  replace btt0_0 : q_F (0 ≤ t0_0.toInt ∧ t0_0.toInt ≤ 1026) := btt0_0
  replace btt0_1 : q_F (-1000000 ≤ t0_1.toInt ∧ t0_1.toInt ≤ 1000000) := btt0_1
  have btt2_0 := n_shW hI (n_h45 g q) hT2
  clear btt2_0
  have hZ9 := (n_w47 hI hT4).2
  obtain ⟨btt4_3, -⟩ := hZ9
  replace btt4_3 : q_F (-1 ≤ t4_3.toInt ∧ t4_3.toInt ≤ 9999) := btt4_3
  replace pre0 : q_F (0 ≤ t0_1.toInt + 100000) := pre0
  replace pre1 : q_F (t0_1.toInt ≤ 60000) := pre1
  replace pre2 : q_F (t2_0.toInt ≤ 10) := pre2
  have hF : q_un ws ws [36, 37, 45, 46] := q_u0
  have hl : lv_has ls 5 [(0, .ref (q 40))] := hl
  refine lv_aload_n hx hb d_9_14_0 rfl (lv_at hl 0 rfl) ?_
  obtain ⟨y26, hZ9⟩ := n_o40 hI
  obtain ⟨y28, hZ9⟩ := hZ9
  obtain ⟨y30, hZ9⟩ := hZ9
  obtain ⟨y31, hZ9⟩ := hZ9
  obtain ⟨hO25, hZ9⟩ := hZ9
  replace hZ9 := hZ9.2
  obtain ⟨-, b32⟩ := hZ9
  clear b32
  refine q_get (ci := 11) (j := 6) (v := .ref (q 47)) C0 V i_Pri rfl rfl hO25 (by decide) w_391 rfl d_9_14_1 ?_
  refine q_goi V (q_runV (As := []) (rest := []) (d := 1) (mc := 0) (ms := 0) (ci := 10) C0 V rfl LV_Pri_222 (X_Dir_isLarge l D g q ws   hI t4_0 t4_1 t4_2 t4_3 t4_4 t4_5 t4_6 hT4  _) rfl rfl hT4 rfl hl.1 rfl (Nat.le_of_ble_eq_true rfl) ⟨by decide, by decide⟩ ⟨Nat.le_of_ble_eq_true rfl, Nat.le_of_ble_eq_true rfl⟩ d_9_14_4) (fun a35 u33 H locs hp34 V => ?_)
  obtain ⟨rfl, b36, b37, hE38⟩ := hp34
  have e39 : a35 = (F_Dir_isLarge t4_0 t4_1 t4_2 t4_3 t4_4 t4_5 t4_6) := hE38
  clear b36
  clear b37
  refine q_join (X := Int32) (fun z H locs ls _ => q_Wd D g (va_A ws sz) s ws H locs ∧ lv_has ls 5 [(0, .ref (q 40))] ∧ F_Pri_writeNumber_J30 t0_0 t0_1 t1_0 t2_0 t3_0 t4_0 t4_1 t4_2 t4_3 t4_4 t4_5 t4_6 z = (F_Pri_writeNumber t0_0 t0_1 t1_0 t2_0 t3_0 t4_0 t4_1 t4_2 t4_3 t4_4 t4_5 t4_6)) (fun z => [.int z]) 30 0 0 ?_ ?_
  ·
    rintro lx40 H locs ls _ ⟨V, hl, hR47⟩
    replace hl : lv_has ls 5 [(0, .ref (q 40))] := hl
    refine lv_istore_n (lv' := [(1, .int lx40), (0, .ref (q 40))]) hx hb d_9_14_30 rfl hl (by decide) rfl (fun ls hl => ?_)
    refine lv_aload_n hx hb d_9_14_31 rfl (lv_at hl 1 rfl) ?_
    refine q_get (ci := 11) (j := 6) (v := .ref (q 47)) C0 V i_Pri rfl rfl hO25 (by decide) w_391 rfl d_9_14_32 ?_
    refine q_get (ci := 10) (j := 3) (v := .int t4_3) C0 V i_Dir rfl rfl hT4 (by decide) w_360 rfl d_9_14_35 ?_
    refine lv_iconst (v := (-1)) hx hb d_9_14_38 (by decide) ?_
    refine q_join (X := Int32) (fun z H locs ls _ => q_F (0 ≤ z.toInt) ∧ q_F (z.toInt ≤ 9999) ∧ q_F (t4_3.toInt ≤ z.toInt) ∧ q_F (z.toInt ≤ t4_3.toInt + 7) ∧ q_Wd D g (va_A ws sz) s ws H locs ∧ lv_has ls 5 [(1, .int lx40), (0, .ref (q 40))] ∧ F_Pri_writeNumber_J54 t0_0 t0_1 t1_0 t2_0 t3_0 t4_0 t4_1 t4_2 t4_3 t4_4 t4_5 t4_6 lx40 z = (F_Pri_writeNumber t0_0 t0_1 t1_0 t2_0 t3_0 t4_0 t4_1 t4_2 t4_3 t4_4 t4_5 t4_6)) (fun z => [.int z]) 54 0 0 ?_ ?_
    ·
      rintro lx52 H locs ls _ hZ9
      obtain ⟨i59, hZ9⟩ := hZ9
      obtain ⟨i60, hZ9⟩ := hZ9
      replace hZ9 := hZ9.2
      obtain ⟨i62, hZ9⟩ := hZ9
      obtain ⟨V, hZ9⟩ := hZ9
      obtain ⟨hl, hR63⟩ := hZ9
      replace i59 : q_F (0 ≤ lx52.toInt) := i59
      replace i60 : q_F (lx52.toInt ≤ 9999) := i60
      replace i62 : q_F (lx52.toInt ≤ t4_3.toInt + 7) := i62
      replace hl : lv_has ls 5 [(1, .int lx40), (0, .ref (q 40))] := hl
      refine lv_istore_n (lv' := [(2, .int lx52), (1, .int lx40), (0, .ref (q 40))]) hx hb d_9_14_54 rfl hl (by decide) rfl (fun ls hl => ?_)
      refine lv_iload_n hx hb d_9_14_55 rfl (lv_at hl 1 rfl) ?_
      refine lv_bipush (v := 100) hx hb d_9_14_56 (by decide) ?_
      refine q_join (X := Int32 × Int32 × Int32 × Int32 × (Nat → Int32)) (fun z H locs ls w92 => q_F (0 ≤ z.1.toInt) ∧ q_F (z.1.toInt ≤ 10002) ∧ q_F (0 ≤ z.2.2.1.toInt) ∧ q_F (z.1.toInt ≤ lx52.toInt + 4) ∧ q_F (z.1.toInt ≤ t0_1.toInt + 109999) ∧ q_F (z.1.toInt ≤ t4_3.toInt + 10) ∧ q_F (lx40.toInt ≤ z.2.1.toInt + 2) ∧ q_F (z.2.1.toInt ≤ lx40.toInt + 2) ∧ q_F (t0_0.toInt ≤ z.2.2.1.toInt + 1025) ∧ q_F (z.2.2.1.toInt ≤ t0_0.toInt) ∧ q_F (t0_1.toInt ≤ z.2.2.2.1.toInt) ∧ q_F (z.2.2.2.1.toInt ≤ t0_1.toInt + 1) ∧ q_F (z.1.toInt + z.2.2.2.1.toInt ≤ 69999) ∧ q_Wd D g (va_A ws sz) s w92 H locs ∧ lv_has ls 5 [(2, .int z.1), (1, .int z.2.1), (0, .ref (q 40))] ∧ q_I (nsh g q) q w92 ∧ q_un ws w92 [36, 37, 45, 46] ∧ w92[36]? = (some (q 36, .inr (7, [.int z.2.2.1, .int z.2.2.2.1, .ref (q 37)])) : Option (Nat × va_E)) ∧ w92[37]? = (some (q 37, .inl (g 2, 1026, .inl z.2.2.2.2)) : Option (Nat × va_E)) ∧ w92[45]? = (some (q 45, .inr (1, [.ref (q 46), .int 4104, .int t2_0])) : Option (Nat × va_E)) ∧ w92[46]? = (some (q 46, .inl (g 1, (513 : Int32).toNatClampNeg, .inr (.inl t3_0))) : Option (Nat × va_E)) ∧ w92[47]? = (some (q 47, .inr (10, [.int t4_0, .int t4_1, .int t4_2, .int t4_3, .int t4_4, .int t4_5, .ref (q 1), .int t4_6])) : Option (Nat × va_E)) ∧ F_Pri_writeNumber_J156 t0_0 t0_1 t1_0 t2_0 t3_0 t4_0 t4_1 t4_2 t4_3 t4_4 t4_5 t4_6 lx40 lx52 z.1 z.2.1 z.2.2.1 z.2.2.2.1 z.2.2.2.2 = (F_Pri_writeNumber t0_0 t0_1 t1_0 t2_0 t3_0 t4_0 t4_1 t4_2 t4_3 t4_4 t4_5 t4_6)) (fun z => []) 156 0 0 ?_ ?_
      ·
        rintro ⟨lx68, lx69, lx70, lx71, lx72⟩ H locs ls w92 ⟨i79, i80, i81, i82, i83, i84, i85, i86, i87, i88, i89, i90, i91, V, hl, hI, hF, hO73, hA74, hO75, hA76, hO77, hR93⟩
        replace i79 : q_F (0 ≤ lx68.toInt) := i79
        replace i80 : q_F (lx68.toInt ≤ 10002) := i80
        clear i81
        clear i82
        clear i83
        clear i84
        clear i85
        clear i86
        clear i87
        replace i88 : q_F (lx70.toInt ≤ t0_0.toInt) := i88
        replace i89 : q_F (t0_1.toInt ≤ lx71.toInt) := i89
        replace i90 : q_F (lx71.toInt ≤ t0_1.toInt + 1) := i90
        replace i91 : q_F (lx68.toInt + lx71.toInt ≤ 69999) := i91
        replace hl : lv_has ls 5 [(2, .int lx68), (1, .int lx69), (0, .ref (q 40))] := hl
        replace hO73 : w92[36]? = (some (q 36, .inr (7, [.int lx70, .int lx71, .ref (q 37)])) : Option (Nat × va_E)) := hO73
        replace hA74 : w92[37]? = (some (q 37, .inl (g 2, 1026, .inl lx72)) : Option (Nat × va_E)) := hA74
        replace hO75 : w92[45]? = (some (q 45, .inr (1, [.ref (q 46), .int 4104, .int t2_0])) : Option (Nat × va_E)) := hO75
        replace hA76 : w92[46]? = (some (q 46, .inl (g 1, (513 : Int32).toNatClampNeg, .inr (.inl t3_0))) : Option (Nat × va_E)) := hA76
        replace hO77 : w92[47]? = (some (q 47, .inr (10, [.int t4_0, .int t4_1, .int t4_2, .int t4_3, .int t4_4, .int t4_5, .ref (q 1), .int t4_6])) : Option (Nat × va_E)) := hO77
        refine lv_aload_n hx hb d_9_14_156 rfl (lv_at hl 2 rfl) ?_
        obtain ⟨y99, hZ9⟩ := n_o40 hI
        obtain ⟨y101, hZ9⟩ := hZ9
        obtain ⟨y103, hZ9⟩ := hZ9
        obtain ⟨y104, hZ9⟩ := hZ9
        obtain ⟨hO98, hZ9⟩ := hZ9
        replace hZ9 := hZ9.2
        obtain ⟨-, b105⟩ := hZ9
        clear b105
        refine q_get (ci := 11) (j := 6) (v := .ref (q 47)) C0 V i_Pri rfl rfl hO98 (by decide) w_391 rfl d_9_14_157 ?_
        refine lv_iconst (v := 2) hx hb d_9_14_160 (by decide) ?_
        refine q_goi V (q_runV (As := [.int 2]) (rest := []) (d := 1) (mc := 0) (ms := 0) (ci := 10) C0 V rfl LV_Pri_144 (X_Dir_has l D g q w92  2 hI t4_0 t4_1 t4_2 t4_3 t4_4 t4_5 t4_6 hO77  _) rfl rfl hO77 rfl hl.1 rfl (Nat.le_of_ble_eq_true rfl) ⟨by decide, by decide⟩ ⟨Nat.le_of_ble_eq_true rfl, Nat.le_of_ble_eq_true rfl⟩ d_9_14_161) (fun a108 u106 H locs hp107 V => ?_)
        obtain ⟨rfl, b109, b110, hE111⟩ := hp107
        have e112 : a108 = (F_Dir_has (2 : Int32) t4_0 t4_1 t4_2 t4_3 t4_4 t4_5 t4_6) := hE111
        replace b109 : q_F (0 ≤ a108.toInt) := b109
        replace b110 : q_F (a108.toInt ≤ 1) := b110
        refine lv_istore_n (lv' := [(3, .int a108), (2, .int lx68), (1, .int lx69), (0, .ref (q 40))]) hx hb d_9_14_164 rfl hl (by decide) rfl (fun ls hl => ?_)
        refine lv_iload_n hx hb d_9_14_165 rfl (lv_at hl 2 rfl) ?_
        refine lv_bipush (v := 102) hx hb d_9_14_166 (by decide) ?_
        refine lv_icmp_ne (tgt := 215) hx hb d_9_14_168 (by decide) (fun c113 => ?_) (fun c113 => ?_)
        ·
          refine lv_aload_n hx hb d_9_14_215 rfl (lv_at hl 3 rfl) ?_
          refine q_get (ci := 11) (j := 7) (v := .ref (q 36)) C0 V i_Pri rfl rfl hO98 (by decide) w_392 rfl d_9_14_216 ?_
          refine lv_iload_n hx hb d_9_14_219 rfl (lv_at hl 1 rfl) ?_
          refine lv_iconst (v := 1) hx hb d_9_14_220 (by decide) ?_
          refine lv_iadd hx hb d_9_14_221 ?_
          obtain ⟨a115, e116⟩ := q_nm (lx68 + 1 : Int32)
          refine q_ti (v := a115) e116 ?_
          have b117 : q_F (a115.toInt = lx68.toInt + 1) := (by rw [← e116]; show (lx68 + 1 : Int32).toInt = lx68.toInt + 1; exact q_addI (x := lx68.toInt) (y := 1) rfl (by decide) (by have t1 : 0 ≤ lx68.toInt := i79; have t2 : lx68.toInt ≤ 10002 := i80; omega) (by have t1 : 0 ≤ lx68.toInt := i79; have t2 : lx68.toInt ≤ 10002 := i80; omega))
          refine lv_iconst (v := 2) hx hb d_9_14_222 (by decide) ?_
          refine q_gov V (q_runV (As := [.int a115, .int 2]) (rest := []) (d := 3) (mc := 0) (ms := 0) (ci := 7) C0 V rfl LV_Pri_225 (X_Dig_round_1 l D g q w92  a115 2 hI lx70 lx71 hO73 lx72 hA74 (by have y0 : (2 : Int32).toInt = 2 := rfl; have t1 : 0 ≤ lx68.toInt := i79; have t2 : a115.toInt = lx68.toInt + 1 := b117; omega) (by have y0 : (2 : Int32).toInt = 2 := rfl; have t1 : 0 ≤ t0_1.toInt + 100000 := pre0; have t2 : t0_1.toInt ≤ lx71.toInt := i89; omega) (by have y0 : (2 : Int32).toInt = 2 := rfl; have t1 : t0_1.toInt ≤ 60000 := pre1; have t2 : lx71.toInt ≤ t0_1.toInt + 1 := i90; omega) _) rfl rfl hO73 rfl hl.1 rfl (Nat.le_of_ble_eq_true rfl) ⟨by decide, by decide⟩ ⟨Nat.le_of_ble_eq_true rfl, Nat.le_of_ble_eq_true rfl⟩ d_9_14_223) (fun u118 H locs hp119 V => ?_)
          obtain ⟨hI, hZ9⟩ := hp119
          obtain ⟨hu133, hZ9⟩ := hZ9
          obtain ⟨y121, hZ9⟩ := hZ9
          obtain ⟨y122, hZ9⟩ := hZ9
          obtain ⟨f123, hZ9⟩ := hZ9
          obtain ⟨hO120, hZ9⟩ := hZ9
          obtain ⟨hA124, hZ9⟩ := hZ9
          obtain ⟨b125, hZ9⟩ := hZ9
          obtain ⟨b126, hZ9⟩ := hZ9
          replace hZ9 := hZ9.2
          obtain ⟨b128, hZ9⟩ := hZ9
          obtain ⟨b129, hZ9⟩ := hZ9
          obtain ⟨b130, hZ9⟩ := hZ9
          obtain ⟨-, hE132⟩ := hZ9
          replace hO120 : u118[36]? = (some (q 36, .inr (7, [.int y121, .int y122, .ref (q 37)])) : Option (Nat × va_E)) := hO120
          replace hA124 : u118[37]? = (some (q 37, .inl (g 2, 1026, .inl f123)) : Option (Nat × va_E)) := hA124
          obtain ⟨p134, e135⟩ : ∃ z, z = (F_Dig_round_1 a115 (2 : Int32) lx70 lx71 lx72) := ⟨_, rfl⟩
          have e136 : y121 = p134.1 := congrArg (fun z => z.1) (hE132.trans e135.symm)
          have e137 : y122 = p134.2.1 := congrArg (fun z => z.2.1) (hE132.trans e135.symm)
          have e138 : f123 = p134.2.2 := congrArg (fun z => z.2.2) (hE132.trans e135.symm)
          replace b125 : q_F (0 ≤ y121.toInt) := b125
          replace b126 : q_F (y121.toInt ≤ a115.toInt + 1) := b126
          replace b128 : q_F (y121.toInt ≤ lx70.toInt) := b128
          replace b129 : q_F (lx71.toInt ≤ y122.toInt) := b129
          replace b130 : q_F (y122.toInt ≤ lx71.toInt + 1) := b130
          replace hO75 := (hu133 _ (by decide)).trans hO75
          replace hA76 := (hu133 _ (by decide)).trans hA76
          replace hO98 := (hu133 _ (by decide)).trans hO98
          replace hF := q_uc hF hu133 (by first | exact (q_sk (q_mi 0 rfl) (q_sk (q_mi 1 rfl) q_s0)) | simp)
          have hR139 := (show F_Pri_writeNumber_c223 t0_0 t0_1 t1_0 t2_0 t3_0 t4_0 t4_1 t4_2 t4_3 t4_4 t4_5 t4_6 lx40 lx52 lx68 lx69 lx70 lx71 lx72 a108 p134 = (F_Pri_writeNumber t0_0 t0_1 t1_0 t2_0 t3_0 t4_0 t4_1 t4_2 t4_3 t4_4 t4_5 t4_6) from Eq.trans (by rw [e135, ← e116, e112, F_Pri_writeNumber_J156.eq_1, if_neg c113]) hR93)
          refine lv_aload_n hx hb d_9_14_226 rfl (lv_at hl 3 rfl) ?_
          refine q_get (ci := 11) (j := 7) (v := .ref (q 36)) C0 V i_Pri rfl rfl hO98 (by decide) w_392 rfl d_9_14_227 ?_
          refine lv_aload_n hx hb d_9_14_230 rfl (lv_at hl 3 rfl) ?_
          refine q_get (ci := 11) (j := 8) (v := .ref (q 45)) C0 V i_Pri rfl rfl hO98 (by decide) w_393 rfl d_9_14_231 ?_
          refine lv_iload_n hx hb d_9_14_234 rfl (lv_at hl 1 rfl) ?_
          refine lv_iconst (v := 1) hx hb d_9_14_235 (by decide) ?_
          refine lv_iadd hx hb d_9_14_236 ?_
          obtain ⟨a144, e145⟩ := q_nm (lx68 + 1 : Int32)
          refine q_ti (v := a144) e145 ?_
          have b146 : q_F (a144.toInt = lx68.toInt + 1) := (by rw [← e145]; show (lx68 + 1 : Int32).toInt = lx68.toInt + 1; exact q_addI (x := lx68.toInt) (y := 1) rfl (by decide) (by have t1 : 0 ≤ lx68.toInt := i79; have t2 : lx68.toInt ≤ 10002 := i80; omega) (by have t1 : 0 ≤ lx68.toInt := i79; have t2 : lx68.toInt ≤ 10002 := i80; omega))
          refine lv_iload_n hx hb d_9_14_237 rfl (lv_at hl 0 rfl) ?_
          refine q_gov V (q_runV (As := [.ref (q 45), .int a144, .int a108]) (rest := []) (d := 3) (mc := 0) (ms := 0) (ci := 7) C0 V rfl LV_Pri_232 (X_Dig_writeScience l D g q u118 45 4104 513 1000000 (n_h45 g q) a144 a108 hI y121 y122 hO120 f123 hA124 t2_0 hO75 t3_0 hA76 ⟨(by have y0 : (4104 : Int32).toInt = 4104 := rfl; have y1 : (513 : Int32).toInt = 513 := rfl; have y2 : (1000000 : Int32).toInt = 1000000 := rfl; have t1 : 0 ≤ a108.toInt := b109; omega), (by have y0 : (4104 : Int32).toInt = 4104 := rfl; have y1 : (513 : Int32).toInt = 513 := rfl; have y2 : (1000000 : Int32).toInt = 1000000 := rfl; have t1 : a108.toInt ≤ 1 := b110; omega)⟩ (by have y0 : (4104 : Int32).toInt = 4104 := rfl; have y1 : (513 : Int32).toInt = 513 := rfl; have y2 : (1000000 : Int32).toInt = 1000000 := rfl; have t1 : lx68.toInt ≤ 10002 := i80; have t2 : a144.toInt = lx68.toInt + 1 := b146; omega) (by have y0 : (4104 : Int32).toInt = 4104 := rfl; have y1 : (513 : Int32).toInt = 513 := rfl; have y2 : (1000000 : Int32).toInt = 1000000 := rfl; have t1 : t2_0.toInt ≤ 10 := pre2; omega) (by have y0 : (4104 : Int32).toInt = 4104 := rfl; have y1 : (513 : Int32).toInt = 513 := rfl; have y2 : (1000000 : Int32).toInt = 1000000 := rfl; omega) _) rfl rfl hO120 rfl hl.1 rfl (Nat.le_of_ble_eq_true rfl) ⟨by decide, by decide⟩ ⟨Nat.le_of_ble_eq_true rfl, Nat.le_of_ble_eq_true rfl⟩ d_9_14_238) (fun u147 H locs hp148 V => ?_)
          obtain ⟨hI, hZ9⟩ := hp148
          obtain ⟨hu158, hZ9⟩ := hZ9
          obtain ⟨y150, hZ9⟩ := hZ9
          obtain ⟨f151, hZ9⟩ := hZ9
          obtain ⟨hO149, hZ9⟩ := hZ9
          obtain ⟨hA152, hZ9⟩ := hZ9
          obtain ⟨b153, hZ9⟩ := hZ9
          replace hZ9 := hZ9.2
          obtain ⟨b155, hZ9⟩ := hZ9
          obtain ⟨b156, hE157⟩ := hZ9
          replace hO149 : u147[45]? = (some (q 45, .inr (1, [.ref (q 46), .int 4104, .int y150])) : Option (Nat × va_E)) := hO149
          replace hA152 : u147[46]? = (some (q 46, .inl (g 1, (513 : Int32).toNatClampNeg, .inr (.inl f151))) : Option (Nat × va_E)) := hA152
          obtain ⟨p159, e160⟩ : ∃ z, z = (F_Dig_writeScience (4104 : Int32) (513 : Int32) (1000000 : Int32) a144 a108 y121 y122 f123 t2_0 t3_0) := ⟨_, rfl⟩
          have e161 : y150 = p159.1 := congrArg (fun z => z.1) (hE157.trans e160.symm)
          have e162 : f151 = p159.2 := congrArg (fun z => z.2) (hE157.trans e160.symm)
          replace b153 : q_F (a144.toInt + 2 ≤ y150.toInt) := b153
          replace b155 : q_F (t2_0.toInt + 3 ≤ y150.toInt) := b155
          replace b156 : q_F (y150.toInt ≤ t2_0.toInt + 20008) := b156
          replace hO120 := (hu158 _ (by decide)).trans hO120
          replace hA124 := (hu158 _ (by decide)).trans hA124
          replace hF := q_uc hF hu158 (by first | exact (q_sk (q_mi 2 rfl) (q_sk (q_mi 3 rfl) q_s0)) | simp)
          have hR163 := (show F_Pri_writeNumber_c238 t0_0 t0_1 t1_0 t2_0 t3_0 t4_0 t4_1 t4_2 t4_3 t4_4 t4_5 t4_6 lx40 lx52 lx68 lx69 lx70 lx71 lx72 a108 p134 y121 y122 f123 p159 = (F_Pri_writeNumber t0_0 t0_1 t1_0 t2_0 t3_0 t4_0 t4_1 t4_2 t4_3 t4_4 t4_5 t4_6) from Eq.trans (by rw [e160, ← e145, e138, e137, e136, F_Pri_writeNumber_c223.eq_1]) hR139)
          exact q_retv C0 V (⟨hI, hF, y121, y122, f123, y150, f151, hO120, hA124, hO149, hA152, (show 0 ≤ y121.toInt from (by first | with_reducible exact q_fe b125 | (have t1 : 0 ≤ y121.toInt := b125; omega))), (show y121.toInt ≤ 1026 from (by have t1 : 0 ≤ t0_0.toInt ∧ t0_0.toInt ≤ 1026 := btt0_0; have t2 : lx70.toInt ≤ t0_0.toInt := i88; have t3 : y121.toInt ≤ lx70.toInt := b128; omega)), (show y122.toInt ≤ 100001 from (by have t1 : t0_1.toInt ≤ 60000 := pre1; have t2 : lx71.toInt ≤ t0_1.toInt + 1 := i90; have t3 : y122.toInt ≤ lx71.toInt + 1 := b130; omega)), (show y121.toInt ≤ t0_0.toInt + 1 from (by have t1 : lx70.toInt ≤ t0_0.toInt := i88; have t2 : y121.toInt ≤ lx70.toInt := b128; omega)), (show y122.toInt ≤ t0_0.toInt + 100000 from (by have t1 : 0 ≤ t0_0.toInt ∧ t0_0.toInt ≤ 1026 := btt0_0; have t2 : t0_1.toInt ≤ 60000 := pre1; have t3 : lx71.toInt ≤ t0_1.toInt + 1 := i90; have t4 : y122.toInt ≤ lx71.toInt + 1 := b130; omega)), (show t0_1.toInt ≤ y122.toInt from (by have t1 : t0_1.toInt ≤ lx71.toInt := i89; have t2 : lx71.toInt ≤ y122.toInt := b129; omega)), (show y122.toInt ≤ t0_1.toInt + 100001 from (by have t1 : lx71.toInt ≤ t0_1.toInt + 1 := i90; have t2 : y122.toInt ≤ lx71.toInt + 1 := b130; omega)), (show t0_1.toInt ≤ y150.toInt + 59997 from (by have t1 : t0_1.toInt ≤ 60000 := pre1; have t2 : 0 ≤ lx68.toInt := i79; have t3 : a144.toInt = lx68.toInt + 1 := b146; have t4 : a144.toInt + 2 ≤ y150.toInt := b153; omega)), (show t2_0.toInt + 1 ≤ y150.toInt from (by first | with_reducible exact q_fe b155 | (have t1 : t2_0.toInt + 3 ≤ y150.toInt := b155; omega))), (show y150.toInt ≤ t2_0.toInt + 420003 from (by first | with_reducible exact q_fe b156 | (have t1 : y150.toInt ≤ t2_0.toInt + 20008 := b156; omega))), (show y122.toInt ≤ y121.toInt + 100000 from (by have t1 : lx68.toInt + lx71.toInt ≤ 69999 := i91; have t2 : a115.toInt = lx68.toInt + 1 := b117; have t3 : 0 ≤ y121.toInt := b125; have t4 : y121.toInt ≤ a115.toInt + 1 := b126; have t5 : y122.toInt ≤ lx71.toInt + 1 := b130; omega)), (show y122.toInt ≤ y150.toInt + 59999 from (by have t1 : t0_1.toInt ≤ 60000 := pre1; have t2 : 0 ≤ lx68.toInt := i79; have t3 : lx71.toInt ≤ t0_1.toInt + 1 := i90; have t4 : y122.toInt ≤ lx71.toInt + 1 := b130; have t5 : a144.toInt = lx68.toInt + 1 := b146; have t6 : a144.toInt + 2 ≤ y150.toInt := b153; omega)), (show (y121, y122, f123, y150, f151) = (F_Pri_writeNumber t0_0 t0_1 t1_0 t2_0 t3_0 t4_0 t4_1 t4_2 t4_3 t4_4 t4_5 t4_6) from Eq.trans (by rw [e162, e161, F_Pri_writeNumber_c238.eq_1]) hR163)⟩) d_9_14_241
        ·
          refine lv_aload_n hx hb d_9_14_171 rfl (lv_at hl 3 rfl) ?_
          refine q_get (ci := 11) (j := 7) (v := .ref (q 36)) C0 V i_Pri rfl rfl hO98 (by decide) w_392 rfl d_9_14_172 ?_
          refine lv_aload_n hx hb d_9_14_175 rfl (lv_at hl 3 rfl) ?_
          refine q_get (ci := 11) (j := 7) (v := .ref (q 36)) C0 V i_Pri rfl rfl hO98 (by decide) w_392 rfl d_9_14_176 ?_
          refine q_get (ci := 7) (j := 1) (v := .int lx71) C0 V i_Dig rfl rfl hO73 (by decide) w_268 rfl d_9_14_179 ?_
          refine lv_iconst (v := 1) hx hb d_9_14_182 (by decide) ?_
          refine lv_iadd hx hb d_9_14_183 ?_
          obtain ⟨a169, e170⟩ := q_nm (lx71 + 1 : Int32)
          refine q_ti (v := a169) e170 ?_
          have b171 : q_F (a169.toInt = lx71.toInt + 1) := (by rw [← e170]; show (lx71 + 1 : Int32).toInt = lx71.toInt + 1; exact q_addI (x := lx71.toInt) (y := 1) rfl (by decide) (by have _ := q_lo32 (x := lx71); have _ := q_hi32 (x := lx71); have t1 : -1000000 ≤ t0_1.toInt ∧ t0_1.toInt ≤ 1000000 := btt0_1; have t2 : lx71.toInt ≤ t0_1.toInt + 1 := i90; omega) (by have _ := q_lo32 (x := lx71); have _ := q_hi32 (x := lx71); have t1 : -1000000 ≤ t0_1.toInt ∧ t0_1.toInt ≤ 1000000 := btt0_1; have t2 : lx71.toInt ≤ t0_1.toInt + 1 := i90; omega))
          refine lv_iload_n hx hb d_9_14_184 rfl (lv_at hl 1 rfl) ?_
          refine lv_iadd hx hb d_9_14_185 ?_
          obtain ⟨a172, e173⟩ := q_nm (a169 + lx68 : Int32)
          refine q_ti (v := a172) e173 ?_
          have b174 : q_F (a172.toInt = a169.toInt + lx68.toInt) := (by rw [← e173]; show (a169 + lx68 : Int32).toInt = a169.toInt + lx68.toInt; exact q_addI (x := a169.toInt) (y := lx68.toInt) rfl rfl (by have t1 : 0 ≤ lx68.toInt := i79; have _ := q_lo32 (x := a169); have _ := q_hi32 (x := a169); have t2 : lx68.toInt + lx71.toInt ≤ 69999 := i91; have t3 : a169.toInt = lx71.toInt + 1 := b171; omega) (by have t1 : 0 ≤ lx68.toInt := i79; have _ := q_lo32 (x := a169); have _ := q_hi32 (x := a169); have t2 : lx68.toInt + lx71.toInt ≤ 69999 := i91; have t3 : a169.toInt = lx71.toInt + 1 := b171; omega))
          refine lv_iconst (v := 2) hx hb d_9_14_186 (by decide) ?_
          refine q_gov V (q_runV (As := [.int a172, .int 2]) (rest := []) (d := 3) (mc := 0) (ms := 0) (ci := 7) C0 V rfl LV_Pri_225 (X_Dig_round_2 l D g q w92  a172 2 hI lx70 lx71 hO73 lx72 hA74 (by have y0 : (2 : Int32).toInt = 2 := rfl; have t1 : 0 ≤ t0_1.toInt + 100000 := pre0; have t2 : 0 ≤ lx68.toInt := i79; have t3 : t0_1.toInt ≤ lx71.toInt := i89; have t4 : a169.toInt = lx71.toInt + 1 := b171; have t5 : a172.toInt = a169.toInt + lx68.toInt := b174; omega) (by have y0 : (2 : Int32).toInt = 2 := rfl; have t1 : lx68.toInt + lx71.toInt ≤ 69999 := i91; have t2 : a169.toInt = lx71.toInt + 1 := b171; have t3 : a172.toInt = a169.toInt + lx68.toInt := b174; omega) (by have y0 : (2 : Int32).toInt = 2 := rfl; have t1 : 0 ≤ lx68.toInt := i79; have t2 : a169.toInt = lx71.toInt + 1 := b171; have t3 : a172.toInt = a169.toInt + lx68.toInt := b174; omega) (by have y0 : (2 : Int32).toInt = 2 := rfl; have t1 : 0 ≤ t0_1.toInt + 100000 := pre0; have t2 : t0_1.toInt ≤ lx71.toInt := i89; omega) (by have y0 : (2 : Int32).toInt = 2 := rfl; have t1 : t0_1.toInt ≤ 60000 := pre1; have t2 : lx71.toInt ≤ t0_1.toInt + 1 := i90; omega) _) rfl rfl hO73 rfl hl.1 rfl (Nat.le_of_ble_eq_true rfl) ⟨by decide, by decide⟩ ⟨Nat.le_of_ble_eq_true rfl, Nat.le_of_ble_eq_true rfl⟩ d_9_14_187) (fun u175 H locs hp176 V => ?_)
          obtain ⟨hI, hZ9⟩ := hp176
          obtain ⟨hu192, hZ9⟩ := hZ9
          obtain ⟨y178, hZ9⟩ := hZ9
          obtain ⟨y179, hZ9⟩ := hZ9
          obtain ⟨f180, hZ9⟩ := hZ9
          obtain ⟨hO177, hZ9⟩ := hZ9
          obtain ⟨hA181, hZ9⟩ := hZ9
          obtain ⟨b182, hZ9⟩ := hZ9
          obtain ⟨b183, hZ9⟩ := hZ9
          obtain ⟨b184, hZ9⟩ := hZ9
          replace hZ9 := hZ9.2
          obtain ⟨b186, hZ9⟩ := hZ9
          obtain ⟨b187, hZ9⟩ := hZ9
          obtain ⟨b188, hZ9⟩ := hZ9
          obtain ⟨b189, hZ9⟩ := hZ9
          obtain ⟨b190, hE191⟩ := hZ9
          replace hO177 : u175[36]? = (some (q 36, .inr (7, [.int y178, .int y179, .ref (q 37)])) : Option (Nat × va_E)) := hO177
          replace hA181 : u175[37]? = (some (q 37, .inl (g 2, 1026, .inl f180)) : Option (Nat × va_E)) := hA181
          obtain ⟨p193, e194⟩ : ∃ z, z = (F_Dig_round_2 a172 (2 : Int32) lx70 lx71 lx72) := ⟨_, rfl⟩
          have e195 : y178 = p193.1 := congrArg (fun z => z.1) (hE191.trans e194.symm)
          have e196 : y179 = p193.2.1 := congrArg (fun z => z.2.1) (hE191.trans e194.symm)
          have e197 : f180 = p193.2.2 := congrArg (fun z => z.2.2) (hE191.trans e194.symm)
          replace b182 : q_F (0 ≤ y178.toInt) := b182
          replace b183 : q_F (y178.toInt ≤ 1026) := b183
          replace b184 : q_F (y179.toInt ≤ 100001) := b184
          replace b186 : q_F (y178.toInt ≤ lx70.toInt + 1) := b186
          replace b187 : q_F (y179.toInt ≤ lx70.toInt + 100000) := b187
          replace b188 : q_F (lx71.toInt ≤ y179.toInt) := b188
          replace b189 : q_F (y179.toInt ≤ lx71.toInt + 100000) := b189
          replace b190 : q_F (y179.toInt ≤ y178.toInt + 100000) := b190
          replace hO75 := (hu192 _ (by decide)).trans hO75
          replace hA76 := (hu192 _ (by decide)).trans hA76
          replace hO77 := (hu192 _ (by decide)).trans hO77
          replace hO98 := (hu192 _ (by decide)).trans hO98
          replace hF := q_uc hF hu192 (by first | exact (q_sk (q_mi 0 rfl) (q_sk (q_mi 1 rfl) q_s0)) | simp)
          have hR198 := (show F_Pri_writeNumber_c187 t0_0 t0_1 t1_0 t2_0 t3_0 t4_0 t4_1 t4_2 t4_3 t4_4 t4_5 t4_6 lx40 lx52 lx68 lx69 lx70 lx71 lx72 a108 p193 = (F_Pri_writeNumber t0_0 t0_1 t1_0 t2_0 t3_0 t4_0 t4_1 t4_2 t4_3 t4_4 t4_5 t4_6) from Eq.trans (by rw [e194, ← e173, ← e170, e112, F_Pri_writeNumber_J156.eq_1, if_pos c113]) hR93)
          refine lv_aload_n hx hb d_9_14_190 rfl (lv_at hl 3 rfl) ?_
          refine q_get (ci := 11) (j := 7) (v := .ref (q 36)) C0 V i_Pri rfl rfl hO98 (by decide) w_392 rfl d_9_14_191 ?_
          refine lv_aload_n hx hb d_9_14_194 rfl (lv_at hl 3 rfl) ?_
          refine q_get (ci := 11) (j := 8) (v := .ref (q 45)) C0 V i_Pri rfl rfl hO98 (by decide) w_393 rfl d_9_14_195 ?_
          refine lv_iload_n hx hb d_9_14_198 rfl (lv_at hl 1 rfl) ?_
          refine lv_aload_n hx hb d_9_14_199 rfl (lv_at hl 3 rfl) ?_
          refine q_get (ci := 11) (j := 6) (v := .ref (q 47)) C0 V i_Pri rfl rfl hO98 (by decide) w_391 rfl d_9_14_200 ?_
          refine lv_bipush (v := 16) hx hb d_9_14_203 (by decide) ?_
          refine q_goi V (q_runV (As := [.int 16]) (rest := [.int lx68, .ref (q 45), .ref (q 36)]) (d := 1) (mc := 0) (ms := 0) (ci := 10) C0 V rfl LV_Pri_144 (X_Dir_has l D g q u175  16 hI t4_0 t4_1 t4_2 t4_3 t4_4 t4_5 t4_6 hO77  _) rfl rfl hO77 rfl hl.1 rfl (Nat.le_of_ble_eq_true rfl) ⟨by decide, by decide⟩ ⟨Nat.le_of_ble_eq_true rfl, Nat.le_of_ble_eq_true rfl⟩ d_9_14_205) (fun a205 u203 H locs hp204 V => ?_)
          obtain ⟨rfl, b206, b207, hE208⟩ := hp204
          have e209 : a205 = (F_Dir_has (16 : Int32) t4_0 t4_1 t4_2 t4_3 t4_4 t4_5 t4_6) := hE208
          replace b206 : q_F (0 ≤ a205.toInt) := b206
          replace b207 : q_F (a205.toInt ≤ 1) := b207
          refine lv_iload_n hx hb d_9_14_208 rfl (lv_at hl 0 rfl) ?_
          refine q_gov V (q_runV (As := [.ref (q 45), .int lx68, .int a205, .int a108]) (rest := []) (d := 2) (mc := 0) (ms := 0) (ci := 7) C0 V rfl LV_Pri_204 (X_Dig_writePlain l D g q u175 45 4104 513 1000000 (n_h45 g q) lx68 a205 a108 hI y178 y179 hO177 f180 hA181 t2_0 hO75 t3_0 hA76 ⟨(by have y0 : (4104 : Int32).toInt = 4104 := rfl; have y1 : (513 : Int32).toInt = 513 := rfl; have y2 : (1000000 : Int32).toInt = 1000000 := rfl; have t1 : 0 ≤ a205.toInt := b206; omega), (by have y0 : (4104 : Int32).toInt = 4104 := rfl; have y1 : (513 : Int32).toInt = 513 := rfl; have y2 : (1000000 : Int32).toInt = 1000000 := rfl; have t1 : a205.toInt ≤ 1 := b207; omega)⟩ ⟨(by have y0 : (4104 : Int32).toInt = 4104 := rfl; have y1 : (513 : Int32).toInt = 513 := rfl; have y2 : (1000000 : Int32).toInt = 1000000 := rfl; have t1 : 0 ≤ a108.toInt := b109; omega), (by have y0 : (4104 : Int32).toInt = 4104 := rfl; have y1 : (513 : Int32).toInt = 513 := rfl; have y2 : (1000000 : Int32).toInt = 1000000 := rfl; have t1 : a108.toInt ≤ 1 := b110; omega)⟩ (by have y0 : (4104 : Int32).toInt = 4104 := rfl; have y1 : (513 : Int32).toInt = 513 := rfl; have y2 : (1000000 : Int32).toInt = 1000000 := rfl; have t1 : y179.toInt ≤ 100001 := b184; omega) (by have y0 : (4104 : Int32).toInt = 4104 := rfl; have y1 : (513 : Int32).toInt = 513 := rfl; have y2 : (1000000 : Int32).toInt = 1000000 := rfl; have t1 : lx68.toInt ≤ 10002 := i80; omega) (by have y0 : (4104 : Int32).toInt = 4104 := rfl; have y1 : (513 : Int32).toInt = 513 := rfl; have y2 : (1000000 : Int32).toInt = 1000000 := rfl; have t1 : t2_0.toInt ≤ 10 := pre2; omega) (by have y0 : (4104 : Int32).toInt = 4104 := rfl; have y1 : (513 : Int32).toInt = 513 := rfl; have y2 : (1000000 : Int32).toInt = 1000000 := rfl; omega) _) rfl rfl hO177 rfl hl.1 rfl (Nat.le_of_ble_eq_true rfl) ⟨by decide, by decide⟩ ⟨Nat.le_of_ble_eq_true rfl, Nat.le_of_ble_eq_true rfl⟩ d_9_14_209) (fun u210 H locs hp211 V => ?_)
          obtain ⟨hI, hZ9⟩ := hp211
          obtain ⟨hu223, hZ9⟩ := hZ9
          obtain ⟨y213, hZ9⟩ := hZ9
          obtain ⟨f214, hZ9⟩ := hZ9
          obtain ⟨hO212, hZ9⟩ := hZ9
          obtain ⟨hA215, hZ9⟩ := hZ9
          replace hZ9 := hZ9.2.2
          obtain ⟨b218, hZ9⟩ := hZ9
          replace hZ9 := hZ9.2
          obtain ⟨b220, hZ9⟩ := hZ9
          obtain ⟨b221, hE222⟩ := hZ9
          replace hO212 : u210[45]? = (some (q 45, .inr (1, [.ref (q 46), .int 4104, .int y213])) : Option (Nat × va_E)) := hO212
          replace hA215 : u210[46]? = (some (q 46, .inl (g 1, (513 : Int32).toNatClampNeg, .inr (.inl f214))) : Option (Nat × va_E)) := hA215
          obtain ⟨p224, e225⟩ : ∃ z, z = (F_Dig_writePlain (4104 : Int32) (513 : Int32) (1000000 : Int32) lx68 a205 a108 y178 y179 f180 t2_0 t3_0) := ⟨_, rfl⟩
          have e226 : y213 = p224.1 := congrArg (fun z => z.1) (hE222.trans e225.symm)
          have e227 : f214 = p224.2 := congrArg (fun z => z.2) (hE222.trans e225.symm)
          replace b218 : q_F (y179.toInt + 1 ≤ y213.toInt) := b218
          replace b220 : q_F (t2_0.toInt + 1 ≤ y213.toInt) := b220
          replace b221 : q_F (y213.toInt ≤ t2_0.toInt + 420003) := b221
          replace hO177 := (hu223 _ (by decide)).trans hO177
          replace hA181 := (hu223 _ (by decide)).trans hA181
          replace hF := q_uc hF hu223 (by first | exact (q_sk (q_mi 2 rfl) (q_sk (q_mi 3 rfl) q_s0)) | simp)
          have hR228 := (show F_Pri_writeNumber_c209 t0_0 t0_1 t1_0 t2_0 t3_0 t4_0 t4_1 t4_2 t4_3 t4_4 t4_5 t4_6 lx40 lx52 lx68 lx69 lx70 lx71 lx72 a108 p193 y178 y179 f180 p224 = (F_Pri_writeNumber t0_0 t0_1 t1_0 t2_0 t3_0 t4_0 t4_1 t4_2 t4_3 t4_4 t4_5 t4_6) from Eq.trans (by rw [e225, e209, e197, e196, e195, F_Pri_writeNumber_c187.eq_1]) hR198)
          refine lv_goto (tgt := 241) hx hb d_9_14_212 (by decide) ?_
          exact q_retv C0 V (⟨hI, hF, y178, y179, f180, y213, f214, hO177, hA181, hO212, hA215, (show 0 ≤ y178.toInt from (by first | with_reducible exact q_fe b182 | (have t1 : 0 ≤ y178.toInt := b182; omega))), (show y178.toInt ≤ 1026 from (by first | with_reducible exact q_fe b183 | (have t1 : y178.toInt ≤ 1026 := b183; omega))), (show y179.toInt ≤ 100001 from (by first | with_reducible exact q_fe b184 | (have t1 : y179.toInt ≤ 100001 := b184; omega))), (show y178.toInt ≤ t0_0.toInt + 1 from (by have t1 : lx70.toInt ≤ t0_0.toInt := i88; have t2 : y178.toInt ≤ lx70.toInt + 1 := b186; omega)), (show y179.toInt ≤ t0_0.toInt + 100000 from (by have t1 : lx70.toInt ≤ t0_0.toInt := i88; have t2 : y179.toInt ≤ lx70.toInt + 100000 := b187; omega)), (show t0_1.toInt ≤ y179.toInt from (by have t1 : t0_1.toInt ≤ lx71.toInt := i89; have t2 : lx71.toInt ≤ y179.toInt := b188; omega)), (show y179.toInt ≤ t0_1.toInt + 100001 from (by have t1 : lx71.toInt ≤ t0_1.toInt + 1 := i90; have t2 : y179.toInt ≤ lx71.toInt + 100000 := b189; omega)), (show t0_1.toInt ≤ y213.toInt + 59997 from (by have t1 : t0_1.toInt ≤ lx71.toInt := i89; have t2 : lx71.toInt ≤ y179.toInt := b188; have t3 : y179.toInt + 1 ≤ y213.toInt := b218; omega)), (show t2_0.toInt + 1 ≤ y213.toInt from (by first | with_reducible exact q_fe b220 | (have t1 : t2_0.toInt + 1 ≤ y213.toInt := b220; omega))), (show y213.toInt ≤ t2_0.toInt + 420003 from (by first | with_reducible exact q_fe b221 | (have t1 : y213.toInt ≤ t2_0.toInt + 420003 := b221; omega))), (show y179.toInt ≤ y178.toInt + 100000 from (by first | with_reducible exact q_fe b190 | (have t1 : y179.toInt ≤ y178.toInt + 100000 := b190; omega))), (show y179.toInt ≤ y213.toInt + 59999 from (by first | with_reducible exact q_fe b218 | (have t1 : y179.toInt + 1 ≤ y213.toInt := b218; omega))), (show (y178, y179, f180, y213, f214) = (F_Pri_writeNumber t0_0 t0_1 t1_0 t2_0 t3_0 t4_0 t4_1 t4_2 t4_3 t4_4 t4_5 t4_6) from Eq.trans (by rw [e227, e226, F_Pri_writeNumber_c209.eq_1]) hR228)⟩) d_9_14_241
      ·
        intro J78
        refine lv_icmp_ne (tgt := 69) hx hb d_9_14_58 (by decide) (fun c233 => ?_) (fun c233 => ?_)
        ·
          refine lv_iload_n hx hb d_9_14_69 rfl (lv_at hl 1 rfl) ?_
          refine lv_bipush (v := 103) hx hb d_9_14_70 (by decide) ?_
          refine lv_icmp_ne (tgt := 156) hx hb d_9_14_72 (by decide) (fun c235 => ?_) (fun c235 => ?_)
          ·
            exact J78 ((lx52 : Int32), (lx40 : Int32), (t0_0 : Int32), (t0_1 : Int32), (t1_0 : (Nat → Int32))) _ _ _ _ ⟨(show q_F (0 ≤ lx52.toInt) from (show 0 ≤ lx52.toInt from by have t1 : 0 ≤ lx52.toInt := i59; omega)), (show q_F (lx52.toInt ≤ 10002) from (show lx52.toInt ≤ 10002 from by have t1 : lx52.toInt ≤ 9999 := i60; omega)), (show q_F (0 ≤ t0_0.toInt) from (show 0 ≤ t0_0.toInt from by have t1 : 0 ≤ t0_0.toInt ∧ t0_0.toInt ≤ 1026 := btt0_0; omega)), (show q_F (lx52.toInt ≤ lx52.toInt + 4) from (show lx52.toInt ≤ lx52.toInt + 4 from by omega)), (show q_F (lx52.toInt ≤ t0_1.toInt + 109999) from (show lx52.toInt ≤ t0_1.toInt + 109999 from by have t1 : 0 ≤ t0_1.toInt + 100000 := pre0; have t2 : lx52.toInt ≤ 9999 := i60; omega)), (show q_F (lx52.toInt ≤ t4_3.toInt + 10) from (show lx52.toInt ≤ t4_3.toInt + 10 from by have t1 : lx52.toInt ≤ t4_3.toInt + 7 := i62; omega)), (show q_F (lx40.toInt ≤ lx40.toInt + 2) from (show lx40.toInt ≤ lx40.toInt + 2 from by omega)), (show q_F (lx40.toInt ≤ lx40.toInt + 2) from (show lx40.toInt ≤ lx40.toInt + 2 from by omega)), (show q_F (t0_0.toInt ≤ t0_0.toInt + 1025) from (show t0_0.toInt ≤ t0_0.toInt + 1025 from by omega)), (show q_F (t0_0.toInt ≤ t0_0.toInt) from (show t0_0.toInt ≤ t0_0.toInt from by omega)), (show q_F (t0_1.toInt ≤ t0_1.toInt) from (show t0_1.toInt ≤ t0_1.toInt from by omega)), (show q_F (t0_1.toInt ≤ t0_1.toInt + 1) from (show t0_1.toInt ≤ t0_1.toInt + 1 from by omega)), (show q_F (lx52.toInt + t0_1.toInt ≤ 69999) from (show lx52.toInt + t0_1.toInt ≤ 69999 from by have t1 : t0_1.toInt ≤ 60000 := pre1; have t2 : lx52.toInt ≤ 9999 := i60; omega)), V, q_lw hl (q_lw1 0 rfl (q_lw1 1 rfl (q_lw1 2 rfl q_lw0))), hI, hF, hT0, hT1, hT2, hT3, hT4, (show F_Pri_writeNumber_J156 t0_0 t0_1 t1_0 t2_0 t3_0 t4_0 t4_1 t4_2 t4_3 t4_4 t4_5 t4_6 lx40 lx52 lx52 lx40 t0_0 t0_1 t1_0 = (F_Pri_writeNumber t0_0 t0_1 t1_0 t2_0 t3_0 t4_0 t4_1 t4_2 t4_3 t4_4 t4_5 t4_6) from Eq.trans (by rw [F_Pri_writeNumber_J54.eq_1, if_neg c233, if_neg c235]) hR63)⟩
          ·
            have b237 : q_F (lx40.toInt = 103) := (q_eqI c235)
            refine lv_iload_n hx hb d_9_14_75 rfl (lv_at hl 0 rfl) ?_
            refine lv_iconst (v := 1) hx hb d_9_14_76 (by decide) ?_
            refine q_max C0 hl.1 rfl w_1890 w_803 w_7 w_804 ⟨Nat.le_of_ble_eq_true rfl, Nat.le_of_ble_eq_true rfl⟩ ⟨Nat.le_of_ble_eq_true rfl, Nat.le_of_ble_eq_true rfl⟩ d_9_14_77 ?_
            obtain ⟨a238, e239⟩ := q_nm (if lx52 < 1 then 1 else lx52 : Int32)
            refine q_ti (v := a238) e239 ?_
            have b240 : q_F (lx52.toInt ≤ a238.toInt ∧ 1 ≤ a238.toInt ∧ (a238.toInt = lx52.toInt ∨ a238.toInt = 1)) := (by rw [← e239]; show lx52.toInt ≤ (if lx52 < 1 then 1 else lx52 : Int32).toInt ∧ 1 ≤ (if lx52 < 1 then 1 else lx52 : Int32).toInt ∧ ((if lx52 < 1 then 1 else lx52 : Int32).toInt = lx52.toInt ∨ (if lx52 < 1 then 1 else lx52 : Int32).toInt = 1); exact (by have y1 : (1 : Int32).toInt = 1 := rfl; have z := s_max (a := lx52) (b := 1); omega))
            refine lv_istore_n (lv' := [(3, .int a238), (2, .int lx52), (1, .int lx40), (0, .ref (q 40))]) hx hb d_9_14_80 rfl hl (by decide) rfl (fun ls hl => ?_)
            refine lv_aload_n hx hb d_9_14_81 rfl (lv_at hl 3 rfl) ?_
            refine q_get (ci := 11) (j := 7) (v := .ref (q 36)) C0 V i_Pri rfl rfl hO25 (by decide) w_392 rfl d_9_14_82 ?_
            refine lv_iload_n hx hb d_9_14_85 rfl (lv_at hl 0 rfl) ?_
            refine lv_iconst (v := 2) hx hb d_9_14_86 (by decide) ?_
            refine q_gov V (q_runV (As := [.int a238, .int 2]) (rest := []) (d := 3) (mc := 0) (ms := 0) (ci := 7) C0 V rfl LV_Pri_225 (X_Dig_round_1 l D g q ws  a238 2 hI t0_0 t0_1 hT0 t1_0 hT1 (by have y0 : (2 : Int32).toInt = 2 := rfl; have t1 : lx52.toInt ≤ a238.toInt ∧ 1 ≤ a238.toInt ∧ (a238.toInt = lx52.toInt ∨ a238.toInt = 1) := b240; omega) (by have y0 : (2 : Int32).toInt = 2 := rfl; have t1 : 0 ≤ t0_1.toInt + 100000 := pre0; omega) (by have y0 : (2 : Int32).toInt = 2 := rfl; have t1 : t0_1.toInt ≤ 60000 := pre1; omega) _) rfl rfl hT0 rfl hl.1 rfl (Nat.le_of_ble_eq_true rfl) ⟨by decide, by decide⟩ ⟨Nat.le_of_ble_eq_true rfl, Nat.le_of_ble_eq_true rfl⟩ d_9_14_87) (fun u241 H locs hp242 V => ?_)
            obtain ⟨hI, hZ9⟩ := hp242
            obtain ⟨hu256, hZ9⟩ := hZ9
            obtain ⟨y244, hZ9⟩ := hZ9
            obtain ⟨y245, hZ9⟩ := hZ9
            obtain ⟨f246, hZ9⟩ := hZ9
            obtain ⟨hO243, hZ9⟩ := hZ9
            obtain ⟨hA247, hZ9⟩ := hZ9
            obtain ⟨b248, hZ9⟩ := hZ9
            replace hZ9 := hZ9.2
            obtain ⟨b250, hZ9⟩ := hZ9
            obtain ⟨b251, hZ9⟩ := hZ9
            obtain ⟨b252, hZ9⟩ := hZ9
            obtain ⟨b253, hZ9⟩ := hZ9
            obtain ⟨-, hE255⟩ := hZ9
            replace hO243 : u241[36]? = (some (q 36, .inr (7, [.int y244, .int y245, .ref (q 37)])) : Option (Nat × va_E)) := hO243
            replace hA247 : u241[37]? = (some (q 37, .inl (g 2, 1026, .inl f246)) : Option (Nat × va_E)) := hA247
            obtain ⟨p257, e258⟩ : ∃ z, z = (F_Dig_round_1 a238 (2 : Int32) t0_0 t0_1 t1_0) := ⟨_, rfl⟩
            have e259 : y244 = p257.1 := congrArg (fun z => z.1) (hE255.trans e258.symm)
            have e260 : y245 = p257.2.1 := congrArg (fun z => z.2.1) (hE255.trans e258.symm)
            have e261 : f246 = p257.2.2 := congrArg (fun z => z.2.2) (hE255.trans e258.symm)
            replace b248 : q_F (0 ≤ y244.toInt) := b248
            replace b250 : q_F (t0_0.toInt ≤ y244.toInt + 1025) := b250
            replace b251 : q_F (y244.toInt ≤ t0_0.toInt) := b251
            replace b252 : q_F (t0_1.toInt ≤ y245.toInt) := b252
            replace b253 : q_F (y245.toInt ≤ t0_1.toInt + 1) := b253
            replace hT2 := (hu256 _ (by decide)).trans hT2
            replace hT3 := (hu256 _ (by decide)).trans hT3
            replace hT4 := (hu256 _ (by decide)).trans hT4
            replace hO25 := (hu256 _ (by decide)).trans hO25
            replace hF := q_uc hF hu256 (by first | exact (q_sk (q_mi 0 rfl) (q_sk (q_mi 1 rfl) q_s0)) | simp)
            have hR262 := (show F_Pri_writeNumber_c87 t0_0 t0_1 t1_0 t2_0 t3_0 t4_0 t4_1 t4_2 t4_3 t4_4 t4_5 t4_6 lx40 lx52 a238 p257 = (F_Pri_writeNumber t0_0 t0_1 t1_0 t2_0 t3_0 t4_0 t4_1 t4_2 t4_3 t4_4 t4_5 t4_6) from Eq.trans (by rw [e258, ← e239, F_Pri_writeNumber_J54.eq_1, if_neg c233, if_pos c235]) hR63)
            refine lv_aload_n hx hb d_9_14_90 rfl (lv_at hl 3 rfl) ?_
            refine q_get (ci := 11) (j := 7) (v := .ref (q 36)) C0 V i_Pri rfl rfl hO25 (by decide) w_392 rfl d_9_14_91 ?_
            refine q_get (ci := 7) (j := 1) (v := .int y245) C0 V i_Dig rfl rfl hO243 (by decide) w_268 rfl d_9_14_94 ?_
            refine lv_bipush (v := (-4)) hx hb d_9_14_97 (by decide) ?_
            refine q_join (X := Unit) (fun z H locs ls _ => q_Wd D g (va_A ws sz) s u241 H locs ∧ lv_has ls 5 [(3, .int a238), (0, .ref (q 40))] ∧ F_Pri_writeNumber_J117 t0_0 t0_1 t1_0 t2_0 t3_0 t4_0 t4_1 t4_2 t4_3 t4_4 t4_5 t4_6 lx40 lx52 a238 p257 y244 y245 f246 = (F_Pri_writeNumber t0_0 t0_1 t1_0 t2_0 t3_0 t4_0 t4_1 t4_2 t4_3 t4_4 t4_5 t4_6)) (fun z => []) 117 0 0 ?_ ?_
            ·
              rintro _ H locs ls _ ⟨V, hl, hR273⟩
              replace hl : lv_has ls 5 [(3, .int a238), (0, .ref (q 40))] := hl
              refine lv_iconst (v := 0) hx hb d_9_14_117 (by decide) ?_
              refine lv_istore (lv' := [(4, .int 0), (3, .int a238), (0, .ref (q 40))]) hx hb d_9_14_118 hl (by decide) rfl (fun ls hl => ?_)
              refine lv_iload hx hb d_9_14_120 (lv_at hl 0 rfl) ?_
              refine lv_if_eq (tgt := 130) hx hb d_9_14_122 (by decide) (fun c278 => ?_) (fun c278 => absurd (by decide) c278)
              refine lv_bipush (v := 101) hx hb d_9_14_130 (by decide) ?_
              refine lv_istore_n (lv' := [(1, .int 101), (4, .int 0), (3, .int a238), (0, .ref (q 40))]) hx hb d_9_14_132 rfl hl (by decide) rfl (fun ls hl => ?_)
              refine lv_iload hx hb d_9_14_133 (lv_at hl 1 rfl) ?_
              refine lv_if_eq (tgt := 152) hx hb d_9_14_135 (by decide) (fun c279 => ?_) (fun c279 => absurd (by decide) c279)
              refine lv_iload_n hx hb d_9_14_152 rfl (lv_at hl 2 rfl) ?_
              refine lv_iconst (v := 1) hx hb d_9_14_153 (by decide) ?_
              refine lv_isub hx hb d_9_14_154 ?_
              obtain ⟨a280, e281⟩ := q_nm (a238 - 1 : Int32)
              refine q_ti (v := a280) e281 ?_
              have b282 : q_F (a280.toInt = a238.toInt - 1) := (by rw [← e281]; show (a238 - 1 : Int32).toInt = a238.toInt - 1; exact q_subI (x := a238.toInt) (y := 1) rfl (by decide) (by have t1 : lx52.toInt ≤ a238.toInt ∧ 1 ≤ a238.toInt ∧ (a238.toInt = lx52.toInt ∨ a238.toInt = 1) := b240; have _ := q_lo32 (x := a238); have _ := q_hi32 (x := a238); omega) (by have t1 : lx52.toInt ≤ a238.toInt ∧ 1 ≤ a238.toInt ∧ (a238.toInt = lx52.toInt ∨ a238.toInt = 1) := b240; have _ := q_lo32 (x := a238); have _ := q_hi32 (x := a238); omega))
              refine lv_istore_n (lv' := [(2, .int a280), (1, .int 101), (4, .int 0), (3, .int a238), (0, .ref (q 40))]) hx hb d_9_14_155 rfl hl (by decide) rfl (fun ls hl => ?_)
              exact J78 ((a280 : Int32), (101 : Int32), (y244 : Int32), (y245 : Int32), (f246 : (Nat → Int32))) _ _ _ _ ⟨(show q_F (0 ≤ a280.toInt) from (show 0 ≤ a280.toInt from by have t1 : lx52.toInt ≤ a238.toInt ∧ 1 ≤ a238.toInt ∧ (a238.toInt = lx52.toInt ∨ a238.toInt = 1) := b240; have t2 : a280.toInt = a238.toInt - 1 := b282; omega)), (show q_F (a280.toInt ≤ 10002) from (show a280.toInt ≤ 10002 from by have t1 : lx52.toInt ≤ 9999 := i60; have t2 : lx52.toInt ≤ a238.toInt ∧ 1 ≤ a238.toInt ∧ (a238.toInt = lx52.toInt ∨ a238.toInt = 1) := b240; have t3 : a280.toInt = a238.toInt - 1 := b282; omega)), (show q_F (0 ≤ y244.toInt) from (show 0 ≤ y244.toInt from by have t1 : 0 ≤ y244.toInt := b248; omega)), (show q_F (a280.toInt ≤ lx52.toInt + 4) from (show a280.toInt ≤ lx52.toInt + 4 from by have t1 : 0 ≤ lx52.toInt := i59; have t2 : lx52.toInt ≤ a238.toInt ∧ 1 ≤ a238.toInt ∧ (a238.toInt = lx52.toInt ∨ a238.toInt = 1) := b240; have t3 : a280.toInt = a238.toInt - 1 := b282; omega)), (show q_F (a280.toInt ≤ t0_1.toInt + 109999) from (show a280.toInt ≤ t0_1.toInt + 109999 from by have t1 : 0 ≤ t0_1.toInt + 100000 := pre0; have t2 : lx52.toInt ≤ 9999 := i60; have t3 : lx52.toInt ≤ a238.toInt ∧ 1 ≤ a238.toInt ∧ (a238.toInt = lx52.toInt ∨ a238.toInt = 1) := b240; have t4 : a280.toInt = a238.toInt - 1 := b282; omega)), (show q_F (a280.toInt ≤ t4_3.toInt + 10) from (show a280.toInt ≤ t4_3.toInt + 10 from by have t1 : -1 ≤ t4_3.toInt ∧ t4_3.toInt ≤ 9999 := btt4_3; have t2 : lx52.toInt ≤ t4_3.toInt + 7 := i62; have t3 : lx52.toInt ≤ a238.toInt ∧ 1 ≤ a238.toInt ∧ (a238.toInt = lx52.toInt ∨ a238.toInt = 1) := b240; have t4 : a280.toInt = a238.toInt - 1 := b282; omega)), (show q_F (lx40.toInt ≤ 101 + 2) from (show lx40.toInt ≤ 101 + 2 from by have t1 : lx40.toInt = 103 := b237; omega)), (show q_F (101 ≤ lx40.toInt + 2) from (show 101 ≤ lx40.toInt + 2 from by have t1 : lx40.toInt = 103 := b237; omega)), (show q_F (t0_0.toInt ≤ y244.toInt + 1025) from (show t0_0.toInt ≤ y244.toInt + 1025 from by have t1 : t0_0.toInt ≤ y244.toInt + 1025 := b250; omega)), (show q_F (y244.toInt ≤ t0_0.toInt) from (show y244.toInt ≤ t0_0.toInt from by have t1 : y244.toInt ≤ t0_0.toInt := b251; omega)), (show q_F (t0_1.toInt ≤ y245.toInt) from (show t0_1.toInt ≤ y245.toInt from by have t1 : t0_1.toInt ≤ y245.toInt := b252; omega)), (show q_F (y245.toInt ≤ t0_1.toInt + 1) from (show y245.toInt ≤ t0_1.toInt + 1 from by have t1 : y245.toInt ≤ t0_1.toInt + 1 := b253; omega)), (show q_F (a280.toInt + y245.toInt ≤ 69999) from (show a280.toInt + y245.toInt ≤ 69999 from by have t1 : t0_1.toInt ≤ 60000 := pre1; have t2 : lx52.toInt ≤ 9999 := i60; have t3 : lx52.toInt ≤ a238.toInt ∧ 1 ≤ a238.toInt ∧ (a238.toInt = lx52.toInt ∨ a238.toInt = 1) := b240; have t4 : y245.toInt ≤ t0_1.toInt + 1 := b253; have t5 : a280.toInt = a238.toInt - 1 := b282; omega)), V, q_lw hl (q_lw1 0 rfl (q_lw1 1 rfl (q_lw1 4 rfl q_lw0))), hI, hF, hO243, hA247, hT2, hT3, hT4, (show F_Pri_writeNumber_J156 t0_0 t0_1 t1_0 t2_0 t3_0 t4_0 t4_1 t4_2 t4_3 t4_4 t4_5 t4_6 lx40 lx52 a280 101 y244 y245 f246 = (F_Pri_writeNumber t0_0 t0_1 t1_0 t2_0 t3_0 t4_0 t4_1 t4_2 t4_3 t4_4 t4_5 t4_6) from Eq.trans (by rw [← e281, F_Pri_writeNumber_J117.eq_1]) hR273)⟩
            ·
              intro J272
              refine lv_icmp_lt (tgt := 117) hx hb d_9_14_99 (by decide) (fun c283 => ?_) (fun c283 => ?_)
              ·
                exact J272 (()) _ _ _ u241 ⟨V, q_lw hl (q_lw1 0 rfl (q_lw1 3 rfl q_lw0)), (show F_Pri_writeNumber_J117 t0_0 t0_1 t1_0 t2_0 t3_0 t4_0 t4_1 t4_2 t4_3 t4_4 t4_5 t4_6 lx40 lx52 a238 p257 y244 y245 f246 = (F_Pri_writeNumber t0_0 t0_1 t1_0 t2_0 t3_0 t4_0 t4_1 t4_2 t4_3 t4_4 t4_5 t4_6) from Eq.trans (by have c283x := c283; rw [e260] at c283x; rw [e261, e260, e259, F_Pri_writeNumber_c87.eq_1, if_pos c283x]) hR262)⟩
              ·
                have b285 : q_F ((-4) ≤ y245.toInt) := (q_nltI c283)
                refine lv_aload_n hx hb d_9_14_102 rfl (lv_at hl 3 rfl) ?_
                refine q_get (ci := 11) (j := 7) (v := .ref (q 36)) C0 V i_Pri rfl rfl hO25 (by decide) w_392 rfl d_9_14_103 ?_
                refine q_get (ci := 7) (j := 1) (v := .int y245) C0 V i_Dig rfl rfl hO243 (by decide) w_268 rfl d_9_14_106 ?_
                refine lv_iload_n hx hb d_9_14_109 rfl (lv_at hl 0 rfl) ?_
                refine lv_icmp_ge (tgt := 117) hx hb d_9_14_110 (by decide) (fun c286 => ?_) (fun c286 => ?_)
                ·
                  exact J272 (()) _ _ _ u241 ⟨V, q_lw hl (q_lw1 0 rfl (q_lw1 3 rfl q_lw0)), (show F_Pri_writeNumber_J117 t0_0 t0_1 t1_0 t2_0 t3_0 t4_0 t4_1 t4_2 t4_3 t4_4 t4_5 t4_6 lx40 lx52 a238 p257 y244 y245 f246 = (F_Pri_writeNumber t0_0 t0_1 t1_0 t2_0 t3_0 t4_0 t4_1 t4_2 t4_3 t4_4 t4_5 t4_6) from Eq.trans (by have c283x := c283; rw [e260] at c283x; have c286x := c286; rw [e260] at c286x; rw [e261, e260, e259, F_Pri_writeNumber_c87.eq_1, if_neg c283x, if_pos c286x]) hR262)⟩
                ·
                  have b288 : q_F (y245.toInt < a238.toInt) := (q_nleI c286)
                  refine lv_iconst (v := 1) hx hb d_9_14_113 (by decide) ?_
                  refine lv_goto (tgt := 118) hx hb d_9_14_114 (by decide) ?_
                  refine lv_istore (lv' := [(4, .int 1), (3, .int a238), (2, .int lx52), (1, .int lx40), (0, .ref (q 40))]) hx hb d_9_14_118 hl (by decide) rfl (fun ls hl => ?_)
                  refine lv_iload hx hb d_9_14_120 (lv_at hl 0 rfl) ?_
                  refine lv_if_eq (tgt := 130) hx hb d_9_14_122 (by decide) (fun c289 => absurd c289 (by decide)) (fun c289 => ?_)
                  refine lv_bipush (v := 102) hx hb d_9_14_125 (by decide) ?_
                  refine lv_goto (tgt := 132) hx hb d_9_14_127 (by decide) ?_
                  refine lv_istore_n (lv' := [(1, .int 102), (4, .int 1), (3, .int a238), (2, .int lx52), (0, .ref (q 40))]) hx hb d_9_14_132 rfl hl (by decide) rfl (fun ls hl => ?_)
                  refine lv_iload hx hb d_9_14_133 (lv_at hl 1 rfl) ?_
                  refine lv_if_eq (tgt := 152) hx hb d_9_14_135 (by decide) (fun c290 => absurd c290 (by decide)) (fun c290 => ?_)
                  refine lv_iload_n hx hb d_9_14_138 rfl (lv_at hl 2 rfl) ?_
                  refine lv_iconst (v := 1) hx hb d_9_14_139 (by decide) ?_
                  refine lv_isub hx hb d_9_14_140 ?_
                  obtain ⟨a291, e292⟩ := q_nm (a238 - 1 : Int32)
                  refine q_ti (v := a291) e292 ?_
                  have b293 : q_F (a291.toInt = a238.toInt - 1) := (by rw [← e292]; show (a238 - 1 : Int32).toInt = a238.toInt - 1; exact q_subI (x := a238.toInt) (y := 1) rfl (by decide) (by have t1 : lx52.toInt ≤ a238.toInt ∧ 1 ≤ a238.toInt ∧ (a238.toInt = lx52.toInt ∨ a238.toInt = 1) := b240; have _ := q_lo32 (x := a238); have _ := q_hi32 (x := a238); omega) (by have t1 : lx52.toInt ≤ a238.toInt ∧ 1 ≤ a238.toInt ∧ (a238.toInt = lx52.toInt ∨ a238.toInt = 1) := b240; have _ := q_lo32 (x := a238); have _ := q_hi32 (x := a238); omega))
                  refine lv_aload_n hx hb d_9_14_141 rfl (lv_at hl 4 rfl) ?_
                  refine q_get (ci := 11) (j := 7) (v := .ref (q 36)) C0 V i_Pri rfl rfl hO25 (by decide) w_392 rfl d_9_14_142 ?_
                  refine q_get (ci := 7) (j := 1) (v := .int y245) C0 V i_Dig rfl rfl hO243 (by decide) w_268 rfl d_9_14_145 ?_
                  refine lv_isub hx hb d_9_14_148 ?_
                  obtain ⟨a294, e295⟩ := q_nm (a291 - y245 : Int32)
                  refine q_ti (v := a294) e295 ?_
                  have b296 : q_F (a294.toInt = a291.toInt - y245.toInt) := (by rw [← e295]; show (a291 - y245 : Int32).toInt = a291.toInt - y245.toInt; exact q_subI (x := a291.toInt) (y := y245.toInt) rfl rfl (by have t1 : y245.toInt < a238.toInt := b288; have t2 : a291.toInt = a238.toInt - 1 := b293; have t3 : -1000000 ≤ t0_1.toInt ∧ t0_1.toInt ≤ 1000000 := btt0_1; have t4 : lx52.toInt ≤ 9999 := i60; have t5 : lx52.toInt ≤ a238.toInt ∧ 1 ≤ a238.toInt ∧ (a238.toInt = lx52.toInt ∨ a238.toInt = 1) := b240; have t6 : t0_1.toInt ≤ y245.toInt := b252; omega) (by have t1 : y245.toInt < a238.toInt := b288; have t2 : a291.toInt = a238.toInt - 1 := b293; have t3 : -1000000 ≤ t0_1.toInt ∧ t0_1.toInt ≤ 1000000 := btt0_1; have t4 : lx52.toInt ≤ 9999 := i60; have t5 : lx52.toInt ≤ a238.toInt ∧ 1 ≤ a238.toInt ∧ (a238.toInt = lx52.toInt ∨ a238.toInt = 1) := b240; have t6 : t0_1.toInt ≤ y245.toInt := b252; omega))
                  refine lv_goto (tgt := 155) hx hb d_9_14_149 (by decide) ?_
                  refine lv_istore_n (lv' := [(2, .int a294), (1, .int 102), (4, .int 1), (3, .int a238), (0, .ref (q 40))]) hx hb d_9_14_155 rfl hl (by decide) rfl (fun ls hl => ?_)
                  exact J78 ((a294 : Int32), (102 : Int32), (y244 : Int32), (y245 : Int32), (f246 : (Nat → Int32))) _ _ _ _ ⟨(show q_F (0 ≤ a294.toInt) from (show 0 ≤ a294.toInt from by have t1 : y245.toInt < a238.toInt := b288; have t2 : a291.toInt = a238.toInt - 1 := b293; have t3 : a294.toInt = a291.toInt - y245.toInt := b296; omega)), (show q_F (a294.toInt ≤ 10002) from (show a294.toInt ≤ 10002 from by have t1 : lx52.toInt ≤ 9999 := i60; have t2 : lx52.toInt ≤ a238.toInt ∧ 1 ≤ a238.toInt ∧ (a238.toInt = lx52.toInt ∨ a238.toInt = 1) := b240; have t3 : (-4) ≤ y245.toInt := b285; have t4 : a291.toInt = a238.toInt - 1 := b293; have t5 : a294.toInt = a291.toInt - y245.toInt := b296; omega)), (show q_F (0 ≤ y244.toInt) from (show 0 ≤ y244.toInt from by have t1 : 0 ≤ y244.toInt := b248; omega)), (show q_F (a294.toInt ≤ lx52.toInt + 4) from (show a294.toInt ≤ lx52.toInt + 4 from by have t1 : 0 ≤ lx52.toInt := i59; have t2 : lx52.toInt ≤ a238.toInt ∧ 1 ≤ a238.toInt ∧ (a238.toInt = lx52.toInt ∨ a238.toInt = 1) := b240; have t3 : (-4) ≤ y245.toInt := b285; have t4 : a291.toInt = a238.toInt - 1 := b293; have t5 : a294.toInt = a291.toInt - y245.toInt := b296; omega)), (show q_F (a294.toInt ≤ t0_1.toInt + 109999) from (show a294.toInt ≤ t0_1.toInt + 109999 from by have t1 : lx52.toInt ≤ 9999 := i60; have t2 : lx52.toInt ≤ a238.toInt ∧ 1 ≤ a238.toInt ∧ (a238.toInt = lx52.toInt ∨ a238.toInt = 1) := b240; have t3 : y245.toInt ≤ t0_1.toInt + 1 := b253; have t4 : (-4) ≤ y245.toInt := b285; have t5 : a291.toInt = a238.toInt - 1 := b293; have t6 : a294.toInt = a291.toInt - y245.toInt := b296; omega)), (show q_F (a294.toInt ≤ t4_3.toInt + 10) from (show a294.toInt ≤ t4_3.toInt + 10 from by have t1 : -1 ≤ t4_3.toInt ∧ t4_3.toInt ≤ 9999 := btt4_3; have t2 : lx52.toInt ≤ t4_3.toInt + 7 := i62; have t3 : lx52.toInt ≤ a238.toInt ∧ 1 ≤ a238.toInt ∧ (a238.toInt = lx52.toInt ∨ a238.toInt = 1) := b240; have t4 : (-4) ≤ y245.toInt := b285; have t5 : a291.toInt = a238.toInt - 1 := b293; have t6 : a294.toInt = a291.toInt - y245.toInt := b296; omega)), (show q_F (lx40.toInt ≤ 102 + 2) from (show lx40.toInt ≤ 102 + 2 from by have t1 : lx40.toInt = 103 := b237; omega)), (show q_F (102 ≤ lx40.toInt + 2) from (show 102 ≤ lx40.toInt + 2 from by have t1 : lx40.toInt = 103 := b237; omega)), (show q_F (t0_0.toInt ≤ y244.toInt + 1025) from (show t0_0.toInt ≤ y244.toInt + 1025 from by have t1 : t0_0.toInt ≤ y244.toInt + 1025 := b250; omega)), (show q_F (y244.toInt ≤ t0_0.toInt) from (show y244.toInt ≤ t0_0.toInt from by have t1 : y244.toInt ≤ t0_0.toInt := b251; omega)), (show q_F (t0_1.toInt ≤ y245.toInt) from (show t0_1.toInt ≤ y245.toInt from by have t1 : t0_1.toInt ≤ y245.toInt := b252; omega)), (show q_F (y245.toInt ≤ t0_1.toInt + 1) from (show y245.toInt ≤ t0_1.toInt + 1 from by have t1 : y245.toInt ≤ t0_1.toInt + 1 := b253; omega)), (show q_F (a294.toInt + y245.toInt ≤ 69999) from (show a294.toInt + y245.toInt ≤ 69999 from by have t1 : lx52.toInt ≤ 9999 := i60; have t2 : lx52.toInt ≤ a238.toInt ∧ 1 ≤ a238.toInt ∧ (a238.toInt = lx52.toInt ∨ a238.toInt = 1) := b240; have t3 : a291.toInt = a238.toInt - 1 := b293; have t4 : a294.toInt = a291.toInt - y245.toInt := b296; omega)), V, q_lw hl (q_lw1 0 rfl (q_lw1 1 rfl (q_lw1 4 rfl q_lw0))), hI, hF, hO243, hA247, hT2, hT3, hT4, (show F_Pri_writeNumber_J156 t0_0 t0_1 t1_0 t2_0 t3_0 t4_0 t4_1 t4_2 t4_3 t4_4 t4_5 t4_6 lx40 lx52 a294 102 y244 y245 f246 = (F_Pri_writeNumber t0_0 t0_1 t1_0 t2_0 t3_0 t4_0 t4_1 t4_2 t4_3 t4_4 t4_5 t4_6) from Eq.trans (by have c283x := c283; rw [e260] at c283x; have c286x := c286; rw [e260] at c286x; rw [← e295, ← e292, e261, e260, e259, F_Pri_writeNumber_c87.eq_1, if_neg c283x, if_neg c286x]) hR262)⟩
        ·
          have b297 : q_F (lx40.toInt = 100) := (q_eqI c233)
          refine lv_bipush (v := 102) hx hb d_9_14_61 (by decide) ?_
          refine lv_istore_n (lv' := [(1, .int 102), (2, .int lx52), (0, .ref (q 40))]) hx hb d_9_14_63 rfl hl (by decide) rfl (fun ls hl => ?_)
          refine lv_iconst (v := 0) hx hb d_9_14_64 (by decide) ?_
          refine lv_istore_n (lv' := [(2, .int 0), (1, .int 102), (0, .ref (q 40))]) hx hb d_9_14_65 rfl hl (by decide) rfl (fun ls hl => ?_)
          refine lv_goto (tgt := 156) hx hb d_9_14_66 (by decide) ?_
          exact J78 ((0 : Int32), (102 : Int32), (t0_0 : Int32), (t0_1 : Int32), (t1_0 : (Nat → Int32))) _ _ _ _ ⟨(show q_F (0 ≤ 0) from (show 0 ≤ 0 from by omega)), (show q_F (0 ≤ 10002) from (show 0 ≤ 10002 from by omega)), (show q_F (0 ≤ t0_0.toInt) from (show 0 ≤ t0_0.toInt from by have t1 : 0 ≤ t0_0.toInt ∧ t0_0.toInt ≤ 1026 := btt0_0; omega)), (show q_F (0 ≤ lx52.toInt + 4) from (show 0 ≤ lx52.toInt + 4 from by have t1 : 0 ≤ lx52.toInt := i59; omega)), (show q_F (0 ≤ t0_1.toInt + 109999) from (show 0 ≤ t0_1.toInt + 109999 from by have t1 : 0 ≤ t0_1.toInt + 100000 := pre0; omega)), (show q_F (0 ≤ t4_3.toInt + 10) from (show 0 ≤ t4_3.toInt + 10 from by have t1 : -1 ≤ t4_3.toInt ∧ t4_3.toInt ≤ 9999 := btt4_3; omega)), (show q_F (lx40.toInt ≤ 102 + 2) from (show lx40.toInt ≤ 102 + 2 from by have t1 : lx40.toInt = 100 := b297; omega)), (show q_F (102 ≤ lx40.toInt + 2) from (show 102 ≤ lx40.toInt + 2 from by have t1 : lx40.toInt = 100 := b297; omega)), (show q_F (t0_0.toInt ≤ t0_0.toInt + 1025) from (show t0_0.toInt ≤ t0_0.toInt + 1025 from by omega)), (show q_F (t0_0.toInt ≤ t0_0.toInt) from (show t0_0.toInt ≤ t0_0.toInt from by omega)), (show q_F (t0_1.toInt ≤ t0_1.toInt) from (show t0_1.toInt ≤ t0_1.toInt from by omega)), (show q_F (t0_1.toInt ≤ t0_1.toInt + 1) from (show t0_1.toInt ≤ t0_1.toInt + 1 from by omega)), (show q_F (0 + t0_1.toInt ≤ 69999) from (show 0 + t0_1.toInt ≤ 69999 from by have t1 : t0_1.toInt ≤ 60000 := pre1; omega)), V, q_lw hl (q_lw1 0 rfl (q_lw1 1 rfl (q_lw1 2 rfl q_lw0))), hI, hF, hT0, hT1, hT2, hT3, hT4, (show F_Pri_writeNumber_J156 t0_0 t0_1 t1_0 t2_0 t3_0 t4_0 t4_1 t4_2 t4_3 t4_4 t4_5 t4_6 lx40 lx52 0 102 t0_0 t0_1 t1_0 = (F_Pri_writeNumber t0_0 t0_1 t1_0 t2_0 t3_0 t4_0 t4_1 t4_2 t4_3 t4_4 t4_5 t4_6) from Eq.trans (by rw [F_Pri_writeNumber_J54.eq_1, if_pos c233]) hR63)⟩
    ·
      intro J58
      refine lv_icmp_ne (tgt := 47) hx hb d_9_14_39 (by decide) (fun c298 => ?_) (fun c298 => ?_)
      ·
        have b299 : q_F (t4_3.toInt ≠ (-1)) := (q_neI c298)
        refine lv_aload_n hx hb d_9_14_47 rfl (lv_at hl 1 rfl) ?_
        refine q_get (ci := 11) (j := 6) (v := .ref (q 47)) C0 V i_Pri rfl rfl hO25 (by decide) w_391 rfl d_9_14_48 ?_
        refine q_get (ci := 10) (j := 3) (v := .int t4_3) C0 V i_Dir rfl rfl hT4 (by decide) w_360 rfl d_9_14_51 ?_
        exact J58 ((t4_3 : Int32)) _ _ _ ws ⟨(show q_F (0 ≤ t4_3.toInt) from (show 0 ≤ t4_3.toInt from by have t1 : -1 ≤ t4_3.toInt ∧ t4_3.toInt ≤ 9999 := btt4_3; have t2 : t4_3.toInt ≠ (-1) := b299; omega)), (show q_F (t4_3.toInt ≤ 9999) from (show t4_3.toInt ≤ 9999 from by have t1 : -1 ≤ t4_3.toInt ∧ t4_3.toInt ≤ 9999 := btt4_3; omega)), (show q_F (t4_3.toInt ≤ t4_3.toInt) from (show t4_3.toInt ≤ t4_3.toInt from by omega)), (show q_F (t4_3.toInt ≤ t4_3.toInt + 7) from (show t4_3.toInt ≤ t4_3.toInt + 7 from by omega)), V, q_lw hl (q_lw1 0 rfl (q_lw1 1 rfl q_lw0)), (show F_Pri_writeNumber_J54 t0_0 t0_1 t1_0 t2_0 t3_0 t4_0 t4_1 t4_2 t4_3 t4_4 t4_5 t4_6 lx40 t4_3 = (F_Pri_writeNumber t0_0 t0_1 t1_0 t2_0 t3_0 t4_0 t4_1 t4_2 t4_3 t4_4 t4_5 t4_6) from Eq.trans (by rw [F_Pri_writeNumber_J30.eq_1, if_neg c298]) hR47)⟩
      ·
        have b300 : q_F (t4_3.toInt = (-1)) := (q_eqI c298)
        refine lv_bipush (v := 6) hx hb d_9_14_42 (by decide) ?_
        refine lv_goto (tgt := 54) hx hb d_9_14_44 (by decide) ?_
        exact J58 ((6 : Int32)) _ _ _ ws ⟨(show q_F (0 ≤ 6) from (show 0 ≤ 6 from by omega)), (show q_F (6 ≤ 9999) from (show 6 ≤ 9999 from by omega)), (show q_F (t4_3.toInt ≤ 6) from (show t4_3.toInt ≤ 6 from by have t1 : t4_3.toInt = (-1) := b300; omega)), (show q_F (6 ≤ t4_3.toInt + 7) from (show 6 ≤ t4_3.toInt + 7 from by have t1 : -1 ≤ t4_3.toInt ∧ t4_3.toInt ≤ 9999 := btt4_3; omega)), V, q_lw hl (q_lw1 0 rfl (q_lw1 1 rfl q_lw0)), (show F_Pri_writeNumber_J54 t0_0 t0_1 t1_0 t2_0 t3_0 t4_0 t4_1 t4_2 t4_3 t4_4 t4_5 t4_6 lx40 6 = (F_Pri_writeNumber t0_0 t0_1 t1_0 t2_0 t3_0 t4_0 t4_1 t4_2 t4_3 t4_4 t4_5 t4_6) from Eq.trans (by rw [F_Pri_writeNumber_J30.eq_1, if_pos c298]) hR47)⟩
  ·
    intro J46
    refine lv_if_eq (tgt := 23) hx hb d_9_14_7 (by decide) (fun c301 => ?_) (fun c301 => ?_)
    ·
      refine lv_aload_n hx hb d_9_14_23 rfl (lv_at hl 0 rfl) ?_
      refine q_get (ci := 11) (j := 6) (v := .ref (q 47)) C0 V i_Pri rfl rfl hO25 (by decide) w_391 rfl d_9_14_24 ?_
      refine q_get (ci := 10) (j := 4) (v := .int t4_4) C0 V i_Dir rfl rfl hT4 (by decide) w_362 rfl d_9_14_27 ?_
      exact J46 ((t4_4 : Int32)) _ _ _ ws ⟨V, q_lw hl (q_lw1 0 rfl q_lw0), (show F_Pri_writeNumber_J30 t0_0 t0_1 t1_0 t2_0 t3_0 t4_0 t4_1 t4_2 t4_3 t4_4 t4_5 t4_6 t4_4 = (F_Pri_writeNumber t0_0 t0_1 t1_0 t2_0 t3_0 t4_0 t4_1 t4_2 t4_3 t4_4 t4_5 t4_6) from (by have c301x := c301; rw [e39] at c301x; rw [F_Pri_writeNumber.eq_1, if_pos c301x]))⟩
    ·
      refine lv_aload_n hx hb d_9_14_10 rfl (lv_at hl 0 rfl) ?_
      refine q_get (ci := 11) (j := 6) (v := .ref (q 47)) C0 V i_Pri rfl rfl hO25 (by decide) w_391 rfl d_9_14_11 ?_
      refine q_get (ci := 10) (j := 4) (v := .int t4_4) C0 V i_Dir rfl rfl hT4 (by decide) w_362 rfl d_9_14_14 ?_
      refine lv_bipush (v := 32) hx hb d_9_14_17 (by decide) ?_
      refine lv_iadd hx hb d_9_14_19 ?_
      obtain ⟨a304, e305⟩ := q_nm (t4_4 + 32 : Int32)
      refine q_ti (v := a304) e305 ?_
      refine lv_goto (tgt := 30) hx hb d_9_14_20 (by decide) ?_
      exact J46 ((a304 : Int32)) _ _ _ ws ⟨V, q_lw hl (q_lw1 0 rfl q_lw0), (show F_Pri_writeNumber_J30 t0_0 t0_1 t1_0 t2_0 t3_0 t4_0 t4_1 t4_2 t4_3 t4_4 t4_5 t4_6 a304 = (F_Pri_writeNumber t0_0 t0_1 t1_0 t2_0 t3_0 t4_0 t4_1 t4_2 t4_3 t4_4 t4_5 t4_6) from (by have c301x := c301; rw [e39] at c301x; rw [← e305, F_Pri_writeNumber.eq_1, if_neg c301x]))⟩
def F_Pri_writeAnything_c46 (x2 : Int32) (t0_0 : Int32) (t0_1 : Int32) (t0_2 : Int32) (t0_3 : Int32) (t1_0 : (Nat → Int32)) (t2_0 : (Nat → Int64)) (t3_0 : (Nat → Int32)) (t4_0 : Int32) (t4_1 : Int32) (t5_0 : (Nat → Int32)) (t6_0 : Int32) (t7_0 : (Nat → Int64)) (t8_0 : Int32) (t9_0 : (Nat → Int64)) (t10_0 : Int32) (t11_0 : (Nat → Int64)) (t12_0 : Int32) (t13_0 : (Nat → Int64)) (t14_0 : Int32) (t15_0 : (Nat → Int64)) (t16_0 : Int32) (t17_0 : (Nat → Int64)) (t18_0 : Int32) (t19_0 : (Nat → Int64)) (t20_0 : Int32) (t21_0 : (Nat → Int64)) (t22_0 : Int32) (t23_0 : (Nat → Int64)) (t24_0 : Int32) (t25_0 : (Nat → Int64)) (p89 : (Int32 × (Nat → Int64))) : Int32 × Int32 × (Nat → Int32) × Int32 × (Nat → Int64) := (t4_0, t4_1, t5_0, (p89.1 : Int32), (p89.2 : (Nat → Int64)))
def F_Pri_writeAnything_c74 (x2 : Int32) (t0_0 : Int32) (t0_1 : Int32) (t0_2 : Int32) (t0_3 : Int32) (t1_0 : (Nat → Int32)) (t2_0 : (Nat → Int64)) (t3_0 : (Nat → Int32)) (t4_0 : Int32) (t4_1 : Int32) (t5_0 : (Nat → Int32)) (t6_0 : Int32) (t7_0 : (Nat → Int64)) (t8_0 : Int32) (t9_0 : (Nat → Int64)) (t10_0 : Int32) (t11_0 : (Nat → Int64)) (t12_0 : Int32) (t13_0 : (Nat → Int64)) (t14_0 : Int32) (t15_0 : (Nat → Int64)) (t16_0 : Int32) (t17_0 : (Nat → Int64)) (t18_0 : Int32) (t19_0 : (Nat → Int64)) (t20_0 : Int32) (t21_0 : (Nat → Int64)) (t22_0 : Int32) (t23_0 : (Nat → Int64)) (t24_0 : Int32) (t25_0 : (Nat → Int64)) (p118 : (Int32 × (Nat → Int64))) : Int32 × Int32 × (Nat → Int32) × Int32 × (Nat → Int64) := (t4_0, t4_1, t5_0, (p118.1 : Int32), (p118.2 : (Nat → Int64)))
def F_Pri_writeAnything_c74_3 (x2 : Int32) (t0_0 : Int32) (t0_1 : Int32) (t0_2 : Int32) (t0_3 : Int32) (t1_0 : (Nat → Int32)) (t2_0 : (Nat → Int64)) (t3_0 : (Nat → Int32)) (t4_0 : Int32) (t4_1 : Int32) (t5_0 : (Nat → Int32)) (t6_0 : Int32) (t7_0 : (Nat → Int64)) (t8_0 : Int32) (t9_0 : (Nat → Int64)) (t10_0 : Int32) (t11_0 : (Nat → Int64)) (t12_0 : Int32) (t13_0 : (Nat → Int64)) (t14_0 : Int32) (t15_0 : (Nat → Int64)) (t16_0 : Int32) (t17_0 : (Nat → Int64)) (t18_0 : Int32) (t19_0 : (Nat → Int64)) (t20_0 : Int32) (t21_0 : (Nat → Int64)) (t22_0 : Int32) (t23_0 : (Nat → Int64)) (t24_0 : Int32) (t25_0 : (Nat → Int64)) (p138 : (Int32 × (Nat → Int64))) : Int32 × Int32 × (Nat → Int32) × Int32 × (Nat → Int64) := (t4_0, t4_1, t5_0, (p138.1 : Int32), (p138.2 : (Nat → Int64)))
def F_Pri_writeAnything_c91 (x2 : Int32) (t0_0 : Int32) (t0_1 : Int32) (t0_2 : Int32) (t0_3 : Int32) (t1_0 : (Nat → Int32)) (t2_0 : (Nat → Int64)) (t3_0 : (Nat → Int32)) (t4_0 : Int32) (t4_1 : Int32) (t5_0 : (Nat → Int32)) (t6_0 : Int32) (t7_0 : (Nat → Int64)) (t8_0 : Int32) (t9_0 : (Nat → Int64)) (t10_0 : Int32) (t11_0 : (Nat → Int64)) (t12_0 : Int32) (t13_0 : (Nat → Int64)) (t14_0 : Int32) (t15_0 : (Nat → Int64)) (t16_0 : Int32) (t17_0 : (Nat → Int64)) (t18_0 : Int32) (t19_0 : (Nat → Int64)) (t20_0 : Int32) (t21_0 : (Nat → Int64)) (t22_0 : Int32) (t23_0 : (Nat → Int64)) (t24_0 : Int32) (t25_0 : (Nat → Int64)) (p164 : (Int32 × (Nat → Int64))) : Int32 × Int32 × (Nat → Int32) × Int32 × (Nat → Int64) := (t4_0, t4_1, t5_0, (p164.1 : Int32), (p164.2 : (Nat → Int64)))
def F_Pri_writeAnything_c178 (x2 : Int32) (t0_0 : Int32) (t0_1 : Int32) (t0_2 : Int32) (t0_3 : Int32) (t1_0 : (Nat → Int32)) (t2_0 : (Nat → Int64)) (t3_0 : (Nat → Int32)) (t4_0 : Int32) (t4_1 : Int32) (t5_0 : (Nat → Int32)) (t6_0 : Int32) (t7_0 : (Nat → Int64)) (t8_0 : Int32) (t9_0 : (Nat → Int64)) (t10_0 : Int32) (t11_0 : (Nat → Int64)) (t12_0 : Int32) (t13_0 : (Nat → Int64)) (t14_0 : Int32) (t15_0 : (Nat → Int64)) (t16_0 : Int32) (t17_0 : (Nat → Int64)) (t18_0 : Int32) (t19_0 : (Nat → Int64)) (t20_0 : Int32) (t21_0 : (Nat → Int64)) (t22_0 : Int32) (t23_0 : (Nat → Int64)) (t24_0 : Int32) (t25_0 : (Nat → Int64)) (lx181 : Int32) (lx182 : (Nat → Int64)) (p240 : (Int32 × Int32 × (Nat → Int32))) (y227 : Int32) (y228 : Int32) (f229 : (Nat → Int32)) (p268 : (Int32 × (Nat → Int64))) : Int32 × Int32 × (Nat → Int32) × Int32 × (Nat → Int64) := (y227, y228, f229, (p268.1 : Int32), (p268.2 : (Nat → Int64)))
def F_Pri_writeAnything_c159 (x2 : Int32) (t0_0 : Int32) (t0_1 : Int32) (t0_2 : Int32) (t0_3 : Int32) (t1_0 : (Nat → Int32)) (t2_0 : (Nat → Int64)) (t3_0 : (Nat → Int32)) (t4_0 : Int32) (t4_1 : Int32) (t5_0 : (Nat → Int32)) (t6_0 : Int32) (t7_0 : (Nat → Int64)) (t8_0 : Int32) (t9_0 : (Nat → Int64)) (t10_0 : Int32) (t11_0 : (Nat → Int64)) (t12_0 : Int32) (t13_0 : (Nat → Int64)) (t14_0 : Int32) (t15_0 : (Nat → Int64)) (t16_0 : Int32) (t17_0 : (Nat → Int64)) (t18_0 : Int32) (t19_0 : (Nat → Int64)) (t20_0 : Int32) (t21_0 : (Nat → Int64)) (t22_0 : Int32) (t23_0 : (Nat → Int64)) (t24_0 : Int32) (t25_0 : (Nat → Int64)) (lx181 : Int32) (lx182 : (Nat → Int64)) (p240 : (Int32 × Int32 × (Nat → Int32))) : Int32 × Int32 × (Nat → Int32) × Int32 × (Nat → Int64) := F_Pri_writeAnything_c178 x2 t0_0 t0_1 t0_2 t0_3 t1_0 t2_0 t3_0 t4_0 t4_1 t5_0 t6_0 t7_0 t8_0 t9_0 t10_0 t11_0 t12_0 t13_0 t14_0 t15_0 t16_0 t17_0 t18_0 t19_0 t20_0 t21_0 t22_0 t23_0 t24_0 t25_0 lx181 lx182 p240 (p240.1 : Int32) (p240.2.1 : Int32) (p240.2.2 : (Nat → Int32)) ((F_Dig_writePlain (4104 : Int32) (513 : Int32) (1000000 : Int32) (t3_0 x2.toNatClampNeg : Int32) (0 : Int32) (0 : Int32) (p240.1 : Int32) (p240.2.1 : Int32) (p240.2.2 : (Nat → Int32)) lx181 lx182) : (Int32 × (Nat → Int64)))
def F_Pri_writeAnything_J143 (x2 : Int32) (t0_0 : Int32) (t0_1 : Int32) (t0_2 : Int32) (t0_3 : Int32) (t1_0 : (Nat → Int32)) (t2_0 : (Nat → Int64)) (t3_0 : (Nat → Int32)) (t4_0 : Int32) (t4_1 : Int32) (t5_0 : (Nat → Int32)) (t6_0 : Int32) (t7_0 : (Nat → Int64)) (t8_0 : Int32) (t9_0 : (Nat → Int64)) (t10_0 : Int32) (t11_0 : (Nat → Int64)) (t12_0 : Int32) (t13_0 : (Nat → Int64)) (t14_0 : Int32) (t15_0 : (Nat → Int64)) (t16_0 : Int32) (t17_0 : (Nat → Int64)) (t18_0 : Int32) (t19_0 : (Nat → Int64)) (t20_0 : Int32) (t21_0 : (Nat → Int64)) (t22_0 : Int32) (t23_0 : (Nat → Int64)) (t24_0 : Int32) (t25_0 : (Nat → Int64)) (lx181 : Int32) (lx182 : (Nat → Int64)) : Int32 × Int32 × (Nat → Int32) × Int32 × (Nat → Int64) := F_Pri_writeAnything_c159 x2 t0_0 t0_1 t0_2 t0_3 t1_0 t2_0 t3_0 t4_0 t4_1 t5_0 t6_0 t7_0 t8_0 t9_0 t10_0 t11_0 t12_0 t13_0 t14_0 t15_0 t16_0 t17_0 t18_0 t19_0 t20_0 t21_0 t22_0 t23_0 t24_0 t25_0 lx181 lx182 ((F_Dig_fillLong (t2_0 x2.toNatClampNeg : Int64) (t3_0 x2.toNatClampNeg : Int32) t4_0 t4_1 t5_0) : (Int32 × Int32 × (Nat → Int32)))
def F_Pri_writeAnything_c140 (x2 : Int32) (t0_0 : Int32) (t0_1 : Int32) (t0_2 : Int32) (t0_3 : Int32) (t1_0 : (Nat → Int32)) (t2_0 : (Nat → Int64)) (t3_0 : (Nat → Int32)) (t4_0 : Int32) (t4_1 : Int32) (t5_0 : (Nat → Int32)) (t6_0 : Int32) (t7_0 : (Nat → Int64)) (t8_0 : Int32) (t9_0 : (Nat → Int64)) (t10_0 : Int32) (t11_0 : (Nat → Int64)) (t12_0 : Int32) (t13_0 : (Nat → Int64)) (t14_0 : Int32) (t15_0 : (Nat → Int64)) (t16_0 : Int32) (t17_0 : (Nat → Int64)) (t18_0 : Int32) (t19_0 : (Nat → Int64)) (t20_0 : Int32) (t21_0 : (Nat → Int64)) (t22_0 : Int32) (t23_0 : (Nat → Int64)) (t24_0 : Int32) (t25_0 : (Nat → Int64)) (p290 : (Int32 × (Nat → Int64))) : Int32 × Int32 × (Nat → Int32) × Int32 × (Nat → Int64) := F_Pri_writeAnything_J143 x2 t0_0 t0_1 t0_2 t0_3 t1_0 t2_0 t3_0 t4_0 t4_1 t5_0 t6_0 t7_0 t8_0 t9_0 t10_0 t11_0 t12_0 t13_0 t14_0 t15_0 t16_0 t17_0 t18_0 t19_0 t20_0 t21_0 t22_0 t23_0 t24_0 t25_0 (p290.1 : Int32) (p290.2 : (Nat → Int64))
def F_Pri_writeAnything_c117 (x2 : Int32) (t0_0 : Int32) (t0_1 : Int32) (t0_2 : Int32) (t0_3 : Int32) (t1_0 : (Nat → Int32)) (t2_0 : (Nat → Int64)) (t3_0 : (Nat → Int32)) (t4_0 : Int32) (t4_1 : Int32) (t5_0 : (Nat → Int32)) (t6_0 : Int32) (t7_0 : (Nat → Int64)) (t8_0 : Int32) (t9_0 : (Nat → Int64)) (t10_0 : Int32) (t11_0 : (Nat → Int64)) (t12_0 : Int32) (t13_0 : (Nat → Int64)) (t14_0 : Int32) (t15_0 : (Nat → Int64)) (t16_0 : Int32) (t17_0 : (Nat → Int64)) (t18_0 : Int32) (t19_0 : (Nat → Int64)) (t20_0 : Int32) (t21_0 : (Nat → Int64)) (t22_0 : Int32) (t23_0 : (Nat → Int64)) (t24_0 : Int32) (t25_0 : (Nat → Int64)) (p319 : (Int32 × (Nat → Int64))) : Int32 × Int32 × (Nat → Int32) × Int32 × (Nat → Int64) := (t4_0, t4_1, t5_0, (p319.1 : Int32), (p319.2 : (Nat → Int64)))
def F_Pri_writeAnything_c117_10 (x2 : Int32) (t0_0 : Int32) (t0_1 : Int32) (t0_2 : Int32) (t0_3 : Int32) (t1_0 : (Nat → Int32)) (t2_0 : (Nat → Int64)) (t3_0 : (Nat → Int32)) (t4_0 : Int32) (t4_1 : Int32) (t5_0 : (Nat → Int32)) (t6_0 : Int32) (t7_0 : (Nat → Int64)) (t8_0 : Int32) (t9_0 : (Nat → Int64)) (t10_0 : Int32) (t11_0 : (Nat → Int64)) (t12_0 : Int32) (t13_0 : (Nat → Int64)) (t14_0 : Int32) (t15_0 : (Nat → Int64)) (t16_0 : Int32) (t17_0 : (Nat → Int64)) (t18_0 : Int32) (t19_0 : (Nat → Int64)) (t20_0 : Int32) (t21_0 : (Nat → Int64)) (t22_0 : Int32) (t23_0 : (Nat → Int64)) (t24_0 : Int32) (t25_0 : (Nat → Int64)) (p346 : (Int32 × (Nat → Int64))) : Int32 × Int32 × (Nat → Int32) × Int32 × (Nat → Int64) := (t4_0, t4_1, t5_0, (p346.1 : Int32), (p346.2 : (Nat → Int64)))
def F_Pri_writeAnything_c117_11 (x2 : Int32) (t0_0 : Int32) (t0_1 : Int32) (t0_2 : Int32) (t0_3 : Int32) (t1_0 : (Nat → Int32)) (t2_0 : (Nat → Int64)) (t3_0 : (Nat → Int32)) (t4_0 : Int32) (t4_1 : Int32) (t5_0 : (Nat → Int32)) (t6_0 : Int32) (t7_0 : (Nat → Int64)) (t8_0 : Int32) (t9_0 : (Nat → Int64)) (t10_0 : Int32) (t11_0 : (Nat → Int64)) (t12_0 : Int32) (t13_0 : (Nat → Int64)) (t14_0 : Int32) (t15_0 : (Nat → Int64)) (t16_0 : Int32) (t17_0 : (Nat → Int64)) (t18_0 : Int32) (t19_0 : (Nat → Int64)) (t20_0 : Int32) (t21_0 : (Nat → Int64)) (t22_0 : Int32) (t23_0 : (Nat → Int64)) (t24_0 : Int32) (t25_0 : (Nat → Int64)) (p373 : (Int32 × (Nat → Int64))) : Int32 × Int32 × (Nat → Int32) × Int32 × (Nat → Int64) := (t4_0, t4_1, t5_0, (p373.1 : Int32), (p373.2 : (Nat → Int64)))
def F_Pri_writeAnything_c117_12 (x2 : Int32) (t0_0 : Int32) (t0_1 : Int32) (t0_2 : Int32) (t0_3 : Int32) (t1_0 : (Nat → Int32)) (t2_0 : (Nat → Int64)) (t3_0 : (Nat → Int32)) (t4_0 : Int32) (t4_1 : Int32) (t5_0 : (Nat → Int32)) (t6_0 : Int32) (t7_0 : (Nat → Int64)) (t8_0 : Int32) (t9_0 : (Nat → Int64)) (t10_0 : Int32) (t11_0 : (Nat → Int64)) (t12_0 : Int32) (t13_0 : (Nat → Int64)) (t14_0 : Int32) (t15_0 : (Nat → Int64)) (t16_0 : Int32) (t17_0 : (Nat → Int64)) (t18_0 : Int32) (t19_0 : (Nat → Int64)) (t20_0 : Int32) (t21_0 : (Nat → Int64)) (t22_0 : Int32) (t23_0 : (Nat → Int64)) (t24_0 : Int32) (t25_0 : (Nat → Int64)) (p400 : (Int32 × (Nat → Int64))) : Int32 × Int32 × (Nat → Int32) × Int32 × (Nat → Int64) := (t4_0, t4_1, t5_0, (p400.1 : Int32), (p400.2 : (Nat → Int64)))
def F_Pri_writeAnything_c117_13 (x2 : Int32) (t0_0 : Int32) (t0_1 : Int32) (t0_2 : Int32) (t0_3 : Int32) (t1_0 : (Nat → Int32)) (t2_0 : (Nat → Int64)) (t3_0 : (Nat → Int32)) (t4_0 : Int32) (t4_1 : Int32) (t5_0 : (Nat → Int32)) (t6_0 : Int32) (t7_0 : (Nat → Int64)) (t8_0 : Int32) (t9_0 : (Nat → Int64)) (t10_0 : Int32) (t11_0 : (Nat → Int64)) (t12_0 : Int32) (t13_0 : (Nat → Int64)) (t14_0 : Int32) (t15_0 : (Nat → Int64)) (t16_0 : Int32) (t17_0 : (Nat → Int64)) (t18_0 : Int32) (t19_0 : (Nat → Int64)) (t20_0 : Int32) (t21_0 : (Nat → Int64)) (t22_0 : Int32) (t23_0 : (Nat → Int64)) (t24_0 : Int32) (t25_0 : (Nat → Int64)) (p427 : (Int32 × (Nat → Int64))) : Int32 × Int32 × (Nat → Int32) × Int32 × (Nat → Int64) := (t4_0, t4_1, t5_0, (p427.1 : Int32), (p427.2 : (Nat → Int64)))
def F_Pri_writeAnything_c117_14 (x2 : Int32) (t0_0 : Int32) (t0_1 : Int32) (t0_2 : Int32) (t0_3 : Int32) (t1_0 : (Nat → Int32)) (t2_0 : (Nat → Int64)) (t3_0 : (Nat → Int32)) (t4_0 : Int32) (t4_1 : Int32) (t5_0 : (Nat → Int32)) (t6_0 : Int32) (t7_0 : (Nat → Int64)) (t8_0 : Int32) (t9_0 : (Nat → Int64)) (t10_0 : Int32) (t11_0 : (Nat → Int64)) (t12_0 : Int32) (t13_0 : (Nat → Int64)) (t14_0 : Int32) (t15_0 : (Nat → Int64)) (t16_0 : Int32) (t17_0 : (Nat → Int64)) (t18_0 : Int32) (t19_0 : (Nat → Int64)) (t20_0 : Int32) (t21_0 : (Nat → Int64)) (t22_0 : Int32) (t23_0 : (Nat → Int64)) (t24_0 : Int32) (t25_0 : (Nat → Int64)) (p454 : (Int32 × (Nat → Int64))) : Int32 × Int32 × (Nat → Int32) × Int32 × (Nat → Int64) := (t4_0, t4_1, t5_0, (p454.1 : Int32), (p454.2 : (Nat → Int64)))
def F_Pri_writeAnything_c117_15 (x2 : Int32) (t0_0 : Int32) (t0_1 : Int32) (t0_2 : Int32) (t0_3 : Int32) (t1_0 : (Nat → Int32)) (t2_0 : (Nat → Int64)) (t3_0 : (Nat → Int32)) (t4_0 : Int32) (t4_1 : Int32) (t5_0 : (Nat → Int32)) (t6_0 : Int32) (t7_0 : (Nat → Int64)) (t8_0 : Int32) (t9_0 : (Nat → Int64)) (t10_0 : Int32) (t11_0 : (Nat → Int64)) (t12_0 : Int32) (t13_0 : (Nat → Int64)) (t14_0 : Int32) (t15_0 : (Nat → Int64)) (t16_0 : Int32) (t17_0 : (Nat → Int64)) (t18_0 : Int32) (t19_0 : (Nat → Int64)) (t20_0 : Int32) (t21_0 : (Nat → Int64)) (t22_0 : Int32) (t23_0 : (Nat → Int64)) (t24_0 : Int32) (t25_0 : (Nat → Int64)) (p481 : (Int32 × (Nat → Int64))) : Int32 × Int32 × (Nat → Int32) × Int32 × (Nat → Int64) := (t4_0, t4_1, t5_0, (p481.1 : Int32), (p481.2 : (Nat → Int64)))
def F_Pri_writeAnything_c117_16 (x2 : Int32) (t0_0 : Int32) (t0_1 : Int32) (t0_2 : Int32) (t0_3 : Int32) (t1_0 : (Nat → Int32)) (t2_0 : (Nat → Int64)) (t3_0 : (Nat → Int32)) (t4_0 : Int32) (t4_1 : Int32) (t5_0 : (Nat → Int32)) (t6_0 : Int32) (t7_0 : (Nat → Int64)) (t8_0 : Int32) (t9_0 : (Nat → Int64)) (t10_0 : Int32) (t11_0 : (Nat → Int64)) (t12_0 : Int32) (t13_0 : (Nat → Int64)) (t14_0 : Int32) (t15_0 : (Nat → Int64)) (t16_0 : Int32) (t17_0 : (Nat → Int64)) (t18_0 : Int32) (t19_0 : (Nat → Int64)) (t20_0 : Int32) (t21_0 : (Nat → Int64)) (t22_0 : Int32) (t23_0 : (Nat → Int64)) (t24_0 : Int32) (t25_0 : (Nat → Int64)) (p508 : (Int32 × (Nat → Int64))) : Int32 × Int32 × (Nat → Int32) × Int32 × (Nat → Int64) := (t4_0, t4_1, t5_0, (p508.1 : Int32), (p508.2 : (Nat → Int64)))
def F_Pri_writeAnything_c117_17 (x2 : Int32) (t0_0 : Int32) (t0_1 : Int32) (t0_2 : Int32) (t0_3 : Int32) (t1_0 : (Nat → Int32)) (t2_0 : (Nat → Int64)) (t3_0 : (Nat → Int32)) (t4_0 : Int32) (t4_1 : Int32) (t5_0 : (Nat → Int32)) (t6_0 : Int32) (t7_0 : (Nat → Int64)) (t8_0 : Int32) (t9_0 : (Nat → Int64)) (t10_0 : Int32) (t11_0 : (Nat → Int64)) (t12_0 : Int32) (t13_0 : (Nat → Int64)) (t14_0 : Int32) (t15_0 : (Nat → Int64)) (t16_0 : Int32) (t17_0 : (Nat → Int64)) (t18_0 : Int32) (t19_0 : (Nat → Int64)) (t20_0 : Int32) (t21_0 : (Nat → Int64)) (t22_0 : Int32) (t23_0 : (Nat → Int64)) (t24_0 : Int32) (t25_0 : (Nat → Int64)) (p535 : (Int32 × (Nat → Int64))) : Int32 × Int32 × (Nat → Int32) × Int32 × (Nat → Int64) := (t4_0, t4_1, t5_0, (p535.1 : Int32), (p535.2 : (Nat → Int64)))
def F_Pri_writeAnything_c178_20 (x2 : Int32) (t0_0 : Int32) (t0_1 : Int32) (t0_2 : Int32) (t0_3 : Int32) (t1_0 : (Nat → Int32)) (t2_0 : (Nat → Int64)) (t3_0 : (Nat → Int32)) (t4_0 : Int32) (t4_1 : Int32) (t5_0 : (Nat → Int32)) (t6_0 : Int32) (t7_0 : (Nat → Int64)) (t8_0 : Int32) (t9_0 : (Nat → Int64)) (t10_0 : Int32) (t11_0 : (Nat → Int64)) (t12_0 : Int32) (t13_0 : (Nat → Int64)) (t14_0 : Int32) (t15_0 : (Nat → Int64)) (t16_0 : Int32) (t17_0 : (Nat → Int64)) (t18_0 : Int32) (t19_0 : (Nat → Int64)) (t20_0 : Int32) (t21_0 : (Nat → Int64)) (t22_0 : Int32) (t23_0 : (Nat → Int64)) (t24_0 : Int32) (t25_0 : (Nat → Int64)) (lx550 : Int32) (lx551 : (Nat → Int64)) (p609 : (Int32 × Int32 × (Nat → Int32))) (y596 : Int32) (y597 : Int32) (f598 : (Nat → Int32)) (p637 : (Int32 × (Nat → Int64))) : Int32 × Int32 × (Nat → Int32) × Int32 × (Nat → Int64) := (y596, y597, f598, (p637.1 : Int32), (p637.2 : (Nat → Int64)))
def F_Pri_writeAnything_c159_19 (x2 : Int32) (t0_0 : Int32) (t0_1 : Int32) (t0_2 : Int32) (t0_3 : Int32) (t1_0 : (Nat → Int32)) (t2_0 : (Nat → Int64)) (t3_0 : (Nat → Int32)) (t4_0 : Int32) (t4_1 : Int32) (t5_0 : (Nat → Int32)) (t6_0 : Int32) (t7_0 : (Nat → Int64)) (t8_0 : Int32) (t9_0 : (Nat → Int64)) (t10_0 : Int32) (t11_0 : (Nat → Int64)) (t12_0 : Int32) (t13_0 : (Nat → Int64)) (t14_0 : Int32) (t15_0 : (Nat → Int64)) (t16_0 : Int32) (t17_0 : (Nat → Int64)) (t18_0 : Int32) (t19_0 : (Nat → Int64)) (t20_0 : Int32) (t21_0 : (Nat → Int64)) (t22_0 : Int32) (t23_0 : (Nat → Int64)) (t24_0 : Int32) (t25_0 : (Nat → Int64)) (lx550 : Int32) (lx551 : (Nat → Int64)) (p609 : (Int32 × Int32 × (Nat → Int32))) : Int32 × Int32 × (Nat → Int32) × Int32 × (Nat → Int64) := F_Pri_writeAnything_c178_20 x2 t0_0 t0_1 t0_2 t0_3 t1_0 t2_0 t3_0 t4_0 t4_1 t5_0 t6_0 t7_0 t8_0 t9_0 t10_0 t11_0 t12_0 t13_0 t14_0 t15_0 t16_0 t17_0 t18_0 t19_0 t20_0 t21_0 t22_0 t23_0 t24_0 t25_0 lx550 lx551 p609 (p609.1 : Int32) (p609.2.1 : Int32) (p609.2.2 : (Nat → Int32)) ((F_Dig_writePlain (4104 : Int32) (513 : Int32) (1000000 : Int32) (t3_0 x2.toNatClampNeg : Int32) (0 : Int32) (0 : Int32) (p609.1 : Int32) (p609.2.1 : Int32) (p609.2.2 : (Nat → Int32)) lx550 lx551) : (Int32 × (Nat → Int64)))
def F_Pri_writeAnything_J143_18 (x2 : Int32) (t0_0 : Int32) (t0_1 : Int32) (t0_2 : Int32) (t0_3 : Int32) (t1_0 : (Nat → Int32)) (t2_0 : (Nat → Int64)) (t3_0 : (Nat → Int32)) (t4_0 : Int32) (t4_1 : Int32) (t5_0 : (Nat → Int32)) (t6_0 : Int32) (t7_0 : (Nat → Int64)) (t8_0 : Int32) (t9_0 : (Nat → Int64)) (t10_0 : Int32) (t11_0 : (Nat → Int64)) (t12_0 : Int32) (t13_0 : (Nat → Int64)) (t14_0 : Int32) (t15_0 : (Nat → Int64)) (t16_0 : Int32) (t17_0 : (Nat → Int64)) (t18_0 : Int32) (t19_0 : (Nat → Int64)) (t20_0 : Int32) (t21_0 : (Nat → Int64)) (t22_0 : Int32) (t23_0 : (Nat → Int64)) (t24_0 : Int32) (t25_0 : (Nat → Int64)) (lx550 : Int32) (lx551 : (Nat → Int64)) : Int32 × Int32 × (Nat → Int32) × Int32 × (Nat → Int64) := F_Pri_writeAnything_c159_19 x2 t0_0 t0_1 t0_2 t0_3 t1_0 t2_0 t3_0 t4_0 t4_1 t5_0 t6_0 t7_0 t8_0 t9_0 t10_0 t11_0 t12_0 t13_0 t14_0 t15_0 t16_0 t17_0 t18_0 t19_0 t20_0 t21_0 t22_0 t23_0 t24_0 t25_0 lx550 lx551 ((F_Dig_fillLong (t2_0 x2.toNatClampNeg : Int64) (t3_0 x2.toNatClampNeg : Int32) t4_0 t4_1 t5_0) : (Int32 × Int32 × (Nat → Int32)))
def F_Pri_writeAnything_c140_21 (x2 : Int32) (t0_0 : Int32) (t0_1 : Int32) (t0_2 : Int32) (t0_3 : Int32) (t1_0 : (Nat → Int32)) (t2_0 : (Nat → Int64)) (t3_0 : (Nat → Int32)) (t4_0 : Int32) (t4_1 : Int32) (t5_0 : (Nat → Int32)) (t6_0 : Int32) (t7_0 : (Nat → Int64)) (t8_0 : Int32) (t9_0 : (Nat → Int64)) (t10_0 : Int32) (t11_0 : (Nat → Int64)) (t12_0 : Int32) (t13_0 : (Nat → Int64)) (t14_0 : Int32) (t15_0 : (Nat → Int64)) (t16_0 : Int32) (t17_0 : (Nat → Int64)) (t18_0 : Int32) (t19_0 : (Nat → Int64)) (t20_0 : Int32) (t21_0 : (Nat → Int64)) (t22_0 : Int32) (t23_0 : (Nat → Int64)) (t24_0 : Int32) (t25_0 : (Nat → Int64)) (p659 : (Int32 × (Nat → Int64))) : Int32 × Int32 × (Nat → Int32) × Int32 × (Nat → Int64) := F_Pri_writeAnything_J143_18 x2 t0_0 t0_1 t0_2 t0_3 t1_0 t2_0 t3_0 t4_0 t4_1 t5_0 t6_0 t7_0 t8_0 t9_0 t10_0 t11_0 t12_0 t13_0 t14_0 t15_0 t16_0 t17_0 t18_0 t19_0 t20_0 t21_0 t22_0 t23_0 t24_0 t25_0 (p659.1 : Int32) (p659.2 : (Nat → Int64))
def F_Pri_writeAnything (x2 : Int32) (t0_0 : Int32) (t0_1 : Int32) (t0_2 : Int32) (t0_3 : Int32) (t1_0 : (Nat → Int32)) (t2_0 : (Nat → Int64)) (t3_0 : (Nat → Int32)) (t4_0 : Int32) (t4_1 : Int32) (t5_0 : (Nat → Int32)) (t6_0 : Int32) (t7_0 : (Nat → Int64)) (t8_0 : Int32) (t9_0 : (Nat → Int64)) (t10_0 : Int32) (t11_0 : (Nat → Int64)) (t12_0 : Int32) (t13_0 : (Nat → Int64)) (t14_0 : Int32) (t15_0 : (Nat → Int64)) (t16_0 : Int32) (t17_0 : (Nat → Int64)) (t18_0 : Int32) (t19_0 : (Nat → Int64)) (t20_0 : Int32) (t21_0 : (Nat → Int64)) (t22_0 : Int32) (t23_0 : (Nat → Int64)) (t24_0 : Int32) (t25_0 : (Nat → Int64)) : Int32 × Int32 × (Nat → Int32) × Int32 × (Nat → Int64) := if (t1_0 x2.toNatClampNeg : Int32) = (0 : Int32) then (F_Pri_writeAnything_c46 x2 t0_0 t0_1 t0_2 t0_3 t1_0 t2_0 t3_0 t4_0 t4_1 t5_0 t6_0 t7_0 t8_0 t9_0 t10_0 t11_0 t12_0 t13_0 t14_0 t15_0 t16_0 t17_0 t18_0 t19_0 t20_0 t21_0 t22_0 t23_0 t24_0 t25_0 ((F_She_addText_15 (4104 : Int32) (513 : Int32) (1000000 : Int32) t6_0 t7_0) : (Int32 × (Nat → Int64)))) else (if (t1_0 x2.toNatClampNeg : Int32) = (1 : Int32) then (if (lg_cmp (t2_0 x2.toNatClampNeg : Int64) 0 : Int32) = (0 : Int32) then (F_Pri_writeAnything_c74_3 x2 t0_0 t0_1 t0_2 t0_3 t1_0 t2_0 t3_0 t4_0 t4_1 t5_0 t6_0 t7_0 t8_0 t9_0 t10_0 t11_0 t12_0 t13_0 t14_0 t15_0 t16_0 t17_0 t18_0 t19_0 t20_0 t21_0 t22_0 t23_0 t24_0 t25_0 ((F_She_addText_12 (4104 : Int32) (513 : Int32) (1000000 : Int32) t6_0 t7_0) : (Int32 × (Nat → Int64)))) else (F_Pri_writeAnything_c74 x2 t0_0 t0_1 t0_2 t0_3 t1_0 t2_0 t3_0 t4_0 t4_1 t5_0 t6_0 t7_0 t8_0 t9_0 t10_0 t11_0 t12_0 t13_0 t14_0 t15_0 t16_0 t17_0 t18_0 t19_0 t20_0 t21_0 t22_0 t23_0 t24_0 t25_0 ((F_She_addText_13 (4104 : Int32) (513 : Int32) (1000000 : Int32) t6_0 t7_0) : (Int32 × (Nat → Int64))))) else (if (t1_0 x2.toNatClampNeg : Int32) = (2 : Int32) then (F_Pri_writeAnything_c91 x2 t0_0 t0_1 t0_2 t0_3 t1_0 t2_0 t3_0 t4_0 t4_1 t5_0 t6_0 t7_0 t8_0 t9_0 t10_0 t11_0 t12_0 t13_0 t14_0 t15_0 t16_0 t17_0 t18_0 t19_0 t20_0 t21_0 t22_0 t23_0 t24_0 t25_0 ((F_She_add_p (4104 : Int32) (513 : Int32) (1000000 : Int32) ((t2_0 x2.toNatClampNeg : Int64).toInt32 : Int32) t6_0 t7_0) : (Int32 × (Nat → Int64)))) else (if (t1_0 x2.toNatClampNeg : Int32) = (3 : Int32) then (if (0 : Int32) ≤ (lg_cmp (t2_0 x2.toNatClampNeg : Int64) 0 : Int32) then (F_Pri_writeAnything_J143 x2 t0_0 t0_1 t0_2 t0_3 t1_0 t2_0 t3_0 t4_0 t4_1 t5_0 t6_0 t7_0 t8_0 t9_0 t10_0 t11_0 t12_0 t13_0 t14_0 t15_0 t16_0 t17_0 t18_0 t19_0 t20_0 t21_0 t22_0 t23_0 t24_0 t25_0 t6_0 t7_0) else (F_Pri_writeAnything_c140 x2 t0_0 t0_1 t0_2 t0_3 t1_0 t2_0 t3_0 t4_0 t4_1 t5_0 t6_0 t7_0 t8_0 t9_0 t10_0 t11_0 t12_0 t13_0 t14_0 t15_0 t16_0 t17_0 t18_0 t19_0 t20_0 t21_0 t22_0 t23_0 t24_0 t25_0 ((F_She_add_p (4104 : Int32) (513 : Int32) (1000000 : Int32) (45 : Int32) t6_0 t7_0) : (Int32 × (Nat → Int64))))) else (if (t1_0 x2.toNatClampNeg : Int32) = (4 : Int32) then (if x2 = (0 : Int32) then (F_Pri_writeAnything_c117 x2 t0_0 t0_1 t0_2 t0_3 t1_0 t2_0 t3_0 t4_0 t4_1 t5_0 t6_0 t7_0 t8_0 t9_0 t10_0 t11_0 t12_0 t13_0 t14_0 t15_0 t16_0 t17_0 t18_0 t19_0 t20_0 t21_0 t22_0 t23_0 t24_0 t25_0 ((F_Pri_copyInto (4104 : Int32) (513 : Int32) (1000000 : Int32) (64 : Int32) (8 : Int32) (64 : Int32) (0 : Int32) t8_0 t6_0 t7_0 t8_0 t9_0) : (Int32 × (Nat → Int64)))) else (if x2 = (1 : Int32) then (F_Pri_writeAnything_c117_10 x2 t0_0 t0_1 t0_2 t0_3 t1_0 t2_0 t3_0 t4_0 t4_1 t5_0 t6_0 t7_0 t8_0 t9_0 t10_0 t11_0 t12_0 t13_0 t14_0 t15_0 t16_0 t17_0 t18_0 t19_0 t20_0 t21_0 t22_0 t23_0 t24_0 t25_0 ((F_Pri_copyInto (4104 : Int32) (513 : Int32) (1000000 : Int32) (64 : Int32) (8 : Int32) (64 : Int32) (0 : Int32) t10_0 t6_0 t7_0 t10_0 t11_0) : (Int32 × (Nat → Int64)))) else (if x2 = (2 : Int32) then (F_Pri_writeAnything_c117_11 x2 t0_0 t0_1 t0_2 t0_3 t1_0 t2_0 t3_0 t4_0 t4_1 t5_0 t6_0 t7_0 t8_0 t9_0 t10_0 t11_0 t12_0 t13_0 t14_0 t15_0 t16_0 t17_0 t18_0 t19_0 t20_0 t21_0 t22_0 t23_0 t24_0 t25_0 ((F_Pri_copyInto (4104 : Int32) (513 : Int32) (1000000 : Int32) (64 : Int32) (8 : Int32) (64 : Int32) (0 : Int32) t12_0 t6_0 t7_0 t12_0 t13_0) : (Int32 × (Nat → Int64)))) else (if x2 = (3 : Int32) then (F_Pri_writeAnything_c117_12 x2 t0_0 t0_1 t0_2 t0_3 t1_0 t2_0 t3_0 t4_0 t4_1 t5_0 t6_0 t7_0 t8_0 t9_0 t10_0 t11_0 t12_0 t13_0 t14_0 t15_0 t16_0 t17_0 t18_0 t19_0 t20_0 t21_0 t22_0 t23_0 t24_0 t25_0 ((F_Pri_copyInto (4104 : Int32) (513 : Int32) (1000000 : Int32) (64 : Int32) (8 : Int32) (64 : Int32) (0 : Int32) t14_0 t6_0 t7_0 t14_0 t15_0) : (Int32 × (Nat → Int64)))) else (if x2 = (4 : Int32) then (F_Pri_writeAnything_c117_13 x2 t0_0 t0_1 t0_2 t0_3 t1_0 t2_0 t3_0 t4_0 t4_1 t5_0 t6_0 t7_0 t8_0 t9_0 t10_0 t11_0 t12_0 t13_0 t14_0 t15_0 t16_0 t17_0 t18_0 t19_0 t20_0 t21_0 t22_0 t23_0 t24_0 t25_0 ((F_Pri_copyInto (4104 : Int32) (513 : Int32) (1000000 : Int32) (64 : Int32) (8 : Int32) (64 : Int32) (0 : Int32) t16_0 t6_0 t7_0 t16_0 t17_0) : (Int32 × (Nat → Int64)))) else (if x2 = (5 : Int32) then (F_Pri_writeAnything_c117_14 x2 t0_0 t0_1 t0_2 t0_3 t1_0 t2_0 t3_0 t4_0 t4_1 t5_0 t6_0 t7_0 t8_0 t9_0 t10_0 t11_0 t12_0 t13_0 t14_0 t15_0 t16_0 t17_0 t18_0 t19_0 t20_0 t21_0 t22_0 t23_0 t24_0 t25_0 ((F_Pri_copyInto (4104 : Int32) (513 : Int32) (1000000 : Int32) (64 : Int32) (8 : Int32) (64 : Int32) (0 : Int32) t18_0 t6_0 t7_0 t18_0 t19_0) : (Int32 × (Nat → Int64)))) else (if x2 = (6 : Int32) then (F_Pri_writeAnything_c117_15 x2 t0_0 t0_1 t0_2 t0_3 t1_0 t2_0 t3_0 t4_0 t4_1 t5_0 t6_0 t7_0 t8_0 t9_0 t10_0 t11_0 t12_0 t13_0 t14_0 t15_0 t16_0 t17_0 t18_0 t19_0 t20_0 t21_0 t22_0 t23_0 t24_0 t25_0 ((F_Pri_copyInto (4104 : Int32) (513 : Int32) (1000000 : Int32) (64 : Int32) (8 : Int32) (64 : Int32) (0 : Int32) t20_0 t6_0 t7_0 t20_0 t21_0) : (Int32 × (Nat → Int64)))) else (if x2 = (7 : Int32) then (F_Pri_writeAnything_c117_16 x2 t0_0 t0_1 t0_2 t0_3 t1_0 t2_0 t3_0 t4_0 t4_1 t5_0 t6_0 t7_0 t8_0 t9_0 t10_0 t11_0 t12_0 t13_0 t14_0 t15_0 t16_0 t17_0 t18_0 t19_0 t20_0 t21_0 t22_0 t23_0 t24_0 t25_0 ((F_Pri_copyInto (4104 : Int32) (513 : Int32) (1000000 : Int32) (64 : Int32) (8 : Int32) (64 : Int32) (0 : Int32) t22_0 t6_0 t7_0 t22_0 t23_0) : (Int32 × (Nat → Int64)))) else (F_Pri_writeAnything_c117_17 x2 t0_0 t0_1 t0_2 t0_3 t1_0 t2_0 t3_0 t4_0 t4_1 t5_0 t6_0 t7_0 t8_0 t9_0 t10_0 t11_0 t12_0 t13_0 t14_0 t15_0 t16_0 t17_0 t18_0 t19_0 t20_0 t21_0 t22_0 t23_0 t24_0 t25_0 ((F_Pri_copyInto (4104 : Int32) (513 : Int32) (1000000 : Int32) (64 : Int32) (8 : Int32) (64 : Int32) (0 : Int32) t24_0 t6_0 t7_0 t24_0 t25_0) : (Int32 × (Nat → Int64)))))))))))) else (if (0 : Int32) ≤ (lg_cmp (t2_0 x2.toNatClampNeg : Int64) 0 : Int32) then (F_Pri_writeAnything_J143_18 x2 t0_0 t0_1 t0_2 t0_3 t1_0 t2_0 t3_0 t4_0 t4_1 t5_0 t6_0 t7_0 t8_0 t9_0 t10_0 t11_0 t12_0 t13_0 t14_0 t15_0 t16_0 t17_0 t18_0 t19_0 t20_0 t21_0 t22_0 t23_0 t24_0 t25_0 t6_0 t7_0) else (F_Pri_writeAnything_c140_21 x2 t0_0 t0_1 t0_2 t0_3 t1_0 t2_0 t3_0 t4_0 t4_1 t5_0 t6_0 t7_0 t8_0 t9_0 t10_0 t11_0 t12_0 t13_0 t14_0 t15_0 t16_0 t17_0 t18_0 t19_0 t20_0 t21_0 t22_0 t23_0 t24_0 t25_0 ((F_She_add_p (4104 : Int32) (513 : Int32) (1000000 : Int32) (45 : Int32) t6_0 t7_0) : (Int32 × (Nat → Int64)))))))))
set_option maxRecDepth 100000 in
set_option maxHeartbeats 4000000 in
theorem X_Pri_writeAnything (l : Launch) (D : va_G) (g : Nat → ClassId) (q : Nat → Nat) (ws : va_W) (x2 : Int32) (hI : q_I (nsh g q) q ws) (t0_0 : Int32) (t0_1 : Int32) (t0_2 : Int32) (t0_3 : Int32) (hT0 : ws[40]? = (some (q 40, .inr (11, [.int t0_0, .ref (q 41), .ref (q 42), .ref (q 43), .ref (q 44), .ref (q 1), .ref (q 47), .ref (q 36), .ref (q 45), .int t0_1, .int t0_2, .int t0_3])) : Option (Nat × va_E))) (t1_0 : (Nat → Int32)) (hT1 : ws[41]? = (some (q 41, .inl (g 0, 9, .inl t1_0)) : Option (Nat × va_E))) (t2_0 : (Nat → Int64)) (hT2 : ws[42]? = (some (q 42, .inl (g 1, 9, .inr (.inl t2_0))) : Option (Nat × va_E))) (t3_0 : (Nat → Int32)) (hT3 : ws[43]? = (some (q 43, .inl (g 0, 9, .inl t3_0)) : Option (Nat × va_E))) (t4_0 : Int32) (t4_1 : Int32) (hT4 : ws[36]? = (some (q 36, .inr (7, [.int t4_0, .int t4_1, .ref (q 37)])) : Option (Nat × va_E))) (t5_0 : (Nat → Int32)) (hT5 : ws[37]? = (some (q 37, .inl (g 2, 1026, .inl t5_0)) : Option (Nat × va_E))) (t6_0 : Int32) (hT6 : ws[45]? = (some (q 45, .inr (1, [.ref (q 46), .int 4104, .int t6_0])) : Option (Nat × va_E))) (t7_0 : (Nat → Int64)) (hT7 : ws[46]? = (some (q 46, .inl (g 1, (513 : Int32).toNatClampNeg, .inr (.inl t7_0))) : Option (Nat × va_E))) (t8_0 : Int32) (hT8 : ws[48]? = (some (q 48, .inr (1, [.ref (q 49), .int 64, .int t8_0])) : Option (Nat × va_E))) (t9_0 : (Nat → Int64)) (hT9 : ws[49]? = (some (q 49, .inl (g 1, (8 : Int32).toNatClampNeg, .inr (.inl t9_0))) : Option (Nat × va_E))) (t10_0 : Int32) (hT10 : ws[50]? = (some (q 50, .inr (1, [.ref (q 51), .int 64, .int t10_0])) : Option (Nat × va_E))) (t11_0 : (Nat → Int64)) (hT11 : ws[51]? = (some (q 51, .inl (g 1, (8 : Int32).toNatClampNeg, .inr (.inl t11_0))) : Option (Nat × va_E))) (t12_0 : Int32) (hT12 : ws[52]? = (some (q 52, .inr (1, [.ref (q 53), .int 64, .int t12_0])) : Option (Nat × va_E))) (t13_0 : (Nat → Int64)) (hT13 : ws[53]? = (some (q 53, .inl (g 1, (8 : Int32).toNatClampNeg, .inr (.inl t13_0))) : Option (Nat × va_E))) (t14_0 : Int32) (hT14 : ws[54]? = (some (q 54, .inr (1, [.ref (q 55), .int 64, .int t14_0])) : Option (Nat × va_E))) (t15_0 : (Nat → Int64)) (hT15 : ws[55]? = (some (q 55, .inl (g 1, (8 : Int32).toNatClampNeg, .inr (.inl t15_0))) : Option (Nat × va_E))) (t16_0 : Int32) (hT16 : ws[56]? = (some (q 56, .inr (1, [.ref (q 57), .int 64, .int t16_0])) : Option (Nat × va_E))) (t17_0 : (Nat → Int64)) (hT17 : ws[57]? = (some (q 57, .inl (g 1, (8 : Int32).toNatClampNeg, .inr (.inl t17_0))) : Option (Nat × va_E))) (t18_0 : Int32) (hT18 : ws[58]? = (some (q 58, .inr (1, [.ref (q 59), .int 64, .int t18_0])) : Option (Nat × va_E))) (t19_0 : (Nat → Int64)) (hT19 : ws[59]? = (some (q 59, .inl (g 1, (8 : Int32).toNatClampNeg, .inr (.inl t19_0))) : Option (Nat × va_E))) (t20_0 : Int32) (hT20 : ws[60]? = (some (q 60, .inr (1, [.ref (q 61), .int 64, .int t20_0])) : Option (Nat × va_E))) (t21_0 : (Nat → Int64)) (hT21 : ws[61]? = (some (q 61, .inl (g 1, (8 : Int32).toNatClampNeg, .inr (.inl t21_0))) : Option (Nat × va_E))) (t22_0 : Int32) (hT22 : ws[62]? = (some (q 62, .inr (1, [.ref (q 63), .int 64, .int t22_0])) : Option (Nat × va_E))) (t23_0 : (Nat → Int64)) (hT23 : ws[63]? = (some (q 63, .inl (g 1, (8 : Int32).toNatClampNeg, .inr (.inl t23_0))) : Option (Nat × va_E))) (t24_0 : Int32) (hT24 : ws[64]? = (some (q 64, .inr (1, [.ref (q 65), .int 64, .int t24_0])) : Option (Nat × va_E))) (t25_0 : (Nat → Int64)) (hT25 : ws[65]? = (some (q 65, .inl (g 1, (8 : Int32).toNatClampNeg, .inr (.inl t25_0))) : Option (Nat × va_E))) (pre0 : 0 ≤ x2.toInt) (pre1 : x2.toInt ≤ 8) (pre2 : t6_0.toInt ≤ 10) : q_mV l y_Pri_writeAnything prog_9_method_11_code 2 6 0 0 D g [.ref (q 40), .int x2] ws (fun u => q_I (nsh g q) q u ∧ q_un ws u [36, 37, 45, 46] ∧ ∃ (u4_0 : Int32) (u4_1 : Int32) (u5_0 : (Nat → Int32)) (u6_0 : Int32) (u7_0 : (Nat → Int64)), u[36]? = (some (q 36, .inr (7, [.int u4_0, .int u4_1, .ref (q 37)])) : Option (Nat × va_E)) ∧ u[37]? = (some (q 37, .inl (g 2, 1026, .inl u5_0)) : Option (Nat × va_E)) ∧ u[45]? = (some (q 45, .inr (1, [.ref (q 46), .int 4104, .int u6_0])) : Option (Nat × va_E)) ∧ u[46]? = (some (q 46, .inl (g 1, (513 : Int32).toNatClampNeg, .inr (.inl u7_0))) : Option (Nat × va_E)) ∧ (0 ≤ u4_0.toInt) ∧ (u4_0.toInt ≤ 1026) ∧ (0 ≤ u4_1.toInt + 1000000) ∧ (u4_1.toInt ≤ 1000000) ∧ (u4_0.toInt ≤ t4_0.toInt + 20) ∧ (t4_1.toInt ≤ u4_1.toInt + 1020000) ∧ (u4_1.toInt ≤ t4_1.toInt + 1020019) ∧ (t6_0.toInt ≤ u6_0.toInt) ∧ (u6_0.toInt ≤ t6_0.toInt + 420004) ∧ (u6_0.toInt ≤ u4_1.toInt + 1000074) ∧ (u4_0, u4_1, u5_0, u6_0, u7_0) = (F_Pri_writeAnything x2 t0_0 t0_1 t0_2 t0_3 t1_0 t2_0 t3_0 t4_0 t4_1 t5_0 t6_0 t7_0 t8_0 t9_0 t10_0 t11_0 t12_0 t13_0 t14_0 t15_0 t16_0 t17_0 t18_0 t19_0 t20_0 t21_0 t22_0 t23_0 t24_0 t25_0)) := by
  intro sz
  refine q_into (by decide) (Nat.le_of_ble_eq_true rfl) ?_
  intro p e s m below meth c ls hsz C0 V hl
  have hx := C0.1
  have hb := C0.2.1
  have hZ9 := (n_w40 hI hT0).2
  obtain ⟨-, btt0_3⟩ := hZ9
  clear btt0_3
  obtain ⟨btt4_0, btt4_1⟩ := n_w36 hI hT4
  replace btt4_0 : q_F (0 ≤ t4_0.toInt ∧ t4_0.toInt ≤ 1026) := btt4_0
  replace btt4_1 : q_F (-1000000 ≤ t4_1.toInt ∧ t4_1.toInt ≤ 1000000) := btt4_1
  have btt6_0 := n_shW hI (n_h45 g q) hT6
  clear btt6_0
  have btt8_0 := n_shW hI (n_h48 g q) hT8
  replace btt8_0 : q_F (0 ≤ t8_0.toInt ∧ t8_0.toInt ≤ 64) := btt8_0
  have btt10_0 := n_shW hI (n_h50 g q) hT10
  replace btt10_0 : q_F (0 ≤ t10_0.toInt ∧ t10_0.toInt ≤ 64) := btt10_0
  have btt12_0 := n_shW hI (n_h52 g q) hT12
  replace btt12_0 : q_F (0 ≤ t12_0.toInt ∧ t12_0.toInt ≤ 64) := btt12_0
  have btt14_0 := n_shW hI (n_h54 g q) hT14
  replace btt14_0 : q_F (0 ≤ t14_0.toInt ∧ t14_0.toInt ≤ 64) := btt14_0
  have btt16_0 := n_shW hI (n_h56 g q) hT16
  replace btt16_0 : q_F (0 ≤ t16_0.toInt ∧ t16_0.toInt ≤ 64) := btt16_0
  have btt18_0 := n_shW hI (n_h58 g q) hT18
  replace btt18_0 : q_F (0 ≤ t18_0.toInt ∧ t18_0.toInt ≤ 64) := btt18_0
  have btt20_0 := n_shW hI (n_h60 g q) hT20
  replace btt20_0 : q_F (0 ≤ t20_0.toInt ∧ t20_0.toInt ≤ 64) := btt20_0
  have btt22_0 := n_shW hI (n_h62 g q) hT22
  replace btt22_0 : q_F (0 ≤ t22_0.toInt ∧ t22_0.toInt ≤ 64) := btt22_0
  have btt24_0 := n_shW hI (n_h64 g q) hT24
  replace btt24_0 : q_F (0 ≤ t24_0.toInt ∧ t24_0.toInt ≤ 64) := btt24_0
  replace pre0 : q_F (0 ≤ x2.toInt) := pre0
  replace pre1 : q_F (x2.toInt ≤ 8) := pre1
  replace pre2 : q_F (t6_0.toInt ≤ 10) := pre2
  have hF : q_un ws ws [36, 37, 45, 46] := q_u0
  have hl : lv_has ls 2 [(0, .ref (q 40)), (1, .int x2)] := hl
  refine lv_aload_n hx hb d_9_11_0 rfl (lv_at hl 0 rfl) ?_
  refine q_get (ci := 11) (j := 1) (v := .ref (q 41)) C0 V i_Pri rfl rfl hT0 (by decide) w_386 rfl d_9_11_1 ?_
  refine lv_iload_n hx hb d_9_11_4 rfl (lv_at hl 1 rfl) ?_
  refine q_iald C0 V hT1 (q_ix (x := x2.toInt) rfl (by first | with_reducible exact q_fe pre0 | (have t1 : 0 ≤ x2.toInt := pre0; omega)) (by have t1 : 0 ≤ x2.toInt := pre0; have t2 : x2.toInt ≤ 8 := pre1; omega)) d_9_11_5 ?_
  obtain ⟨a75, e76⟩ := q_nm (t1_0 x2.toNatClampNeg : Int32)
  refine q_ti (v := a75) e76 ?_
  by_cases c77 : a75 = 0
  ·
    refine q_ti (v := 0) c77 ?_
    refine lv_tableIn (tgt := 40) (off := 34) hx hb d_9_11_6 (by decide) (by decide) (by decide) (by decide) ?_
    refine lv_aload_n hx hb d_9_11_40 rfl (lv_at hl 0 rfl) ?_
    refine q_get (ci := 11) (j := 8) (v := .ref (q 45)) C0 V i_Pri rfl rfl hT0 (by decide) w_393 rfl d_9_11_41 ?_
    refine q_ldcs (i := 15) C0 V rfl rfl d_9_11_44 ?_
    refine q_gov V (q_runV (As := [.ref (g (8 + 2 * 15))]) (rest := []) (d := 5) (mc := 0) (ms := 0) (ci := 1) C0 V rfl LV_Pri_165 (X_She_addText_15 l D g q ws 45 4104 513 1000000 (n_h45 g q)  hI t6_0 hT6 t7_0 hT7 (by have y0 : (4104 : Int32).toInt = 4104 := rfl; have y1 : (513 : Int32).toInt = 513 := rfl; have y2 : (1000000 : Int32).toInt = 1000000 := rfl; have t1 : t6_0.toInt ≤ 10 := pre2; omega) _) rfl rfl hT6 rfl hl.1 rfl (Nat.le_of_ble_eq_true rfl) ⟨by decide, by decide⟩ ⟨Nat.le_of_ble_eq_true rfl, Nat.le_of_ble_eq_true rfl⟩ d_9_11_46) (fun u79 H locs hp80 V => ?_)
    obtain ⟨hI, hZ9⟩ := hp80
    obtain ⟨hu88, hZ9⟩ := hZ9
    obtain ⟨y82, hZ9⟩ := hZ9
    obtain ⟨f83, hZ9⟩ := hZ9
    obtain ⟨hO81, hZ9⟩ := hZ9
    obtain ⟨hA84, hZ9⟩ := hZ9
    obtain ⟨b85, hZ9⟩ := hZ9
    obtain ⟨b86, hE87⟩ := hZ9
    replace hO81 : u79[45]? = (some (q 45, .inr (1, [.ref (q 46), .int 4104, .int y82])) : Option (Nat × va_E)) := hO81
    replace hA84 : u79[46]? = (some (q 46, .inl (g 1, (513 : Int32).toNatClampNeg, .inr (.inl f83))) : Option (Nat × va_E)) := hA84
    obtain ⟨p89, e90⟩ : ∃ z, z = (F_She_addText_15 (4104 : Int32) (513 : Int32) (1000000 : Int32) t6_0 t7_0) := ⟨_, rfl⟩
    have e91 : y82 = p89.1 := congrArg (fun z => z.1) (hE87.trans e90.symm)
    have e92 : f83 = p89.2 := congrArg (fun z => z.2) (hE87.trans e90.symm)
    replace b85 : q_F (t6_0.toInt + 4 ≤ y82.toInt) := b85
    replace b86 : q_F (y82.toInt ≤ t6_0.toInt + 4) := b86
    replace hT4 := (hu88 _ (by decide)).trans hT4
    replace hT5 := (hu88 _ (by decide)).trans hT5
    replace hF := q_uc hF hu88 (by first | exact (q_sk (q_mi 2 rfl) (q_sk (q_mi 3 rfl) q_s0)) | simp)
    have hR93 := (show F_Pri_writeAnything_c46 x2 t0_0 t0_1 t0_2 t0_3 t1_0 t2_0 t3_0 t4_0 t4_1 t5_0 t6_0 t7_0 t8_0 t9_0 t10_0 t11_0 t12_0 t13_0 t14_0 t15_0 t16_0 t17_0 t18_0 t19_0 t20_0 t21_0 t22_0 t23_0 t24_0 t25_0 p89 = (F_Pri_writeAnything x2 t0_0 t0_1 t0_2 t0_3 t1_0 t2_0 t3_0 t4_0 t4_1 t5_0 t6_0 t7_0 t8_0 t9_0 t10_0 t11_0 t12_0 t13_0 t14_0 t15_0 t16_0 t17_0 t18_0 t19_0 t20_0 t21_0 t22_0 t23_0 t24_0 t25_0) from (by have c77x := c77; rw [← e76] at c77x; rw [e90, F_Pri_writeAnything.eq_1, if_pos c77x]))
    refine lv_goto (tgt := 181) hx hb d_9_11_49 (by decide) ?_
    exact q_retv C0 V (⟨hI, hF, t4_0, t4_1, t5_0, y82, f83, hT4, hT5, hO81, hA84, (show 0 ≤ t4_0.toInt from (by first | with_reducible exact (q_fe btt4_0).2 | with_reducible exact (q_fe btt4_0).1 | (have t1 : 0 ≤ t4_0.toInt ∧ t4_0.toInt ≤ 1026 := btt4_0; omega))), (show t4_0.toInt ≤ 1026 from (by first | with_reducible exact (q_fe btt4_0).2 | with_reducible exact (q_fe btt4_0).1 | (have t1 : 0 ≤ t4_0.toInt ∧ t4_0.toInt ≤ 1026 := btt4_0; omega))), (show 0 ≤ t4_1.toInt + 1000000 from (by first | with_reducible exact (q_fe btt4_1).2 | with_reducible exact (q_fe btt4_1).1 | (have t1 : -1000000 ≤ t4_1.toInt ∧ t4_1.toInt ≤ 1000000 := btt4_1; omega))), (show t4_1.toInt ≤ 1000000 from (by first | with_reducible exact (q_fe btt4_1).2 | with_reducible exact (q_fe btt4_1).1 | (have t1 : -1000000 ≤ t4_1.toInt ∧ t4_1.toInt ≤ 1000000 := btt4_1; omega))), (show t4_0.toInt ≤ t4_0.toInt + 20 from (by omega)), (show t4_1.toInt ≤ t4_1.toInt + 1020000 from (by omega)), (show t4_1.toInt ≤ t4_1.toInt + 1020019 from (by omega)), (show t6_0.toInt ≤ y82.toInt from (by first | with_reducible exact q_fe b85 | (have t1 : t6_0.toInt + 4 ≤ y82.toInt := b85; omega))), (show y82.toInt ≤ t6_0.toInt + 420004 from (by first | with_reducible exact q_fe b86 | (have t1 : y82.toInt ≤ t6_0.toInt + 4 := b86; omega))), (show y82.toInt ≤ t4_1.toInt + 1000074 from (by have t1 : -1000000 ≤ t4_1.toInt ∧ t4_1.toInt ≤ 1000000 := btt4_1; have t2 : t6_0.toInt ≤ 10 := pre2; have t3 : y82.toInt ≤ t6_0.toInt + 4 := b86; omega)), (show (t4_0, t4_1, t5_0, y82, f83) = (F_Pri_writeAnything x2 t0_0 t0_1 t0_2 t0_3 t1_0 t2_0 t3_0 t4_0 t4_1 t5_0 t6_0 t7_0 t8_0 t9_0 t10_0 t11_0 t12_0 t13_0 t14_0 t15_0 t16_0 t17_0 t18_0 t19_0 t20_0 t21_0 t22_0 t23_0 t24_0 t25_0) from Eq.trans (by rw [e92, e91, F_Pri_writeAnything_c46.eq_1]) hR93)⟩) d_9_11_181
  by_cases c99 : a75 = 1
  ·
    refine q_ti (v := 1) c99 ?_
    refine lv_tableIn (tgt := 52) (off := 46) hx hb d_9_11_6 (by decide) (by decide) (by decide) (by decide) ?_
    refine lv_aload_n hx hb d_9_11_52 rfl (lv_at hl 0 rfl) ?_
    refine q_get (ci := 11) (j := 8) (v := .ref (q 45)) C0 V i_Pri rfl rfl hT0 (by decide) w_393 rfl d_9_11_53 ?_
    refine lv_aload_n hx hb d_9_11_56 rfl (lv_at hl 0 rfl) ?_
    refine q_get (ci := 11) (j := 2) (v := .ref (q 42)) C0 V i_Pri rfl rfl hT0 (by decide) w_387 rfl d_9_11_57 ?_
    refine lv_iload_n hx hb d_9_11_60 rfl (lv_at hl 1 rfl) ?_
    refine q_lald C0 V hT2 (q_ix (x := x2.toInt) rfl (by first | with_reducible exact q_fe pre0 | (have t1 : 0 ≤ x2.toInt := pre0; omega)) (by have t1 : 0 ≤ x2.toInt := pre0; have t2 : x2.toInt ≤ 8 := pre1; omega)) d_9_11_61 ?_
    obtain ⟨j101, e102⟩ := q_nm (t2_0 x2.toNatClampNeg : Int64)
    refine q_tl (v := j101) e102 ?_
    refine lv_lconst (v := 0) hx hb d_9_11_62 (by decide) ?_
    refine W.lcmp hx hb d_9_11_63 ?_
    obtain ⟨a103, e104⟩ := q_nm (lg_cmp j101 0 : Int32)
    refine q_ti (v := a103) e104 ?_
    refine lv_if_ne (tgt := 72) hx hb d_9_11_64 (by decide) (fun c106 => ?_) (fun c106 => ?_)
    ·
      refine q_ldcs (i := 13) C0 V rfl rfl d_9_11_72 ?_
      refine q_gov V (q_runV (As := [.ref (g (8 + 2 * 13))]) (rest := []) (d := 5) (mc := 0) (ms := 0) (ci := 1) C0 V rfl LV_Pri_165 (X_She_addText_13 l D g q ws 45 4104 513 1000000 (n_h45 g q)  hI t6_0 hT6 t7_0 hT7 (by have y0 : (4104 : Int32).toInt = 4104 := rfl; have y1 : (513 : Int32).toInt = 513 := rfl; have y2 : (1000000 : Int32).toInt = 1000000 := rfl; have t1 : t6_0.toInt ≤ 10 := pre2; omega) _) rfl rfl hT6 rfl hl.1 rfl (Nat.le_of_ble_eq_true rfl) ⟨by decide, by decide⟩ ⟨Nat.le_of_ble_eq_true rfl, Nat.le_of_ble_eq_true rfl⟩ d_9_11_74) (fun u108 H locs hp109 V => ?_)
      obtain ⟨hI, hZ9⟩ := hp109
      obtain ⟨hu117, hZ9⟩ := hZ9
      obtain ⟨y111, hZ9⟩ := hZ9
      obtain ⟨f112, hZ9⟩ := hZ9
      obtain ⟨hO110, hZ9⟩ := hZ9
      obtain ⟨hA113, hZ9⟩ := hZ9
      obtain ⟨b114, hZ9⟩ := hZ9
      obtain ⟨b115, hE116⟩ := hZ9
      replace hO110 : u108[45]? = (some (q 45, .inr (1, [.ref (q 46), .int 4104, .int y111])) : Option (Nat × va_E)) := hO110
      replace hA113 : u108[46]? = (some (q 46, .inl (g 1, (513 : Int32).toNatClampNeg, .inr (.inl f112))) : Option (Nat × va_E)) := hA113
      obtain ⟨p118, e119⟩ : ∃ z, z = (F_She_addText_13 (4104 : Int32) (513 : Int32) (1000000 : Int32) t6_0 t7_0) := ⟨_, rfl⟩
      have e120 : y111 = p118.1 := congrArg (fun z => z.1) (hE116.trans e119.symm)
      have e121 : f112 = p118.2 := congrArg (fun z => z.2) (hE116.trans e119.symm)
      replace b114 : q_F (t6_0.toInt + 4 ≤ y111.toInt) := b114
      replace b115 : q_F (y111.toInt ≤ t6_0.toInt + 4) := b115
      replace hT4 := (hu117 _ (by decide)).trans hT4
      replace hT5 := (hu117 _ (by decide)).trans hT5
      replace hF := q_uc hF hu117 (by first | exact (q_sk (q_mi 2 rfl) (q_sk (q_mi 3 rfl) q_s0)) | simp)
      have hR122 := (show F_Pri_writeAnything_c74 x2 t0_0 t0_1 t0_2 t0_3 t1_0 t2_0 t3_0 t4_0 t4_1 t5_0 t6_0 t7_0 t8_0 t9_0 t10_0 t11_0 t12_0 t13_0 t14_0 t15_0 t16_0 t17_0 t18_0 t19_0 t20_0 t21_0 t22_0 t23_0 t24_0 t25_0 p118 = (F_Pri_writeAnything x2 t0_0 t0_1 t0_2 t0_3 t1_0 t2_0 t3_0 t4_0 t4_1 t5_0 t6_0 t7_0 t8_0 t9_0 t10_0 t11_0 t12_0 t13_0 t14_0 t15_0 t16_0 t17_0 t18_0 t19_0 t20_0 t21_0 t22_0 t23_0 t24_0 t25_0) from (by have c77x := c77; rw [← e76] at c77x; have c99x := c99; rw [← e76] at c99x; have c106x := c106; rw [← e104, ← e102] at c106x; rw [e119, F_Pri_writeAnything.eq_1, if_neg c77x, if_pos c99x, if_neg c106x]))
      refine lv_goto (tgt := 181) hx hb d_9_11_77 (by decide) ?_
      exact q_retv C0 V (⟨hI, hF, t4_0, t4_1, t5_0, y111, f112, hT4, hT5, hO110, hA113, (show 0 ≤ t4_0.toInt from (by first | with_reducible exact (q_fe btt4_0).2 | with_reducible exact (q_fe btt4_0).1 | (have t1 : 0 ≤ t4_0.toInt ∧ t4_0.toInt ≤ 1026 := btt4_0; omega))), (show t4_0.toInt ≤ 1026 from (by first | with_reducible exact (q_fe btt4_0).2 | with_reducible exact (q_fe btt4_0).1 | (have t1 : 0 ≤ t4_0.toInt ∧ t4_0.toInt ≤ 1026 := btt4_0; omega))), (show 0 ≤ t4_1.toInt + 1000000 from (by first | with_reducible exact (q_fe btt4_1).2 | with_reducible exact (q_fe btt4_1).1 | (have t1 : -1000000 ≤ t4_1.toInt ∧ t4_1.toInt ≤ 1000000 := btt4_1; omega))), (show t4_1.toInt ≤ 1000000 from (by first | with_reducible exact (q_fe btt4_1).2 | with_reducible exact (q_fe btt4_1).1 | (have t1 : -1000000 ≤ t4_1.toInt ∧ t4_1.toInt ≤ 1000000 := btt4_1; omega))), (show t4_0.toInt ≤ t4_0.toInt + 20 from (by omega)), (show t4_1.toInt ≤ t4_1.toInt + 1020000 from (by omega)), (show t4_1.toInt ≤ t4_1.toInt + 1020019 from (by omega)), (show t6_0.toInt ≤ y111.toInt from (by first | with_reducible exact q_fe b114 | (have t1 : t6_0.toInt + 4 ≤ y111.toInt := b114; omega))), (show y111.toInt ≤ t6_0.toInt + 420004 from (by first | with_reducible exact q_fe b115 | (have t1 : y111.toInt ≤ t6_0.toInt + 4 := b115; omega))), (show y111.toInt ≤ t4_1.toInt + 1000074 from (by have t1 : -1000000 ≤ t4_1.toInt ∧ t4_1.toInt ≤ 1000000 := btt4_1; have t2 : t6_0.toInt ≤ 10 := pre2; have t3 : y111.toInt ≤ t6_0.toInt + 4 := b115; omega)), (show (t4_0, t4_1, t5_0, y111, f112) = (F_Pri_writeAnything x2 t0_0 t0_1 t0_2 t0_3 t1_0 t2_0 t3_0 t4_0 t4_1 t5_0 t6_0 t7_0 t8_0 t9_0 t10_0 t11_0 t12_0 t13_0 t14_0 t15_0 t16_0 t17_0 t18_0 t19_0 t20_0 t21_0 t22_0 t23_0 t24_0 t25_0) from Eq.trans (by rw [e121, e120, F_Pri_writeAnything_c74.eq_1]) hR122)⟩) d_9_11_181
    ·
      refine q_ldcs (i := 12) C0 V rfl rfl d_9_11_67 ?_
      refine lv_goto (tgt := 74) hx hb d_9_11_69 (by decide) ?_
      refine q_gov V (q_runV (As := [.ref (g (8 + 2 * 12))]) (rest := []) (d := 5) (mc := 0) (ms := 0) (ci := 1) C0 V rfl LV_Pri_165 (X_She_addText_12 l D g q ws 45 4104 513 1000000 (n_h45 g q)  hI t6_0 hT6 t7_0 hT7 (by have y0 : (4104 : Int32).toInt = 4104 := rfl; have y1 : (513 : Int32).toInt = 513 := rfl; have y2 : (1000000 : Int32).toInt = 1000000 := rfl; have t1 : t6_0.toInt ≤ 10 := pre2; omega) _) rfl rfl hT6 rfl hl.1 rfl (Nat.le_of_ble_eq_true rfl) ⟨by decide, by decide⟩ ⟨Nat.le_of_ble_eq_true rfl, Nat.le_of_ble_eq_true rfl⟩ d_9_11_74) (fun u128 H locs hp129 V => ?_)
      obtain ⟨hI, hZ9⟩ := hp129
      obtain ⟨hu137, hZ9⟩ := hZ9
      obtain ⟨y131, hZ9⟩ := hZ9
      obtain ⟨f132, hZ9⟩ := hZ9
      obtain ⟨hO130, hZ9⟩ := hZ9
      obtain ⟨hA133, hZ9⟩ := hZ9
      obtain ⟨b134, hZ9⟩ := hZ9
      obtain ⟨b135, hE136⟩ := hZ9
      replace hO130 : u128[45]? = (some (q 45, .inr (1, [.ref (q 46), .int 4104, .int y131])) : Option (Nat × va_E)) := hO130
      replace hA133 : u128[46]? = (some (q 46, .inl (g 1, (513 : Int32).toNatClampNeg, .inr (.inl f132))) : Option (Nat × va_E)) := hA133
      obtain ⟨p138, e139⟩ : ∃ z, z = (F_She_addText_12 (4104 : Int32) (513 : Int32) (1000000 : Int32) t6_0 t7_0) := ⟨_, rfl⟩
      have e140 : y131 = p138.1 := congrArg (fun z => z.1) (hE136.trans e139.symm)
      have e141 : f132 = p138.2 := congrArg (fun z => z.2) (hE136.trans e139.symm)
      replace b134 : q_F (t6_0.toInt + 5 ≤ y131.toInt) := b134
      replace b135 : q_F (y131.toInt ≤ t6_0.toInt + 5) := b135
      replace hT4 := (hu137 _ (by decide)).trans hT4
      replace hT5 := (hu137 _ (by decide)).trans hT5
      replace hF := q_uc hF hu137 (by first | exact (q_sk (q_mi 2 rfl) (q_sk (q_mi 3 rfl) q_s0)) | simp)
      have hR142 := (show F_Pri_writeAnything_c74_3 x2 t0_0 t0_1 t0_2 t0_3 t1_0 t2_0 t3_0 t4_0 t4_1 t5_0 t6_0 t7_0 t8_0 t9_0 t10_0 t11_0 t12_0 t13_0 t14_0 t15_0 t16_0 t17_0 t18_0 t19_0 t20_0 t21_0 t22_0 t23_0 t24_0 t25_0 p138 = (F_Pri_writeAnything x2 t0_0 t0_1 t0_2 t0_3 t1_0 t2_0 t3_0 t4_0 t4_1 t5_0 t6_0 t7_0 t8_0 t9_0 t10_0 t11_0 t12_0 t13_0 t14_0 t15_0 t16_0 t17_0 t18_0 t19_0 t20_0 t21_0 t22_0 t23_0 t24_0 t25_0) from (by have c77x := c77; rw [← e76] at c77x; have c99x := c99; rw [← e76] at c99x; have c106x := c106; rw [← e104, ← e102] at c106x; rw [e139, F_Pri_writeAnything.eq_1, if_neg c77x, if_pos c99x, if_pos c106x]))
      refine lv_goto (tgt := 181) hx hb d_9_11_77 (by decide) ?_
      exact q_retv C0 V (⟨hI, hF, t4_0, t4_1, t5_0, y131, f132, hT4, hT5, hO130, hA133, (show 0 ≤ t4_0.toInt from (by first | with_reducible exact (q_fe btt4_0).2 | with_reducible exact (q_fe btt4_0).1 | (have t1 : 0 ≤ t4_0.toInt ∧ t4_0.toInt ≤ 1026 := btt4_0; omega))), (show t4_0.toInt ≤ 1026 from (by first | with_reducible exact (q_fe btt4_0).2 | with_reducible exact (q_fe btt4_0).1 | (have t1 : 0 ≤ t4_0.toInt ∧ t4_0.toInt ≤ 1026 := btt4_0; omega))), (show 0 ≤ t4_1.toInt + 1000000 from (by first | with_reducible exact (q_fe btt4_1).2 | with_reducible exact (q_fe btt4_1).1 | (have t1 : -1000000 ≤ t4_1.toInt ∧ t4_1.toInt ≤ 1000000 := btt4_1; omega))), (show t4_1.toInt ≤ 1000000 from (by first | with_reducible exact (q_fe btt4_1).2 | with_reducible exact (q_fe btt4_1).1 | (have t1 : -1000000 ≤ t4_1.toInt ∧ t4_1.toInt ≤ 1000000 := btt4_1; omega))), (show t4_0.toInt ≤ t4_0.toInt + 20 from (by omega)), (show t4_1.toInt ≤ t4_1.toInt + 1020000 from (by omega)), (show t4_1.toInt ≤ t4_1.toInt + 1020019 from (by omega)), (show t6_0.toInt ≤ y131.toInt from (by first | with_reducible exact q_fe b134 | (have t1 : t6_0.toInt + 5 ≤ y131.toInt := b134; omega))), (show y131.toInt ≤ t6_0.toInt + 420004 from (by first | with_reducible exact q_fe b135 | (have t1 : y131.toInt ≤ t6_0.toInt + 5 := b135; omega))), (show y131.toInt ≤ t4_1.toInt + 1000074 from (by have t1 : -1000000 ≤ t4_1.toInt ∧ t4_1.toInt ≤ 1000000 := btt4_1; have t2 : t6_0.toInt ≤ 10 := pre2; have t3 : y131.toInt ≤ t6_0.toInt + 5 := b135; omega)), (show (t4_0, t4_1, t5_0, y131, f132) = (F_Pri_writeAnything x2 t0_0 t0_1 t0_2 t0_3 t1_0 t2_0 t3_0 t4_0 t4_1 t5_0 t6_0 t7_0 t8_0 t9_0 t10_0 t11_0 t12_0 t13_0 t14_0 t15_0 t16_0 t17_0 t18_0 t19_0 t20_0 t21_0 t22_0 t23_0 t24_0 t25_0) from Eq.trans (by rw [e141, e140, F_Pri_writeAnything_c74_3.eq_1]) hR142)⟩) d_9_11_181
  by_cases c148 : a75 = 2
  ·
    refine q_ti (v := 2) c148 ?_
    refine lv_tableIn (tgt := 80) (off := 74) hx hb d_9_11_6 (by decide) (by decide) (by decide) (by decide) ?_
    refine lv_aload_n hx hb d_9_11_80 rfl (lv_at hl 0 rfl) ?_
    refine q_get (ci := 11) (j := 8) (v := .ref (q 45)) C0 V i_Pri rfl rfl hT0 (by decide) w_393 rfl d_9_11_81 ?_
    refine lv_aload_n hx hb d_9_11_84 rfl (lv_at hl 0 rfl) ?_
    refine q_get (ci := 11) (j := 2) (v := .ref (q 42)) C0 V i_Pri rfl rfl hT0 (by decide) w_387 rfl d_9_11_85 ?_
    refine lv_iload_n hx hb d_9_11_88 rfl (lv_at hl 1 rfl) ?_
    refine q_lald C0 V hT2 (q_ix (x := x2.toInt) rfl (by first | with_reducible exact q_fe pre0 | (have t1 : 0 ≤ x2.toInt := pre0; omega)) (by have t1 : 0 ≤ x2.toInt := pre0; have t2 : x2.toInt ≤ 8 := pre1; omega)) d_9_11_89 ?_
    obtain ⟨j150, e151⟩ := q_nm (t2_0 x2.toNatClampNeg : Int64)
    refine q_tl (v := j150) e151 ?_
    refine lv_l2i hx hb d_9_11_90 rfl ?_
    obtain ⟨a152, e153⟩ := q_nm (j150.toInt32 : Int32)
    refine q_ti (v := a152) e153 ?_
    refine q_gov V (q_runV (As := [.int a152]) (rest := []) (d := 1) (mc := 0) (ms := 0) (ci := 1) C0 V rfl LV_Pri_113 (X_She_add_p l D g q ws 45 4104 513 1000000 (n_h45 g q) a152 hI t6_0 hT6 t7_0 hT7 (by have y0 : (4104 : Int32).toInt = 4104 := rfl; have y1 : (513 : Int32).toInt = 513 := rfl; have y2 : (1000000 : Int32).toInt = 1000000 := rfl; have t1 : t6_0.toInt ≤ 10 := pre2; omega) _) rfl rfl hT6 rfl hl.1 rfl (Nat.le_of_ble_eq_true rfl) ⟨by decide, by decide⟩ ⟨Nat.le_of_ble_eq_true rfl, Nat.le_of_ble_eq_true rfl⟩ d_9_11_91) (fun u154 H locs hp155 V => ?_)
    obtain ⟨hI, hZ9⟩ := hp155
    obtain ⟨hu163, hZ9⟩ := hZ9
    obtain ⟨y157, hZ9⟩ := hZ9
    obtain ⟨f158, hZ9⟩ := hZ9
    obtain ⟨hO156, hZ9⟩ := hZ9
    obtain ⟨hA159, hZ9⟩ := hZ9
    obtain ⟨b160, hZ9⟩ := hZ9
    obtain ⟨b161, hE162⟩ := hZ9
    replace hO156 : u154[45]? = (some (q 45, .inr (1, [.ref (q 46), .int 4104, .int y157])) : Option (Nat × va_E)) := hO156
    replace hA159 : u154[46]? = (some (q 46, .inl (g 1, (513 : Int32).toNatClampNeg, .inr (.inl f158))) : Option (Nat × va_E)) := hA159
    obtain ⟨p164, e165⟩ : ∃ z, z = (F_She_add_p (4104 : Int32) (513 : Int32) (1000000 : Int32) a152 t6_0 t7_0) := ⟨_, rfl⟩
    have e166 : y157 = p164.1 := congrArg (fun z => z.1) (hE162.trans e165.symm)
    have e167 : f158 = p164.2 := congrArg (fun z => z.2) (hE162.trans e165.symm)
    replace b160 : q_F (t6_0.toInt + 1 ≤ y157.toInt) := b160
    replace b161 : q_F (y157.toInt ≤ t6_0.toInt + 1) := b161
    replace hT4 := (hu163 _ (by decide)).trans hT4
    replace hT5 := (hu163 _ (by decide)).trans hT5
    replace hF := q_uc hF hu163 (by first | exact (q_sk (q_mi 2 rfl) (q_sk (q_mi 3 rfl) q_s0)) | simp)
    have hR168 := (show F_Pri_writeAnything_c91 x2 t0_0 t0_1 t0_2 t0_3 t1_0 t2_0 t3_0 t4_0 t4_1 t5_0 t6_0 t7_0 t8_0 t9_0 t10_0 t11_0 t12_0 t13_0 t14_0 t15_0 t16_0 t17_0 t18_0 t19_0 t20_0 t21_0 t22_0 t23_0 t24_0 t25_0 p164 = (F_Pri_writeAnything x2 t0_0 t0_1 t0_2 t0_3 t1_0 t2_0 t3_0 t4_0 t4_1 t5_0 t6_0 t7_0 t8_0 t9_0 t10_0 t11_0 t12_0 t13_0 t14_0 t15_0 t16_0 t17_0 t18_0 t19_0 t20_0 t21_0 t22_0 t23_0 t24_0 t25_0) from (by have c77x := c77; rw [← e76] at c77x; have c99x := c99; rw [← e76] at c99x; have c148x := c148; rw [← e76] at c148x; rw [e165, ← e153, ← e151, F_Pri_writeAnything.eq_1, if_neg c77x, if_neg c99x, if_pos c148x]))
    refine lv_goto (tgt := 181) hx hb d_9_11_94 (by decide) ?_
    exact q_retv C0 V (⟨hI, hF, t4_0, t4_1, t5_0, y157, f158, hT4, hT5, hO156, hA159, (show 0 ≤ t4_0.toInt from (by first | with_reducible exact (q_fe btt4_0).2 | with_reducible exact (q_fe btt4_0).1 | (have t1 : 0 ≤ t4_0.toInt ∧ t4_0.toInt ≤ 1026 := btt4_0; omega))), (show t4_0.toInt ≤ 1026 from (by first | with_reducible exact (q_fe btt4_0).2 | with_reducible exact (q_fe btt4_0).1 | (have t1 : 0 ≤ t4_0.toInt ∧ t4_0.toInt ≤ 1026 := btt4_0; omega))), (show 0 ≤ t4_1.toInt + 1000000 from (by first | with_reducible exact (q_fe btt4_1).2 | with_reducible exact (q_fe btt4_1).1 | (have t1 : -1000000 ≤ t4_1.toInt ∧ t4_1.toInt ≤ 1000000 := btt4_1; omega))), (show t4_1.toInt ≤ 1000000 from (by first | with_reducible exact (q_fe btt4_1).2 | with_reducible exact (q_fe btt4_1).1 | (have t1 : -1000000 ≤ t4_1.toInt ∧ t4_1.toInt ≤ 1000000 := btt4_1; omega))), (show t4_0.toInt ≤ t4_0.toInt + 20 from (by omega)), (show t4_1.toInt ≤ t4_1.toInt + 1020000 from (by omega)), (show t4_1.toInt ≤ t4_1.toInt + 1020019 from (by omega)), (show t6_0.toInt ≤ y157.toInt from (by first | with_reducible exact q_fe b160 | (have t1 : t6_0.toInt + 1 ≤ y157.toInt := b160; omega))), (show y157.toInt ≤ t6_0.toInt + 420004 from (by first | with_reducible exact q_fe b161 | (have t1 : y157.toInt ≤ t6_0.toInt + 1 := b161; omega))), (show y157.toInt ≤ t4_1.toInt + 1000074 from (by have t1 : -1000000 ≤ t4_1.toInt ∧ t4_1.toInt ≤ 1000000 := btt4_1; have t2 : t6_0.toInt ≤ 10 := pre2; have t3 : y157.toInt ≤ t6_0.toInt + 1 := b161; omega)), (show (t4_0, t4_1, t5_0, y157, f158) = (F_Pri_writeAnything x2 t0_0 t0_1 t0_2 t0_3 t1_0 t2_0 t3_0 t4_0 t4_1 t5_0 t6_0 t7_0 t8_0 t9_0 t10_0 t11_0 t12_0 t13_0 t14_0 t15_0 t16_0 t17_0 t18_0 t19_0 t20_0 t21_0 t22_0 t23_0 t24_0 t25_0) from Eq.trans (by rw [e167, e166, F_Pri_writeAnything_c91.eq_1]) hR168)⟩) d_9_11_181
  by_cases c174 : a75 = 3
  ·
    refine q_ti (v := 3) c174 ?_
    refine lv_tableIn (tgt := 123) (off := 117) hx hb d_9_11_6 (by decide) (by decide) (by decide) (by decide) ?_
    refine lv_aload_n hx hb d_9_11_123 rfl (lv_at hl 0 rfl) ?_
    refine q_get (ci := 11) (j := 2) (v := .ref (q 42)) C0 V i_Pri rfl rfl hT0 (by decide) w_387 rfl d_9_11_124 ?_
    refine lv_iload_n hx hb d_9_11_127 rfl (lv_at hl 1 rfl) ?_
    refine q_lald C0 V hT2 (q_ix (x := x2.toInt) rfl (by first | with_reducible exact q_fe pre0 | (have t1 : 0 ≤ x2.toInt := pre0; omega)) (by have t1 : 0 ≤ x2.toInt := pre0; have t2 : x2.toInt ≤ 8 := pre1; omega)) d_9_11_128 ?_
    obtain ⟨j176, e177⟩ := q_nm (t2_0 x2.toNatClampNeg : Int64)
    refine q_tl (v := j176) e177 ?_
    refine lv_lconst (v := 0) hx hb d_9_11_129 (by decide) ?_
    refine W.lcmp hx hb d_9_11_130 ?_
    obtain ⟨a178, e179⟩ := q_nm (lg_cmp j176 0 : Int32)
    refine q_ti (v := a178) e179 ?_
    refine q_join (X := Int32 × (Nat → Int64)) (fun z H locs ls w212 => q_F (t6_0.toInt ≤ z.1.toInt) ∧ q_F (z.1.toInt ≤ t6_0.toInt + 1) ∧ q_Wd D g (va_A ws sz) s w212 H locs ∧ lv_has ls 2 [(0, .ref (q 40)), (1, .int x2)] ∧ q_I (nsh g q) q w212 ∧ q_un ws w212 [36, 37, 45, 46] ∧ w212[40]? = (some (q 40, .inr (11, [.int t0_0, .ref (q 41), .ref (q 42), .ref (q 43), .ref (q 44), .ref (q 1), .ref (q 47), .ref (q 36), .ref (q 45), .int t0_1, .int t0_2, .int t0_3])) : Option (Nat × va_E)) ∧ w212[41]? = (some (q 41, .inl (g 0, 9, .inl t1_0)) : Option (Nat × va_E)) ∧ w212[42]? = (some (q 42, .inl (g 1, 9, .inr (.inl t2_0))) : Option (Nat × va_E)) ∧ w212[43]? = (some (q 43, .inl (g 0, 9, .inl t3_0)) : Option (Nat × va_E)) ∧ w212[36]? = (some (q 36, .inr (7, [.int t4_0, .int t4_1, .ref (q 37)])) : Option (Nat × va_E)) ∧ w212[37]? = (some (q 37, .inl (g 2, 1026, .inl t5_0)) : Option (Nat × va_E)) ∧ w212[45]? = (some (q 45, .inr (1, [.ref (q 46), .int 4104, .int z.1])) : Option (Nat × va_E)) ∧ w212[46]? = (some (q 46, .inl (g 1, (513 : Int32).toNatClampNeg, .inr (.inl z.2))) : Option (Nat × va_E)) ∧ w212[48]? = (some (q 48, .inr (1, [.ref (q 49), .int 64, .int t8_0])) : Option (Nat × va_E)) ∧ w212[49]? = (some (q 49, .inl (g 1, (8 : Int32).toNatClampNeg, .inr (.inl t9_0))) : Option (Nat × va_E)) ∧ w212[50]? = (some (q 50, .inr (1, [.ref (q 51), .int 64, .int t10_0])) : Option (Nat × va_E)) ∧ w212[51]? = (some (q 51, .inl (g 1, (8 : Int32).toNatClampNeg, .inr (.inl t11_0))) : Option (Nat × va_E)) ∧ w212[52]? = (some (q 52, .inr (1, [.ref (q 53), .int 64, .int t12_0])) : Option (Nat × va_E)) ∧ w212[53]? = (some (q 53, .inl (g 1, (8 : Int32).toNatClampNeg, .inr (.inl t13_0))) : Option (Nat × va_E)) ∧ w212[54]? = (some (q 54, .inr (1, [.ref (q 55), .int 64, .int t14_0])) : Option (Nat × va_E)) ∧ w212[55]? = (some (q 55, .inl (g 1, (8 : Int32).toNatClampNeg, .inr (.inl t15_0))) : Option (Nat × va_E)) ∧ w212[56]? = (some (q 56, .inr (1, [.ref (q 57), .int 64, .int t16_0])) : Option (Nat × va_E)) ∧ w212[57]? = (some (q 57, .inl (g 1, (8 : Int32).toNatClampNeg, .inr (.inl t17_0))) : Option (Nat × va_E)) ∧ w212[58]? = (some (q 58, .inr (1, [.ref (q 59), .int 64, .int t18_0])) : Option (Nat × va_E)) ∧ w212[59]? = (some (q 59, .inl (g 1, (8 : Int32).toNatClampNeg, .inr (.inl t19_0))) : Option (Nat × va_E)) ∧ w212[60]? = (some (q 60, .inr (1, [.ref (q 61), .int 64, .int t20_0])) : Option (Nat × va_E)) ∧ w212[61]? = (some (q 61, .inl (g 1, (8 : Int32).toNatClampNeg, .inr (.inl t21_0))) : Option (Nat × va_E)) ∧ w212[62]? = (some (q 62, .inr (1, [.ref (q 63), .int 64, .int t22_0])) : Option (Nat × va_E)) ∧ w212[63]? = (some (q 63, .inl (g 1, (8 : Int32).toNatClampNeg, .inr (.inl t23_0))) : Option (Nat × va_E)) ∧ w212[64]? = (some (q 64, .inr (1, [.ref (q 65), .int 64, .int t24_0])) : Option (Nat × va_E)) ∧ w212[65]? = (some (q 65, .inl (g 1, (8 : Int32).toNatClampNeg, .inr (.inl t25_0))) : Option (Nat × va_E)) ∧ F_Pri_writeAnything_J143 x2 t0_0 t0_1 t0_2 t0_3 t1_0 t2_0 t3_0 t4_0 t4_1 t5_0 t6_0 t7_0 t8_0 t9_0 t10_0 t11_0 t12_0 t13_0 t14_0 t15_0 t16_0 t17_0 t18_0 t19_0 t20_0 t21_0 t22_0 t23_0 t24_0 t25_0 z.1 z.2 = (F_Pri_writeAnything x2 t0_0 t0_1 t0_2 t0_3 t1_0 t2_0 t3_0 t4_0 t4_1 t5_0 t6_0 t7_0 t8_0 t9_0 t10_0 t11_0 t12_0 t13_0 t14_0 t15_0 t16_0 t17_0 t18_0 t19_0 t20_0 t21_0 t22_0 t23_0 t24_0 t25_0)) (fun z => []) 143 0 0 ?_ ?_
    ·
      rintro ⟨lx181, lx182⟩ H locs ls w212 ⟨i210, i211, V, hl, hI, hF, hO183, hA184, hA185, hA186, hO187, hA188, hO189, hA190, hO191, hA192, hO193, hA194, hO195, hA196, hO197, hA198, hO199, hA200, hO201, hA202, hO203, hA204, hO205, hA206, hO207, hA208, hR213⟩
      replace i210 : q_F (t6_0.toInt ≤ lx181.toInt) := i210
      replace i211 : q_F (lx181.toInt ≤ t6_0.toInt + 1) := i211
      replace hl : lv_has ls 2 [(0, .ref (q 40)), (1, .int x2)] := hl
      replace hO183 : w212[40]? = (some (q 40, .inr (11, [.int t0_0, .ref (q 41), .ref (q 42), .ref (q 43), .ref (q 44), .ref (q 1), .ref (q 47), .ref (q 36), .ref (q 45), .int t0_1, .int t0_2, .int t0_3])) : Option (Nat × va_E)) := hO183
      replace hA185 : w212[42]? = (some (q 42, .inl (g 1, 9, .inr (.inl t2_0))) : Option (Nat × va_E)) := hA185
      replace hA186 : w212[43]? = (some (q 43, .inl (g 0, 9, .inl t3_0)) : Option (Nat × va_E)) := hA186
      replace hO187 : w212[36]? = (some (q 36, .inr (7, [.int t4_0, .int t4_1, .ref (q 37)])) : Option (Nat × va_E)) := hO187
      replace hA188 : w212[37]? = (some (q 37, .inl (g 2, 1026, .inl t5_0)) : Option (Nat × va_E)) := hA188
      replace hO189 : w212[45]? = (some (q 45, .inr (1, [.ref (q 46), .int 4104, .int lx181])) : Option (Nat × va_E)) := hO189
      replace hA190 : w212[46]? = (some (q 46, .inl (g 1, (513 : Int32).toNatClampNeg, .inr (.inl lx182))) : Option (Nat × va_E)) := hA190
      refine lv_aload_n hx hb d_9_11_143 rfl (lv_at hl 0 rfl) ?_
      refine q_get (ci := 11) (j := 7) (v := .ref (q 36)) C0 V i_Pri rfl rfl hO183 (by decide) w_392 rfl d_9_11_144 ?_
      refine lv_aload_n hx hb d_9_11_147 rfl (lv_at hl 0 rfl) ?_
      refine q_get (ci := 11) (j := 2) (v := .ref (q 42)) C0 V i_Pri rfl rfl hO183 (by decide) w_387 rfl d_9_11_148 ?_
      refine lv_iload_n hx hb d_9_11_151 rfl (lv_at hl 1 rfl) ?_
      refine q_lald C0 V hA185 (q_ix (x := x2.toInt) rfl (by first | with_reducible exact q_fe pre0 | (have t1 : 0 ≤ x2.toInt := pre0; omega)) (by have t1 : 0 ≤ x2.toInt := pre0; have t2 : x2.toInt ≤ 8 := pre1; omega)) d_9_11_152 ?_
      obtain ⟨j218, e219⟩ := q_nm (t2_0 x2.toNatClampNeg : Int64)
      refine q_tl (v := j218) e219 ?_
      refine lv_aload_n hx hb d_9_11_153 rfl (lv_at hl 0 rfl) ?_
      refine q_get (ci := 11) (j := 3) (v := .ref (q 43)) C0 V i_Pri rfl rfl hO183 (by decide) w_388 rfl d_9_11_154 ?_
      refine lv_iload_n hx hb d_9_11_157 rfl (lv_at hl 1 rfl) ?_
      have bf220 := n_aiB hI (n_s43 g q) hA186
      refine q_iald C0 V hA186 (q_ix (x := x2.toInt) rfl (by first | with_reducible exact q_fe pre0 | (have t1 : 0 ≤ x2.toInt := pre0; omega)) (by have t1 : 0 ≤ x2.toInt := pre0; have t2 : x2.toInt ≤ 8 := pre1; omega)) d_9_11_158 ?_
      obtain ⟨a221, e222⟩ := q_nm (t3_0 x2.toNatClampNeg : Int32)
      refine q_ti (v := a221) e222 ?_
      have b223 : q_F (-10000 ≤ a221.toInt ∧ a221.toInt ≤ 10000) := (by rw [← e222]; show -10000 ≤ (t3_0 x2.toNatClampNeg : Int32).toInt ∧ (t3_0 x2.toNatClampNeg : Int32).toInt ≤ 10000; exact bf220 _)
      refine q_gov V (q_runV (As := [.long j218, .int a221]) (rest := []) (d := 2) (mc := 0) (ms := 0) (ci := 7) C0 V rfl LV_Pri_189 (X_Dig_fillLong l D g q w212  j218 a221 hI t4_0 t4_1 hO187 t5_0 hA188 (by first | with_reducible exact (q_fe b223).2 | with_reducible exact (q_fe b223).1 | (have t1 : -10000 ≤ a221.toInt ∧ a221.toInt ≤ 10000 := b223; omega)) (by first | with_reducible exact (q_fe b223).2 | with_reducible exact (q_fe b223).1 | (have t1 : -10000 ≤ a221.toInt ∧ a221.toInt ≤ 10000 := b223; omega)) _) rfl rfl hO187 rfl hl.1 rfl (Nat.le_of_ble_eq_true rfl) ⟨by decide, by decide⟩ ⟨Nat.le_of_ble_eq_true rfl, Nat.le_of_ble_eq_true rfl⟩ d_9_11_159) (fun u224 H locs hp225 V => ?_)
      obtain ⟨hI, hZ9⟩ := hp225
      obtain ⟨hu239, hZ9⟩ := hZ9
      obtain ⟨y227, hZ9⟩ := hZ9
      obtain ⟨y228, hZ9⟩ := hZ9
      obtain ⟨f229, hZ9⟩ := hZ9
      obtain ⟨hO226, hZ9⟩ := hZ9
      obtain ⟨hA230, hZ9⟩ := hZ9
      obtain ⟨b231, hZ9⟩ := hZ9
      obtain ⟨b232, hZ9⟩ := hZ9
      obtain ⟨b233, hZ9⟩ := hZ9
      obtain ⟨b234, hZ9⟩ := hZ9
      replace hZ9 := hZ9.2.2
      obtain ⟨-, hE238⟩ := hZ9
      replace hO226 : u224[36]? = (some (q 36, .inr (7, [.int y227, .int y228, .ref (q 37)])) : Option (Nat × va_E)) := hO226
      replace hA230 : u224[37]? = (some (q 37, .inl (g 2, 1026, .inl f229)) : Option (Nat × va_E)) := hA230
      obtain ⟨p240, e241⟩ : ∃ z, z = (F_Dig_fillLong j218 a221 t4_0 t4_1 t5_0) := ⟨_, rfl⟩
      have e242 : y227 = p240.1 := congrArg (fun z => z.1) (hE238.trans e241.symm)
      have e243 : y228 = p240.2.1 := congrArg (fun z => z.2.1) (hE238.trans e241.symm)
      have e244 : f229 = p240.2.2 := congrArg (fun z => z.2.2) (hE238.trans e241.symm)
      replace b231 : q_F (0 ≤ y227.toInt) := b231
      replace b232 : q_F (y227.toInt ≤ 20) := b232
      replace b233 : q_F (0 ≤ y228.toInt + 20000) := b233
      replace b234 : q_F (y228.toInt ≤ y227.toInt + 19999) := b234
      replace hO183 := (hu239 _ (by decide)).trans hO183
      replace hA186 := (hu239 _ (by decide)).trans hA186
      replace hO189 := (hu239 _ (by decide)).trans hO189
      replace hA190 := (hu239 _ (by decide)).trans hA190
      replace hF := q_uc hF hu239 (by first | exact (q_sk (q_mi 0 rfl) (q_sk (q_mi 1 rfl) q_s0)) | simp)
      have hR245 := (show F_Pri_writeAnything_c159 x2 t0_0 t0_1 t0_2 t0_3 t1_0 t2_0 t3_0 t4_0 t4_1 t5_0 t6_0 t7_0 t8_0 t9_0 t10_0 t11_0 t12_0 t13_0 t14_0 t15_0 t16_0 t17_0 t18_0 t19_0 t20_0 t21_0 t22_0 t23_0 t24_0 t25_0 lx181 lx182 p240 = (F_Pri_writeAnything x2 t0_0 t0_1 t0_2 t0_3 t1_0 t2_0 t3_0 t4_0 t4_1 t5_0 t6_0 t7_0 t8_0 t9_0 t10_0 t11_0 t12_0 t13_0 t14_0 t15_0 t16_0 t17_0 t18_0 t19_0 t20_0 t21_0 t22_0 t23_0 t24_0 t25_0) from Eq.trans (by rw [e241, ← e222, ← e219, F_Pri_writeAnything_J143.eq_1]) hR213)
      refine lv_aload_n hx hb d_9_11_162 rfl (lv_at hl 0 rfl) ?_
      refine q_get (ci := 11) (j := 7) (v := .ref (q 36)) C0 V i_Pri rfl rfl hO183 (by decide) w_392 rfl d_9_11_163 ?_
      refine lv_aload_n hx hb d_9_11_166 rfl (lv_at hl 0 rfl) ?_
      refine q_get (ci := 11) (j := 8) (v := .ref (q 45)) C0 V i_Pri rfl rfl hO183 (by decide) w_393 rfl d_9_11_167 ?_
      refine lv_aload_n hx hb d_9_11_170 rfl (lv_at hl 0 rfl) ?_
      refine q_get (ci := 11) (j := 3) (v := .ref (q 43)) C0 V i_Pri rfl rfl hO183 (by decide) w_388 rfl d_9_11_171 ?_
      refine lv_iload_n hx hb d_9_11_174 rfl (lv_at hl 1 rfl) ?_
      have bf250 := n_aiB hI (n_s43 g q) hA186
      refine q_iald C0 V hA186 (q_ix (x := x2.toInt) rfl (by first | with_reducible exact q_fe pre0 | (have t1 : 0 ≤ x2.toInt := pre0; omega)) (by have t1 : 0 ≤ x2.toInt := pre0; have t2 : x2.toInt ≤ 8 := pre1; omega)) d_9_11_175 ?_
      obtain ⟨a251, e252⟩ := q_nm (t3_0 x2.toNatClampNeg : Int32)
      refine q_ti (v := a251) e252 ?_
      have b253 : q_F (-10000 ≤ a251.toInt ∧ a251.toInt ≤ 10000) := (by rw [← e252]; show -10000 ≤ (t3_0 x2.toNatClampNeg : Int32).toInt ∧ (t3_0 x2.toNatClampNeg : Int32).toInt ≤ 10000; exact bf250 _)
      refine lv_iconst (v := 0) hx hb d_9_11_176 (by decide) ?_
      refine lv_iconst (v := 0) hx hb d_9_11_177 (by decide) ?_
      refine q_gov V (q_runV (As := [.ref (q 45), .int a251, .int 0, .int 0]) (rest := []) (d := 2) (mc := 0) (ms := 0) (ci := 7) C0 V rfl LV_Pri_204 (X_Dig_writePlain l D g q u224 45 4104 513 1000000 (n_h45 g q) a251 0 0 hI y227 y228 hO226 f229 hA230 lx181 hO189 lx182 hA190 ⟨(by have y0 : (4104 : Int32).toInt = 4104 := rfl; have y1 : (513 : Int32).toInt = 513 := rfl; have y2 : (1000000 : Int32).toInt = 1000000 := rfl; have y3 : (0 : Int32).toInt = 0 := rfl; have y4 : (0 : Int32).toInt = 0 := rfl; omega), (by have y0 : (4104 : Int32).toInt = 4104 := rfl; have y1 : (513 : Int32).toInt = 513 := rfl; have y2 : (1000000 : Int32).toInt = 1000000 := rfl; have y3 : (0 : Int32).toInt = 0 := rfl; have y4 : (0 : Int32).toInt = 0 := rfl; omega)⟩ ⟨(by have y0 : (4104 : Int32).toInt = 4104 := rfl; have y1 : (513 : Int32).toInt = 513 := rfl; have y2 : (1000000 : Int32).toInt = 1000000 := rfl; have y3 : (0 : Int32).toInt = 0 := rfl; have y4 : (0 : Int32).toInt = 0 := rfl; omega), (by have y0 : (4104 : Int32).toInt = 4104 := rfl; have y1 : (513 : Int32).toInt = 513 := rfl; have y2 : (1000000 : Int32).toInt = 1000000 := rfl; have y3 : (0 : Int32).toInt = 0 := rfl; have y4 : (0 : Int32).toInt = 0 := rfl; omega)⟩ (by have y0 : (4104 : Int32).toInt = 4104 := rfl; have y1 : (513 : Int32).toInt = 513 := rfl; have y2 : (1000000 : Int32).toInt = 1000000 := rfl; have y3 : (0 : Int32).toInt = 0 := rfl; have y4 : (0 : Int32).toInt = 0 := rfl; have t1 : y227.toInt ≤ 20 := b232; have t2 : y228.toInt ≤ y227.toInt + 19999 := b234; omega) (by have y0 : (4104 : Int32).toInt = 4104 := rfl; have y1 : (513 : Int32).toInt = 513 := rfl; have y2 : (1000000 : Int32).toInt = 1000000 := rfl; have y3 : (0 : Int32).toInt = 0 := rfl; have y4 : (0 : Int32).toInt = 0 := rfl; have t1 : -10000 ≤ a251.toInt ∧ a251.toInt ≤ 10000 := b253; omega) (by have y0 : (4104 : Int32).toInt = 4104 := rfl; have y1 : (513 : Int32).toInt = 513 := rfl; have y2 : (1000000 : Int32).toInt = 1000000 := rfl; have y3 : (0 : Int32).toInt = 0 := rfl; have y4 : (0 : Int32).toInt = 0 := rfl; have t1 : t6_0.toInt ≤ 10 := pre2; have t2 : lx181.toInt ≤ t6_0.toInt + 1 := i211; omega) (by have y0 : (4104 : Int32).toInt = 4104 := rfl; have y1 : (513 : Int32).toInt = 513 := rfl; have y2 : (1000000 : Int32).toInt = 1000000 := rfl; have y3 : (0 : Int32).toInt = 0 := rfl; have y4 : (0 : Int32).toInt = 0 := rfl; omega) _) rfl rfl hO226 rfl hl.1 rfl (Nat.le_of_ble_eq_true rfl) ⟨by decide, by decide⟩ ⟨Nat.le_of_ble_eq_true rfl, Nat.le_of_ble_eq_true rfl⟩ d_9_11_178) (fun u254 H locs hp255 V => ?_)
      obtain ⟨hI, hZ9⟩ := hp255
      obtain ⟨hu267, hZ9⟩ := hZ9
      obtain ⟨y257, hZ9⟩ := hZ9
      obtain ⟨f258, hZ9⟩ := hZ9
      obtain ⟨hO256, hZ9⟩ := hZ9
      obtain ⟨hA259, hZ9⟩ := hZ9
      replace hZ9 := hZ9.2.2.2.2
      obtain ⟨b264, hZ9⟩ := hZ9
      obtain ⟨b265, hE266⟩ := hZ9
      replace hO256 : u254[45]? = (some (q 45, .inr (1, [.ref (q 46), .int 4104, .int y257])) : Option (Nat × va_E)) := hO256
      replace hA259 : u254[46]? = (some (q 46, .inl (g 1, (513 : Int32).toNatClampNeg, .inr (.inl f258))) : Option (Nat × va_E)) := hA259
      obtain ⟨p268, e269⟩ : ∃ z, z = (F_Dig_writePlain (4104 : Int32) (513 : Int32) (1000000 : Int32) a251 (0 : Int32) (0 : Int32) y227 y228 f229 lx181 lx182) := ⟨_, rfl⟩
      have e270 : y257 = p268.1 := congrArg (fun z => z.1) (hE266.trans e269.symm)
      have e271 : f258 = p268.2 := congrArg (fun z => z.2) (hE266.trans e269.symm)
      replace b264 : q_F (lx181.toInt + 1 ≤ y257.toInt) := b264
      replace b265 : q_F (y257.toInt ≤ lx181.toInt + 420003) := b265
      replace hO226 := (hu267 _ (by decide)).trans hO226
      replace hA230 := (hu267 _ (by decide)).trans hA230
      replace hF := q_uc hF hu267 (by first | exact (q_sk (q_mi 2 rfl) (q_sk (q_mi 3 rfl) q_s0)) | simp)
      have hR272 := (show F_Pri_writeAnything_c178 x2 t0_0 t0_1 t0_2 t0_3 t1_0 t2_0 t3_0 t4_0 t4_1 t5_0 t6_0 t7_0 t8_0 t9_0 t10_0 t11_0 t12_0 t13_0 t14_0 t15_0 t16_0 t17_0 t18_0 t19_0 t20_0 t21_0 t22_0 t23_0 t24_0 t25_0 lx181 lx182 p240 y227 y228 f229 p268 = (F_Pri_writeAnything x2 t0_0 t0_1 t0_2 t0_3 t1_0 t2_0 t3_0 t4_0 t4_1 t5_0 t6_0 t7_0 t8_0 t9_0 t10_0 t11_0 t12_0 t13_0 t14_0 t15_0 t16_0 t17_0 t18_0 t19_0 t20_0 t21_0 t22_0 t23_0 t24_0 t25_0) from Eq.trans (by rw [e269, ← e252, e244, e243, e242, F_Pri_writeAnything_c159.eq_1]) hR245)
      exact q_retv C0 V (⟨hI, hF, y227, y228, f229, y257, f258, hO226, hA230, hO256, hA259, (show 0 ≤ y227.toInt from (by first | with_reducible exact q_fe b231 | (have t1 : 0 ≤ y227.toInt := b231; omega))), (show y227.toInt ≤ 1026 from (by first | with_reducible exact q_fe b232 | (have t1 : y227.toInt ≤ 20 := b232; omega))), (show 0 ≤ y228.toInt + 1000000 from (by first | with_reducible exact q_fe b233 | (have t1 : 0 ≤ y228.toInt + 20000 := b233; omega))), (show y228.toInt ≤ 1000000 from (by have t1 : y227.toInt ≤ 20 := b232; have t2 : y228.toInt ≤ y227.toInt + 19999 := b234; omega)), (show y227.toInt ≤ t4_0.toInt + 20 from (by have t1 : 0 ≤ t4_0.toInt ∧ t4_0.toInt ≤ 1026 := btt4_0; have t2 : y227.toInt ≤ 20 := b232; omega)), (show t4_1.toInt ≤ y228.toInt + 1020000 from (by have t1 : -1000000 ≤ t4_1.toInt ∧ t4_1.toInt ≤ 1000000 := btt4_1; have t2 : 0 ≤ y228.toInt + 20000 := b233; omega)), (show y228.toInt ≤ t4_1.toInt + 1020019 from (by have t1 : -1000000 ≤ t4_1.toInt ∧ t4_1.toInt ≤ 1000000 := btt4_1; have t2 : y227.toInt ≤ 20 := b232; have t3 : y228.toInt ≤ y227.toInt + 19999 := b234; omega)), (show t6_0.toInt ≤ y257.toInt from (by have t1 : t6_0.toInt ≤ lx181.toInt := i210; have t2 : lx181.toInt + 1 ≤ y257.toInt := b264; omega)), (show y257.toInt ≤ t6_0.toInt + 420004 from (by have t1 : lx181.toInt ≤ t6_0.toInt + 1 := i211; have t2 : y257.toInt ≤ lx181.toInt + 420003 := b265; omega)), (show y257.toInt ≤ y228.toInt + 1000074 from (by have t1 : t6_0.toInt ≤ 10 := pre2; have t2 : lx181.toInt ≤ t6_0.toInt + 1 := i211; have t3 : 0 ≤ y228.toInt + 20000 := b233; have t4 : y257.toInt ≤ lx181.toInt + 420003 := b265; omega)), (show (y227, y228, f229, y257, f258) = (F_Pri_writeAnything x2 t0_0 t0_1 t0_2 t0_3 t1_0 t2_0 t3_0 t4_0 t4_1 t5_0 t6_0 t7_0 t8_0 t9_0 t10_0 t11_0 t12_0 t13_0 t14_0 t15_0 t16_0 t17_0 t18_0 t19_0 t20_0 t21_0 t22_0 t23_0 t24_0 t25_0) from Eq.trans (by rw [e271, e270, F_Pri_writeAnything_c178.eq_1]) hR272)⟩) d_9_11_181
    ·
      intro J209
      refine lv_if_ge (tgt := 143) hx hb d_9_11_131 (by decide) (fun c277 => ?_) (fun c277 => ?_)
      ·
        exact J209 ((t6_0 : Int32), (t7_0 : (Nat → Int64))) _ _ _ _ ⟨(show q_F (t6_0.toInt ≤ t6_0.toInt) from (show t6_0.toInt ≤ t6_0.toInt from by omega)), (show q_F (t6_0.toInt ≤ t6_0.toInt + 1) from (show t6_0.toInt ≤ t6_0.toInt + 1 from by omega)), V, q_lw hl (q_lw1 0 rfl (q_lw1 1 rfl q_lw0)), hI, hF, hT0, hT1, hT2, hT3, hT4, hT5, hT6, hT7, hT8, hT9, hT10, hT11, hT12, hT13, hT14, hT15, hT16, hT17, hT18, hT19, hT20, hT21, hT22, hT23, hT24, hT25, (show F_Pri_writeAnything_J143 x2 t0_0 t0_1 t0_2 t0_3 t1_0 t2_0 t3_0 t4_0 t4_1 t5_0 t6_0 t7_0 t8_0 t9_0 t10_0 t11_0 t12_0 t13_0 t14_0 t15_0 t16_0 t17_0 t18_0 t19_0 t20_0 t21_0 t22_0 t23_0 t24_0 t25_0 t6_0 t7_0 = (F_Pri_writeAnything x2 t0_0 t0_1 t0_2 t0_3 t1_0 t2_0 t3_0 t4_0 t4_1 t5_0 t6_0 t7_0 t8_0 t9_0 t10_0 t11_0 t12_0 t13_0 t14_0 t15_0 t16_0 t17_0 t18_0 t19_0 t20_0 t21_0 t22_0 t23_0 t24_0 t25_0) from (by have c77x := c77; rw [← e76] at c77x; have c99x := c99; rw [← e76] at c99x; have c148x := c148; rw [← e76] at c148x; have c174x := c174; rw [← e76] at c174x; have c277x := c277; rw [← e179, ← e177] at c277x; rw [F_Pri_writeAnything.eq_1, if_neg c77x, if_neg c99x, if_neg c148x, if_pos c174x, if_pos c277x]))⟩
      ·
        refine lv_aload_n hx hb d_9_11_134 rfl (lv_at hl 0 rfl) ?_
        refine q_get (ci := 11) (j := 8) (v := .ref (q 45)) C0 V i_Pri rfl rfl hT0 (by decide) w_393 rfl d_9_11_135 ?_
        refine lv_bipush (v := 45) hx hb d_9_11_138 (by decide) ?_
        refine q_gov V (q_runV (As := [.int 45]) (rest := []) (d := 1) (mc := 0) (ms := 0) (ci := 1) C0 V rfl LV_Pri_113 (X_She_add_p l D g q ws 45 4104 513 1000000 (n_h45 g q) 45 hI t6_0 hT6 t7_0 hT7 (by have y0 : (4104 : Int32).toInt = 4104 := rfl; have y1 : (513 : Int32).toInt = 513 := rfl; have y2 : (1000000 : Int32).toInt = 1000000 := rfl; have y3 : (45 : Int32).toInt = 45 := rfl; have t1 : t6_0.toInt ≤ 10 := pre2; omega) _) rfl rfl hT6 rfl hl.1 rfl (Nat.le_of_ble_eq_true rfl) ⟨by decide, by decide⟩ ⟨Nat.le_of_ble_eq_true rfl, Nat.le_of_ble_eq_true rfl⟩ d_9_11_140) (fun u280 H locs hp281 V => ?_)
        obtain ⟨hI, hZ9⟩ := hp281
        obtain ⟨hu289, hZ9⟩ := hZ9
        obtain ⟨y283, hZ9⟩ := hZ9
        obtain ⟨f284, hZ9⟩ := hZ9
        obtain ⟨hO282, hZ9⟩ := hZ9
        obtain ⟨hA285, hZ9⟩ := hZ9
        obtain ⟨b286, hZ9⟩ := hZ9
        obtain ⟨b287, hE288⟩ := hZ9
        replace hO282 : u280[45]? = (some (q 45, .inr (1, [.ref (q 46), .int 4104, .int y283])) : Option (Nat × va_E)) := hO282
        replace hA285 : u280[46]? = (some (q 46, .inl (g 1, (513 : Int32).toNatClampNeg, .inr (.inl f284))) : Option (Nat × va_E)) := hA285
        obtain ⟨p290, e291⟩ : ∃ z, z = (F_She_add_p (4104 : Int32) (513 : Int32) (1000000 : Int32) (45 : Int32) t6_0 t7_0) := ⟨_, rfl⟩
        have e292 : y283 = p290.1 := congrArg (fun z => z.1) (hE288.trans e291.symm)
        have e293 : f284 = p290.2 := congrArg (fun z => z.2) (hE288.trans e291.symm)
        replace b286 : q_F (t6_0.toInt + 1 ≤ y283.toInt) := b286
        replace b287 : q_F (y283.toInt ≤ t6_0.toInt + 1) := b287
        replace hT0 := (hu289 _ (by decide)).trans hT0
        replace hT1 := (hu289 _ (by decide)).trans hT1
        replace hT2 := (hu289 _ (by decide)).trans hT2
        replace hT3 := (hu289 _ (by decide)).trans hT3
        replace hT4 := (hu289 _ (by decide)).trans hT4
        replace hT5 := (hu289 _ (by decide)).trans hT5
        replace hT8 := (hu289 _ (by decide)).trans hT8
        replace hT9 := (hu289 _ (by decide)).trans hT9
        replace hT10 := (hu289 _ (by decide)).trans hT10
        replace hT11 := (hu289 _ (by decide)).trans hT11
        replace hT12 := (hu289 _ (by decide)).trans hT12
        replace hT13 := (hu289 _ (by decide)).trans hT13
        replace hT14 := (hu289 _ (by decide)).trans hT14
        replace hT15 := (hu289 _ (by decide)).trans hT15
        replace hT16 := (hu289 _ (by decide)).trans hT16
        replace hT17 := (hu289 _ (by decide)).trans hT17
        replace hT18 := (hu289 _ (by decide)).trans hT18
        replace hT19 := (hu289 _ (by decide)).trans hT19
        replace hT20 := (hu289 _ (by decide)).trans hT20
        replace hT21 := (hu289 _ (by decide)).trans hT21
        replace hT22 := (hu289 _ (by decide)).trans hT22
        replace hT23 := (hu289 _ (by decide)).trans hT23
        replace hT24 := (hu289 _ (by decide)).trans hT24
        replace hT25 := (hu289 _ (by decide)).trans hT25
        replace hF := q_uc hF hu289 (by first | exact (q_sk (q_mi 2 rfl) (q_sk (q_mi 3 rfl) q_s0)) | simp)
        have hR294 := (show F_Pri_writeAnything_c140 x2 t0_0 t0_1 t0_2 t0_3 t1_0 t2_0 t3_0 t4_0 t4_1 t5_0 t6_0 t7_0 t8_0 t9_0 t10_0 t11_0 t12_0 t13_0 t14_0 t15_0 t16_0 t17_0 t18_0 t19_0 t20_0 t21_0 t22_0 t23_0 t24_0 t25_0 p290 = (F_Pri_writeAnything x2 t0_0 t0_1 t0_2 t0_3 t1_0 t2_0 t3_0 t4_0 t4_1 t5_0 t6_0 t7_0 t8_0 t9_0 t10_0 t11_0 t12_0 t13_0 t14_0 t15_0 t16_0 t17_0 t18_0 t19_0 t20_0 t21_0 t22_0 t23_0 t24_0 t25_0) from (by have c77x := c77; rw [← e76] at c77x; have c99x := c99; rw [← e76] at c99x; have c148x := c148; rw [← e76] at c148x; have c174x := c174; rw [← e76] at c174x; have c277x := c277; rw [← e179, ← e177] at c277x; rw [e291, F_Pri_writeAnything.eq_1, if_neg c77x, if_neg c99x, if_neg c148x, if_pos c174x, if_neg c277x]))
        exact J209 ((y283 : Int32), (f284 : (Nat → Int64))) _ _ _ _ ⟨(show q_F (t6_0.toInt ≤ y283.toInt) from (show t6_0.toInt ≤ y283.toInt from by have t1 : t6_0.toInt + 1 ≤ y283.toInt := b286; omega)), (show q_F (y283.toInt ≤ t6_0.toInt + 1) from (show y283.toInt ≤ t6_0.toInt + 1 from by have t1 : y283.toInt ≤ t6_0.toInt + 1 := b287; omega)), V, q_lw hl (q_lw1 0 rfl (q_lw1 1 rfl q_lw0)), hI, hF, hT0, hT1, hT2, hT3, hT4, hT5, hO282, hA285, hT8, hT9, hT10, hT11, hT12, hT13, hT14, hT15, hT16, hT17, hT18, hT19, hT20, hT21, hT22, hT23, hT24, hT25, (show F_Pri_writeAnything_J143 x2 t0_0 t0_1 t0_2 t0_3 t1_0 t2_0 t3_0 t4_0 t4_1 t5_0 t6_0 t7_0 t8_0 t9_0 t10_0 t11_0 t12_0 t13_0 t14_0 t15_0 t16_0 t17_0 t18_0 t19_0 t20_0 t21_0 t22_0 t23_0 t24_0 t25_0 y283 f284 = (F_Pri_writeAnything x2 t0_0 t0_1 t0_2 t0_3 t1_0 t2_0 t3_0 t4_0 t4_1 t5_0 t6_0 t7_0 t8_0 t9_0 t10_0 t11_0 t12_0 t13_0 t14_0 t15_0 t16_0 t17_0 t18_0 t19_0 t20_0 t21_0 t22_0 t23_0 t24_0 t25_0) from Eq.trans (by rw [e293, e292, F_Pri_writeAnything_c140.eq_1]) hR294)⟩
  by_cases c300 : a75 = 4
  ·
    refine q_ti (v := 4) c300 ?_
    refine lv_tableIn (tgt := 97) (off := 91) hx hb d_9_11_6 (by decide) (by decide) (by decide) (by decide) ?_
    refine lv_aload_n hx hb d_9_11_97 rfl (lv_at hl 0 rfl) ?_
    refine q_get (ci := 11) (j := 8) (v := .ref (q 45)) C0 V i_Pri rfl rfl hT0 (by decide) w_393 rfl d_9_11_98 ?_
    refine lv_aload_n hx hb d_9_11_101 rfl (lv_at hl 0 rfl) ?_
    refine q_get (ci := 11) (j := 4) (v := .ref (q 44)) C0 V i_Pri rfl rfl hT0 (by decide) w_389 rfl d_9_11_102 ?_
    refine lv_iload_n hx hb d_9_11_105 rfl (lv_at hl 1 rfl) ?_
    by_cases c302 : x2 = 0
    ·
      have b303 : q_F (x2.toInt = 0) := (q_eqI c302)
      refine q_ti (v := 0) c302 ?_
      have hX304 := n_fx hI (n_s44 g q)
      refine q_aald (t := 6) (q := q 48) C0 V hX304 rfl (q_ix (x := 0) (by decide) (by omega) (by omega)) (show n_ft q ((0 : Int32).toNatClampNeg) = _ from n_ftv (j := 0) (by decide)) d_9_11_106 ?_
      refine lv_iconst (v := 0) hx hb d_9_11_107 (by decide) ?_
      refine lv_aload_n hx hb d_9_11_108 rfl (lv_at hl 0 rfl) ?_
      refine q_get (ci := 11) (j := 4) (v := .ref (q 44)) C0 V i_Pri rfl rfl hT0 (by decide) w_389 rfl d_9_11_109 ?_
      refine lv_iload_n hx hb d_9_11_112 rfl (lv_at hl 1 rfl) ?_
      have c305 : x2 = 0 := q_Ieq (x := x2.toInt) (y := 0) rfl (by decide) (by have t1 : 0 ≤ x2.toInt := pre0; have t2 : x2.toInt ≤ 8 := pre1; have t3 : x2.toInt = 0 := b303; omega)
      refine q_ti (v := 0) c305 ?_
      have hX307 := n_fx hI (n_s44 g q)
      refine q_aald (t := 6) (q := q 48) C0 V hX307 rfl (q_ix (x := 0) (by decide) (by omega) (by omega)) (show n_ft q ((0 : Int32).toNatClampNeg) = _ from n_ftv (j := 0) (by decide)) d_9_11_113 ?_
      refine q_get (ci := 1) (j := 2) (v := .int t8_0) C0 V i_She rfl rfl hT8 (by decide) w_58 rfl d_9_11_114 ?_
      refine q_gov V (q_runS (As := [.ref (q 45), .ref (q 48), .int 0, .int t8_0]) (rest := []) (d := 2) (mc := 0) (ms := 0) C0 V rfl LS_Pri_76 (X_Pri_copyInto l D g q ws 45 4104 513 1000000 (n_h45 g q) 48 64 8 64 (n_h48 g q) 0 t8_0 (by decide) (by decide) (by decide) hI t6_0 hT6 t7_0 hT7 t8_0 hT8 t9_0 hT9 (by have y0 : (4104 : Int32).toInt = 4104 := rfl; have y1 : (513 : Int32).toInt = 513 := rfl; have y2 : (1000000 : Int32).toInt = 1000000 := rfl; have y3 : (64 : Int32).toInt = 64 := rfl; have y4 : (8 : Int32).toInt = 8 := rfl; have y5 : (64 : Int32).toInt = 64 := rfl; have y6 : (0 : Int32).toInt = 0 := rfl; omega) (by have y0 : (4104 : Int32).toInt = 4104 := rfl; have y1 : (513 : Int32).toInt = 513 := rfl; have y2 : (1000000 : Int32).toInt = 1000000 := rfl; have y3 : (64 : Int32).toInt = 64 := rfl; have y4 : (8 : Int32).toInt = 8 := rfl; have y5 : (64 : Int32).toInt = 64 := rfl; have y6 : (0 : Int32).toInt = 0 := rfl; have t1 : 0 ≤ t8_0.toInt ∧ t8_0.toInt ≤ 64 := btt8_0; omega) (by have y0 : (4104 : Int32).toInt = 4104 := rfl; have y1 : (513 : Int32).toInt = 513 := rfl; have y2 : (1000000 : Int32).toInt = 1000000 := rfl; have y3 : (64 : Int32).toInt = 64 := rfl; have y4 : (8 : Int32).toInt = 8 := rfl; have y5 : (64 : Int32).toInt = 64 := rfl; have y6 : (0 : Int32).toInt = 0 := rfl; have t1 : 0 ≤ t8_0.toInt ∧ t8_0.toInt ≤ 64 := btt8_0; have t2 : t6_0.toInt ≤ 10 := pre2; omega) _) rfl hl.1 rfl (Nat.le_of_ble_eq_true rfl) ⟨by decide, by decide⟩ ⟨Nat.le_of_ble_eq_true rfl, Nat.le_of_ble_eq_true rfl⟩ d_9_11_117) (fun u308 H locs hp309 V => ?_)
      obtain ⟨hI, hZ9⟩ := hp309
      obtain ⟨hu318, hZ9⟩ := hZ9
      obtain ⟨y311, hZ9⟩ := hZ9
      obtain ⟨f312, hZ9⟩ := hZ9
      obtain ⟨hO310, hZ9⟩ := hZ9
      obtain ⟨hA313, hZ9⟩ := hZ9
      obtain ⟨b314, hZ9⟩ := hZ9
      replace hZ9 := hZ9.2
      obtain ⟨b316, hE317⟩ := hZ9
      replace hO310 : u308[45]? = (some (q 45, .inr (1, [.ref (q 46), .int 4104, .int y311])) : Option (Nat × va_E)) := hO310
      replace hA313 : u308[46]? = (some (q 46, .inl (g 1, (513 : Int32).toNatClampNeg, .inr (.inl f312))) : Option (Nat × va_E)) := hA313
      obtain ⟨p319, e320⟩ : ∃ z, z = (F_Pri_copyInto (4104 : Int32) (513 : Int32) (1000000 : Int32) (64 : Int32) (8 : Int32) (64 : Int32) (0 : Int32) t8_0 t6_0 t7_0 t8_0 t9_0) := ⟨_, rfl⟩
      have e321 : y311 = p319.1 := congrArg (fun z => z.1) (hE317.trans e320.symm)
      have e322 : f312 = p319.2 := congrArg (fun z => z.2) (hE317.trans e320.symm)
      replace b314 : q_F (t6_0.toInt ≤ y311.toInt) := b314
      replace b316 : q_F (y311.toInt ≤ t6_0.toInt + t8_0.toInt) := b316
      replace hT4 := (hu318 _ (by decide)).trans hT4
      replace hT5 := (hu318 _ (by decide)).trans hT5
      replace hF := q_uc hF hu318 (by first | exact (q_sk (q_mi 2 rfl) (q_sk (q_mi 3 rfl) q_s0)) | simp)
      have hR323 := (show F_Pri_writeAnything_c117 x2 t0_0 t0_1 t0_2 t0_3 t1_0 t2_0 t3_0 t4_0 t4_1 t5_0 t6_0 t7_0 t8_0 t9_0 t10_0 t11_0 t12_0 t13_0 t14_0 t15_0 t16_0 t17_0 t18_0 t19_0 t20_0 t21_0 t22_0 t23_0 t24_0 t25_0 p319 = (F_Pri_writeAnything x2 t0_0 t0_1 t0_2 t0_3 t1_0 t2_0 t3_0 t4_0 t4_1 t5_0 t6_0 t7_0 t8_0 t9_0 t10_0 t11_0 t12_0 t13_0 t14_0 t15_0 t16_0 t17_0 t18_0 t19_0 t20_0 t21_0 t22_0 t23_0 t24_0 t25_0) from (by have c77x := c77; rw [← e76] at c77x; have c99x := c99; rw [← e76] at c99x; have c148x := c148; rw [← e76] at c148x; have c174x := c174; rw [← e76] at c174x; have c300x := c300; rw [← e76] at c300x; rw [e320, F_Pri_writeAnything.eq_1, if_neg c77x, if_neg c99x, if_neg c148x, if_neg c174x, if_pos c300x, if_pos c302]))
      refine lv_goto (tgt := 181) hx hb d_9_11_120 (by decide) ?_
      exact q_retv C0 V (⟨hI, hF, t4_0, t4_1, t5_0, y311, f312, hT4, hT5, hO310, hA313, (show 0 ≤ t4_0.toInt from (by first | with_reducible exact (q_fe btt4_0).2 | with_reducible exact (q_fe btt4_0).1 | (have t1 : 0 ≤ t4_0.toInt ∧ t4_0.toInt ≤ 1026 := btt4_0; omega))), (show t4_0.toInt ≤ 1026 from (by first | with_reducible exact (q_fe btt4_0).2 | with_reducible exact (q_fe btt4_0).1 | (have t1 : 0 ≤ t4_0.toInt ∧ t4_0.toInt ≤ 1026 := btt4_0; omega))), (show 0 ≤ t4_1.toInt + 1000000 from (by first | with_reducible exact (q_fe btt4_1).2 | with_reducible exact (q_fe btt4_1).1 | (have t1 : -1000000 ≤ t4_1.toInt ∧ t4_1.toInt ≤ 1000000 := btt4_1; omega))), (show t4_1.toInt ≤ 1000000 from (by first | with_reducible exact (q_fe btt4_1).2 | with_reducible exact (q_fe btt4_1).1 | (have t1 : -1000000 ≤ t4_1.toInt ∧ t4_1.toInt ≤ 1000000 := btt4_1; omega))), (show t4_0.toInt ≤ t4_0.toInt + 20 from (by omega)), (show t4_1.toInt ≤ t4_1.toInt + 1020000 from (by omega)), (show t4_1.toInt ≤ t4_1.toInt + 1020019 from (by omega)), (show t6_0.toInt ≤ y311.toInt from (by first | with_reducible exact q_fe b314 | (have t1 : t6_0.toInt ≤ y311.toInt := b314; omega))), (show y311.toInt ≤ t6_0.toInt + 420004 from (by have t1 : 0 ≤ t8_0.toInt ∧ t8_0.toInt ≤ 64 := btt8_0; have t2 : y311.toInt ≤ t6_0.toInt + t8_0.toInt := b316; omega)), (show y311.toInt ≤ t4_1.toInt + 1000074 from (by have t1 : -1000000 ≤ t4_1.toInt ∧ t4_1.toInt ≤ 1000000 := btt4_1; have t2 : 0 ≤ t8_0.toInt ∧ t8_0.toInt ≤ 64 := btt8_0; have t3 : t6_0.toInt ≤ 10 := pre2; have t4 : y311.toInt ≤ t6_0.toInt + t8_0.toInt := b316; omega)), (show (t4_0, t4_1, t5_0, y311, f312) = (F_Pri_writeAnything x2 t0_0 t0_1 t0_2 t0_3 t1_0 t2_0 t3_0 t4_0 t4_1 t5_0 t6_0 t7_0 t8_0 t9_0 t10_0 t11_0 t12_0 t13_0 t14_0 t15_0 t16_0 t17_0 t18_0 t19_0 t20_0 t21_0 t22_0 t23_0 t24_0 t25_0) from Eq.trans (by rw [e322, e321, F_Pri_writeAnything_c117.eq_1]) hR323)⟩) d_9_11_181
    have b328 : q_F (x2.toInt ≠ 0) := (q_neI c302)
    by_cases c329 : x2 = 1
    ·
      have b330 : q_F (x2.toInt = 1) := (q_eqI c329)
      refine q_ti (v := 1) c329 ?_
      have hX331 := n_fx hI (n_s44 g q)
      refine q_aald (t := 6) (q := q 50) C0 V hX331 rfl (q_ix (x := 1) (by decide) (by omega) (by omega)) (show n_ft q ((1 : Int32).toNatClampNeg) = _ from n_ftv (j := 1) (by decide)) d_9_11_106 ?_
      refine lv_iconst (v := 0) hx hb d_9_11_107 (by decide) ?_
      refine lv_aload_n hx hb d_9_11_108 rfl (lv_at hl 0 rfl) ?_
      refine q_get (ci := 11) (j := 4) (v := .ref (q 44)) C0 V i_Pri rfl rfl hT0 (by decide) w_389 rfl d_9_11_109 ?_
      refine lv_iload_n hx hb d_9_11_112 rfl (lv_at hl 1 rfl) ?_
      have c332 : x2 = 1 := q_Ieq (x := x2.toInt) (y := 1) rfl (by decide) (by have t1 : 0 ≤ x2.toInt := pre0; have t2 : x2.toInt ≤ 8 := pre1; have t3 : x2.toInt ≠ 0 := b328; have t4 : x2.toInt = 1 := b330; omega)
      refine q_ti (v := 1) c332 ?_
      have hX334 := n_fx hI (n_s44 g q)
      refine q_aald (t := 6) (q := q 50) C0 V hX334 rfl (q_ix (x := 1) (by decide) (by omega) (by omega)) (show n_ft q ((1 : Int32).toNatClampNeg) = _ from n_ftv (j := 1) (by decide)) d_9_11_113 ?_
      refine q_get (ci := 1) (j := 2) (v := .int t10_0) C0 V i_She rfl rfl hT10 (by decide) w_58 rfl d_9_11_114 ?_
      refine q_gov V (q_runS (As := [.ref (q 45), .ref (q 50), .int 0, .int t10_0]) (rest := []) (d := 2) (mc := 0) (ms := 0) C0 V rfl LS_Pri_76 (X_Pri_copyInto l D g q ws 45 4104 513 1000000 (n_h45 g q) 50 64 8 64 (n_h50 g q) 0 t10_0 (by decide) (by decide) (by decide) hI t6_0 hT6 t7_0 hT7 t10_0 hT10 t11_0 hT11 (by have y0 : (4104 : Int32).toInt = 4104 := rfl; have y1 : (513 : Int32).toInt = 513 := rfl; have y2 : (1000000 : Int32).toInt = 1000000 := rfl; have y3 : (64 : Int32).toInt = 64 := rfl; have y4 : (8 : Int32).toInt = 8 := rfl; have y5 : (64 : Int32).toInt = 64 := rfl; have y6 : (0 : Int32).toInt = 0 := rfl; omega) (by have y0 : (4104 : Int32).toInt = 4104 := rfl; have y1 : (513 : Int32).toInt = 513 := rfl; have y2 : (1000000 : Int32).toInt = 1000000 := rfl; have y3 : (64 : Int32).toInt = 64 := rfl; have y4 : (8 : Int32).toInt = 8 := rfl; have y5 : (64 : Int32).toInt = 64 := rfl; have y6 : (0 : Int32).toInt = 0 := rfl; have t1 : 0 ≤ t10_0.toInt ∧ t10_0.toInt ≤ 64 := btt10_0; omega) (by have y0 : (4104 : Int32).toInt = 4104 := rfl; have y1 : (513 : Int32).toInt = 513 := rfl; have y2 : (1000000 : Int32).toInt = 1000000 := rfl; have y3 : (64 : Int32).toInt = 64 := rfl; have y4 : (8 : Int32).toInt = 8 := rfl; have y5 : (64 : Int32).toInt = 64 := rfl; have y6 : (0 : Int32).toInt = 0 := rfl; have t1 : 0 ≤ t10_0.toInt ∧ t10_0.toInt ≤ 64 := btt10_0; have t2 : t6_0.toInt ≤ 10 := pre2; omega) _) rfl hl.1 rfl (Nat.le_of_ble_eq_true rfl) ⟨by decide, by decide⟩ ⟨Nat.le_of_ble_eq_true rfl, Nat.le_of_ble_eq_true rfl⟩ d_9_11_117) (fun u335 H locs hp336 V => ?_)
      obtain ⟨hI, hZ9⟩ := hp336
      obtain ⟨hu345, hZ9⟩ := hZ9
      obtain ⟨y338, hZ9⟩ := hZ9
      obtain ⟨f339, hZ9⟩ := hZ9
      obtain ⟨hO337, hZ9⟩ := hZ9
      obtain ⟨hA340, hZ9⟩ := hZ9
      obtain ⟨b341, hZ9⟩ := hZ9
      replace hZ9 := hZ9.2
      obtain ⟨b343, hE344⟩ := hZ9
      replace hO337 : u335[45]? = (some (q 45, .inr (1, [.ref (q 46), .int 4104, .int y338])) : Option (Nat × va_E)) := hO337
      replace hA340 : u335[46]? = (some (q 46, .inl (g 1, (513 : Int32).toNatClampNeg, .inr (.inl f339))) : Option (Nat × va_E)) := hA340
      obtain ⟨p346, e347⟩ : ∃ z, z = (F_Pri_copyInto (4104 : Int32) (513 : Int32) (1000000 : Int32) (64 : Int32) (8 : Int32) (64 : Int32) (0 : Int32) t10_0 t6_0 t7_0 t10_0 t11_0) := ⟨_, rfl⟩
      have e348 : y338 = p346.1 := congrArg (fun z => z.1) (hE344.trans e347.symm)
      have e349 : f339 = p346.2 := congrArg (fun z => z.2) (hE344.trans e347.symm)
      replace b341 : q_F (t6_0.toInt ≤ y338.toInt) := b341
      replace b343 : q_F (y338.toInt ≤ t6_0.toInt + t10_0.toInt) := b343
      replace hT4 := (hu345 _ (by decide)).trans hT4
      replace hT5 := (hu345 _ (by decide)).trans hT5
      replace hF := q_uc hF hu345 (by first | exact (q_sk (q_mi 2 rfl) (q_sk (q_mi 3 rfl) q_s0)) | simp)
      have hR350 := (show F_Pri_writeAnything_c117_10 x2 t0_0 t0_1 t0_2 t0_3 t1_0 t2_0 t3_0 t4_0 t4_1 t5_0 t6_0 t7_0 t8_0 t9_0 t10_0 t11_0 t12_0 t13_0 t14_0 t15_0 t16_0 t17_0 t18_0 t19_0 t20_0 t21_0 t22_0 t23_0 t24_0 t25_0 p346 = (F_Pri_writeAnything x2 t0_0 t0_1 t0_2 t0_3 t1_0 t2_0 t3_0 t4_0 t4_1 t5_0 t6_0 t7_0 t8_0 t9_0 t10_0 t11_0 t12_0 t13_0 t14_0 t15_0 t16_0 t17_0 t18_0 t19_0 t20_0 t21_0 t22_0 t23_0 t24_0 t25_0) from (by have c77x := c77; rw [← e76] at c77x; have c99x := c99; rw [← e76] at c99x; have c148x := c148; rw [← e76] at c148x; have c174x := c174; rw [← e76] at c174x; have c300x := c300; rw [← e76] at c300x; rw [e347, F_Pri_writeAnything.eq_1, if_neg c77x, if_neg c99x, if_neg c148x, if_neg c174x, if_pos c300x, if_neg c302, if_pos c329]))
      refine lv_goto (tgt := 181) hx hb d_9_11_120 (by decide) ?_
      exact q_retv C0 V (⟨hI, hF, t4_0, t4_1, t5_0, y338, f339, hT4, hT5, hO337, hA340, (show 0 ≤ t4_0.toInt from (by first | with_reducible exact (q_fe btt4_0).2 | with_reducible exact (q_fe btt4_0).1 | (have t1 : 0 ≤ t4_0.toInt ∧ t4_0.toInt ≤ 1026 := btt4_0; omega))), (show t4_0.toInt ≤ 1026 from (by first | with_reducible exact (q_fe btt4_0).2 | with_reducible exact (q_fe btt4_0).1 | (have t1 : 0 ≤ t4_0.toInt ∧ t4_0.toInt ≤ 1026 := btt4_0; omega))), (show 0 ≤ t4_1.toInt + 1000000 from (by first | with_reducible exact (q_fe btt4_1).2 | with_reducible exact (q_fe btt4_1).1 | (have t1 : -1000000 ≤ t4_1.toInt ∧ t4_1.toInt ≤ 1000000 := btt4_1; omega))), (show t4_1.toInt ≤ 1000000 from (by first | with_reducible exact (q_fe btt4_1).2 | with_reducible exact (q_fe btt4_1).1 | (have t1 : -1000000 ≤ t4_1.toInt ∧ t4_1.toInt ≤ 1000000 := btt4_1; omega))), (show t4_0.toInt ≤ t4_0.toInt + 20 from (by omega)), (show t4_1.toInt ≤ t4_1.toInt + 1020000 from (by omega)), (show t4_1.toInt ≤ t4_1.toInt + 1020019 from (by omega)), (show t6_0.toInt ≤ y338.toInt from (by first | with_reducible exact q_fe b341 | (have t1 : t6_0.toInt ≤ y338.toInt := b341; omega))), (show y338.toInt ≤ t6_0.toInt + 420004 from (by have t1 : 0 ≤ t10_0.toInt ∧ t10_0.toInt ≤ 64 := btt10_0; have t2 : y338.toInt ≤ t6_0.toInt + t10_0.toInt := b343; omega)), (show y338.toInt ≤ t4_1.toInt + 1000074 from (by have t1 : -1000000 ≤ t4_1.toInt ∧ t4_1.toInt ≤ 1000000 := btt4_1; have t2 : 0 ≤ t10_0.toInt ∧ t10_0.toInt ≤ 64 := btt10_0; have t3 : t6_0.toInt ≤ 10 := pre2; have t4 : y338.toInt ≤ t6_0.toInt + t10_0.toInt := b343; omega)), (show (t4_0, t4_1, t5_0, y338, f339) = (F_Pri_writeAnything x2 t0_0 t0_1 t0_2 t0_3 t1_0 t2_0 t3_0 t4_0 t4_1 t5_0 t6_0 t7_0 t8_0 t9_0 t10_0 t11_0 t12_0 t13_0 t14_0 t15_0 t16_0 t17_0 t18_0 t19_0 t20_0 t21_0 t22_0 t23_0 t24_0 t25_0) from Eq.trans (by rw [e349, e348, F_Pri_writeAnything_c117_10.eq_1]) hR350)⟩) d_9_11_181
    have b355 : q_F (x2.toInt ≠ 1) := (q_neI c329)
    by_cases c356 : x2 = 2
    ·
      have b357 : q_F (x2.toInt = 2) := (q_eqI c356)
      refine q_ti (v := 2) c356 ?_
      have hX358 := n_fx hI (n_s44 g q)
      refine q_aald (t := 6) (q := q 52) C0 V hX358 rfl (q_ix (x := 2) (by decide) (by omega) (by omega)) (show n_ft q ((2 : Int32).toNatClampNeg) = _ from n_ftv (j := 2) (by decide)) d_9_11_106 ?_
      refine lv_iconst (v := 0) hx hb d_9_11_107 (by decide) ?_
      refine lv_aload_n hx hb d_9_11_108 rfl (lv_at hl 0 rfl) ?_
      refine q_get (ci := 11) (j := 4) (v := .ref (q 44)) C0 V i_Pri rfl rfl hT0 (by decide) w_389 rfl d_9_11_109 ?_
      refine lv_iload_n hx hb d_9_11_112 rfl (lv_at hl 1 rfl) ?_
      have c359 : x2 = 2 := q_Ieq (x := x2.toInt) (y := 2) rfl (by decide) (by have t1 : 0 ≤ x2.toInt := pre0; have t2 : x2.toInt ≤ 8 := pre1; have t3 : x2.toInt ≠ 0 := b328; have t4 : x2.toInt ≠ 1 := b355; have t5 : x2.toInt = 2 := b357; omega)
      refine q_ti (v := 2) c359 ?_
      have hX361 := n_fx hI (n_s44 g q)
      refine q_aald (t := 6) (q := q 52) C0 V hX361 rfl (q_ix (x := 2) (by decide) (by omega) (by omega)) (show n_ft q ((2 : Int32).toNatClampNeg) = _ from n_ftv (j := 2) (by decide)) d_9_11_113 ?_
      refine q_get (ci := 1) (j := 2) (v := .int t12_0) C0 V i_She rfl rfl hT12 (by decide) w_58 rfl d_9_11_114 ?_
      refine q_gov V (q_runS (As := [.ref (q 45), .ref (q 52), .int 0, .int t12_0]) (rest := []) (d := 2) (mc := 0) (ms := 0) C0 V rfl LS_Pri_76 (X_Pri_copyInto l D g q ws 45 4104 513 1000000 (n_h45 g q) 52 64 8 64 (n_h52 g q) 0 t12_0 (by decide) (by decide) (by decide) hI t6_0 hT6 t7_0 hT7 t12_0 hT12 t13_0 hT13 (by have y0 : (4104 : Int32).toInt = 4104 := rfl; have y1 : (513 : Int32).toInt = 513 := rfl; have y2 : (1000000 : Int32).toInt = 1000000 := rfl; have y3 : (64 : Int32).toInt = 64 := rfl; have y4 : (8 : Int32).toInt = 8 := rfl; have y5 : (64 : Int32).toInt = 64 := rfl; have y6 : (0 : Int32).toInt = 0 := rfl; omega) (by have y0 : (4104 : Int32).toInt = 4104 := rfl; have y1 : (513 : Int32).toInt = 513 := rfl; have y2 : (1000000 : Int32).toInt = 1000000 := rfl; have y3 : (64 : Int32).toInt = 64 := rfl; have y4 : (8 : Int32).toInt = 8 := rfl; have y5 : (64 : Int32).toInt = 64 := rfl; have y6 : (0 : Int32).toInt = 0 := rfl; have t1 : 0 ≤ t12_0.toInt ∧ t12_0.toInt ≤ 64 := btt12_0; omega) (by have y0 : (4104 : Int32).toInt = 4104 := rfl; have y1 : (513 : Int32).toInt = 513 := rfl; have y2 : (1000000 : Int32).toInt = 1000000 := rfl; have y3 : (64 : Int32).toInt = 64 := rfl; have y4 : (8 : Int32).toInt = 8 := rfl; have y5 : (64 : Int32).toInt = 64 := rfl; have y6 : (0 : Int32).toInt = 0 := rfl; have t1 : 0 ≤ t12_0.toInt ∧ t12_0.toInt ≤ 64 := btt12_0; have t2 : t6_0.toInt ≤ 10 := pre2; omega) _) rfl hl.1 rfl (Nat.le_of_ble_eq_true rfl) ⟨by decide, by decide⟩ ⟨Nat.le_of_ble_eq_true rfl, Nat.le_of_ble_eq_true rfl⟩ d_9_11_117) (fun u362 H locs hp363 V => ?_)
      obtain ⟨hI, hZ9⟩ := hp363
      obtain ⟨hu372, hZ9⟩ := hZ9
      obtain ⟨y365, hZ9⟩ := hZ9
      obtain ⟨f366, hZ9⟩ := hZ9
      obtain ⟨hO364, hZ9⟩ := hZ9
      obtain ⟨hA367, hZ9⟩ := hZ9
      obtain ⟨b368, hZ9⟩ := hZ9
      replace hZ9 := hZ9.2
      obtain ⟨b370, hE371⟩ := hZ9
      replace hO364 : u362[45]? = (some (q 45, .inr (1, [.ref (q 46), .int 4104, .int y365])) : Option (Nat × va_E)) := hO364
      replace hA367 : u362[46]? = (some (q 46, .inl (g 1, (513 : Int32).toNatClampNeg, .inr (.inl f366))) : Option (Nat × va_E)) := hA367
      obtain ⟨p373, e374⟩ : ∃ z, z = (F_Pri_copyInto (4104 : Int32) (513 : Int32) (1000000 : Int32) (64 : Int32) (8 : Int32) (64 : Int32) (0 : Int32) t12_0 t6_0 t7_0 t12_0 t13_0) := ⟨_, rfl⟩
      have e375 : y365 = p373.1 := congrArg (fun z => z.1) (hE371.trans e374.symm)
      have e376 : f366 = p373.2 := congrArg (fun z => z.2) (hE371.trans e374.symm)
      replace b368 : q_F (t6_0.toInt ≤ y365.toInt) := b368
      replace b370 : q_F (y365.toInt ≤ t6_0.toInt + t12_0.toInt) := b370
      replace hT4 := (hu372 _ (by decide)).trans hT4
      replace hT5 := (hu372 _ (by decide)).trans hT5
      replace hF := q_uc hF hu372 (by first | exact (q_sk (q_mi 2 rfl) (q_sk (q_mi 3 rfl) q_s0)) | simp)
      have hR377 := (show F_Pri_writeAnything_c117_11 x2 t0_0 t0_1 t0_2 t0_3 t1_0 t2_0 t3_0 t4_0 t4_1 t5_0 t6_0 t7_0 t8_0 t9_0 t10_0 t11_0 t12_0 t13_0 t14_0 t15_0 t16_0 t17_0 t18_0 t19_0 t20_0 t21_0 t22_0 t23_0 t24_0 t25_0 p373 = (F_Pri_writeAnything x2 t0_0 t0_1 t0_2 t0_3 t1_0 t2_0 t3_0 t4_0 t4_1 t5_0 t6_0 t7_0 t8_0 t9_0 t10_0 t11_0 t12_0 t13_0 t14_0 t15_0 t16_0 t17_0 t18_0 t19_0 t20_0 t21_0 t22_0 t23_0 t24_0 t25_0) from (by have c77x := c77; rw [← e76] at c77x; have c99x := c99; rw [← e76] at c99x; have c148x := c148; rw [← e76] at c148x; have c174x := c174; rw [← e76] at c174x; have c300x := c300; rw [← e76] at c300x; rw [e374, F_Pri_writeAnything.eq_1, if_neg c77x, if_neg c99x, if_neg c148x, if_neg c174x, if_pos c300x, if_neg c302, if_neg c329, if_pos c356]))
      refine lv_goto (tgt := 181) hx hb d_9_11_120 (by decide) ?_
      exact q_retv C0 V (⟨hI, hF, t4_0, t4_1, t5_0, y365, f366, hT4, hT5, hO364, hA367, (show 0 ≤ t4_0.toInt from (by first | with_reducible exact (q_fe btt4_0).2 | with_reducible exact (q_fe btt4_0).1 | (have t1 : 0 ≤ t4_0.toInt ∧ t4_0.toInt ≤ 1026 := btt4_0; omega))), (show t4_0.toInt ≤ 1026 from (by first | with_reducible exact (q_fe btt4_0).2 | with_reducible exact (q_fe btt4_0).1 | (have t1 : 0 ≤ t4_0.toInt ∧ t4_0.toInt ≤ 1026 := btt4_0; omega))), (show 0 ≤ t4_1.toInt + 1000000 from (by first | with_reducible exact (q_fe btt4_1).2 | with_reducible exact (q_fe btt4_1).1 | (have t1 : -1000000 ≤ t4_1.toInt ∧ t4_1.toInt ≤ 1000000 := btt4_1; omega))), (show t4_1.toInt ≤ 1000000 from (by first | with_reducible exact (q_fe btt4_1).2 | with_reducible exact (q_fe btt4_1).1 | (have t1 : -1000000 ≤ t4_1.toInt ∧ t4_1.toInt ≤ 1000000 := btt4_1; omega))), (show t4_0.toInt ≤ t4_0.toInt + 20 from (by omega)), (show t4_1.toInt ≤ t4_1.toInt + 1020000 from (by omega)), (show t4_1.toInt ≤ t4_1.toInt + 1020019 from (by omega)), (show t6_0.toInt ≤ y365.toInt from (by first | with_reducible exact q_fe b368 | (have t1 : t6_0.toInt ≤ y365.toInt := b368; omega))), (show y365.toInt ≤ t6_0.toInt + 420004 from (by have t1 : 0 ≤ t12_0.toInt ∧ t12_0.toInt ≤ 64 := btt12_0; have t2 : y365.toInt ≤ t6_0.toInt + t12_0.toInt := b370; omega)), (show y365.toInt ≤ t4_1.toInt + 1000074 from (by have t1 : -1000000 ≤ t4_1.toInt ∧ t4_1.toInt ≤ 1000000 := btt4_1; have t2 : 0 ≤ t12_0.toInt ∧ t12_0.toInt ≤ 64 := btt12_0; have t3 : t6_0.toInt ≤ 10 := pre2; have t4 : y365.toInt ≤ t6_0.toInt + t12_0.toInt := b370; omega)), (show (t4_0, t4_1, t5_0, y365, f366) = (F_Pri_writeAnything x2 t0_0 t0_1 t0_2 t0_3 t1_0 t2_0 t3_0 t4_0 t4_1 t5_0 t6_0 t7_0 t8_0 t9_0 t10_0 t11_0 t12_0 t13_0 t14_0 t15_0 t16_0 t17_0 t18_0 t19_0 t20_0 t21_0 t22_0 t23_0 t24_0 t25_0) from Eq.trans (by rw [e376, e375, F_Pri_writeAnything_c117_11.eq_1]) hR377)⟩) d_9_11_181
    have b382 : q_F (x2.toInt ≠ 2) := (q_neI c356)
    by_cases c383 : x2 = 3
    ·
      have b384 : q_F (x2.toInt = 3) := (q_eqI c383)
      refine q_ti (v := 3) c383 ?_
      have hX385 := n_fx hI (n_s44 g q)
      refine q_aald (t := 6) (q := q 54) C0 V hX385 rfl (q_ix (x := 3) (by decide) (by omega) (by omega)) (show n_ft q ((3 : Int32).toNatClampNeg) = _ from n_ftv (j := 3) (by decide)) d_9_11_106 ?_
      refine lv_iconst (v := 0) hx hb d_9_11_107 (by decide) ?_
      refine lv_aload_n hx hb d_9_11_108 rfl (lv_at hl 0 rfl) ?_
      refine q_get (ci := 11) (j := 4) (v := .ref (q 44)) C0 V i_Pri rfl rfl hT0 (by decide) w_389 rfl d_9_11_109 ?_
      refine lv_iload_n hx hb d_9_11_112 rfl (lv_at hl 1 rfl) ?_
      have c386 : x2 = 3 := q_Ieq (x := x2.toInt) (y := 3) rfl (by decide) (by have t1 : 0 ≤ x2.toInt := pre0; have t2 : x2.toInt ≤ 8 := pre1; have t3 : x2.toInt ≠ 0 := b328; have t4 : x2.toInt ≠ 1 := b355; have t5 : x2.toInt ≠ 2 := b382; have t6 : x2.toInt = 3 := b384; omega)
      refine q_ti (v := 3) c386 ?_
      have hX388 := n_fx hI (n_s44 g q)
      refine q_aald (t := 6) (q := q 54) C0 V hX388 rfl (q_ix (x := 3) (by decide) (by omega) (by omega)) (show n_ft q ((3 : Int32).toNatClampNeg) = _ from n_ftv (j := 3) (by decide)) d_9_11_113 ?_
      refine q_get (ci := 1) (j := 2) (v := .int t14_0) C0 V i_She rfl rfl hT14 (by decide) w_58 rfl d_9_11_114 ?_
      refine q_gov V (q_runS (As := [.ref (q 45), .ref (q 54), .int 0, .int t14_0]) (rest := []) (d := 2) (mc := 0) (ms := 0) C0 V rfl LS_Pri_76 (X_Pri_copyInto l D g q ws 45 4104 513 1000000 (n_h45 g q) 54 64 8 64 (n_h54 g q) 0 t14_0 (by decide) (by decide) (by decide) hI t6_0 hT6 t7_0 hT7 t14_0 hT14 t15_0 hT15 (by have y0 : (4104 : Int32).toInt = 4104 := rfl; have y1 : (513 : Int32).toInt = 513 := rfl; have y2 : (1000000 : Int32).toInt = 1000000 := rfl; have y3 : (64 : Int32).toInt = 64 := rfl; have y4 : (8 : Int32).toInt = 8 := rfl; have y5 : (64 : Int32).toInt = 64 := rfl; have y6 : (0 : Int32).toInt = 0 := rfl; omega) (by have y0 : (4104 : Int32).toInt = 4104 := rfl; have y1 : (513 : Int32).toInt = 513 := rfl; have y2 : (1000000 : Int32).toInt = 1000000 := rfl; have y3 : (64 : Int32).toInt = 64 := rfl; have y4 : (8 : Int32).toInt = 8 := rfl; have y5 : (64 : Int32).toInt = 64 := rfl; have y6 : (0 : Int32).toInt = 0 := rfl; have t1 : 0 ≤ t14_0.toInt ∧ t14_0.toInt ≤ 64 := btt14_0; omega) (by have y0 : (4104 : Int32).toInt = 4104 := rfl; have y1 : (513 : Int32).toInt = 513 := rfl; have y2 : (1000000 : Int32).toInt = 1000000 := rfl; have y3 : (64 : Int32).toInt = 64 := rfl; have y4 : (8 : Int32).toInt = 8 := rfl; have y5 : (64 : Int32).toInt = 64 := rfl; have y6 : (0 : Int32).toInt = 0 := rfl; have t1 : 0 ≤ t14_0.toInt ∧ t14_0.toInt ≤ 64 := btt14_0; have t2 : t6_0.toInt ≤ 10 := pre2; omega) _) rfl hl.1 rfl (Nat.le_of_ble_eq_true rfl) ⟨by decide, by decide⟩ ⟨Nat.le_of_ble_eq_true rfl, Nat.le_of_ble_eq_true rfl⟩ d_9_11_117) (fun u389 H locs hp390 V => ?_)
      obtain ⟨hI, hZ9⟩ := hp390
      obtain ⟨hu399, hZ9⟩ := hZ9
      obtain ⟨y392, hZ9⟩ := hZ9
      obtain ⟨f393, hZ9⟩ := hZ9
      obtain ⟨hO391, hZ9⟩ := hZ9
      obtain ⟨hA394, hZ9⟩ := hZ9
      obtain ⟨b395, hZ9⟩ := hZ9
      replace hZ9 := hZ9.2
      obtain ⟨b397, hE398⟩ := hZ9
      replace hO391 : u389[45]? = (some (q 45, .inr (1, [.ref (q 46), .int 4104, .int y392])) : Option (Nat × va_E)) := hO391
      replace hA394 : u389[46]? = (some (q 46, .inl (g 1, (513 : Int32).toNatClampNeg, .inr (.inl f393))) : Option (Nat × va_E)) := hA394
      obtain ⟨p400, e401⟩ : ∃ z, z = (F_Pri_copyInto (4104 : Int32) (513 : Int32) (1000000 : Int32) (64 : Int32) (8 : Int32) (64 : Int32) (0 : Int32) t14_0 t6_0 t7_0 t14_0 t15_0) := ⟨_, rfl⟩
      have e402 : y392 = p400.1 := congrArg (fun z => z.1) (hE398.trans e401.symm)
      have e403 : f393 = p400.2 := congrArg (fun z => z.2) (hE398.trans e401.symm)
      replace b395 : q_F (t6_0.toInt ≤ y392.toInt) := b395
      replace b397 : q_F (y392.toInt ≤ t6_0.toInt + t14_0.toInt) := b397
      replace hT4 := (hu399 _ (by decide)).trans hT4
      replace hT5 := (hu399 _ (by decide)).trans hT5
      replace hF := q_uc hF hu399 (by first | exact (q_sk (q_mi 2 rfl) (q_sk (q_mi 3 rfl) q_s0)) | simp)
      have hR404 := (show F_Pri_writeAnything_c117_12 x2 t0_0 t0_1 t0_2 t0_3 t1_0 t2_0 t3_0 t4_0 t4_1 t5_0 t6_0 t7_0 t8_0 t9_0 t10_0 t11_0 t12_0 t13_0 t14_0 t15_0 t16_0 t17_0 t18_0 t19_0 t20_0 t21_0 t22_0 t23_0 t24_0 t25_0 p400 = (F_Pri_writeAnything x2 t0_0 t0_1 t0_2 t0_3 t1_0 t2_0 t3_0 t4_0 t4_1 t5_0 t6_0 t7_0 t8_0 t9_0 t10_0 t11_0 t12_0 t13_0 t14_0 t15_0 t16_0 t17_0 t18_0 t19_0 t20_0 t21_0 t22_0 t23_0 t24_0 t25_0) from (by have c77x := c77; rw [← e76] at c77x; have c99x := c99; rw [← e76] at c99x; have c148x := c148; rw [← e76] at c148x; have c174x := c174; rw [← e76] at c174x; have c300x := c300; rw [← e76] at c300x; rw [e401, F_Pri_writeAnything.eq_1, if_neg c77x, if_neg c99x, if_neg c148x, if_neg c174x, if_pos c300x, if_neg c302, if_neg c329, if_neg c356, if_pos c383]))
      refine lv_goto (tgt := 181) hx hb d_9_11_120 (by decide) ?_
      exact q_retv C0 V (⟨hI, hF, t4_0, t4_1, t5_0, y392, f393, hT4, hT5, hO391, hA394, (show 0 ≤ t4_0.toInt from (by first | with_reducible exact (q_fe btt4_0).2 | with_reducible exact (q_fe btt4_0).1 | (have t1 : 0 ≤ t4_0.toInt ∧ t4_0.toInt ≤ 1026 := btt4_0; omega))), (show t4_0.toInt ≤ 1026 from (by first | with_reducible exact (q_fe btt4_0).2 | with_reducible exact (q_fe btt4_0).1 | (have t1 : 0 ≤ t4_0.toInt ∧ t4_0.toInt ≤ 1026 := btt4_0; omega))), (show 0 ≤ t4_1.toInt + 1000000 from (by first | with_reducible exact (q_fe btt4_1).2 | with_reducible exact (q_fe btt4_1).1 | (have t1 : -1000000 ≤ t4_1.toInt ∧ t4_1.toInt ≤ 1000000 := btt4_1; omega))), (show t4_1.toInt ≤ 1000000 from (by first | with_reducible exact (q_fe btt4_1).2 | with_reducible exact (q_fe btt4_1).1 | (have t1 : -1000000 ≤ t4_1.toInt ∧ t4_1.toInt ≤ 1000000 := btt4_1; omega))), (show t4_0.toInt ≤ t4_0.toInt + 20 from (by omega)), (show t4_1.toInt ≤ t4_1.toInt + 1020000 from (by omega)), (show t4_1.toInt ≤ t4_1.toInt + 1020019 from (by omega)), (show t6_0.toInt ≤ y392.toInt from (by first | with_reducible exact q_fe b395 | (have t1 : t6_0.toInt ≤ y392.toInt := b395; omega))), (show y392.toInt ≤ t6_0.toInt + 420004 from (by have t1 : 0 ≤ t14_0.toInt ∧ t14_0.toInt ≤ 64 := btt14_0; have t2 : y392.toInt ≤ t6_0.toInt + t14_0.toInt := b397; omega)), (show y392.toInt ≤ t4_1.toInt + 1000074 from (by have t1 : -1000000 ≤ t4_1.toInt ∧ t4_1.toInt ≤ 1000000 := btt4_1; have t2 : 0 ≤ t14_0.toInt ∧ t14_0.toInt ≤ 64 := btt14_0; have t3 : t6_0.toInt ≤ 10 := pre2; have t4 : y392.toInt ≤ t6_0.toInt + t14_0.toInt := b397; omega)), (show (t4_0, t4_1, t5_0, y392, f393) = (F_Pri_writeAnything x2 t0_0 t0_1 t0_2 t0_3 t1_0 t2_0 t3_0 t4_0 t4_1 t5_0 t6_0 t7_0 t8_0 t9_0 t10_0 t11_0 t12_0 t13_0 t14_0 t15_0 t16_0 t17_0 t18_0 t19_0 t20_0 t21_0 t22_0 t23_0 t24_0 t25_0) from Eq.trans (by rw [e403, e402, F_Pri_writeAnything_c117_12.eq_1]) hR404)⟩) d_9_11_181
    have b409 : q_F (x2.toInt ≠ 3) := (q_neI c383)
    by_cases c410 : x2 = 4
    ·
      have b411 : q_F (x2.toInt = 4) := (q_eqI c410)
      refine q_ti (v := 4) c410 ?_
      have hX412 := n_fx hI (n_s44 g q)
      refine q_aald (t := 6) (q := q 56) C0 V hX412 rfl (q_ix (x := 4) (by decide) (by omega) (by omega)) (show n_ft q ((4 : Int32).toNatClampNeg) = _ from n_ftv (j := 4) (by decide)) d_9_11_106 ?_
      refine lv_iconst (v := 0) hx hb d_9_11_107 (by decide) ?_
      refine lv_aload_n hx hb d_9_11_108 rfl (lv_at hl 0 rfl) ?_
      refine q_get (ci := 11) (j := 4) (v := .ref (q 44)) C0 V i_Pri rfl rfl hT0 (by decide) w_389 rfl d_9_11_109 ?_
      refine lv_iload_n hx hb d_9_11_112 rfl (lv_at hl 1 rfl) ?_
      have c413 : x2 = 4 := q_Ieq (x := x2.toInt) (y := 4) rfl (by decide) (by have t1 : 0 ≤ x2.toInt := pre0; have t2 : x2.toInt ≤ 8 := pre1; have t3 : x2.toInt ≠ 0 := b328; have t4 : x2.toInt ≠ 1 := b355; have t5 : x2.toInt ≠ 2 := b382; have t6 : x2.toInt ≠ 3 := b409; have t7 : x2.toInt = 4 := b411; omega)
      refine q_ti (v := 4) c413 ?_
      have hX415 := n_fx hI (n_s44 g q)
      refine q_aald (t := 6) (q := q 56) C0 V hX415 rfl (q_ix (x := 4) (by decide) (by omega) (by omega)) (show n_ft q ((4 : Int32).toNatClampNeg) = _ from n_ftv (j := 4) (by decide)) d_9_11_113 ?_
      refine q_get (ci := 1) (j := 2) (v := .int t16_0) C0 V i_She rfl rfl hT16 (by decide) w_58 rfl d_9_11_114 ?_
      refine q_gov V (q_runS (As := [.ref (q 45), .ref (q 56), .int 0, .int t16_0]) (rest := []) (d := 2) (mc := 0) (ms := 0) C0 V rfl LS_Pri_76 (X_Pri_copyInto l D g q ws 45 4104 513 1000000 (n_h45 g q) 56 64 8 64 (n_h56 g q) 0 t16_0 (by decide) (by decide) (by decide) hI t6_0 hT6 t7_0 hT7 t16_0 hT16 t17_0 hT17 (by have y0 : (4104 : Int32).toInt = 4104 := rfl; have y1 : (513 : Int32).toInt = 513 := rfl; have y2 : (1000000 : Int32).toInt = 1000000 := rfl; have y3 : (64 : Int32).toInt = 64 := rfl; have y4 : (8 : Int32).toInt = 8 := rfl; have y5 : (64 : Int32).toInt = 64 := rfl; have y6 : (0 : Int32).toInt = 0 := rfl; omega) (by have y0 : (4104 : Int32).toInt = 4104 := rfl; have y1 : (513 : Int32).toInt = 513 := rfl; have y2 : (1000000 : Int32).toInt = 1000000 := rfl; have y3 : (64 : Int32).toInt = 64 := rfl; have y4 : (8 : Int32).toInt = 8 := rfl; have y5 : (64 : Int32).toInt = 64 := rfl; have y6 : (0 : Int32).toInt = 0 := rfl; have t1 : 0 ≤ t16_0.toInt ∧ t16_0.toInt ≤ 64 := btt16_0; omega) (by have y0 : (4104 : Int32).toInt = 4104 := rfl; have y1 : (513 : Int32).toInt = 513 := rfl; have y2 : (1000000 : Int32).toInt = 1000000 := rfl; have y3 : (64 : Int32).toInt = 64 := rfl; have y4 : (8 : Int32).toInt = 8 := rfl; have y5 : (64 : Int32).toInt = 64 := rfl; have y6 : (0 : Int32).toInt = 0 := rfl; have t1 : 0 ≤ t16_0.toInt ∧ t16_0.toInt ≤ 64 := btt16_0; have t2 : t6_0.toInt ≤ 10 := pre2; omega) _) rfl hl.1 rfl (Nat.le_of_ble_eq_true rfl) ⟨by decide, by decide⟩ ⟨Nat.le_of_ble_eq_true rfl, Nat.le_of_ble_eq_true rfl⟩ d_9_11_117) (fun u416 H locs hp417 V => ?_)
      obtain ⟨hI, hZ9⟩ := hp417
      obtain ⟨hu426, hZ9⟩ := hZ9
      obtain ⟨y419, hZ9⟩ := hZ9
      obtain ⟨f420, hZ9⟩ := hZ9
      obtain ⟨hO418, hZ9⟩ := hZ9
      obtain ⟨hA421, hZ9⟩ := hZ9
      obtain ⟨b422, hZ9⟩ := hZ9
      replace hZ9 := hZ9.2
      obtain ⟨b424, hE425⟩ := hZ9
      replace hO418 : u416[45]? = (some (q 45, .inr (1, [.ref (q 46), .int 4104, .int y419])) : Option (Nat × va_E)) := hO418
      replace hA421 : u416[46]? = (some (q 46, .inl (g 1, (513 : Int32).toNatClampNeg, .inr (.inl f420))) : Option (Nat × va_E)) := hA421
      obtain ⟨p427, e428⟩ : ∃ z, z = (F_Pri_copyInto (4104 : Int32) (513 : Int32) (1000000 : Int32) (64 : Int32) (8 : Int32) (64 : Int32) (0 : Int32) t16_0 t6_0 t7_0 t16_0 t17_0) := ⟨_, rfl⟩
      have e429 : y419 = p427.1 := congrArg (fun z => z.1) (hE425.trans e428.symm)
      have e430 : f420 = p427.2 := congrArg (fun z => z.2) (hE425.trans e428.symm)
      replace b422 : q_F (t6_0.toInt ≤ y419.toInt) := b422
      replace b424 : q_F (y419.toInt ≤ t6_0.toInt + t16_0.toInt) := b424
      replace hT4 := (hu426 _ (by decide)).trans hT4
      replace hT5 := (hu426 _ (by decide)).trans hT5
      replace hF := q_uc hF hu426 (by first | exact (q_sk (q_mi 2 rfl) (q_sk (q_mi 3 rfl) q_s0)) | simp)
      have hR431 := (show F_Pri_writeAnything_c117_13 x2 t0_0 t0_1 t0_2 t0_3 t1_0 t2_0 t3_0 t4_0 t4_1 t5_0 t6_0 t7_0 t8_0 t9_0 t10_0 t11_0 t12_0 t13_0 t14_0 t15_0 t16_0 t17_0 t18_0 t19_0 t20_0 t21_0 t22_0 t23_0 t24_0 t25_0 p427 = (F_Pri_writeAnything x2 t0_0 t0_1 t0_2 t0_3 t1_0 t2_0 t3_0 t4_0 t4_1 t5_0 t6_0 t7_0 t8_0 t9_0 t10_0 t11_0 t12_0 t13_0 t14_0 t15_0 t16_0 t17_0 t18_0 t19_0 t20_0 t21_0 t22_0 t23_0 t24_0 t25_0) from (by have c77x := c77; rw [← e76] at c77x; have c99x := c99; rw [← e76] at c99x; have c148x := c148; rw [← e76] at c148x; have c174x := c174; rw [← e76] at c174x; have c300x := c300; rw [← e76] at c300x; rw [e428, F_Pri_writeAnything.eq_1, if_neg c77x, if_neg c99x, if_neg c148x, if_neg c174x, if_pos c300x, if_neg c302, if_neg c329, if_neg c356, if_neg c383, if_pos c410]))
      refine lv_goto (tgt := 181) hx hb d_9_11_120 (by decide) ?_
      exact q_retv C0 V (⟨hI, hF, t4_0, t4_1, t5_0, y419, f420, hT4, hT5, hO418, hA421, (show 0 ≤ t4_0.toInt from (by first | with_reducible exact (q_fe btt4_0).2 | with_reducible exact (q_fe btt4_0).1 | (have t1 : 0 ≤ t4_0.toInt ∧ t4_0.toInt ≤ 1026 := btt4_0; omega))), (show t4_0.toInt ≤ 1026 from (by first | with_reducible exact (q_fe btt4_0).2 | with_reducible exact (q_fe btt4_0).1 | (have t1 : 0 ≤ t4_0.toInt ∧ t4_0.toInt ≤ 1026 := btt4_0; omega))), (show 0 ≤ t4_1.toInt + 1000000 from (by first | with_reducible exact (q_fe btt4_1).2 | with_reducible exact (q_fe btt4_1).1 | (have t1 : -1000000 ≤ t4_1.toInt ∧ t4_1.toInt ≤ 1000000 := btt4_1; omega))), (show t4_1.toInt ≤ 1000000 from (by first | with_reducible exact (q_fe btt4_1).2 | with_reducible exact (q_fe btt4_1).1 | (have t1 : -1000000 ≤ t4_1.toInt ∧ t4_1.toInt ≤ 1000000 := btt4_1; omega))), (show t4_0.toInt ≤ t4_0.toInt + 20 from (by omega)), (show t4_1.toInt ≤ t4_1.toInt + 1020000 from (by omega)), (show t4_1.toInt ≤ t4_1.toInt + 1020019 from (by omega)), (show t6_0.toInt ≤ y419.toInt from (by first | with_reducible exact q_fe b422 | (have t1 : t6_0.toInt ≤ y419.toInt := b422; omega))), (show y419.toInt ≤ t6_0.toInt + 420004 from (by have t1 : 0 ≤ t16_0.toInt ∧ t16_0.toInt ≤ 64 := btt16_0; have t2 : y419.toInt ≤ t6_0.toInt + t16_0.toInt := b424; omega)), (show y419.toInt ≤ t4_1.toInt + 1000074 from (by have t1 : -1000000 ≤ t4_1.toInt ∧ t4_1.toInt ≤ 1000000 := btt4_1; have t2 : 0 ≤ t16_0.toInt ∧ t16_0.toInt ≤ 64 := btt16_0; have t3 : t6_0.toInt ≤ 10 := pre2; have t4 : y419.toInt ≤ t6_0.toInt + t16_0.toInt := b424; omega)), (show (t4_0, t4_1, t5_0, y419, f420) = (F_Pri_writeAnything x2 t0_0 t0_1 t0_2 t0_3 t1_0 t2_0 t3_0 t4_0 t4_1 t5_0 t6_0 t7_0 t8_0 t9_0 t10_0 t11_0 t12_0 t13_0 t14_0 t15_0 t16_0 t17_0 t18_0 t19_0 t20_0 t21_0 t22_0 t23_0 t24_0 t25_0) from Eq.trans (by rw [e430, e429, F_Pri_writeAnything_c117_13.eq_1]) hR431)⟩) d_9_11_181
    have b436 : q_F (x2.toInt ≠ 4) := (q_neI c410)
    by_cases c437 : x2 = 5
    ·
      have b438 : q_F (x2.toInt = 5) := (q_eqI c437)
      refine q_ti (v := 5) c437 ?_
      have hX439 := n_fx hI (n_s44 g q)
      refine q_aald (t := 6) (q := q 58) C0 V hX439 rfl (q_ix (x := 5) (by decide) (by omega) (by omega)) (show n_ft q ((5 : Int32).toNatClampNeg) = _ from n_ftv (j := 5) (by decide)) d_9_11_106 ?_
      refine lv_iconst (v := 0) hx hb d_9_11_107 (by decide) ?_
      refine lv_aload_n hx hb d_9_11_108 rfl (lv_at hl 0 rfl) ?_
      refine q_get (ci := 11) (j := 4) (v := .ref (q 44)) C0 V i_Pri rfl rfl hT0 (by decide) w_389 rfl d_9_11_109 ?_
      refine lv_iload_n hx hb d_9_11_112 rfl (lv_at hl 1 rfl) ?_
      have c440 : x2 = 5 := q_Ieq (x := x2.toInt) (y := 5) rfl (by decide) (by have t1 : 0 ≤ x2.toInt := pre0; have t2 : x2.toInt ≤ 8 := pre1; have t3 : x2.toInt ≠ 0 := b328; have t4 : x2.toInt ≠ 1 := b355; have t5 : x2.toInt ≠ 2 := b382; have t6 : x2.toInt ≠ 3 := b409; have t7 : x2.toInt ≠ 4 := b436; have t8 : x2.toInt = 5 := b438; omega)
      refine q_ti (v := 5) c440 ?_
      have hX442 := n_fx hI (n_s44 g q)
      refine q_aald (t := 6) (q := q 58) C0 V hX442 rfl (q_ix (x := 5) (by decide) (by omega) (by omega)) (show n_ft q ((5 : Int32).toNatClampNeg) = _ from n_ftv (j := 5) (by decide)) d_9_11_113 ?_
      refine q_get (ci := 1) (j := 2) (v := .int t18_0) C0 V i_She rfl rfl hT18 (by decide) w_58 rfl d_9_11_114 ?_
      refine q_gov V (q_runS (As := [.ref (q 45), .ref (q 58), .int 0, .int t18_0]) (rest := []) (d := 2) (mc := 0) (ms := 0) C0 V rfl LS_Pri_76 (X_Pri_copyInto l D g q ws 45 4104 513 1000000 (n_h45 g q) 58 64 8 64 (n_h58 g q) 0 t18_0 (by decide) (by decide) (by decide) hI t6_0 hT6 t7_0 hT7 t18_0 hT18 t19_0 hT19 (by have y0 : (4104 : Int32).toInt = 4104 := rfl; have y1 : (513 : Int32).toInt = 513 := rfl; have y2 : (1000000 : Int32).toInt = 1000000 := rfl; have y3 : (64 : Int32).toInt = 64 := rfl; have y4 : (8 : Int32).toInt = 8 := rfl; have y5 : (64 : Int32).toInt = 64 := rfl; have y6 : (0 : Int32).toInt = 0 := rfl; omega) (by have y0 : (4104 : Int32).toInt = 4104 := rfl; have y1 : (513 : Int32).toInt = 513 := rfl; have y2 : (1000000 : Int32).toInt = 1000000 := rfl; have y3 : (64 : Int32).toInt = 64 := rfl; have y4 : (8 : Int32).toInt = 8 := rfl; have y5 : (64 : Int32).toInt = 64 := rfl; have y6 : (0 : Int32).toInt = 0 := rfl; have t1 : 0 ≤ t18_0.toInt ∧ t18_0.toInt ≤ 64 := btt18_0; omega) (by have y0 : (4104 : Int32).toInt = 4104 := rfl; have y1 : (513 : Int32).toInt = 513 := rfl; have y2 : (1000000 : Int32).toInt = 1000000 := rfl; have y3 : (64 : Int32).toInt = 64 := rfl; have y4 : (8 : Int32).toInt = 8 := rfl; have y5 : (64 : Int32).toInt = 64 := rfl; have y6 : (0 : Int32).toInt = 0 := rfl; have t1 : 0 ≤ t18_0.toInt ∧ t18_0.toInt ≤ 64 := btt18_0; have t2 : t6_0.toInt ≤ 10 := pre2; omega) _) rfl hl.1 rfl (Nat.le_of_ble_eq_true rfl) ⟨by decide, by decide⟩ ⟨Nat.le_of_ble_eq_true rfl, Nat.le_of_ble_eq_true rfl⟩ d_9_11_117) (fun u443 H locs hp444 V => ?_)
      obtain ⟨hI, hZ9⟩ := hp444
      obtain ⟨hu453, hZ9⟩ := hZ9
      obtain ⟨y446, hZ9⟩ := hZ9
      obtain ⟨f447, hZ9⟩ := hZ9
      obtain ⟨hO445, hZ9⟩ := hZ9
      obtain ⟨hA448, hZ9⟩ := hZ9
      obtain ⟨b449, hZ9⟩ := hZ9
      replace hZ9 := hZ9.2
      obtain ⟨b451, hE452⟩ := hZ9
      replace hO445 : u443[45]? = (some (q 45, .inr (1, [.ref (q 46), .int 4104, .int y446])) : Option (Nat × va_E)) := hO445
      replace hA448 : u443[46]? = (some (q 46, .inl (g 1, (513 : Int32).toNatClampNeg, .inr (.inl f447))) : Option (Nat × va_E)) := hA448
      obtain ⟨p454, e455⟩ : ∃ z, z = (F_Pri_copyInto (4104 : Int32) (513 : Int32) (1000000 : Int32) (64 : Int32) (8 : Int32) (64 : Int32) (0 : Int32) t18_0 t6_0 t7_0 t18_0 t19_0) := ⟨_, rfl⟩
      have e456 : y446 = p454.1 := congrArg (fun z => z.1) (hE452.trans e455.symm)
      have e457 : f447 = p454.2 := congrArg (fun z => z.2) (hE452.trans e455.symm)
      replace b449 : q_F (t6_0.toInt ≤ y446.toInt) := b449
      replace b451 : q_F (y446.toInt ≤ t6_0.toInt + t18_0.toInt) := b451
      replace hT4 := (hu453 _ (by decide)).trans hT4
      replace hT5 := (hu453 _ (by decide)).trans hT5
      replace hF := q_uc hF hu453 (by first | exact (q_sk (q_mi 2 rfl) (q_sk (q_mi 3 rfl) q_s0)) | simp)
      have hR458 := (show F_Pri_writeAnything_c117_14 x2 t0_0 t0_1 t0_2 t0_3 t1_0 t2_0 t3_0 t4_0 t4_1 t5_0 t6_0 t7_0 t8_0 t9_0 t10_0 t11_0 t12_0 t13_0 t14_0 t15_0 t16_0 t17_0 t18_0 t19_0 t20_0 t21_0 t22_0 t23_0 t24_0 t25_0 p454 = (F_Pri_writeAnything x2 t0_0 t0_1 t0_2 t0_3 t1_0 t2_0 t3_0 t4_0 t4_1 t5_0 t6_0 t7_0 t8_0 t9_0 t10_0 t11_0 t12_0 t13_0 t14_0 t15_0 t16_0 t17_0 t18_0 t19_0 t20_0 t21_0 t22_0 t23_0 t24_0 t25_0) from (by have c77x := c77; rw [← e76] at c77x; have c99x := c99; rw [← e76] at c99x; have c148x := c148; rw [← e76] at c148x; have c174x := c174; rw [← e76] at c174x; have c300x := c300; rw [← e76] at c300x; rw [e455, F_Pri_writeAnything.eq_1, if_neg c77x, if_neg c99x, if_neg c148x, if_neg c174x, if_pos c300x, if_neg c302, if_neg c329, if_neg c356, if_neg c383, if_neg c410, if_pos c437]))
      refine lv_goto (tgt := 181) hx hb d_9_11_120 (by decide) ?_
      exact q_retv C0 V (⟨hI, hF, t4_0, t4_1, t5_0, y446, f447, hT4, hT5, hO445, hA448, (show 0 ≤ t4_0.toInt from (by first | with_reducible exact (q_fe btt4_0).2 | with_reducible exact (q_fe btt4_0).1 | (have t1 : 0 ≤ t4_0.toInt ∧ t4_0.toInt ≤ 1026 := btt4_0; omega))), (show t4_0.toInt ≤ 1026 from (by first | with_reducible exact (q_fe btt4_0).2 | with_reducible exact (q_fe btt4_0).1 | (have t1 : 0 ≤ t4_0.toInt ∧ t4_0.toInt ≤ 1026 := btt4_0; omega))), (show 0 ≤ t4_1.toInt + 1000000 from (by first | with_reducible exact (q_fe btt4_1).2 | with_reducible exact (q_fe btt4_1).1 | (have t1 : -1000000 ≤ t4_1.toInt ∧ t4_1.toInt ≤ 1000000 := btt4_1; omega))), (show t4_1.toInt ≤ 1000000 from (by first | with_reducible exact (q_fe btt4_1).2 | with_reducible exact (q_fe btt4_1).1 | (have t1 : -1000000 ≤ t4_1.toInt ∧ t4_1.toInt ≤ 1000000 := btt4_1; omega))), (show t4_0.toInt ≤ t4_0.toInt + 20 from (by omega)), (show t4_1.toInt ≤ t4_1.toInt + 1020000 from (by omega)), (show t4_1.toInt ≤ t4_1.toInt + 1020019 from (by omega)), (show t6_0.toInt ≤ y446.toInt from (by first | with_reducible exact q_fe b449 | (have t1 : t6_0.toInt ≤ y446.toInt := b449; omega))), (show y446.toInt ≤ t6_0.toInt + 420004 from (by have t1 : 0 ≤ t18_0.toInt ∧ t18_0.toInt ≤ 64 := btt18_0; have t2 : y446.toInt ≤ t6_0.toInt + t18_0.toInt := b451; omega)), (show y446.toInt ≤ t4_1.toInt + 1000074 from (by have t1 : -1000000 ≤ t4_1.toInt ∧ t4_1.toInt ≤ 1000000 := btt4_1; have t2 : 0 ≤ t18_0.toInt ∧ t18_0.toInt ≤ 64 := btt18_0; have t3 : t6_0.toInt ≤ 10 := pre2; have t4 : y446.toInt ≤ t6_0.toInt + t18_0.toInt := b451; omega)), (show (t4_0, t4_1, t5_0, y446, f447) = (F_Pri_writeAnything x2 t0_0 t0_1 t0_2 t0_3 t1_0 t2_0 t3_0 t4_0 t4_1 t5_0 t6_0 t7_0 t8_0 t9_0 t10_0 t11_0 t12_0 t13_0 t14_0 t15_0 t16_0 t17_0 t18_0 t19_0 t20_0 t21_0 t22_0 t23_0 t24_0 t25_0) from Eq.trans (by rw [e457, e456, F_Pri_writeAnything_c117_14.eq_1]) hR458)⟩) d_9_11_181
    have b463 : q_F (x2.toInt ≠ 5) := (q_neI c437)
    by_cases c464 : x2 = 6
    ·
      have b465 : q_F (x2.toInt = 6) := (q_eqI c464)
      refine q_ti (v := 6) c464 ?_
      have hX466 := n_fx hI (n_s44 g q)
      refine q_aald (t := 6) (q := q 60) C0 V hX466 rfl (q_ix (x := 6) (by decide) (by omega) (by omega)) (show n_ft q ((6 : Int32).toNatClampNeg) = _ from n_ftv (j := 6) (by decide)) d_9_11_106 ?_
      refine lv_iconst (v := 0) hx hb d_9_11_107 (by decide) ?_
      refine lv_aload_n hx hb d_9_11_108 rfl (lv_at hl 0 rfl) ?_
      refine q_get (ci := 11) (j := 4) (v := .ref (q 44)) C0 V i_Pri rfl rfl hT0 (by decide) w_389 rfl d_9_11_109 ?_
      refine lv_iload_n hx hb d_9_11_112 rfl (lv_at hl 1 rfl) ?_
      have c467 : x2 = 6 := q_Ieq (x := x2.toInt) (y := 6) rfl (by decide) (by have t1 : 0 ≤ x2.toInt := pre0; have t2 : x2.toInt ≤ 8 := pre1; have t3 : x2.toInt ≠ 0 := b328; have t4 : x2.toInt ≠ 1 := b355; have t5 : x2.toInt ≠ 2 := b382; have t6 : x2.toInt ≠ 3 := b409; have t7 : x2.toInt ≠ 4 := b436; have t8 : x2.toInt ≠ 5 := b463; have t9 : x2.toInt = 6 := b465; omega)
      refine q_ti (v := 6) c467 ?_
      have hX469 := n_fx hI (n_s44 g q)
      refine q_aald (t := 6) (q := q 60) C0 V hX469 rfl (q_ix (x := 6) (by decide) (by omega) (by omega)) (show n_ft q ((6 : Int32).toNatClampNeg) = _ from n_ftv (j := 6) (by decide)) d_9_11_113 ?_
      refine q_get (ci := 1) (j := 2) (v := .int t20_0) C0 V i_She rfl rfl hT20 (by decide) w_58 rfl d_9_11_114 ?_
      refine q_gov V (q_runS (As := [.ref (q 45), .ref (q 60), .int 0, .int t20_0]) (rest := []) (d := 2) (mc := 0) (ms := 0) C0 V rfl LS_Pri_76 (X_Pri_copyInto l D g q ws 45 4104 513 1000000 (n_h45 g q) 60 64 8 64 (n_h60 g q) 0 t20_0 (by decide) (by decide) (by decide) hI t6_0 hT6 t7_0 hT7 t20_0 hT20 t21_0 hT21 (by have y0 : (4104 : Int32).toInt = 4104 := rfl; have y1 : (513 : Int32).toInt = 513 := rfl; have y2 : (1000000 : Int32).toInt = 1000000 := rfl; have y3 : (64 : Int32).toInt = 64 := rfl; have y4 : (8 : Int32).toInt = 8 := rfl; have y5 : (64 : Int32).toInt = 64 := rfl; have y6 : (0 : Int32).toInt = 0 := rfl; omega) (by have y0 : (4104 : Int32).toInt = 4104 := rfl; have y1 : (513 : Int32).toInt = 513 := rfl; have y2 : (1000000 : Int32).toInt = 1000000 := rfl; have y3 : (64 : Int32).toInt = 64 := rfl; have y4 : (8 : Int32).toInt = 8 := rfl; have y5 : (64 : Int32).toInt = 64 := rfl; have y6 : (0 : Int32).toInt = 0 := rfl; have t1 : 0 ≤ t20_0.toInt ∧ t20_0.toInt ≤ 64 := btt20_0; omega) (by have y0 : (4104 : Int32).toInt = 4104 := rfl; have y1 : (513 : Int32).toInt = 513 := rfl; have y2 : (1000000 : Int32).toInt = 1000000 := rfl; have y3 : (64 : Int32).toInt = 64 := rfl; have y4 : (8 : Int32).toInt = 8 := rfl; have y5 : (64 : Int32).toInt = 64 := rfl; have y6 : (0 : Int32).toInt = 0 := rfl; have t1 : 0 ≤ t20_0.toInt ∧ t20_0.toInt ≤ 64 := btt20_0; have t2 : t6_0.toInt ≤ 10 := pre2; omega) _) rfl hl.1 rfl (Nat.le_of_ble_eq_true rfl) ⟨by decide, by decide⟩ ⟨Nat.le_of_ble_eq_true rfl, Nat.le_of_ble_eq_true rfl⟩ d_9_11_117) (fun u470 H locs hp471 V => ?_)
      obtain ⟨hI, hZ9⟩ := hp471
      obtain ⟨hu480, hZ9⟩ := hZ9
      obtain ⟨y473, hZ9⟩ := hZ9
      obtain ⟨f474, hZ9⟩ := hZ9
      obtain ⟨hO472, hZ9⟩ := hZ9
      obtain ⟨hA475, hZ9⟩ := hZ9
      obtain ⟨b476, hZ9⟩ := hZ9
      replace hZ9 := hZ9.2
      obtain ⟨b478, hE479⟩ := hZ9
      replace hO472 : u470[45]? = (some (q 45, .inr (1, [.ref (q 46), .int 4104, .int y473])) : Option (Nat × va_E)) := hO472
      replace hA475 : u470[46]? = (some (q 46, .inl (g 1, (513 : Int32).toNatClampNeg, .inr (.inl f474))) : Option (Nat × va_E)) := hA475
      obtain ⟨p481, e482⟩ : ∃ z, z = (F_Pri_copyInto (4104 : Int32) (513 : Int32) (1000000 : Int32) (64 : Int32) (8 : Int32) (64 : Int32) (0 : Int32) t20_0 t6_0 t7_0 t20_0 t21_0) := ⟨_, rfl⟩
      have e483 : y473 = p481.1 := congrArg (fun z => z.1) (hE479.trans e482.symm)
      have e484 : f474 = p481.2 := congrArg (fun z => z.2) (hE479.trans e482.symm)
      replace b476 : q_F (t6_0.toInt ≤ y473.toInt) := b476
      replace b478 : q_F (y473.toInt ≤ t6_0.toInt + t20_0.toInt) := b478
      replace hT4 := (hu480 _ (by decide)).trans hT4
      replace hT5 := (hu480 _ (by decide)).trans hT5
      replace hF := q_uc hF hu480 (by first | exact (q_sk (q_mi 2 rfl) (q_sk (q_mi 3 rfl) q_s0)) | simp)
      have hR485 := (show F_Pri_writeAnything_c117_15 x2 t0_0 t0_1 t0_2 t0_3 t1_0 t2_0 t3_0 t4_0 t4_1 t5_0 t6_0 t7_0 t8_0 t9_0 t10_0 t11_0 t12_0 t13_0 t14_0 t15_0 t16_0 t17_0 t18_0 t19_0 t20_0 t21_0 t22_0 t23_0 t24_0 t25_0 p481 = (F_Pri_writeAnything x2 t0_0 t0_1 t0_2 t0_3 t1_0 t2_0 t3_0 t4_0 t4_1 t5_0 t6_0 t7_0 t8_0 t9_0 t10_0 t11_0 t12_0 t13_0 t14_0 t15_0 t16_0 t17_0 t18_0 t19_0 t20_0 t21_0 t22_0 t23_0 t24_0 t25_0) from (by have c77x := c77; rw [← e76] at c77x; have c99x := c99; rw [← e76] at c99x; have c148x := c148; rw [← e76] at c148x; have c174x := c174; rw [← e76] at c174x; have c300x := c300; rw [← e76] at c300x; rw [e482, F_Pri_writeAnything.eq_1, if_neg c77x, if_neg c99x, if_neg c148x, if_neg c174x, if_pos c300x, if_neg c302, if_neg c329, if_neg c356, if_neg c383, if_neg c410, if_neg c437, if_pos c464]))
      refine lv_goto (tgt := 181) hx hb d_9_11_120 (by decide) ?_
      exact q_retv C0 V (⟨hI, hF, t4_0, t4_1, t5_0, y473, f474, hT4, hT5, hO472, hA475, (show 0 ≤ t4_0.toInt from (by first | with_reducible exact (q_fe btt4_0).2 | with_reducible exact (q_fe btt4_0).1 | (have t1 : 0 ≤ t4_0.toInt ∧ t4_0.toInt ≤ 1026 := btt4_0; omega))), (show t4_0.toInt ≤ 1026 from (by first | with_reducible exact (q_fe btt4_0).2 | with_reducible exact (q_fe btt4_0).1 | (have t1 : 0 ≤ t4_0.toInt ∧ t4_0.toInt ≤ 1026 := btt4_0; omega))), (show 0 ≤ t4_1.toInt + 1000000 from (by first | with_reducible exact (q_fe btt4_1).2 | with_reducible exact (q_fe btt4_1).1 | (have t1 : -1000000 ≤ t4_1.toInt ∧ t4_1.toInt ≤ 1000000 := btt4_1; omega))), (show t4_1.toInt ≤ 1000000 from (by first | with_reducible exact (q_fe btt4_1).2 | with_reducible exact (q_fe btt4_1).1 | (have t1 : -1000000 ≤ t4_1.toInt ∧ t4_1.toInt ≤ 1000000 := btt4_1; omega))), (show t4_0.toInt ≤ t4_0.toInt + 20 from (by omega)), (show t4_1.toInt ≤ t4_1.toInt + 1020000 from (by omega)), (show t4_1.toInt ≤ t4_1.toInt + 1020019 from (by omega)), (show t6_0.toInt ≤ y473.toInt from (by first | with_reducible exact q_fe b476 | (have t1 : t6_0.toInt ≤ y473.toInt := b476; omega))), (show y473.toInt ≤ t6_0.toInt + 420004 from (by have t1 : 0 ≤ t20_0.toInt ∧ t20_0.toInt ≤ 64 := btt20_0; have t2 : y473.toInt ≤ t6_0.toInt + t20_0.toInt := b478; omega)), (show y473.toInt ≤ t4_1.toInt + 1000074 from (by have t1 : -1000000 ≤ t4_1.toInt ∧ t4_1.toInt ≤ 1000000 := btt4_1; have t2 : 0 ≤ t20_0.toInt ∧ t20_0.toInt ≤ 64 := btt20_0; have t3 : t6_0.toInt ≤ 10 := pre2; have t4 : y473.toInt ≤ t6_0.toInt + t20_0.toInt := b478; omega)), (show (t4_0, t4_1, t5_0, y473, f474) = (F_Pri_writeAnything x2 t0_0 t0_1 t0_2 t0_3 t1_0 t2_0 t3_0 t4_0 t4_1 t5_0 t6_0 t7_0 t8_0 t9_0 t10_0 t11_0 t12_0 t13_0 t14_0 t15_0 t16_0 t17_0 t18_0 t19_0 t20_0 t21_0 t22_0 t23_0 t24_0 t25_0) from Eq.trans (by rw [e484, e483, F_Pri_writeAnything_c117_15.eq_1]) hR485)⟩) d_9_11_181
    have b490 : q_F (x2.toInt ≠ 6) := (q_neI c464)
    by_cases c491 : x2 = 7
    ·
      have b492 : q_F (x2.toInt = 7) := (q_eqI c491)
      refine q_ti (v := 7) c491 ?_
      have hX493 := n_fx hI (n_s44 g q)
      refine q_aald (t := 6) (q := q 62) C0 V hX493 rfl (q_ix (x := 7) (by decide) (by omega) (by omega)) (show n_ft q ((7 : Int32).toNatClampNeg) = _ from n_ftv (j := 7) (by decide)) d_9_11_106 ?_
      refine lv_iconst (v := 0) hx hb d_9_11_107 (by decide) ?_
      refine lv_aload_n hx hb d_9_11_108 rfl (lv_at hl 0 rfl) ?_
      refine q_get (ci := 11) (j := 4) (v := .ref (q 44)) C0 V i_Pri rfl rfl hT0 (by decide) w_389 rfl d_9_11_109 ?_
      refine lv_iload_n hx hb d_9_11_112 rfl (lv_at hl 1 rfl) ?_
      have c494 : x2 = 7 := q_Ieq (x := x2.toInt) (y := 7) rfl (by decide) (by have t1 : 0 ≤ x2.toInt := pre0; have t2 : x2.toInt ≤ 8 := pre1; have t3 : x2.toInt ≠ 0 := b328; have t4 : x2.toInt ≠ 1 := b355; have t5 : x2.toInt ≠ 2 := b382; have t6 : x2.toInt ≠ 3 := b409; have t7 : x2.toInt ≠ 4 := b436; have t8 : x2.toInt ≠ 5 := b463; have t9 : x2.toInt ≠ 6 := b490; have t10 : x2.toInt = 7 := b492; omega)
      refine q_ti (v := 7) c494 ?_
      have hX496 := n_fx hI (n_s44 g q)
      refine q_aald (t := 6) (q := q 62) C0 V hX496 rfl (q_ix (x := 7) (by decide) (by omega) (by omega)) (show n_ft q ((7 : Int32).toNatClampNeg) = _ from n_ftv (j := 7) (by decide)) d_9_11_113 ?_
      refine q_get (ci := 1) (j := 2) (v := .int t22_0) C0 V i_She rfl rfl hT22 (by decide) w_58 rfl d_9_11_114 ?_
      refine q_gov V (q_runS (As := [.ref (q 45), .ref (q 62), .int 0, .int t22_0]) (rest := []) (d := 2) (mc := 0) (ms := 0) C0 V rfl LS_Pri_76 (X_Pri_copyInto l D g q ws 45 4104 513 1000000 (n_h45 g q) 62 64 8 64 (n_h62 g q) 0 t22_0 (by decide) (by decide) (by decide) hI t6_0 hT6 t7_0 hT7 t22_0 hT22 t23_0 hT23 (by have y0 : (4104 : Int32).toInt = 4104 := rfl; have y1 : (513 : Int32).toInt = 513 := rfl; have y2 : (1000000 : Int32).toInt = 1000000 := rfl; have y3 : (64 : Int32).toInt = 64 := rfl; have y4 : (8 : Int32).toInt = 8 := rfl; have y5 : (64 : Int32).toInt = 64 := rfl; have y6 : (0 : Int32).toInt = 0 := rfl; omega) (by have y0 : (4104 : Int32).toInt = 4104 := rfl; have y1 : (513 : Int32).toInt = 513 := rfl; have y2 : (1000000 : Int32).toInt = 1000000 := rfl; have y3 : (64 : Int32).toInt = 64 := rfl; have y4 : (8 : Int32).toInt = 8 := rfl; have y5 : (64 : Int32).toInt = 64 := rfl; have y6 : (0 : Int32).toInt = 0 := rfl; have t1 : 0 ≤ t22_0.toInt ∧ t22_0.toInt ≤ 64 := btt22_0; omega) (by have y0 : (4104 : Int32).toInt = 4104 := rfl; have y1 : (513 : Int32).toInt = 513 := rfl; have y2 : (1000000 : Int32).toInt = 1000000 := rfl; have y3 : (64 : Int32).toInt = 64 := rfl; have y4 : (8 : Int32).toInt = 8 := rfl; have y5 : (64 : Int32).toInt = 64 := rfl; have y6 : (0 : Int32).toInt = 0 := rfl; have t1 : 0 ≤ t22_0.toInt ∧ t22_0.toInt ≤ 64 := btt22_0; have t2 : t6_0.toInt ≤ 10 := pre2; omega) _) rfl hl.1 rfl (Nat.le_of_ble_eq_true rfl) ⟨by decide, by decide⟩ ⟨Nat.le_of_ble_eq_true rfl, Nat.le_of_ble_eq_true rfl⟩ d_9_11_117) (fun u497 H locs hp498 V => ?_)
      obtain ⟨hI, hZ9⟩ := hp498
      obtain ⟨hu507, hZ9⟩ := hZ9
      obtain ⟨y500, hZ9⟩ := hZ9
      obtain ⟨f501, hZ9⟩ := hZ9
      obtain ⟨hO499, hZ9⟩ := hZ9
      obtain ⟨hA502, hZ9⟩ := hZ9
      obtain ⟨b503, hZ9⟩ := hZ9
      replace hZ9 := hZ9.2
      obtain ⟨b505, hE506⟩ := hZ9
      replace hO499 : u497[45]? = (some (q 45, .inr (1, [.ref (q 46), .int 4104, .int y500])) : Option (Nat × va_E)) := hO499
      replace hA502 : u497[46]? = (some (q 46, .inl (g 1, (513 : Int32).toNatClampNeg, .inr (.inl f501))) : Option (Nat × va_E)) := hA502
      obtain ⟨p508, e509⟩ : ∃ z, z = (F_Pri_copyInto (4104 : Int32) (513 : Int32) (1000000 : Int32) (64 : Int32) (8 : Int32) (64 : Int32) (0 : Int32) t22_0 t6_0 t7_0 t22_0 t23_0) := ⟨_, rfl⟩
      have e510 : y500 = p508.1 := congrArg (fun z => z.1) (hE506.trans e509.symm)
      have e511 : f501 = p508.2 := congrArg (fun z => z.2) (hE506.trans e509.symm)
      replace b503 : q_F (t6_0.toInt ≤ y500.toInt) := b503
      replace b505 : q_F (y500.toInt ≤ t6_0.toInt + t22_0.toInt) := b505
      replace hT4 := (hu507 _ (by decide)).trans hT4
      replace hT5 := (hu507 _ (by decide)).trans hT5
      replace hF := q_uc hF hu507 (by first | exact (q_sk (q_mi 2 rfl) (q_sk (q_mi 3 rfl) q_s0)) | simp)
      have hR512 := (show F_Pri_writeAnything_c117_16 x2 t0_0 t0_1 t0_2 t0_3 t1_0 t2_0 t3_0 t4_0 t4_1 t5_0 t6_0 t7_0 t8_0 t9_0 t10_0 t11_0 t12_0 t13_0 t14_0 t15_0 t16_0 t17_0 t18_0 t19_0 t20_0 t21_0 t22_0 t23_0 t24_0 t25_0 p508 = (F_Pri_writeAnything x2 t0_0 t0_1 t0_2 t0_3 t1_0 t2_0 t3_0 t4_0 t4_1 t5_0 t6_0 t7_0 t8_0 t9_0 t10_0 t11_0 t12_0 t13_0 t14_0 t15_0 t16_0 t17_0 t18_0 t19_0 t20_0 t21_0 t22_0 t23_0 t24_0 t25_0) from (by have c77x := c77; rw [← e76] at c77x; have c99x := c99; rw [← e76] at c99x; have c148x := c148; rw [← e76] at c148x; have c174x := c174; rw [← e76] at c174x; have c300x := c300; rw [← e76] at c300x; rw [e509, F_Pri_writeAnything.eq_1, if_neg c77x, if_neg c99x, if_neg c148x, if_neg c174x, if_pos c300x, if_neg c302, if_neg c329, if_neg c356, if_neg c383, if_neg c410, if_neg c437, if_neg c464, if_pos c491]))
      refine lv_goto (tgt := 181) hx hb d_9_11_120 (by decide) ?_
      exact q_retv C0 V (⟨hI, hF, t4_0, t4_1, t5_0, y500, f501, hT4, hT5, hO499, hA502, (show 0 ≤ t4_0.toInt from (by first | with_reducible exact (q_fe btt4_0).2 | with_reducible exact (q_fe btt4_0).1 | (have t1 : 0 ≤ t4_0.toInt ∧ t4_0.toInt ≤ 1026 := btt4_0; omega))), (show t4_0.toInt ≤ 1026 from (by first | with_reducible exact (q_fe btt4_0).2 | with_reducible exact (q_fe btt4_0).1 | (have t1 : 0 ≤ t4_0.toInt ∧ t4_0.toInt ≤ 1026 := btt4_0; omega))), (show 0 ≤ t4_1.toInt + 1000000 from (by first | with_reducible exact (q_fe btt4_1).2 | with_reducible exact (q_fe btt4_1).1 | (have t1 : -1000000 ≤ t4_1.toInt ∧ t4_1.toInt ≤ 1000000 := btt4_1; omega))), (show t4_1.toInt ≤ 1000000 from (by first | with_reducible exact (q_fe btt4_1).2 | with_reducible exact (q_fe btt4_1).1 | (have t1 : -1000000 ≤ t4_1.toInt ∧ t4_1.toInt ≤ 1000000 := btt4_1; omega))), (show t4_0.toInt ≤ t4_0.toInt + 20 from (by omega)), (show t4_1.toInt ≤ t4_1.toInt + 1020000 from (by omega)), (show t4_1.toInt ≤ t4_1.toInt + 1020019 from (by omega)), (show t6_0.toInt ≤ y500.toInt from (by first | with_reducible exact q_fe b503 | (have t1 : t6_0.toInt ≤ y500.toInt := b503; omega))), (show y500.toInt ≤ t6_0.toInt + 420004 from (by have t1 : 0 ≤ t22_0.toInt ∧ t22_0.toInt ≤ 64 := btt22_0; have t2 : y500.toInt ≤ t6_0.toInt + t22_0.toInt := b505; omega)), (show y500.toInt ≤ t4_1.toInt + 1000074 from (by have t1 : -1000000 ≤ t4_1.toInt ∧ t4_1.toInt ≤ 1000000 := btt4_1; have t2 : 0 ≤ t22_0.toInt ∧ t22_0.toInt ≤ 64 := btt22_0; have t3 : t6_0.toInt ≤ 10 := pre2; have t4 : y500.toInt ≤ t6_0.toInt + t22_0.toInt := b505; omega)), (show (t4_0, t4_1, t5_0, y500, f501) = (F_Pri_writeAnything x2 t0_0 t0_1 t0_2 t0_3 t1_0 t2_0 t3_0 t4_0 t4_1 t5_0 t6_0 t7_0 t8_0 t9_0 t10_0 t11_0 t12_0 t13_0 t14_0 t15_0 t16_0 t17_0 t18_0 t19_0 t20_0 t21_0 t22_0 t23_0 t24_0 t25_0) from Eq.trans (by rw [e511, e510, F_Pri_writeAnything_c117_16.eq_1]) hR512)⟩) d_9_11_181
    have b517 : q_F (x2.toInt ≠ 7) := (q_neI c491)
    have c518 : x2 = 8 := q_Ieq (x := x2.toInt) (y := 8) rfl (by decide) (by have t1 : 0 ≤ x2.toInt := pre0; have t2 : x2.toInt ≤ 8 := pre1; have t3 : x2.toInt ≠ 0 := b328; have t4 : x2.toInt ≠ 1 := b355; have t5 : x2.toInt ≠ 2 := b382; have t6 : x2.toInt ≠ 3 := b409; have t7 : x2.toInt ≠ 4 := b436; have t8 : x2.toInt ≠ 5 := b463; have t9 : x2.toInt ≠ 6 := b490; have t10 : x2.toInt ≠ 7 := b517; omega)
    have b519 : q_F (x2.toInt = 8) := (q_eqI c518)
    refine q_ti (v := 8) c518 ?_
    have hX520 := n_fx hI (n_s44 g q)
    refine q_aald (t := 6) (q := q 64) C0 V hX520 rfl (q_ix (x := 8) (by decide) (by omega) (by omega)) (show n_ft q ((8 : Int32).toNatClampNeg) = _ from n_ftv (j := 8) (by decide)) d_9_11_106 ?_
    refine lv_iconst (v := 0) hx hb d_9_11_107 (by decide) ?_
    refine lv_aload_n hx hb d_9_11_108 rfl (lv_at hl 0 rfl) ?_
    refine q_get (ci := 11) (j := 4) (v := .ref (q 44)) C0 V i_Pri rfl rfl hT0 (by decide) w_389 rfl d_9_11_109 ?_
    refine lv_iload_n hx hb d_9_11_112 rfl (lv_at hl 1 rfl) ?_
    have c521 : x2 = 8 := q_Ieq (x := x2.toInt) (y := 8) rfl (by decide) (by have t1 : 0 ≤ x2.toInt := pre0; have t2 : x2.toInt ≤ 8 := pre1; have t3 : x2.toInt ≠ 0 := b328; have t4 : x2.toInt ≠ 1 := b355; have t5 : x2.toInt ≠ 2 := b382; have t6 : x2.toInt ≠ 3 := b409; have t7 : x2.toInt ≠ 4 := b436; have t8 : x2.toInt ≠ 5 := b463; have t9 : x2.toInt ≠ 6 := b490; have t10 : x2.toInt ≠ 7 := b517; have t11 : x2.toInt = 8 := b519; omega)
    refine q_ti (v := 8) c521 ?_
    have hX523 := n_fx hI (n_s44 g q)
    refine q_aald (t := 6) (q := q 64) C0 V hX523 rfl (q_ix (x := 8) (by decide) (by omega) (by omega)) (show n_ft q ((8 : Int32).toNatClampNeg) = _ from n_ftv (j := 8) (by decide)) d_9_11_113 ?_
    refine q_get (ci := 1) (j := 2) (v := .int t24_0) C0 V i_She rfl rfl hT24 (by decide) w_58 rfl d_9_11_114 ?_
    refine q_gov V (q_runS (As := [.ref (q 45), .ref (q 64), .int 0, .int t24_0]) (rest := []) (d := 2) (mc := 0) (ms := 0) C0 V rfl LS_Pri_76 (X_Pri_copyInto l D g q ws 45 4104 513 1000000 (n_h45 g q) 64 64 8 64 (n_h64 g q) 0 t24_0 (by decide) (by decide) (by decide) hI t6_0 hT6 t7_0 hT7 t24_0 hT24 t25_0 hT25 (by have y0 : (4104 : Int32).toInt = 4104 := rfl; have y1 : (513 : Int32).toInt = 513 := rfl; have y2 : (1000000 : Int32).toInt = 1000000 := rfl; have y3 : (64 : Int32).toInt = 64 := rfl; have y4 : (8 : Int32).toInt = 8 := rfl; have y5 : (64 : Int32).toInt = 64 := rfl; have y6 : (0 : Int32).toInt = 0 := rfl; omega) (by have y0 : (4104 : Int32).toInt = 4104 := rfl; have y1 : (513 : Int32).toInt = 513 := rfl; have y2 : (1000000 : Int32).toInt = 1000000 := rfl; have y3 : (64 : Int32).toInt = 64 := rfl; have y4 : (8 : Int32).toInt = 8 := rfl; have y5 : (64 : Int32).toInt = 64 := rfl; have y6 : (0 : Int32).toInt = 0 := rfl; have t1 : 0 ≤ t24_0.toInt ∧ t24_0.toInt ≤ 64 := btt24_0; omega) (by have y0 : (4104 : Int32).toInt = 4104 := rfl; have y1 : (513 : Int32).toInt = 513 := rfl; have y2 : (1000000 : Int32).toInt = 1000000 := rfl; have y3 : (64 : Int32).toInt = 64 := rfl; have y4 : (8 : Int32).toInt = 8 := rfl; have y5 : (64 : Int32).toInt = 64 := rfl; have y6 : (0 : Int32).toInt = 0 := rfl; have t1 : 0 ≤ t24_0.toInt ∧ t24_0.toInt ≤ 64 := btt24_0; have t2 : t6_0.toInt ≤ 10 := pre2; omega) _) rfl hl.1 rfl (Nat.le_of_ble_eq_true rfl) ⟨by decide, by decide⟩ ⟨Nat.le_of_ble_eq_true rfl, Nat.le_of_ble_eq_true rfl⟩ d_9_11_117) (fun u524 H locs hp525 V => ?_)
    obtain ⟨hI, hZ9⟩ := hp525
    obtain ⟨hu534, hZ9⟩ := hZ9
    obtain ⟨y527, hZ9⟩ := hZ9
    obtain ⟨f528, hZ9⟩ := hZ9
    obtain ⟨hO526, hZ9⟩ := hZ9
    obtain ⟨hA529, hZ9⟩ := hZ9
    obtain ⟨b530, hZ9⟩ := hZ9
    replace hZ9 := hZ9.2
    obtain ⟨b532, hE533⟩ := hZ9
    replace hO526 : u524[45]? = (some (q 45, .inr (1, [.ref (q 46), .int 4104, .int y527])) : Option (Nat × va_E)) := hO526
    replace hA529 : u524[46]? = (some (q 46, .inl (g 1, (513 : Int32).toNatClampNeg, .inr (.inl f528))) : Option (Nat × va_E)) := hA529
    obtain ⟨p535, e536⟩ : ∃ z, z = (F_Pri_copyInto (4104 : Int32) (513 : Int32) (1000000 : Int32) (64 : Int32) (8 : Int32) (64 : Int32) (0 : Int32) t24_0 t6_0 t7_0 t24_0 t25_0) := ⟨_, rfl⟩
    have e537 : y527 = p535.1 := congrArg (fun z => z.1) (hE533.trans e536.symm)
    have e538 : f528 = p535.2 := congrArg (fun z => z.2) (hE533.trans e536.symm)
    replace b530 : q_F (t6_0.toInt ≤ y527.toInt) := b530
    replace b532 : q_F (y527.toInt ≤ t6_0.toInt + t24_0.toInt) := b532
    replace hT4 := (hu534 _ (by decide)).trans hT4
    replace hT5 := (hu534 _ (by decide)).trans hT5
    replace hF := q_uc hF hu534 (by first | exact (q_sk (q_mi 2 rfl) (q_sk (q_mi 3 rfl) q_s0)) | simp)
    have hR539 := (show F_Pri_writeAnything_c117_17 x2 t0_0 t0_1 t0_2 t0_3 t1_0 t2_0 t3_0 t4_0 t4_1 t5_0 t6_0 t7_0 t8_0 t9_0 t10_0 t11_0 t12_0 t13_0 t14_0 t15_0 t16_0 t17_0 t18_0 t19_0 t20_0 t21_0 t22_0 t23_0 t24_0 t25_0 p535 = (F_Pri_writeAnything x2 t0_0 t0_1 t0_2 t0_3 t1_0 t2_0 t3_0 t4_0 t4_1 t5_0 t6_0 t7_0 t8_0 t9_0 t10_0 t11_0 t12_0 t13_0 t14_0 t15_0 t16_0 t17_0 t18_0 t19_0 t20_0 t21_0 t22_0 t23_0 t24_0 t25_0) from (by have c77x := c77; rw [← e76] at c77x; have c99x := c99; rw [← e76] at c99x; have c148x := c148; rw [← e76] at c148x; have c174x := c174; rw [← e76] at c174x; have c300x := c300; rw [← e76] at c300x; rw [e536, F_Pri_writeAnything.eq_1, if_neg c77x, if_neg c99x, if_neg c148x, if_neg c174x, if_pos c300x, if_neg c302, if_neg c329, if_neg c356, if_neg c383, if_neg c410, if_neg c437, if_neg c464, if_neg c491]))
    refine lv_goto (tgt := 181) hx hb d_9_11_120 (by decide) ?_
    exact q_retv C0 V (⟨hI, hF, t4_0, t4_1, t5_0, y527, f528, hT4, hT5, hO526, hA529, (show 0 ≤ t4_0.toInt from (by first | with_reducible exact (q_fe btt4_0).2 | with_reducible exact (q_fe btt4_0).1 | (have t1 : 0 ≤ t4_0.toInt ∧ t4_0.toInt ≤ 1026 := btt4_0; omega))), (show t4_0.toInt ≤ 1026 from (by first | with_reducible exact (q_fe btt4_0).2 | with_reducible exact (q_fe btt4_0).1 | (have t1 : 0 ≤ t4_0.toInt ∧ t4_0.toInt ≤ 1026 := btt4_0; omega))), (show 0 ≤ t4_1.toInt + 1000000 from (by first | with_reducible exact (q_fe btt4_1).2 | with_reducible exact (q_fe btt4_1).1 | (have t1 : -1000000 ≤ t4_1.toInt ∧ t4_1.toInt ≤ 1000000 := btt4_1; omega))), (show t4_1.toInt ≤ 1000000 from (by first | with_reducible exact (q_fe btt4_1).2 | with_reducible exact (q_fe btt4_1).1 | (have t1 : -1000000 ≤ t4_1.toInt ∧ t4_1.toInt ≤ 1000000 := btt4_1; omega))), (show t4_0.toInt ≤ t4_0.toInt + 20 from (by omega)), (show t4_1.toInt ≤ t4_1.toInt + 1020000 from (by omega)), (show t4_1.toInt ≤ t4_1.toInt + 1020019 from (by omega)), (show t6_0.toInt ≤ y527.toInt from (by first | with_reducible exact q_fe b530 | (have t1 : t6_0.toInt ≤ y527.toInt := b530; omega))), (show y527.toInt ≤ t6_0.toInt + 420004 from (by have t1 : 0 ≤ t24_0.toInt ∧ t24_0.toInt ≤ 64 := btt24_0; have t2 : y527.toInt ≤ t6_0.toInt + t24_0.toInt := b532; omega)), (show y527.toInt ≤ t4_1.toInt + 1000074 from (by have t1 : -1000000 ≤ t4_1.toInt ∧ t4_1.toInt ≤ 1000000 := btt4_1; have t2 : 0 ≤ t24_0.toInt ∧ t24_0.toInt ≤ 64 := btt24_0; have t3 : t6_0.toInt ≤ 10 := pre2; have t4 : y527.toInt ≤ t6_0.toInt + t24_0.toInt := b532; omega)), (show (t4_0, t4_1, t5_0, y527, f528) = (F_Pri_writeAnything x2 t0_0 t0_1 t0_2 t0_3 t1_0 t2_0 t3_0 t4_0 t4_1 t5_0 t6_0 t7_0 t8_0 t9_0 t10_0 t11_0 t12_0 t13_0 t14_0 t15_0 t16_0 t17_0 t18_0 t19_0 t20_0 t21_0 t22_0 t23_0 t24_0 t25_0) from Eq.trans (by rw [e538, e537, F_Pri_writeAnything_c117_17.eq_1]) hR539)⟩) d_9_11_181
  refine lv_tableOut (tgt := 123) hx hb d_9_11_6 (by have z0 : a75.toInt ≠ 0 := q_neI c77; have z1 : a75.toInt ≠ 1 := q_neI c99; have z2 : a75.toInt ≠ 2 := q_neI c148; have z3 : a75.toInt ≠ 3 := q_neI c174; have z4 : a75.toInt ≠ 4 := q_neI c300; omega) (by decide) ?_
  refine lv_aload_n hx hb d_9_11_123 rfl (lv_at hl 0 rfl) ?_
  refine q_get (ci := 11) (j := 2) (v := .ref (q 42)) C0 V i_Pri rfl rfl hT0 (by decide) w_387 rfl d_9_11_124 ?_
  refine lv_iload_n hx hb d_9_11_127 rfl (lv_at hl 1 rfl) ?_
  refine q_lald C0 V hT2 (q_ix (x := x2.toInt) rfl (by first | with_reducible exact q_fe pre0 | (have t1 : 0 ≤ x2.toInt := pre0; omega)) (by have t1 : 0 ≤ x2.toInt := pre0; have t2 : x2.toInt ≤ 8 := pre1; omega)) d_9_11_128 ?_
  obtain ⟨j545, e546⟩ := q_nm (t2_0 x2.toNatClampNeg : Int64)
  refine q_tl (v := j545) e546 ?_
  refine lv_lconst (v := 0) hx hb d_9_11_129 (by decide) ?_
  refine W.lcmp hx hb d_9_11_130 ?_
  obtain ⟨a547, e548⟩ := q_nm (lg_cmp j545 0 : Int32)
  refine q_ti (v := a547) e548 ?_
  refine q_join (X := Int32 × (Nat → Int64)) (fun z H locs ls w581 => q_F (t6_0.toInt ≤ z.1.toInt) ∧ q_F (z.1.toInt ≤ t6_0.toInt + 1) ∧ q_Wd D g (va_A ws sz) s w581 H locs ∧ lv_has ls 2 [(0, .ref (q 40)), (1, .int x2)] ∧ q_I (nsh g q) q w581 ∧ q_un ws w581 [36, 37, 45, 46] ∧ w581[40]? = (some (q 40, .inr (11, [.int t0_0, .ref (q 41), .ref (q 42), .ref (q 43), .ref (q 44), .ref (q 1), .ref (q 47), .ref (q 36), .ref (q 45), .int t0_1, .int t0_2, .int t0_3])) : Option (Nat × va_E)) ∧ w581[41]? = (some (q 41, .inl (g 0, 9, .inl t1_0)) : Option (Nat × va_E)) ∧ w581[42]? = (some (q 42, .inl (g 1, 9, .inr (.inl t2_0))) : Option (Nat × va_E)) ∧ w581[43]? = (some (q 43, .inl (g 0, 9, .inl t3_0)) : Option (Nat × va_E)) ∧ w581[36]? = (some (q 36, .inr (7, [.int t4_0, .int t4_1, .ref (q 37)])) : Option (Nat × va_E)) ∧ w581[37]? = (some (q 37, .inl (g 2, 1026, .inl t5_0)) : Option (Nat × va_E)) ∧ w581[45]? = (some (q 45, .inr (1, [.ref (q 46), .int 4104, .int z.1])) : Option (Nat × va_E)) ∧ w581[46]? = (some (q 46, .inl (g 1, (513 : Int32).toNatClampNeg, .inr (.inl z.2))) : Option (Nat × va_E)) ∧ w581[48]? = (some (q 48, .inr (1, [.ref (q 49), .int 64, .int t8_0])) : Option (Nat × va_E)) ∧ w581[49]? = (some (q 49, .inl (g 1, (8 : Int32).toNatClampNeg, .inr (.inl t9_0))) : Option (Nat × va_E)) ∧ w581[50]? = (some (q 50, .inr (1, [.ref (q 51), .int 64, .int t10_0])) : Option (Nat × va_E)) ∧ w581[51]? = (some (q 51, .inl (g 1, (8 : Int32).toNatClampNeg, .inr (.inl t11_0))) : Option (Nat × va_E)) ∧ w581[52]? = (some (q 52, .inr (1, [.ref (q 53), .int 64, .int t12_0])) : Option (Nat × va_E)) ∧ w581[53]? = (some (q 53, .inl (g 1, (8 : Int32).toNatClampNeg, .inr (.inl t13_0))) : Option (Nat × va_E)) ∧ w581[54]? = (some (q 54, .inr (1, [.ref (q 55), .int 64, .int t14_0])) : Option (Nat × va_E)) ∧ w581[55]? = (some (q 55, .inl (g 1, (8 : Int32).toNatClampNeg, .inr (.inl t15_0))) : Option (Nat × va_E)) ∧ w581[56]? = (some (q 56, .inr (1, [.ref (q 57), .int 64, .int t16_0])) : Option (Nat × va_E)) ∧ w581[57]? = (some (q 57, .inl (g 1, (8 : Int32).toNatClampNeg, .inr (.inl t17_0))) : Option (Nat × va_E)) ∧ w581[58]? = (some (q 58, .inr (1, [.ref (q 59), .int 64, .int t18_0])) : Option (Nat × va_E)) ∧ w581[59]? = (some (q 59, .inl (g 1, (8 : Int32).toNatClampNeg, .inr (.inl t19_0))) : Option (Nat × va_E)) ∧ w581[60]? = (some (q 60, .inr (1, [.ref (q 61), .int 64, .int t20_0])) : Option (Nat × va_E)) ∧ w581[61]? = (some (q 61, .inl (g 1, (8 : Int32).toNatClampNeg, .inr (.inl t21_0))) : Option (Nat × va_E)) ∧ w581[62]? = (some (q 62, .inr (1, [.ref (q 63), .int 64, .int t22_0])) : Option (Nat × va_E)) ∧ w581[63]? = (some (q 63, .inl (g 1, (8 : Int32).toNatClampNeg, .inr (.inl t23_0))) : Option (Nat × va_E)) ∧ w581[64]? = (some (q 64, .inr (1, [.ref (q 65), .int 64, .int t24_0])) : Option (Nat × va_E)) ∧ w581[65]? = (some (q 65, .inl (g 1, (8 : Int32).toNatClampNeg, .inr (.inl t25_0))) : Option (Nat × va_E)) ∧ F_Pri_writeAnything_J143_18 x2 t0_0 t0_1 t0_2 t0_3 t1_0 t2_0 t3_0 t4_0 t4_1 t5_0 t6_0 t7_0 t8_0 t9_0 t10_0 t11_0 t12_0 t13_0 t14_0 t15_0 t16_0 t17_0 t18_0 t19_0 t20_0 t21_0 t22_0 t23_0 t24_0 t25_0 z.1 z.2 = (F_Pri_writeAnything x2 t0_0 t0_1 t0_2 t0_3 t1_0 t2_0 t3_0 t4_0 t4_1 t5_0 t6_0 t7_0 t8_0 t9_0 t10_0 t11_0 t12_0 t13_0 t14_0 t15_0 t16_0 t17_0 t18_0 t19_0 t20_0 t21_0 t22_0 t23_0 t24_0 t25_0)) (fun z => []) 143 0 0 ?_ ?_
  ·
    rintro ⟨lx550, lx551⟩ H locs ls w581 ⟨i579, i580, V, hl, hI, hF, hO552, hA553, hA554, hA555, hO556, hA557, hO558, hA559, hO560, hA561, hO562, hA563, hO564, hA565, hO566, hA567, hO568, hA569, hO570, hA571, hO572, hA573, hO574, hA575, hO576, hA577, hR582⟩
    replace i579 : q_F (t6_0.toInt ≤ lx550.toInt) := i579
    replace i580 : q_F (lx550.toInt ≤ t6_0.toInt + 1) := i580
    replace hl : lv_has ls 2 [(0, .ref (q 40)), (1, .int x2)] := hl
    replace hO552 : w581[40]? = (some (q 40, .inr (11, [.int t0_0, .ref (q 41), .ref (q 42), .ref (q 43), .ref (q 44), .ref (q 1), .ref (q 47), .ref (q 36), .ref (q 45), .int t0_1, .int t0_2, .int t0_3])) : Option (Nat × va_E)) := hO552
    replace hA554 : w581[42]? = (some (q 42, .inl (g 1, 9, .inr (.inl t2_0))) : Option (Nat × va_E)) := hA554
    replace hA555 : w581[43]? = (some (q 43, .inl (g 0, 9, .inl t3_0)) : Option (Nat × va_E)) := hA555
    replace hO556 : w581[36]? = (some (q 36, .inr (7, [.int t4_0, .int t4_1, .ref (q 37)])) : Option (Nat × va_E)) := hO556
    replace hA557 : w581[37]? = (some (q 37, .inl (g 2, 1026, .inl t5_0)) : Option (Nat × va_E)) := hA557
    replace hO558 : w581[45]? = (some (q 45, .inr (1, [.ref (q 46), .int 4104, .int lx550])) : Option (Nat × va_E)) := hO558
    replace hA559 : w581[46]? = (some (q 46, .inl (g 1, (513 : Int32).toNatClampNeg, .inr (.inl lx551))) : Option (Nat × va_E)) := hA559
    refine lv_aload_n hx hb d_9_11_143 rfl (lv_at hl 0 rfl) ?_
    refine q_get (ci := 11) (j := 7) (v := .ref (q 36)) C0 V i_Pri rfl rfl hO552 (by decide) w_392 rfl d_9_11_144 ?_
    refine lv_aload_n hx hb d_9_11_147 rfl (lv_at hl 0 rfl) ?_
    refine q_get (ci := 11) (j := 2) (v := .ref (q 42)) C0 V i_Pri rfl rfl hO552 (by decide) w_387 rfl d_9_11_148 ?_
    refine lv_iload_n hx hb d_9_11_151 rfl (lv_at hl 1 rfl) ?_
    refine q_lald C0 V hA554 (q_ix (x := x2.toInt) rfl (by first | with_reducible exact q_fe pre0 | (have t1 : 0 ≤ x2.toInt := pre0; omega)) (by have t1 : 0 ≤ x2.toInt := pre0; have t2 : x2.toInt ≤ 8 := pre1; omega)) d_9_11_152 ?_
    obtain ⟨j587, e588⟩ := q_nm (t2_0 x2.toNatClampNeg : Int64)
    refine q_tl (v := j587) e588 ?_
    refine lv_aload_n hx hb d_9_11_153 rfl (lv_at hl 0 rfl) ?_
    refine q_get (ci := 11) (j := 3) (v := .ref (q 43)) C0 V i_Pri rfl rfl hO552 (by decide) w_388 rfl d_9_11_154 ?_
    refine lv_iload_n hx hb d_9_11_157 rfl (lv_at hl 1 rfl) ?_
    have bf589 := n_aiB hI (n_s43 g q) hA555
    refine q_iald C0 V hA555 (q_ix (x := x2.toInt) rfl (by first | with_reducible exact q_fe pre0 | (have t1 : 0 ≤ x2.toInt := pre0; omega)) (by have t1 : 0 ≤ x2.toInt := pre0; have t2 : x2.toInt ≤ 8 := pre1; omega)) d_9_11_158 ?_
    obtain ⟨a590, e591⟩ := q_nm (t3_0 x2.toNatClampNeg : Int32)
    refine q_ti (v := a590) e591 ?_
    have b592 : q_F (-10000 ≤ a590.toInt ∧ a590.toInt ≤ 10000) := (by rw [← e591]; show -10000 ≤ (t3_0 x2.toNatClampNeg : Int32).toInt ∧ (t3_0 x2.toNatClampNeg : Int32).toInt ≤ 10000; exact bf589 _)
    refine q_gov V (q_runV (As := [.long j587, .int a590]) (rest := []) (d := 2) (mc := 0) (ms := 0) (ci := 7) C0 V rfl LV_Pri_189 (X_Dig_fillLong l D g q w581  j587 a590 hI t4_0 t4_1 hO556 t5_0 hA557 (by first | with_reducible exact (q_fe b592).2 | with_reducible exact (q_fe b592).1 | (have t1 : -10000 ≤ a590.toInt ∧ a590.toInt ≤ 10000 := b592; omega)) (by first | with_reducible exact (q_fe b592).2 | with_reducible exact (q_fe b592).1 | (have t1 : -10000 ≤ a590.toInt ∧ a590.toInt ≤ 10000 := b592; omega)) _) rfl rfl hO556 rfl hl.1 rfl (Nat.le_of_ble_eq_true rfl) ⟨by decide, by decide⟩ ⟨Nat.le_of_ble_eq_true rfl, Nat.le_of_ble_eq_true rfl⟩ d_9_11_159) (fun u593 H locs hp594 V => ?_)
    obtain ⟨hI, hZ9⟩ := hp594
    obtain ⟨hu608, hZ9⟩ := hZ9
    obtain ⟨y596, hZ9⟩ := hZ9
    obtain ⟨y597, hZ9⟩ := hZ9
    obtain ⟨f598, hZ9⟩ := hZ9
    obtain ⟨hO595, hZ9⟩ := hZ9
    obtain ⟨hA599, hZ9⟩ := hZ9
    obtain ⟨b600, hZ9⟩ := hZ9
    obtain ⟨b601, hZ9⟩ := hZ9
    obtain ⟨b602, hZ9⟩ := hZ9
    obtain ⟨b603, hZ9⟩ := hZ9
    replace hZ9 := hZ9.2.2
    obtain ⟨-, hE607⟩ := hZ9
    replace hO595 : u593[36]? = (some (q 36, .inr (7, [.int y596, .int y597, .ref (q 37)])) : Option (Nat × va_E)) := hO595
    replace hA599 : u593[37]? = (some (q 37, .inl (g 2, 1026, .inl f598)) : Option (Nat × va_E)) := hA599
    obtain ⟨p609, e610⟩ : ∃ z, z = (F_Dig_fillLong j587 a590 t4_0 t4_1 t5_0) := ⟨_, rfl⟩
    have e611 : y596 = p609.1 := congrArg (fun z => z.1) (hE607.trans e610.symm)
    have e612 : y597 = p609.2.1 := congrArg (fun z => z.2.1) (hE607.trans e610.symm)
    have e613 : f598 = p609.2.2 := congrArg (fun z => z.2.2) (hE607.trans e610.symm)
    replace b600 : q_F (0 ≤ y596.toInt) := b600
    replace b601 : q_F (y596.toInt ≤ 20) := b601
    replace b602 : q_F (0 ≤ y597.toInt + 20000) := b602
    replace b603 : q_F (y597.toInt ≤ y596.toInt + 19999) := b603
    replace hO552 := (hu608 _ (by decide)).trans hO552
    replace hA555 := (hu608 _ (by decide)).trans hA555
    replace hO558 := (hu608 _ (by decide)).trans hO558
    replace hA559 := (hu608 _ (by decide)).trans hA559
    replace hF := q_uc hF hu608 (by first | exact (q_sk (q_mi 0 rfl) (q_sk (q_mi 1 rfl) q_s0)) | simp)
    have hR614 := (show F_Pri_writeAnything_c159_19 x2 t0_0 t0_1 t0_2 t0_3 t1_0 t2_0 t3_0 t4_0 t4_1 t5_0 t6_0 t7_0 t8_0 t9_0 t10_0 t11_0 t12_0 t13_0 t14_0 t15_0 t16_0 t17_0 t18_0 t19_0 t20_0 t21_0 t22_0 t23_0 t24_0 t25_0 lx550 lx551 p609 = (F_Pri_writeAnything x2 t0_0 t0_1 t0_2 t0_3 t1_0 t2_0 t3_0 t4_0 t4_1 t5_0 t6_0 t7_0 t8_0 t9_0 t10_0 t11_0 t12_0 t13_0 t14_0 t15_0 t16_0 t17_0 t18_0 t19_0 t20_0 t21_0 t22_0 t23_0 t24_0 t25_0) from Eq.trans (by rw [e610, ← e591, ← e588, F_Pri_writeAnything_J143_18.eq_1]) hR582)
    refine lv_aload_n hx hb d_9_11_162 rfl (lv_at hl 0 rfl) ?_
    refine q_get (ci := 11) (j := 7) (v := .ref (q 36)) C0 V i_Pri rfl rfl hO552 (by decide) w_392 rfl d_9_11_163 ?_
    refine lv_aload_n hx hb d_9_11_166 rfl (lv_at hl 0 rfl) ?_
    refine q_get (ci := 11) (j := 8) (v := .ref (q 45)) C0 V i_Pri rfl rfl hO552 (by decide) w_393 rfl d_9_11_167 ?_
    refine lv_aload_n hx hb d_9_11_170 rfl (lv_at hl 0 rfl) ?_
    refine q_get (ci := 11) (j := 3) (v := .ref (q 43)) C0 V i_Pri rfl rfl hO552 (by decide) w_388 rfl d_9_11_171 ?_
    refine lv_iload_n hx hb d_9_11_174 rfl (lv_at hl 1 rfl) ?_
    have bf619 := n_aiB hI (n_s43 g q) hA555
    refine q_iald C0 V hA555 (q_ix (x := x2.toInt) rfl (by first | with_reducible exact q_fe pre0 | (have t1 : 0 ≤ x2.toInt := pre0; omega)) (by have t1 : 0 ≤ x2.toInt := pre0; have t2 : x2.toInt ≤ 8 := pre1; omega)) d_9_11_175 ?_
    obtain ⟨a620, e621⟩ := q_nm (t3_0 x2.toNatClampNeg : Int32)
    refine q_ti (v := a620) e621 ?_
    have b622 : q_F (-10000 ≤ a620.toInt ∧ a620.toInt ≤ 10000) := (by rw [← e621]; show -10000 ≤ (t3_0 x2.toNatClampNeg : Int32).toInt ∧ (t3_0 x2.toNatClampNeg : Int32).toInt ≤ 10000; exact bf619 _)
    refine lv_iconst (v := 0) hx hb d_9_11_176 (by decide) ?_
    refine lv_iconst (v := 0) hx hb d_9_11_177 (by decide) ?_
    refine q_gov V (q_runV (As := [.ref (q 45), .int a620, .int 0, .int 0]) (rest := []) (d := 2) (mc := 0) (ms := 0) (ci := 7) C0 V rfl LV_Pri_204 (X_Dig_writePlain l D g q u593 45 4104 513 1000000 (n_h45 g q) a620 0 0 hI y596 y597 hO595 f598 hA599 lx550 hO558 lx551 hA559 ⟨(by have y0 : (4104 : Int32).toInt = 4104 := rfl; have y1 : (513 : Int32).toInt = 513 := rfl; have y2 : (1000000 : Int32).toInt = 1000000 := rfl; have y3 : (0 : Int32).toInt = 0 := rfl; have y4 : (0 : Int32).toInt = 0 := rfl; omega), (by have y0 : (4104 : Int32).toInt = 4104 := rfl; have y1 : (513 : Int32).toInt = 513 := rfl; have y2 : (1000000 : Int32).toInt = 1000000 := rfl; have y3 : (0 : Int32).toInt = 0 := rfl; have y4 : (0 : Int32).toInt = 0 := rfl; omega)⟩ ⟨(by have y0 : (4104 : Int32).toInt = 4104 := rfl; have y1 : (513 : Int32).toInt = 513 := rfl; have y2 : (1000000 : Int32).toInt = 1000000 := rfl; have y3 : (0 : Int32).toInt = 0 := rfl; have y4 : (0 : Int32).toInt = 0 := rfl; omega), (by have y0 : (4104 : Int32).toInt = 4104 := rfl; have y1 : (513 : Int32).toInt = 513 := rfl; have y2 : (1000000 : Int32).toInt = 1000000 := rfl; have y3 : (0 : Int32).toInt = 0 := rfl; have y4 : (0 : Int32).toInt = 0 := rfl; omega)⟩ (by have y0 : (4104 : Int32).toInt = 4104 := rfl; have y1 : (513 : Int32).toInt = 513 := rfl; have y2 : (1000000 : Int32).toInt = 1000000 := rfl; have y3 : (0 : Int32).toInt = 0 := rfl; have y4 : (0 : Int32).toInt = 0 := rfl; have t1 : y596.toInt ≤ 20 := b601; have t2 : y597.toInt ≤ y596.toInt + 19999 := b603; omega) (by have y0 : (4104 : Int32).toInt = 4104 := rfl; have y1 : (513 : Int32).toInt = 513 := rfl; have y2 : (1000000 : Int32).toInt = 1000000 := rfl; have y3 : (0 : Int32).toInt = 0 := rfl; have y4 : (0 : Int32).toInt = 0 := rfl; have t1 : -10000 ≤ a620.toInt ∧ a620.toInt ≤ 10000 := b622; omega) (by have y0 : (4104 : Int32).toInt = 4104 := rfl; have y1 : (513 : Int32).toInt = 513 := rfl; have y2 : (1000000 : Int32).toInt = 1000000 := rfl; have y3 : (0 : Int32).toInt = 0 := rfl; have y4 : (0 : Int32).toInt = 0 := rfl; have t1 : t6_0.toInt ≤ 10 := pre2; have t2 : lx550.toInt ≤ t6_0.toInt + 1 := i580; omega) (by have y0 : (4104 : Int32).toInt = 4104 := rfl; have y1 : (513 : Int32).toInt = 513 := rfl; have y2 : (1000000 : Int32).toInt = 1000000 := rfl; have y3 : (0 : Int32).toInt = 0 := rfl; have y4 : (0 : Int32).toInt = 0 := rfl; omega) _) rfl rfl hO595 rfl hl.1 rfl (Nat.le_of_ble_eq_true rfl) ⟨by decide, by decide⟩ ⟨Nat.le_of_ble_eq_true rfl, Nat.le_of_ble_eq_true rfl⟩ d_9_11_178) (fun u623 H locs hp624 V => ?_)
    obtain ⟨hI, hZ9⟩ := hp624
    obtain ⟨hu636, hZ9⟩ := hZ9
    obtain ⟨y626, hZ9⟩ := hZ9
    obtain ⟨f627, hZ9⟩ := hZ9
    obtain ⟨hO625, hZ9⟩ := hZ9
    obtain ⟨hA628, hZ9⟩ := hZ9
    replace hZ9 := hZ9.2.2.2.2
    obtain ⟨b633, hZ9⟩ := hZ9
    obtain ⟨b634, hE635⟩ := hZ9
    replace hO625 : u623[45]? = (some (q 45, .inr (1, [.ref (q 46), .int 4104, .int y626])) : Option (Nat × va_E)) := hO625
    replace hA628 : u623[46]? = (some (q 46, .inl (g 1, (513 : Int32).toNatClampNeg, .inr (.inl f627))) : Option (Nat × va_E)) := hA628
    obtain ⟨p637, e638⟩ : ∃ z, z = (F_Dig_writePlain (4104 : Int32) (513 : Int32) (1000000 : Int32) a620 (0 : Int32) (0 : Int32) y596 y597 f598 lx550 lx551) := ⟨_, rfl⟩
    have e639 : y626 = p637.1 := congrArg (fun z => z.1) (hE635.trans e638.symm)
    have e640 : f627 = p637.2 := congrArg (fun z => z.2) (hE635.trans e638.symm)
    replace b633 : q_F (lx550.toInt + 1 ≤ y626.toInt) := b633
    replace b634 : q_F (y626.toInt ≤ lx550.toInt + 420003) := b634
    replace hO595 := (hu636 _ (by decide)).trans hO595
    replace hA599 := (hu636 _ (by decide)).trans hA599
    replace hF := q_uc hF hu636 (by first | exact (q_sk (q_mi 2 rfl) (q_sk (q_mi 3 rfl) q_s0)) | simp)
    have hR641 := (show F_Pri_writeAnything_c178_20 x2 t0_0 t0_1 t0_2 t0_3 t1_0 t2_0 t3_0 t4_0 t4_1 t5_0 t6_0 t7_0 t8_0 t9_0 t10_0 t11_0 t12_0 t13_0 t14_0 t15_0 t16_0 t17_0 t18_0 t19_0 t20_0 t21_0 t22_0 t23_0 t24_0 t25_0 lx550 lx551 p609 y596 y597 f598 p637 = (F_Pri_writeAnything x2 t0_0 t0_1 t0_2 t0_3 t1_0 t2_0 t3_0 t4_0 t4_1 t5_0 t6_0 t7_0 t8_0 t9_0 t10_0 t11_0 t12_0 t13_0 t14_0 t15_0 t16_0 t17_0 t18_0 t19_0 t20_0 t21_0 t22_0 t23_0 t24_0 t25_0) from Eq.trans (by rw [e638, ← e621, e613, e612, e611, F_Pri_writeAnything_c159_19.eq_1]) hR614)
    exact q_retv C0 V (⟨hI, hF, y596, y597, f598, y626, f627, hO595, hA599, hO625, hA628, (show 0 ≤ y596.toInt from (by first | with_reducible exact q_fe b600 | (have t1 : 0 ≤ y596.toInt := b600; omega))), (show y596.toInt ≤ 1026 from (by first | with_reducible exact q_fe b601 | (have t1 : y596.toInt ≤ 20 := b601; omega))), (show 0 ≤ y597.toInt + 1000000 from (by first | with_reducible exact q_fe b602 | (have t1 : 0 ≤ y597.toInt + 20000 := b602; omega))), (show y597.toInt ≤ 1000000 from (by have t1 : y596.toInt ≤ 20 := b601; have t2 : y597.toInt ≤ y596.toInt + 19999 := b603; omega)), (show y596.toInt ≤ t4_0.toInt + 20 from (by have t1 : 0 ≤ t4_0.toInt ∧ t4_0.toInt ≤ 1026 := btt4_0; have t2 : y596.toInt ≤ 20 := b601; omega)), (show t4_1.toInt ≤ y597.toInt + 1020000 from (by have t1 : -1000000 ≤ t4_1.toInt ∧ t4_1.toInt ≤ 1000000 := btt4_1; have t2 : 0 ≤ y597.toInt + 20000 := b602; omega)), (show y597.toInt ≤ t4_1.toInt + 1020019 from (by have t1 : -1000000 ≤ t4_1.toInt ∧ t4_1.toInt ≤ 1000000 := btt4_1; have t2 : y596.toInt ≤ 20 := b601; have t3 : y597.toInt ≤ y596.toInt + 19999 := b603; omega)), (show t6_0.toInt ≤ y626.toInt from (by have t1 : t6_0.toInt ≤ lx550.toInt := i579; have t2 : lx550.toInt + 1 ≤ y626.toInt := b633; omega)), (show y626.toInt ≤ t6_0.toInt + 420004 from (by have t1 : lx550.toInt ≤ t6_0.toInt + 1 := i580; have t2 : y626.toInt ≤ lx550.toInt + 420003 := b634; omega)), (show y626.toInt ≤ y597.toInt + 1000074 from (by have t1 : t6_0.toInt ≤ 10 := pre2; have t2 : lx550.toInt ≤ t6_0.toInt + 1 := i580; have t3 : 0 ≤ y597.toInt + 20000 := b602; have t4 : y626.toInt ≤ lx550.toInt + 420003 := b634; omega)), (show (y596, y597, f598, y626, f627) = (F_Pri_writeAnything x2 t0_0 t0_1 t0_2 t0_3 t1_0 t2_0 t3_0 t4_0 t4_1 t5_0 t6_0 t7_0 t8_0 t9_0 t10_0 t11_0 t12_0 t13_0 t14_0 t15_0 t16_0 t17_0 t18_0 t19_0 t20_0 t21_0 t22_0 t23_0 t24_0 t25_0) from Eq.trans (by rw [e640, e639, F_Pri_writeAnything_c178_20.eq_1]) hR641)⟩) d_9_11_181
  ·
    intro J578
    refine lv_if_ge (tgt := 143) hx hb d_9_11_131 (by decide) (fun c646 => ?_) (fun c646 => ?_)
    ·
      exact J578 ((t6_0 : Int32), (t7_0 : (Nat → Int64))) _ _ _ _ ⟨(show q_F (t6_0.toInt ≤ t6_0.toInt) from (show t6_0.toInt ≤ t6_0.toInt from by omega)), (show q_F (t6_0.toInt ≤ t6_0.toInt + 1) from (show t6_0.toInt ≤ t6_0.toInt + 1 from by omega)), V, q_lw hl (q_lw1 0 rfl (q_lw1 1 rfl q_lw0)), hI, hF, hT0, hT1, hT2, hT3, hT4, hT5, hT6, hT7, hT8, hT9, hT10, hT11, hT12, hT13, hT14, hT15, hT16, hT17, hT18, hT19, hT20, hT21, hT22, hT23, hT24, hT25, (show F_Pri_writeAnything_J143_18 x2 t0_0 t0_1 t0_2 t0_3 t1_0 t2_0 t3_0 t4_0 t4_1 t5_0 t6_0 t7_0 t8_0 t9_0 t10_0 t11_0 t12_0 t13_0 t14_0 t15_0 t16_0 t17_0 t18_0 t19_0 t20_0 t21_0 t22_0 t23_0 t24_0 t25_0 t6_0 t7_0 = (F_Pri_writeAnything x2 t0_0 t0_1 t0_2 t0_3 t1_0 t2_0 t3_0 t4_0 t4_1 t5_0 t6_0 t7_0 t8_0 t9_0 t10_0 t11_0 t12_0 t13_0 t14_0 t15_0 t16_0 t17_0 t18_0 t19_0 t20_0 t21_0 t22_0 t23_0 t24_0 t25_0) from (by have c77x := c77; rw [← e76] at c77x; have c99x := c99; rw [← e76] at c99x; have c148x := c148; rw [← e76] at c148x; have c174x := c174; rw [← e76] at c174x; have c300x := c300; rw [← e76] at c300x; have c646x := c646; rw [← e548, ← e546] at c646x; rw [F_Pri_writeAnything.eq_1, if_neg c77x, if_neg c99x, if_neg c148x, if_neg c174x, if_neg c300x, if_pos c646x]))⟩
    ·
      refine lv_aload_n hx hb d_9_11_134 rfl (lv_at hl 0 rfl) ?_
      refine q_get (ci := 11) (j := 8) (v := .ref (q 45)) C0 V i_Pri rfl rfl hT0 (by decide) w_393 rfl d_9_11_135 ?_
      refine lv_bipush (v := 45) hx hb d_9_11_138 (by decide) ?_
      refine q_gov V (q_runV (As := [.int 45]) (rest := []) (d := 1) (mc := 0) (ms := 0) (ci := 1) C0 V rfl LV_Pri_113 (X_She_add_p l D g q ws 45 4104 513 1000000 (n_h45 g q) 45 hI t6_0 hT6 t7_0 hT7 (by have y0 : (4104 : Int32).toInt = 4104 := rfl; have y1 : (513 : Int32).toInt = 513 := rfl; have y2 : (1000000 : Int32).toInt = 1000000 := rfl; have y3 : (45 : Int32).toInt = 45 := rfl; have t1 : t6_0.toInt ≤ 10 := pre2; omega) _) rfl rfl hT6 rfl hl.1 rfl (Nat.le_of_ble_eq_true rfl) ⟨by decide, by decide⟩ ⟨Nat.le_of_ble_eq_true rfl, Nat.le_of_ble_eq_true rfl⟩ d_9_11_140) (fun u649 H locs hp650 V => ?_)
      obtain ⟨hI, hZ9⟩ := hp650
      obtain ⟨hu658, hZ9⟩ := hZ9
      obtain ⟨y652, hZ9⟩ := hZ9
      obtain ⟨f653, hZ9⟩ := hZ9
      obtain ⟨hO651, hZ9⟩ := hZ9
      obtain ⟨hA654, hZ9⟩ := hZ9
      obtain ⟨b655, hZ9⟩ := hZ9
      obtain ⟨b656, hE657⟩ := hZ9
      replace hO651 : u649[45]? = (some (q 45, .inr (1, [.ref (q 46), .int 4104, .int y652])) : Option (Nat × va_E)) := hO651
      replace hA654 : u649[46]? = (some (q 46, .inl (g 1, (513 : Int32).toNatClampNeg, .inr (.inl f653))) : Option (Nat × va_E)) := hA654
      obtain ⟨p659, e660⟩ : ∃ z, z = (F_She_add_p (4104 : Int32) (513 : Int32) (1000000 : Int32) (45 : Int32) t6_0 t7_0) := ⟨_, rfl⟩
      have e661 : y652 = p659.1 := congrArg (fun z => z.1) (hE657.trans e660.symm)
      have e662 : f653 = p659.2 := congrArg (fun z => z.2) (hE657.trans e660.symm)
      replace b655 : q_F (t6_0.toInt + 1 ≤ y652.toInt) := b655
      replace b656 : q_F (y652.toInt ≤ t6_0.toInt + 1) := b656
      replace hT0 := (hu658 _ (by decide)).trans hT0
      replace hT1 := (hu658 _ (by decide)).trans hT1
      replace hT2 := (hu658 _ (by decide)).trans hT2
      replace hT3 := (hu658 _ (by decide)).trans hT3
      replace hT4 := (hu658 _ (by decide)).trans hT4
      replace hT5 := (hu658 _ (by decide)).trans hT5
      replace hT8 := (hu658 _ (by decide)).trans hT8
      replace hT9 := (hu658 _ (by decide)).trans hT9
      replace hT10 := (hu658 _ (by decide)).trans hT10
      replace hT11 := (hu658 _ (by decide)).trans hT11
      replace hT12 := (hu658 _ (by decide)).trans hT12
      replace hT13 := (hu658 _ (by decide)).trans hT13
      replace hT14 := (hu658 _ (by decide)).trans hT14
      replace hT15 := (hu658 _ (by decide)).trans hT15
      replace hT16 := (hu658 _ (by decide)).trans hT16
      replace hT17 := (hu658 _ (by decide)).trans hT17
      replace hT18 := (hu658 _ (by decide)).trans hT18
      replace hT19 := (hu658 _ (by decide)).trans hT19
      replace hT20 := (hu658 _ (by decide)).trans hT20
      replace hT21 := (hu658 _ (by decide)).trans hT21
      replace hT22 := (hu658 _ (by decide)).trans hT22
      replace hT23 := (hu658 _ (by decide)).trans hT23
      replace hT24 := (hu658 _ (by decide)).trans hT24
      replace hT25 := (hu658 _ (by decide)).trans hT25
      replace hF := q_uc hF hu658 (by first | exact (q_sk (q_mi 2 rfl) (q_sk (q_mi 3 rfl) q_s0)) | simp)
      have hR663 := (show F_Pri_writeAnything_c140_21 x2 t0_0 t0_1 t0_2 t0_3 t1_0 t2_0 t3_0 t4_0 t4_1 t5_0 t6_0 t7_0 t8_0 t9_0 t10_0 t11_0 t12_0 t13_0 t14_0 t15_0 t16_0 t17_0 t18_0 t19_0 t20_0 t21_0 t22_0 t23_0 t24_0 t25_0 p659 = (F_Pri_writeAnything x2 t0_0 t0_1 t0_2 t0_3 t1_0 t2_0 t3_0 t4_0 t4_1 t5_0 t6_0 t7_0 t8_0 t9_0 t10_0 t11_0 t12_0 t13_0 t14_0 t15_0 t16_0 t17_0 t18_0 t19_0 t20_0 t21_0 t22_0 t23_0 t24_0 t25_0) from (by have c77x := c77; rw [← e76] at c77x; have c99x := c99; rw [← e76] at c99x; have c148x := c148; rw [← e76] at c148x; have c174x := c174; rw [← e76] at c174x; have c300x := c300; rw [← e76] at c300x; have c646x := c646; rw [← e548, ← e546] at c646x; rw [e660, F_Pri_writeAnything.eq_1, if_neg c77x, if_neg c99x, if_neg c148x, if_neg c174x, if_neg c300x, if_neg c646x]))
      exact J578 ((y652 : Int32), (f653 : (Nat → Int64))) _ _ _ _ ⟨(show q_F (t6_0.toInt ≤ y652.toInt) from (show t6_0.toInt ≤ y652.toInt from by have t1 : t6_0.toInt + 1 ≤ y652.toInt := b655; omega)), (show q_F (y652.toInt ≤ t6_0.toInt + 1) from (show y652.toInt ≤ t6_0.toInt + 1 from by have t1 : y652.toInt ≤ t6_0.toInt + 1 := b656; omega)), V, q_lw hl (q_lw1 0 rfl (q_lw1 1 rfl q_lw0)), hI, hF, hT0, hT1, hT2, hT3, hT4, hT5, hO651, hA654, hT8, hT9, hT10, hT11, hT12, hT13, hT14, hT15, hT16, hT17, hT18, hT19, hT20, hT21, hT22, hT23, hT24, hT25, (show F_Pri_writeAnything_J143_18 x2 t0_0 t0_1 t0_2 t0_3 t1_0 t2_0 t3_0 t4_0 t4_1 t5_0 t6_0 t7_0 t8_0 t9_0 t10_0 t11_0 t12_0 t13_0 t14_0 t15_0 t16_0 t17_0 t18_0 t19_0 t20_0 t21_0 t22_0 t23_0 t24_0 t25_0 y652 f653 = (F_Pri_writeAnything x2 t0_0 t0_1 t0_2 t0_3 t1_0 t2_0 t3_0 t4_0 t4_1 t5_0 t6_0 t7_0 t8_0 t9_0 t10_0 t11_0 t12_0 t13_0 t14_0 t15_0 t16_0 t17_0 t18_0 t19_0 t20_0 t21_0 t22_0 t23_0 t24_0 t25_0) from Eq.trans (by rw [e662, e661, F_Pri_writeAnything_c140_21.eq_1]) hR663)⟩

