def F_Dir_setPlain (t0_0 : Int32) (t0_1 : Int32) (t0_2 : Int32) (t0_3 : Int32) (t0_4 : Int32) (t0_5 : Int32) (t0_6 : Int32) (t1_0 : Int32) (t2_0 : (Nat → Int64)) : Int32 × Int32 × Int32 × Int32 × Int32 × Int32 × Int32 := (t0_0, (0 : Int32), (-1 : Int32), t0_3, (-1 : Int32), t0_5, t0_6)
set_option maxRecDepth 100000 in
set_option maxHeartbeats 4000000 in
theorem X_Dir_setPlain (l : Launch) (D : va_G) (g : Nat → ClassId) (q : Nat → Nat) (ws : va_W) (hI : q_I (nsh g q) q ws) (t0_0 : Int32) (t0_1 : Int32) (t0_2 : Int32) (t0_3 : Int32) (t0_4 : Int32) (t0_5 : Int32) (t0_6 : Int32) (hT0 : ws[47]? = (some (q 47, .inr (10, [.int t0_0, .int t0_1, .int t0_2, .int t0_3, .int t0_4, .int t0_5, .ref (q 1), .int t0_6])) : Option (Nat × va_E))) (t1_0 : Int32) (hT1 : ws[1]? = (some (q 1, .inr (1, [.ref (q 2), .int 4100, .int t1_0])) : Option (Nat × va_E))) (t2_0 : (Nat → Int64)) (hT2 : ws[2]? = (some (q 2, .inl (g 1, (513 : Int32).toNatClampNeg, .inr (.inl t2_0))) : Option (Nat × va_E))) : q_mV l y_Dir_setPlain prog_6_method_3_code 1 1 0 0 D g [.ref (q 47)] ws (fun u => q_I (nsh g q) q u ∧ q_un ws u [47] ∧ ∃ (u0_0 : Int32) (u0_1 : Int32) (u0_2 : Int32) (u0_3 : Int32) (u0_4 : Int32) (u0_5 : Int32) (u0_6 : Int32), u[47]? = (some (q 47, .inr (10, [.int u0_0, .int u0_1, .int u0_2, .int u0_3, .int u0_4, .int u0_5, .ref (q 1), .int u0_6])) : Option (Nat × va_E)) ∧ (0 ≤ u0_4.toInt + 1) ∧ (u0_4.toInt + 1 ≤ 0) ∧ (t0_0.toInt ≤ u0_0.toInt) ∧ (u0_0.toInt ≤ t0_0.toInt) ∧ (t0_3.toInt ≤ u0_3.toInt) ∧ (u0_3.toInt ≤ t0_3.toInt) ∧ (t0_5.toInt ≤ u0_5.toInt) ∧ (u0_5.toInt ≤ t0_5.toInt) ∧ (t0_6.toInt ≤ u0_6.toInt) ∧ (u0_6.toInt ≤ t0_6.toInt) ∧ (u0_4.toInt + 1 ≤ u0_1.toInt) ∧ (u0_1.toInt ≤ u0_4.toInt + 1) ∧ (u0_4.toInt ≤ u0_2.toInt) ∧ (u0_2.toInt ≤ u0_4.toInt) ∧ (u0_0, u0_1, u0_2, u0_3, u0_4, u0_5, u0_6) = (F_Dir_setPlain t0_0 t0_1 t0_2 t0_3 t0_4 t0_5 t0_6 t1_0 t2_0)) := by
  intro sz
  refine q_into (by decide) (Nat.le_of_ble_eq_true rfl) ?_
  intro p e s m below meth c ls hsz C0 V hl
  have hx := C0.1
  have hb := C0.2.1
  obtain ⟨yy0_0, yy0_1, yy0_2, yy0_3, yy0_4, yy0_5, yy0_6, hh0, btt0_2, btt0_3, btt0_6⟩ := n_o47 hI
  obtain ⟨rfl, rfl, rfl, rfl, rfl, rfl, rfl⟩ : t0_0 = yy0_0 ∧ t0_1 = yy0_1 ∧ t0_2 = yy0_2 ∧ t0_3 = yy0_3 ∧ t0_4 = yy0_4 ∧ t0_5 = yy0_5 ∧ t0_6 = yy0_6 := by have z := Option.some.inj (hT0.symm.trans hh0); simpa using z
  replace btt0_2 : q_F (-1 ≤ t0_2.toInt ∧ t0_2.toInt ≤ 9999) := btt0_2
  replace btt0_3 : q_F (-1 ≤ t0_3.toInt ∧ t0_3.toInt ≤ 9999) := btt0_3
  replace btt0_6 : q_F (0 ≤ t0_6.toInt ∧ t0_6.toInt ≤ 1) := btt0_6
  obtain ⟨yy1_0, hh1, btt1_0⟩ := n_shO hI (n_h1 g q)
  obtain ⟨rfl⟩ : t1_0 = yy1_0 := by have z := Option.some.inj (hT1.symm.trans hh1); simpa using z
  replace btt1_0 : q_F (0 ≤ t1_0.toInt ∧ t1_0.toInt ≤ 4100) := btt1_0
  have hF : q_un ws ws [47] := q_u0
  have hl : lv_has ls 1 [(0, .ref (q 47))] := hl
  refine lv_aload_n hx hb d_6_3_0 rfl (lv_at hl 0 rfl) ?_
  refine lv_iconst (v := 0) hx hb d_6_3_1 (by decide) ?_
  refine q_put (ci := 10) (j := 1) (v := .int 0) (ty := .int) C0 V i_Dir o_Dir n_Dir rfl rfl hT0 (by decide) w_356 rfl rfl rfl rfl (Nat.le_of_ble_eq_true rfl) d_6_3_2 (fun H locs w17 hu18 hT0 V => ?_)
  replace hT0 : w17[47]? = (some (q 47, .inr (10, [.int t0_0, .int 0, .int t0_2, .int t0_3, .int t0_4, .int t0_5, .ref (q 1), .int t0_6])) : Option (Nat × va_E)) := hT0
  replace hI := n_p47 hI hu18 hT0 ⟨(by have t1 : -1 ≤ t0_2.toInt ∧ t0_2.toInt ≤ 9999 := btt0_2; omega), (by have t1 : -1 ≤ t0_2.toInt ∧ t0_2.toInt ≤ 9999 := btt0_2; omega)⟩ ⟨(by have t1 : -1 ≤ t0_3.toInt ∧ t0_3.toInt ≤ 9999 := btt0_3; omega), (by have t1 : -1 ≤ t0_3.toInt ∧ t0_3.toInt ≤ 9999 := btt0_3; omega)⟩ ⟨(by have t1 : 0 ≤ t0_6.toInt ∧ t0_6.toInt ≤ 1 := btt0_6; omega), (by have t1 : 0 ≤ t0_6.toInt ∧ t0_6.toInt ≤ 1 := btt0_6; omega)⟩
  replace hT1 := (hu18 _ (by decide)).trans hT1
  replace hT2 := (hu18 _ (by decide)).trans hT2
  replace hF := q_us hF hu18 (by simp)
  refine lv_aload_n hx hb d_6_3_5 rfl (lv_at hl 0 rfl) ?_
  refine lv_iconst (v := (-1)) hx hb d_6_3_6 (by decide) ?_
  refine q_put (ci := 10) (j := 2) (v := .int (-1)) (ty := .int) C0 V i_Dir o_Dir n_Dir rfl rfl hT0 (by decide) w_357 rfl rfl rfl rfl (Nat.le_of_ble_eq_true rfl) d_6_3_7 (fun H locs w19 hu20 hT0 V => ?_)
  replace hT0 : w19[47]? = (some (q 47, .inr (10, [.int t0_0, .int 0, .int (-1), .int t0_3, .int t0_4, .int t0_5, .ref (q 1), .int t0_6])) : Option (Nat × va_E)) := hT0
  replace hI := n_p47 hI hu20 hT0 ⟨(by have z9 : (-1 : Int32).toInt = -1 := rfl; omega), (by have z9 : (-1 : Int32).toInt = -1 := rfl; omega)⟩ ⟨(by have t1 : -1 ≤ t0_3.toInt ∧ t0_3.toInt ≤ 9999 := btt0_3; omega), (by have t1 : -1 ≤ t0_3.toInt ∧ t0_3.toInt ≤ 9999 := btt0_3; omega)⟩ ⟨(by have t1 : 0 ≤ t0_6.toInt ∧ t0_6.toInt ≤ 1 := btt0_6; omega), (by have t1 : 0 ≤ t0_6.toInt ∧ t0_6.toInt ≤ 1 := btt0_6; omega)⟩
  replace hT1 := (hu20 _ (by decide)).trans hT1
  replace hT2 := (hu20 _ (by decide)).trans hT2
  replace hF := q_us hF hu20 (by simp)
  refine lv_aload_n hx hb d_6_3_10 rfl (lv_at hl 0 rfl) ?_
  refine lv_iconst (v := (-1)) hx hb d_6_3_11 (by decide) ?_
  refine q_put (ci := 10) (j := 4) (v := .int (-1)) (ty := .int) C0 V i_Dir o_Dir n_Dir rfl rfl hT0 (by decide) w_361 rfl rfl rfl rfl (Nat.le_of_ble_eq_true rfl) d_6_3_12 (fun H locs w21 hu22 hT0 V => ?_)
  replace hT0 : w21[47]? = (some (q 47, .inr (10, [.int t0_0, .int 0, .int (-1), .int t0_3, .int (-1), .int t0_5, .ref (q 1), .int t0_6])) : Option (Nat × va_E)) := hT0
  replace hI := n_p47 hI hu22 hT0 ⟨(by have z9 : (-1 : Int32).toInt = -1 := rfl; omega), (by have z9 : (-1 : Int32).toInt = -1 := rfl; omega)⟩ ⟨(by have t1 : -1 ≤ t0_3.toInt ∧ t0_3.toInt ≤ 9999 := btt0_3; omega), (by have t1 : -1 ≤ t0_3.toInt ∧ t0_3.toInt ≤ 9999 := btt0_3; omega)⟩ ⟨(by have t1 : 0 ≤ t0_6.toInt ∧ t0_6.toInt ≤ 1 := btt0_6; omega), (by have t1 : 0 ≤ t0_6.toInt ∧ t0_6.toInt ≤ 1 := btt0_6; omega)⟩
  replace hT1 := (hu22 _ (by decide)).trans hT1
  replace hT2 := (hu22 _ (by decide)).trans hT2
  replace hF := q_us hF hu22 (by simp)
  exact q_retv C0 V (⟨hI, hF, t0_0, 0, (-1), t0_3, (-1), t0_5, t0_6, hT0, (show 0 ≤ (-1 : Int32).toInt + 1 from (by have z10 : (0 : Int32).toInt = 0 := rfl; have z11 : (-1 : Int32).toInt = -1 := rfl; have z13 : (-1 : Int32).toInt = -1 := rfl; omega)), (show (-1 : Int32).toInt + 1 ≤ 0 from (by have z10 : (0 : Int32).toInt = 0 := rfl; have z11 : (-1 : Int32).toInt = -1 := rfl; have z13 : (-1 : Int32).toInt = -1 := rfl; omega)), (show t0_0.toInt ≤ t0_0.toInt from (by have z10 : (0 : Int32).toInt = 0 := rfl; have z11 : (-1 : Int32).toInt = -1 := rfl; have z13 : (-1 : Int32).toInt = -1 := rfl; omega)), (show t0_0.toInt ≤ t0_0.toInt from (by have z10 : (0 : Int32).toInt = 0 := rfl; have z11 : (-1 : Int32).toInt = -1 := rfl; have z13 : (-1 : Int32).toInt = -1 := rfl; omega)), (show t0_3.toInt ≤ t0_3.toInt from (by have z10 : (0 : Int32).toInt = 0 := rfl; have z11 : (-1 : Int32).toInt = -1 := rfl; have z13 : (-1 : Int32).toInt = -1 := rfl; omega)), (show t0_3.toInt ≤ t0_3.toInt from (by have z10 : (0 : Int32).toInt = 0 := rfl; have z11 : (-1 : Int32).toInt = -1 := rfl; have z13 : (-1 : Int32).toInt = -1 := rfl; omega)), (show t0_5.toInt ≤ t0_5.toInt from (by have z10 : (0 : Int32).toInt = 0 := rfl; have z11 : (-1 : Int32).toInt = -1 := rfl; have z13 : (-1 : Int32).toInt = -1 := rfl; omega)), (show t0_5.toInt ≤ t0_5.toInt from (by have z10 : (0 : Int32).toInt = 0 := rfl; have z11 : (-1 : Int32).toInt = -1 := rfl; have z13 : (-1 : Int32).toInt = -1 := rfl; omega)), (show t0_6.toInt ≤ t0_6.toInt from (by have z10 : (0 : Int32).toInt = 0 := rfl; have z11 : (-1 : Int32).toInt = -1 := rfl; have z13 : (-1 : Int32).toInt = -1 := rfl; omega)), (show t0_6.toInt ≤ t0_6.toInt from (by have z10 : (0 : Int32).toInt = 0 := rfl; have z11 : (-1 : Int32).toInt = -1 := rfl; have z13 : (-1 : Int32).toInt = -1 := rfl; omega)), (show (-1 : Int32).toInt + 1 ≤ (0 : Int32).toInt from (by have z10 : (0 : Int32).toInt = 0 := rfl; have z11 : (-1 : Int32).toInt = -1 := rfl; have z13 : (-1 : Int32).toInt = -1 := rfl; omega)), (show (0 : Int32).toInt ≤ (-1 : Int32).toInt + 1 from (by have z10 : (0 : Int32).toInt = 0 := rfl; have z11 : (-1 : Int32).toInt = -1 := rfl; have z13 : (-1 : Int32).toInt = -1 := rfl; omega)), (show (-1 : Int32).toInt ≤ (-1 : Int32).toInt from (by have z10 : (0 : Int32).toInt = 0 := rfl; have z11 : (-1 : Int32).toInt = -1 := rfl; have z13 : (-1 : Int32).toInt = -1 := rfl; omega)), (show (-1 : Int32).toInt ≤ (-1 : Int32).toInt from (by have z10 : (0 : Int32).toInt = 0 := rfl; have z11 : (-1 : Int32).toInt = -1 := rfl; have z13 : (-1 : Int32).toInt = -1 := rfl; omega)), (show (t0_0, (0 : Int32), (-1 : Int32), t0_3, (-1 : Int32), t0_5, t0_6) = (F_Dir_setPlain t0_0 t0_1 t0_2 t0_3 t0_4 t0_5 t0_6 t1_0 t2_0) from (by rw [F_Dir_setPlain.eq_1]))⟩) d_6_3_15
def F_Dir_takeNumber_L2 (t0_0 : Int32) (t0_1 : Int32) (t0_2 : Int32) (t0_3 : Int32) (t0_4 : Int32) (t0_5 : Int32) (t0_6 : Int32) (t1_0 : Int32) (t2_0 : (Nat → Int64)) : Nat → Int32 → Int32 → (Int32 × Int32 × Int32 × Int32 × Int32 × Int32 × Int32 × Int32)
  | 0, _, _ => default
  | fm + 1, lx20, lx21 => if ((F_Dir_figureAt lx21 t1_0 t2_0) : Int32) < (0 : Int32) then ((lx20, t0_0, t0_1, t0_2, t0_3, t0_4, lx21, t0_6)) else (if t1_0 ≤ lx21 then ((lx20, t0_0, t0_1, t0_2, t0_3, t0_4, lx21, t0_6)) else (F_Dir_takeNumber_L2 t0_0 t0_1 t0_2 t0_3 t0_4 t0_5 t0_6 t1_0 t2_0 fm (if 9999 < ((lx20 * 10 : Int32) + ((F_Dir_figureAt lx21 t1_0 t2_0) : Int32) : Int32) then 9999 else ((lx20 * 10 : Int32) + ((F_Dir_figureAt lx21 t1_0 t2_0) : Int32) : Int32) : Int32) (lx21 + 1 : Int32)))
def F_Dir_takeNumber (t0_0 : Int32) (t0_1 : Int32) (t0_2 : Int32) (t0_3 : Int32) (t0_4 : Int32) (t0_5 : Int32) (t0_6 : Int32) (t1_0 : Int32) (t2_0 : (Nat → Int64)) : Int32 × Int32 × Int32 × Int32 × Int32 × Int32 × Int32 × Int32 := F_Dir_takeNumber_L2 t0_0 t0_1 t0_2 t0_3 t0_4 t0_5 t0_6 t1_0 t2_0 ((4100 - t0_5.toInt).toNat + 1) 0 t0_5
set_option maxRecDepth 100000 in
set_option maxHeartbeats 4000000 in
theorem X_Dir_takeNumber (l : Launch) (D : va_G) (g : Nat → ClassId) (q : Nat → Nat) (ws : va_W) (hI : q_I (nsh g q) q ws) (t0_0 : Int32) (t0_1 : Int32) (t0_2 : Int32) (t0_3 : Int32) (t0_4 : Int32) (t0_5 : Int32) (t0_6 : Int32) (hT0 : ws[47]? = (some (q 47, .inr (10, [.int t0_0, .int t0_1, .int t0_2, .int t0_3, .int t0_4, .int t0_5, .ref (q 1), .int t0_6])) : Option (Nat × va_E))) (t1_0 : Int32) (hT1 : ws[1]? = (some (q 1, .inr (1, [.ref (q 2), .int 4100, .int t1_0])) : Option (Nat × va_E))) (t2_0 : (Nat → Int64)) (hT2 : ws[2]? = (some (q 2, .inl (g 1, (513 : Int32).toNatClampNeg, .inr (.inl t2_0))) : Option (Nat × va_E))) : q_mI l y_Dir_takeNumber prog_6_method_6_code 2 (.int) 3 0 0 D g [.ref (q 47)] ws (fun r u => q_I (nsh g q) q u ∧ q_un ws u [47] ∧ ∃ (u0_0 : Int32) (u0_1 : Int32) (u0_2 : Int32) (u0_3 : Int32) (u0_4 : Int32) (u0_5 : Int32) (u0_6 : Int32), u[47]? = (some (q 47, .inr (10, [.int u0_0, .int u0_1, .int u0_2, .int u0_3, .int u0_4, .int u0_5, .ref (q 1), .int u0_6])) : Option (Nat × va_E)) ∧ (0 ≤ r.toInt) ∧ (r.toInt ≤ 9999) ∧ (t0_0.toInt ≤ u0_0.toInt) ∧ (u0_0.toInt ≤ t0_0.toInt) ∧ (t0_1.toInt ≤ u0_1.toInt) ∧ (u0_1.toInt ≤ t0_1.toInt) ∧ (t0_2.toInt ≤ u0_2.toInt) ∧ (u0_2.toInt ≤ t0_2.toInt) ∧ (t0_3.toInt ≤ u0_3.toInt) ∧ (u0_3.toInt ≤ t0_3.toInt) ∧ (t0_4.toInt ≤ u0_4.toInt) ∧ (u0_4.toInt ≤ t0_4.toInt) ∧ (t0_5.toInt ≤ u0_5.toInt) ∧ (t0_6.toInt ≤ u0_6.toInt) ∧ (u0_6.toInt ≤ t0_6.toInt) ∧ (r, u0_0, u0_1, u0_2, u0_3, u0_4, u0_5, u0_6) = (F_Dir_takeNumber t0_0 t0_1 t0_2 t0_3 t0_4 t0_5 t0_6 t1_0 t2_0)) := by
  intro sz
  refine q_into (by decide) (Nat.le_of_ble_eq_true rfl) ?_
  intro p e s m below meth c ls hsz C0 V hl
  have hx := C0.1
  have hb := C0.2.1
  obtain ⟨yy0_0, yy0_1, yy0_2, yy0_3, yy0_4, yy0_5, yy0_6, hh0, btt0_2, btt0_3, btt0_6⟩ := n_o47 hI
  obtain ⟨rfl, rfl, rfl, rfl, rfl, rfl, rfl⟩ : t0_0 = yy0_0 ∧ t0_1 = yy0_1 ∧ t0_2 = yy0_2 ∧ t0_3 = yy0_3 ∧ t0_4 = yy0_4 ∧ t0_5 = yy0_5 ∧ t0_6 = yy0_6 := by have z := Option.some.inj (hT0.symm.trans hh0); simpa using z
  replace btt0_2 : q_F (-1 ≤ t0_2.toInt ∧ t0_2.toInt ≤ 9999) := btt0_2
  replace btt0_3 : q_F (-1 ≤ t0_3.toInt ∧ t0_3.toInt ≤ 9999) := btt0_3
  replace btt0_6 : q_F (0 ≤ t0_6.toInt ∧ t0_6.toInt ≤ 1) := btt0_6
  obtain ⟨yy1_0, hh1, btt1_0⟩ := n_shO hI (n_h1 g q)
  obtain ⟨rfl⟩ : t1_0 = yy1_0 := by have z := Option.some.inj (hT1.symm.trans hh1); simpa using z
  replace btt1_0 : q_F (0 ≤ t1_0.toInt ∧ t1_0.toInt ≤ 4100) := btt1_0
  have hF : q_un ws ws [47] := q_u0
  have hl : lv_has ls 2 [(0, .ref (q 47))] := hl
  refine lv_iconst (v := 0) hx hb d_6_6_0 (by decide) ?_
  refine lv_istore_n (lv' := [(1, .int 0), (0, .ref (q 47))]) hx hb d_6_6_1 rfl hl (by decide) rfl (fun ls hl => ?_)
  refine q_loop (X := Int32 × Int32) (fun z H locs ls w26 => q_F (0 ≤ z.1.toInt) ∧ q_F (z.1.toInt ≤ 9999) ∧ q_F (t0_5.toInt ≤ z.2.toInt) ∧ q_Wd D g (va_A ws sz) s w26 H locs ∧ lv_has ls 2 [(1, .int z.1), (0, .ref (q 47))] ∧ q_I (nsh g q) q w26 ∧ q_un ws w26 [47] ∧ w26[47]? = (some (q 47, .inr (10, [.int t0_0, .int t0_1, .int t0_2, .int t0_3, .int t0_4, .int z.2, .ref (q 1), .int t0_6])) : Option (Nat × va_E)) ∧ w26[1]? = (some (q 1, .inr (1, [.ref (q 2), .int 4100, .int t1_0])) : Option (Nat × va_E)) ∧ w26[2]? = (some (q 2, .inl (g 1, (513 : Int32).toNatClampNeg, .inr (.inl t2_0))) : Option (Nat × va_E)) ∧ (∃ n, (4100 - z.2.toInt).toNat < n ∧ F_Dir_takeNumber_L2 t0_0 t0_1 t0_2 t0_3 t0_4 t0_5 t0_6 t1_0 t2_0 n z.1 z.2 = (F_Dir_takeNumber t0_0 t0_1 t0_2 t0_3 t0_4 t0_5 t0_6 t1_0 t2_0))) (fun z => (4100 - z.2.toInt).toNat) ?_ ((0 : Int32), (t0_5 : Int32)) _ _ _ ws ⟨(show q_F (0 ≤ 0) from (show 0 ≤ 0 from by omega)), (show q_F (0 ≤ 9999) from (show 0 ≤ 9999 from by omega)), (show q_F (t0_5.toInt ≤ t0_5.toInt) from (show t0_5.toInt ≤ t0_5.toInt from by omega)), V, q_lw hl (q_lw1 0 rfl (q_lw1 1 rfl q_lw0)), hI, hF, hT0, hT1, hT2, ⟨((4100 - t0_5.toInt).toNat + 1), Nat.lt_succ_self _, (show F_Dir_takeNumber_L2 t0_0 t0_1 t0_2 t0_3 t0_4 t0_5 t0_6 t1_0 t2_0 ((4100 - t0_5.toInt).toNat + 1) 0 t0_5 = (F_Dir_takeNumber t0_0 t0_1 t0_2 t0_3 t0_4 t0_5 t0_6 t1_0 t2_0) from (by rw [F_Dir_takeNumber.eq_1]))⟩⟩
  rintro ⟨lx20, lx21⟩ H locs ls w26 ⟨i22, i23, i24, V, hl, hI, hF, hO27, hO28, hO29, ⟨fu32, hf33, hR30⟩⟩ ih25
  obtain ⟨fm34, rfl⟩ : ∃ m, fu32 = m + 1 := ⟨fu32 - 1, by omega⟩
  replace i22 : q_F (0 ≤ lx20.toInt) := i22
  replace i23 : q_F (lx20.toInt ≤ 9999) := i23
  replace i24 : q_F (t0_5.toInt ≤ lx21.toInt) := i24
  replace hl : lv_has ls 2 [(1, .int lx20), (0, .ref (q 47))] := hl
  replace hO27 : w26[47]? = (some (q 47, .inr (10, [.int t0_0, .int t0_1, .int t0_2, .int t0_3, .int t0_4, .int lx21, .ref (q 1), .int t0_6])) : Option (Nat × va_E)) := hO27
  replace hO28 : w26[1]? = (some (q 1, .inr (1, [.ref (q 2), .int 4100, .int t1_0])) : Option (Nat × va_E)) := hO28
  replace hO29 : w26[2]? = (some (q 2, .inl (g 1, (513 : Int32).toNatClampNeg, .inr (.inl t2_0))) : Option (Nat × va_E)) := hO29
  refine lv_aload_n hx hb d_6_6_2 rfl (lv_at hl 1 rfl) ?_
  refine lv_aload_n hx hb d_6_6_3 rfl (lv_at hl 1 rfl) ?_
  refine q_get (ci := 10) (j := 5) (v := .int lx21) C0 V i_Dir rfl rfl hO27 (by decide) w_363 rfl d_6_6_4 ?_
  refine q_goi V (q_runV (As := [.int lx21]) (rest := []) (d := 2) (mc := 0) (ms := 0) (ci := 10) C0 V rfl LV_Dir_32 (X_Dir_figureAt l D g q w26  lx21 hI t1_0 hO28 t2_0 hO29  _) rfl rfl hO27 rfl hl.1 rfl (Nat.le_of_ble_eq_true rfl) ⟨by decide, by decide⟩ ⟨Nat.le_of_ble_eq_true rfl, Nat.le_of_ble_eq_true rfl⟩ d_6_6_7) (fun a37 u35 H locs hp36 V => ?_)
  obtain ⟨rfl, b38, b39, hE40⟩ := hp36
  have e41 : a37 = (F_Dir_figureAt lx21 t1_0 t2_0) := hE40
  replace b38 : q_F (0 ≤ a37.toInt + 1) := b38
  replace b39 : q_F (a37.toInt ≤ 9) := b39
  refine lv_if_lt (tgt := 60) hx hb d_6_6_10 (by decide) (fun c42 => ?_) (fun c42 => ?_)
  ·
    have b43 : q_F (a37.toInt < 0) := (q_ltI c42)
    refine lv_iload_n hx hb d_6_6_60 rfl (lv_at hl 0 rfl) ?_
    exact q_reti C0 V (⟨hI, hF, t0_0, t0_1, t0_2, t0_3, t0_4, lx21, t0_6, hO27, (show 0 ≤ lx20.toInt from (by have t1 : 0 ≤ lx20.toInt := i22; omega)), (show lx20.toInt ≤ 9999 from (by have t1 : lx20.toInt ≤ 9999 := i23; omega)), (show t0_0.toInt ≤ t0_0.toInt from (by omega)), (show t0_0.toInt ≤ t0_0.toInt from (by omega)), (show t0_1.toInt ≤ t0_1.toInt from (by omega)), (show t0_1.toInt ≤ t0_1.toInt from (by omega)), (show t0_2.toInt ≤ t0_2.toInt from (by omega)), (show t0_2.toInt ≤ t0_2.toInt from (by omega)), (show t0_3.toInt ≤ t0_3.toInt from (by omega)), (show t0_3.toInt ≤ t0_3.toInt from (by omega)), (show t0_4.toInt ≤ t0_4.toInt from (by omega)), (show t0_4.toInt ≤ t0_4.toInt from (by omega)), (show t0_5.toInt ≤ lx21.toInt from (by have t1 : t0_5.toInt ≤ lx21.toInt := i24; omega)), (show t0_6.toInt ≤ t0_6.toInt from (by omega)), (show t0_6.toInt ≤ t0_6.toInt from (by omega)), (show (lx20, t0_0, t0_1, t0_2, t0_3, t0_4, lx21, t0_6) = (F_Dir_takeNumber t0_0 t0_1 t0_2 t0_3 t0_4 t0_5 t0_6 t1_0 t2_0) from Eq.trans (by have c42x := c42; rw [e41] at c42x; rw [F_Dir_takeNumber_L2.eq_2, if_pos c42x]) hR30)⟩) d_6_6_61
  ·
    have b44 : q_F (0 ≤ a37.toInt) := (q_nltI c42)
    refine lv_aload_n hx hb d_6_6_13 rfl (lv_at hl 1 rfl) ?_
    refine q_get (ci := 10) (j := 5) (v := .int lx21) C0 V i_Dir rfl rfl hO27 (by decide) w_363 rfl d_6_6_14 ?_
    refine lv_aload_n hx hb d_6_6_17 rfl (lv_at hl 1 rfl) ?_
    refine q_get (ci := 10) (j := 6) (v := .ref (q 1)) C0 V i_Dir rfl rfl hO27 (by decide) w_365 rfl d_6_6_18 ?_
    refine q_get (ci := 1) (j := 2) (v := .int t1_0) C0 V i_She rfl rfl hO28 (by decide) w_57 rfl d_6_6_21 ?_
    refine lv_icmp_ge (tgt := 60) hx hb d_6_6_24 (by decide) (fun c45 => ?_) (fun c45 => ?_)
    ·
      have b46 : q_F (t1_0.toInt ≤ lx21.toInt) := (q_leI c45)
      refine lv_iload_n hx hb d_6_6_60 rfl (lv_at hl 0 rfl) ?_
      exact q_reti C0 V (⟨hI, hF, t0_0, t0_1, t0_2, t0_3, t0_4, lx21, t0_6, hO27, (show 0 ≤ lx20.toInt from (by have t1 : 0 ≤ lx20.toInt := i22; omega)), (show lx20.toInt ≤ 9999 from (by have t1 : lx20.toInt ≤ 9999 := i23; omega)), (show t0_0.toInt ≤ t0_0.toInt from (by omega)), (show t0_0.toInt ≤ t0_0.toInt from (by omega)), (show t0_1.toInt ≤ t0_1.toInt from (by omega)), (show t0_1.toInt ≤ t0_1.toInt from (by omega)), (show t0_2.toInt ≤ t0_2.toInt from (by omega)), (show t0_2.toInt ≤ t0_2.toInt from (by omega)), (show t0_3.toInt ≤ t0_3.toInt from (by omega)), (show t0_3.toInt ≤ t0_3.toInt from (by omega)), (show t0_4.toInt ≤ t0_4.toInt from (by omega)), (show t0_4.toInt ≤ t0_4.toInt from (by omega)), (show t0_5.toInt ≤ lx21.toInt from (by have t1 : t0_5.toInt ≤ lx21.toInt := i24; omega)), (show t0_6.toInt ≤ t0_6.toInt from (by omega)), (show t0_6.toInt ≤ t0_6.toInt from (by omega)), (show (lx20, t0_0, t0_1, t0_2, t0_3, t0_4, lx21, t0_6) = (F_Dir_takeNumber t0_0 t0_1 t0_2 t0_3 t0_4 t0_5 t0_6 t1_0 t2_0) from Eq.trans (by have c42x := c42; rw [e41] at c42x; rw [F_Dir_takeNumber_L2.eq_2, if_neg c42x, if_pos c45]) hR30)⟩) d_6_6_61
    ·
      have b47 : q_F (lx21.toInt < t1_0.toInt) := (q_nleI c45)
      refine lv_iload_n hx hb d_6_6_27 rfl (lv_at hl 0 rfl) ?_
      refine lv_bipush (v := 10) hx hb d_6_6_28 (by decide) ?_
      refine lv_imul hx hb d_6_6_30 ?_
      obtain ⟨a48, e49⟩ := q_nm (lx20 * 10 : Int32)
      refine q_ti (v := a48) e49 ?_
      have b50 : q_F (a48.toInt = lx20.toInt * 10) := (by rw [← e49]; show (lx20 * 10 : Int32).toInt = lx20.toInt * 10; exact q_mulI (x := lx20.toInt) (y := 10) rfl (by decide) (by have t1 : 0 ≤ lx20.toInt := i22; have t2 : lx20.toInt ≤ 9999 := i23; omega) (by have t1 : 0 ≤ lx20.toInt := i22; have t2 : lx20.toInt ≤ 9999 := i23; omega))
      refine lv_aload_n hx hb d_6_6_31 rfl (lv_at hl 1 rfl) ?_
      refine lv_aload_n hx hb d_6_6_32 rfl (lv_at hl 1 rfl) ?_
      refine q_get (ci := 10) (j := 5) (v := .int lx21) C0 V i_Dir rfl rfl hO27 (by decide) w_363 rfl d_6_6_33 ?_
      refine q_goi V (q_runV (As := [.int lx21]) (rest := [.int a48]) (d := 2) (mc := 0) (ms := 0) (ci := 10) C0 V rfl LV_Dir_32 (X_Dir_figureAt l D g q w26  lx21 hI t1_0 hO28 t2_0 hO29  _) rfl rfl hO27 rfl hl.1 rfl (Nat.le_of_ble_eq_true rfl) ⟨by decide, by decide⟩ ⟨Nat.le_of_ble_eq_true rfl, Nat.le_of_ble_eq_true rfl⟩ d_6_6_36) (fun a53 u51 H locs hp52 V => ?_)
      obtain ⟨rfl, b54, b55, hE56⟩ := hp52
      have e57 : a53 = (F_Dir_figureAt lx21 t1_0 t2_0) := hE56
      replace b54 : q_F (0 ≤ a53.toInt + 1) := b54
      replace b55 : q_F (a53.toInt ≤ 9) := b55
      obtain rfl : a37 = a53 := e41.trans e57.symm
      refine lv_iadd hx hb d_6_6_39 ?_
      obtain ⟨a58, e59⟩ := q_nm (a48 + a37 : Int32)
      refine q_ti (v := a58) e59 ?_
      have b60 : q_F (a58.toInt = a48.toInt + a37.toInt) := (by rw [← e59]; show (a48 + a37 : Int32).toInt = a48.toInt + a37.toInt; exact q_addI (x := a48.toInt) (y := a37.toInt) rfl rfl (by have t1 : 0 ≤ a37.toInt := b44; have _ := q_lo32 (x := a48); have _ := q_hi32 (x := a48); have t2 : lx20.toInt ≤ 9999 := i23; have t3 : a37.toInt ≤ 9 := b39; have t4 : a48.toInt = lx20.toInt * 10 := b50; omega) (by have t1 : 0 ≤ a37.toInt := b44; have _ := q_lo32 (x := a48); have _ := q_hi32 (x := a48); have t2 : lx20.toInt ≤ 9999 := i23; have t3 : a37.toInt ≤ 9 := b39; have t4 : a48.toInt = lx20.toInt * 10 := b50; omega))
      refine lv_sipush (v := 9999) hx hb d_6_6_40 (by decide) ?_
      refine q_min C0 hl.1 rfl w_1752 w_774 w_7 w_775 ⟨Nat.le_of_ble_eq_true rfl, Nat.le_of_ble_eq_true rfl⟩ ⟨Nat.le_of_ble_eq_true rfl, Nat.le_of_ble_eq_true rfl⟩ d_6_6_43 ?_
      obtain ⟨a61, e62⟩ := q_nm (if 9999 < a58 then 9999 else a58 : Int32)
      refine q_ti (v := a61) e62 ?_
      have b63 : q_F (a61.toInt ≤ a58.toInt ∧ a61.toInt ≤ 9999 ∧ (a61.toInt = a58.toInt ∨ a61.toInt = 9999)) := (by rw [← e62]; show (if 9999 < a58 then 9999 else a58 : Int32).toInt ≤ a58.toInt ∧ (if 9999 < a58 then 9999 else a58 : Int32).toInt ≤ 9999 ∧ ((if 9999 < a58 then 9999 else a58 : Int32).toInt = a58.toInt ∨ (if 9999 < a58 then 9999 else a58 : Int32).toInt = 9999); exact (by have y1 : (9999 : Int32).toInt = 9999 := rfl; have z := s_min (a := a58) (b := 9999); omega))
      refine lv_istore_n (lv' := [(1, .int a61), (0, .ref (q 47))]) hx hb d_6_6_46 rfl hl (by decide) rfl (fun ls hl => ?_)
      refine lv_aload_n hx hb d_6_6_47 rfl (lv_at hl 1 rfl) ?_
      refine lv_dup hx hb d_6_6_48 rfl ?_
      refine q_get (ci := 10) (j := 5) (v := .int lx21) C0 V i_Dir rfl rfl hO27 (by decide) w_363 rfl d_6_6_49 ?_
      refine lv_iconst (v := 1) hx hb d_6_6_52 (by decide) ?_
      refine lv_iadd hx hb d_6_6_53 ?_
      obtain ⟨a64, e65⟩ := q_nm (lx21 + 1 : Int32)
      refine q_ti (v := a64) e65 ?_
      have b66 : q_F (a64.toInt = lx21.toInt + 1) := (by rw [← e65]; show (lx21 + 1 : Int32).toInt = lx21.toInt + 1; exact q_addI (x := lx21.toInt) (y := 1) rfl (by decide) (by have _ := q_lo32 (x := lx21); have _ := q_hi32 (x := lx21); have t1 : lx21.toInt < t1_0.toInt := b47; have _ := q_lo32 (x := t1_0); have _ := q_hi32 (x := t1_0); omega) (by have _ := q_lo32 (x := lx21); have _ := q_hi32 (x := lx21); have t1 : lx21.toInt < t1_0.toInt := b47; have _ := q_lo32 (x := t1_0); have _ := q_hi32 (x := t1_0); omega))
      refine q_put (ci := 10) (j := 5) (v := .int a64) (ty := .int) C0 V i_Dir o_Dir n_Dir rfl rfl hO27 (by decide) w_363 rfl rfl rfl rfl (Nat.le_of_ble_eq_true rfl) d_6_6_54 (fun H locs w67 hu68 hO27 V => ?_)
      replace hO27 : w67[47]? = (some (q 47, .inr (10, [.int t0_0, .int t0_1, .int t0_2, .int t0_3, .int t0_4, .int a64, .ref (q 1), .int t0_6])) : Option (Nat × va_E)) := hO27
      replace hI := n_p47 hI hu68 hO27 ⟨(by have t1 : -1 ≤ t0_2.toInt ∧ t0_2.toInt ≤ 9999 := btt0_2; omega), (by have t1 : -1 ≤ t0_2.toInt ∧ t0_2.toInt ≤ 9999 := btt0_2; omega)⟩ ⟨(by have t1 : -1 ≤ t0_3.toInt ∧ t0_3.toInt ≤ 9999 := btt0_3; omega), (by have t1 : -1 ≤ t0_3.toInt ∧ t0_3.toInt ≤ 9999 := btt0_3; omega)⟩ ⟨(by have t1 : 0 ≤ t0_6.toInt ∧ t0_6.toInt ≤ 1 := btt0_6; omega), (by have t1 : 0 ≤ t0_6.toInt ∧ t0_6.toInt ≤ 1 := btt0_6; omega)⟩
      replace hO28 := (hu68 _ (by decide)).trans hO28
      replace hO29 := (hu68 _ (by decide)).trans hO29
      replace hF := q_us hF hu68 (by simp)
      refine lv_goto (tgt := 2) hx hb d_6_6_57 (by decide) ?_
      exact ih25 ((a61 : Int32), (a64 : Int32)) _ _ _ _ (show (4100 - a64.toInt).toNat < (4100 - lx21.toInt).toNat from by have t1 : a64.toInt = lx21.toInt + 1 := b66; have t2 : 0 ≤ t1_0.toInt ∧ t1_0.toInt ≤ 4100 := btt1_0; have t3 : lx21.toInt < t1_0.toInt := b47; omega) ⟨(show q_F (0 ≤ a61.toInt) from (show 0 ≤ a61.toInt from by have t1 : 0 ≤ lx20.toInt := i22; have t2 : 0 ≤ a37.toInt := b44; have t3 : a48.toInt = lx20.toInt * 10 := b50; have t4 : a58.toInt = a48.toInt + a37.toInt := b60; have t5 : a61.toInt ≤ a58.toInt ∧ a61.toInt ≤ 9999 ∧ (a61.toInt = a58.toInt ∨ a61.toInt = 9999) := b63; omega)), (show q_F (a61.toInt ≤ 9999) from (show a61.toInt ≤ 9999 from by have t1 : a61.toInt ≤ a58.toInt ∧ a61.toInt ≤ 9999 ∧ (a61.toInt = a58.toInt ∨ a61.toInt = 9999) := b63; omega)), (show q_F (t0_5.toInt ≤ a64.toInt) from (show t0_5.toInt ≤ a64.toInt from by have t1 : t0_5.toInt ≤ lx21.toInt := i24; have t2 : a64.toInt = lx21.toInt + 1 := b66; omega)), V, q_lw hl (q_lw1 0 rfl (q_lw1 1 rfl q_lw0)), hI, hF, hO27, hO28, hO29, ⟨fm34, Nat.lt_of_lt_of_le (show (4100 - a64.toInt).toNat < (4100 - lx21.toInt).toNat from by have t1 : a64.toInt = lx21.toInt + 1 := b66; have t2 : 0 ≤ t1_0.toInt ∧ t1_0.toInt ≤ 4100 := btt1_0; have t3 : lx21.toInt < t1_0.toInt := b47; omega) (Nat.le_of_lt_succ hf33), (show F_Dir_takeNumber_L2 t0_0 t0_1 t0_2 t0_3 t0_4 t0_5 t0_6 t1_0 t2_0 fm34 a61 a64 = (F_Dir_takeNumber t0_0 t0_1 t0_2 t0_3 t0_4 t0_5 t0_6 t1_0 t2_0) from Eq.trans (by have c42x := c42; rw [e41] at c42x; rw [← e65, ← e62, ← e59, ← e49, e41, F_Dir_takeNumber_L2.eq_2, if_neg c42x, if_neg c45]) hR30)⟩⟩
def F_Dir_takeIndex_J25 (t0_0 : Int32) (t0_1 : Int32) (t0_2 : Int32) (t0_3 : Int32) (t0_4 : Int32) (t0_5 : Int32) (t0_6 : Int32) (t1_0 : Int32) (t2_0 : (Nat → Int64)) (lx24 : Int32) (lx25 : Int32) (lx26 : Int32) (lx27 : Int32) (lx28 : Int32) (lx29 : Int32) (lx30 : Int32) (lx31 : Int32) : Int32 × Int32 × Int32 × Int32 × Int32 × Int32 × Int32 := if lx24 = (-1 : Int32) then (((-1 : Int32), lx26, lx27, lx28, lx29, t0_5, lx31)) else (if ((F_She_at_p (4100 : Int32) (513 : Int32) (4100 : Int32) (lx30.toInt64 : Int64) t1_0 t2_0) : Int32) = (36 : Int32) then ((lx24, lx26, lx27, lx28, lx29, (lx30 + 1 : Int32), lx31)) else (((-1 : Int32), lx26, lx27, lx28, lx29, t0_5, lx31)))
def F_Dir_takeIndex_c18 (t0_0 : Int32) (t0_1 : Int32) (t0_2 : Int32) (t0_3 : Int32) (t0_4 : Int32) (t0_5 : Int32) (t0_6 : Int32) (t1_0 : Int32) (t2_0 : (Nat → Int64)) (p121 : (Int32 × Int32 × Int32 × Int32 × Int32 × Int32 × Int32 × Int32)) : Int32 × Int32 × Int32 × Int32 × Int32 × Int32 × Int32 := F_Dir_takeIndex_J25 t0_0 t0_1 t0_2 t0_3 t0_4 t0_5 t0_6 t1_0 t2_0 (p121.1 : Int32) (p121.2.1 : Int32) (p121.2.2.1 : Int32) (p121.2.2.2.1 : Int32) (p121.2.2.2.2.1 : Int32) (p121.2.2.2.2.2.1 : Int32) (p121.2.2.2.2.2.2.1 : Int32) (p121.2.2.2.2.2.2.2 : Int32)
def F_Dir_takeIndex (t0_0 : Int32) (t0_1 : Int32) (t0_2 : Int32) (t0_3 : Int32) (t0_4 : Int32) (t0_5 : Int32) (t0_6 : Int32) (t1_0 : Int32) (t2_0 : (Nat → Int64)) : Int32 × Int32 × Int32 × Int32 × Int32 × Int32 × Int32 := if ((F_Dir_figureAt t0_5 t1_0 t2_0) : Int32) ≤ (0 : Int32) then (F_Dir_takeIndex_J25 t0_0 t0_1 t0_2 t0_3 t0_4 t0_5 t0_6 t1_0 t2_0 (-1) t0_0 t0_1 t0_2 t0_3 t0_4 t0_5 t0_6) else (F_Dir_takeIndex_c18 t0_0 t0_1 t0_2 t0_3 t0_4 t0_5 t0_6 t1_0 t2_0 ((F_Dir_takeNumber t0_0 t0_1 t0_2 t0_3 t0_4 t0_5 t0_6 t1_0 t2_0) : (Int32 × Int32 × Int32 × Int32 × Int32 × Int32 × Int32 × Int32)))
set_option maxRecDepth 100000 in
set_option maxHeartbeats 4000000 in
theorem X_Dir_takeIndex (l : Launch) (D : va_G) (g : Nat → ClassId) (q : Nat → Nat) (ws : va_W) (hI : q_I (nsh g q) q ws) (t0_0 : Int32) (t0_1 : Int32) (t0_2 : Int32) (t0_3 : Int32) (t0_4 : Int32) (t0_5 : Int32) (t0_6 : Int32) (hT0 : ws[47]? = (some (q 47, .inr (10, [.int t0_0, .int t0_1, .int t0_2, .int t0_3, .int t0_4, .int t0_5, .ref (q 1), .int t0_6])) : Option (Nat × va_E))) (t1_0 : Int32) (hT1 : ws[1]? = (some (q 1, .inr (1, [.ref (q 2), .int 4100, .int t1_0])) : Option (Nat × va_E))) (t2_0 : (Nat → Int64)) (hT2 : ws[2]? = (some (q 2, .inl (g 1, (513 : Int32).toNatClampNeg, .inr (.inl t2_0))) : Option (Nat × va_E))) : q_mV l y_Dir_takeIndex prog_6_method_4_code 2 4 0 0 D g [.ref (q 47)] ws (fun u => q_I (nsh g q) q u ∧ q_un ws u [47] ∧ ∃ (u0_0 : Int32) (u0_1 : Int32) (u0_2 : Int32) (u0_3 : Int32) (u0_4 : Int32) (u0_5 : Int32) (u0_6 : Int32), u[47]? = (some (q 47, .inr (10, [.int u0_0, .int u0_1, .int u0_2, .int u0_3, .int u0_4, .int u0_5, .ref (q 1), .int u0_6])) : Option (Nat × va_E)) ∧ (0 ≤ u0_0.toInt + 1) ∧ (u0_0.toInt ≤ 9999) ∧ (t0_1.toInt ≤ u0_1.toInt) ∧ (u0_1.toInt ≤ t0_1.toInt) ∧ (t0_2.toInt ≤ u0_2.toInt) ∧ (u0_2.toInt ≤ t0_2.toInt) ∧ (t0_3.toInt ≤ u0_3.toInt) ∧ (u0_3.toInt ≤ t0_3.toInt) ∧ (t0_4.toInt ≤ u0_4.toInt) ∧ (u0_4.toInt ≤ t0_4.toInt) ∧ (t0_6.toInt ≤ u0_6.toInt) ∧ (u0_6.toInt ≤ t0_6.toInt) ∧ (u0_0, u0_1, u0_2, u0_3, u0_4, u0_5, u0_6) = (F_Dir_takeIndex t0_0 t0_1 t0_2 t0_3 t0_4 t0_5 t0_6 t1_0 t2_0)) := by
  intro sz
  refine q_into (by decide) (Nat.le_of_ble_eq_true rfl) ?_
  intro p e s m below meth c ls hsz C0 V hl
  have hx := C0.1
  have hb := C0.2.1
  obtain ⟨yy0_0, yy0_1, yy0_2, yy0_3, yy0_4, yy0_5, yy0_6, hh0, btt0_2, btt0_3, btt0_6⟩ := n_o47 hI
  obtain ⟨rfl, rfl, rfl, rfl, rfl, rfl, rfl⟩ : t0_0 = yy0_0 ∧ t0_1 = yy0_1 ∧ t0_2 = yy0_2 ∧ t0_3 = yy0_3 ∧ t0_4 = yy0_4 ∧ t0_5 = yy0_5 ∧ t0_6 = yy0_6 := by have z := Option.some.inj (hT0.symm.trans hh0); simpa using z
  replace btt0_2 : q_F (-1 ≤ t0_2.toInt ∧ t0_2.toInt ≤ 9999) := btt0_2
  replace btt0_3 : q_F (-1 ≤ t0_3.toInt ∧ t0_3.toInt ≤ 9999) := btt0_3
  replace btt0_6 : q_F (0 ≤ t0_6.toInt ∧ t0_6.toInt ≤ 1) := btt0_6
  obtain ⟨yy1_0, hh1, btt1_0⟩ := n_shO hI (n_h1 g q)
  obtain ⟨rfl⟩ : t1_0 = yy1_0 := by have z := Option.some.inj (hT1.symm.trans hh1); simpa using z
  replace btt1_0 : q_F (0 ≤ t1_0.toInt ∧ t1_0.toInt ≤ 4100) := btt1_0
  have hF : q_un ws ws [47] := q_u0
  have hl : lv_has ls 2 [(0, .ref (q 47))] := hl
  refine lv_aload_n hx hb d_6_4_0 rfl (lv_at hl 0 rfl) ?_
  refine q_get (ci := 10) (j := 5) (v := .int t0_5) C0 V i_Dir rfl rfl hT0 (by decide) w_363 rfl d_6_4_1 ?_
  refine lv_istore_n (lv' := [(1, .int t0_5), (0, .ref (q 47))]) hx hb d_6_4_4 rfl hl (by decide) rfl (fun ls hl => ?_)
  refine lv_aload_n hx hb d_6_4_5 rfl (lv_at hl 1 rfl) ?_
  refine lv_aload_n hx hb d_6_4_6 rfl (lv_at hl 1 rfl) ?_
  refine lv_aload_n hx hb d_6_4_7 rfl (lv_at hl 1 rfl) ?_
  refine q_get (ci := 10) (j := 5) (v := .int t0_5) C0 V i_Dir rfl rfl hT0 (by decide) w_363 rfl d_6_4_8 ?_
  refine q_goi V (q_runV (As := [.int t0_5]) (rest := [.ref (q 47)]) (d := 2) (mc := 0) (ms := 0) (ci := 10) C0 V rfl LV_Dir_32 (X_Dir_figureAt l D g q ws  t0_5 hI t1_0 hT1 t2_0 hT2  _) rfl rfl hT0 rfl hl.1 rfl (Nat.le_of_ble_eq_true rfl) ⟨by decide, by decide⟩ ⟨Nat.le_of_ble_eq_true rfl, Nat.le_of_ble_eq_true rfl⟩ d_6_4_11) (fun a19 u17 H locs hp18 V => ?_)
  obtain ⟨rfl, b20, b21, hE22⟩ := hp18
  have e23 : a19 = (F_Dir_figureAt t0_5 t1_0 t2_0) := hE22
  replace b20 : q_F (0 ≤ a19.toInt + 1) := b20
  replace b21 : q_F (a19.toInt ≤ 9) := b21
  refine q_join (X := Int32 × Int32 × Int32 × Int32 × Int32 × Int32 × Int32 × Int32) (fun z H locs ls w53 => q_F (0 ≤ z.1.toInt + 1) ∧ q_F (z.1.toInt ≤ 9999) ∧ q_F (a19.toInt ≤ z.1.toInt + 9) ∧ q_F (z.1.toInt ≤ a19.toInt + 9998) ∧ q_F (t0_0.toInt ≤ z.2.1.toInt) ∧ q_F (z.2.1.toInt ≤ t0_0.toInt) ∧ q_F (t0_1.toInt ≤ z.2.2.1.toInt) ∧ q_F (z.2.2.1.toInt ≤ t0_1.toInt) ∧ q_F (t0_2.toInt ≤ z.2.2.2.1.toInt) ∧ q_F (z.2.2.2.1.toInt ≤ t0_2.toInt) ∧ q_F (t0_3.toInt ≤ z.2.2.2.2.1.toInt) ∧ q_F (z.2.2.2.2.1.toInt ≤ t0_3.toInt) ∧ q_F (t0_4.toInt ≤ z.2.2.2.2.2.1.toInt) ∧ q_F (z.2.2.2.2.2.1.toInt ≤ t0_4.toInt) ∧ q_F (t0_5.toInt ≤ z.2.2.2.2.2.2.1.toInt) ∧ q_F (t0_6.toInt ≤ z.2.2.2.2.2.2.2.toInt) ∧ q_F (z.2.2.2.2.2.2.2.toInt ≤ t0_6.toInt) ∧ q_Wd D g (va_A ws sz) s w53 H locs ∧ lv_has ls 2 [(1, .int t0_5), (0, .ref (q 47))] ∧ q_I (nsh g q) q w53 ∧ q_un ws w53 [47] ∧ w53[47]? = (some (q 47, .inr (10, [.int z.2.1, .int z.2.2.1, .int z.2.2.2.1, .int z.2.2.2.2.1, .int z.2.2.2.2.2.1, .int z.2.2.2.2.2.2.1, .ref (q 1), .int z.2.2.2.2.2.2.2])) : Option (Nat × va_E)) ∧ w53[1]? = (some (q 1, .inr (1, [.ref (q 2), .int 4100, .int t1_0])) : Option (Nat × va_E)) ∧ w53[2]? = (some (q 2, .inl (g 1, (513 : Int32).toNatClampNeg, .inr (.inl t2_0))) : Option (Nat × va_E)) ∧ F_Dir_takeIndex_J25 t0_0 t0_1 t0_2 t0_3 t0_4 t0_5 t0_6 t1_0 t2_0 z.1 z.2.1 z.2.2.1 z.2.2.2.1 z.2.2.2.2.1 z.2.2.2.2.2.1 z.2.2.2.2.2.2.1 z.2.2.2.2.2.2.2 = (F_Dir_takeIndex t0_0 t0_1 t0_2 t0_3 t0_4 t0_5 t0_6 t1_0 t2_0)) (fun z => [.int z.1, .ref (q 47)]) 25 0 0 ?_ ?_
  ·
    rintro ⟨lx24, lx25, lx26, lx27, lx28, lx29, lx30, lx31⟩ H locs ls w53 ⟨i36, i37, i38, i39, i40, i41, i42, i43, i44, i45, i46, i47, i48, i49, i50, i51, i52, V, hl, hI, hF, hO32, hO33, hA34, hR54⟩
    replace i36 : q_F (0 ≤ lx24.toInt + 1) := i36
    replace i37 : q_F (lx24.toInt ≤ 9999) := i37
    replace i38 : q_F (a19.toInt ≤ lx24.toInt + 9) := i38
    replace i39 : q_F (lx24.toInt ≤ a19.toInt + 9998) := i39
    replace i40 : q_F (t0_0.toInt ≤ lx25.toInt) := i40
    replace i41 : q_F (lx25.toInt ≤ t0_0.toInt) := i41
    replace i42 : q_F (t0_1.toInt ≤ lx26.toInt) := i42
    replace i43 : q_F (lx26.toInt ≤ t0_1.toInt) := i43
    replace i44 : q_F (t0_2.toInt ≤ lx27.toInt) := i44
    replace i45 : q_F (lx27.toInt ≤ t0_2.toInt) := i45
    replace i46 : q_F (t0_3.toInt ≤ lx28.toInt) := i46
    replace i47 : q_F (lx28.toInt ≤ t0_3.toInt) := i47
    replace i48 : q_F (t0_4.toInt ≤ lx29.toInt) := i48
    replace i49 : q_F (lx29.toInt ≤ t0_4.toInt) := i49
    replace i50 : q_F (t0_5.toInt ≤ lx30.toInt) := i50
    replace i51 : q_F (t0_6.toInt ≤ lx31.toInt) := i51
    replace i52 : q_F (lx31.toInt ≤ t0_6.toInt) := i52
    replace hl : lv_has ls 2 [(1, .int t0_5), (0, .ref (q 47))] := hl
    replace hO32 : w53[47]? = (some (q 47, .inr (10, [.int lx25, .int lx26, .int lx27, .int lx28, .int lx29, .int lx30, .ref (q 1), .int lx31])) : Option (Nat × va_E)) := hO32
    replace hO33 : w53[1]? = (some (q 1, .inr (1, [.ref (q 2), .int 4100, .int t1_0])) : Option (Nat × va_E)) := hO33
    replace hA34 : w53[2]? = (some (q 2, .inl (g 1, (513 : Int32).toNatClampNeg, .inr (.inl t2_0))) : Option (Nat × va_E)) := hA34
    refine q_put (ci := 10) (j := 0) (v := .int lx24) (ty := .int) C0 V i_Dir o_Dir n_Dir rfl rfl hO32 (by decide) w_354 rfl rfl rfl rfl (Nat.le_of_ble_eq_true rfl) d_6_4_25 (fun H locs w59 hu60 hO32 V => ?_)
    replace hO32 : w59[47]? = (some (q 47, .inr (10, [.int lx24, .int lx26, .int lx27, .int lx28, .int lx29, .int lx30, .ref (q 1), .int lx31])) : Option (Nat × va_E)) := hO32
    replace hI := n_p47 hI hu60 hO32 ⟨(by have t1 : -1 ≤ t0_2.toInt ∧ t0_2.toInt ≤ 9999 := btt0_2; have t2 : t0_2.toInt ≤ lx27.toInt := i44; omega), (by have t1 : -1 ≤ t0_2.toInt ∧ t0_2.toInt ≤ 9999 := btt0_2; have t2 : lx27.toInt ≤ t0_2.toInt := i45; omega)⟩ ⟨(by have t1 : -1 ≤ t0_3.toInt ∧ t0_3.toInt ≤ 9999 := btt0_3; have t2 : t0_3.toInt ≤ lx28.toInt := i46; omega), (by have t1 : -1 ≤ t0_3.toInt ∧ t0_3.toInt ≤ 9999 := btt0_3; have t2 : lx28.toInt ≤ t0_3.toInt := i47; omega)⟩ ⟨(by have t1 : 0 ≤ t0_6.toInt ∧ t0_6.toInt ≤ 1 := btt0_6; have t2 : t0_6.toInt ≤ lx31.toInt := i51; omega), (by have t1 : 0 ≤ t0_6.toInt ∧ t0_6.toInt ≤ 1 := btt0_6; have t2 : lx31.toInt ≤ t0_6.toInt := i52; omega)⟩
    replace hO33 := (hu60 _ (by decide)).trans hO33
    replace hA34 := (hu60 _ (by decide)).trans hA34
    replace hF := q_us hF hu60 (by simp)
    refine lv_aload_n hx hb d_6_4_28 rfl (lv_at hl 1 rfl) ?_
    refine q_get (ci := 10) (j := 0) (v := .int lx24) C0 V i_Dir rfl rfl hO32 (by decide) w_354 rfl d_6_4_29 ?_
    refine lv_iconst (v := (-1)) hx hb d_6_4_32 (by decide) ?_
    refine lv_icmp_eq (tgt := 66) hx hb d_6_4_33 (by decide) (fun c61 => ?_) (fun c61 => ?_)
    ·
      have b62 : q_F (lx24.toInt = (-1)) := (q_eqI c61)
      refine lv_aload_n hx hb d_6_4_66 rfl (lv_at hl 1 rfl) ?_
      refine lv_iconst (v := (-1)) hx hb d_6_4_67 (by decide) ?_
      refine q_put (ci := 10) (j := 0) (v := .int (-1)) (ty := .int) C0 V i_Dir o_Dir n_Dir rfl rfl hO32 (by decide) w_354 rfl rfl rfl rfl (Nat.le_of_ble_eq_true rfl) d_6_4_68 (fun H locs w63 hu64 hO32 V => ?_)
      replace hO32 : w63[47]? = (some (q 47, .inr (10, [.int (-1), .int lx26, .int lx27, .int lx28, .int lx29, .int lx30, .ref (q 1), .int lx31])) : Option (Nat × va_E)) := hO32
      replace hI := n_p47 hI hu64 hO32 ⟨(by have t1 : -1 ≤ t0_2.toInt ∧ t0_2.toInt ≤ 9999 := btt0_2; have t2 : t0_2.toInt ≤ lx27.toInt := i44; omega), (by have t1 : -1 ≤ t0_2.toInt ∧ t0_2.toInt ≤ 9999 := btt0_2; have t2 : lx27.toInt ≤ t0_2.toInt := i45; omega)⟩ ⟨(by have t1 : -1 ≤ t0_3.toInt ∧ t0_3.toInt ≤ 9999 := btt0_3; have t2 : t0_3.toInt ≤ lx28.toInt := i46; omega), (by have t1 : -1 ≤ t0_3.toInt ∧ t0_3.toInt ≤ 9999 := btt0_3; have t2 : lx28.toInt ≤ t0_3.toInt := i47; omega)⟩ ⟨(by have t1 : 0 ≤ t0_6.toInt ∧ t0_6.toInt ≤ 1 := btt0_6; have t2 : t0_6.toInt ≤ lx31.toInt := i51; omega), (by have t1 : 0 ≤ t0_6.toInt ∧ t0_6.toInt ≤ 1 := btt0_6; have t2 : lx31.toInt ≤ t0_6.toInt := i52; omega)⟩
      replace hO33 := (hu64 _ (by decide)).trans hO33
      replace hA34 := (hu64 _ (by decide)).trans hA34
      replace hF := q_us hF hu64 (by simp)
      refine lv_aload_n hx hb d_6_4_71 rfl (lv_at hl 1 rfl) ?_
      refine lv_iload_n hx hb d_6_4_72 rfl (lv_at hl 0 rfl) ?_
      refine q_put (ci := 10) (j := 5) (v := .int t0_5) (ty := .int) C0 V i_Dir o_Dir n_Dir rfl rfl hO32 (by decide) w_363 rfl rfl rfl rfl (Nat.le_of_ble_eq_true rfl) d_6_4_73 (fun H locs w65 hu66 hO32 V => ?_)
      replace hO32 : w65[47]? = (some (q 47, .inr (10, [.int (-1), .int lx26, .int lx27, .int lx28, .int lx29, .int t0_5, .ref (q 1), .int lx31])) : Option (Nat × va_E)) := hO32
      replace hI := n_p47 hI hu66 hO32 ⟨(by have t1 : -1 ≤ t0_2.toInt ∧ t0_2.toInt ≤ 9999 := btt0_2; have t2 : t0_2.toInt ≤ lx27.toInt := i44; omega), (by have t1 : -1 ≤ t0_2.toInt ∧ t0_2.toInt ≤ 9999 := btt0_2; have t2 : lx27.toInt ≤ t0_2.toInt := i45; omega)⟩ ⟨(by have t1 : -1 ≤ t0_3.toInt ∧ t0_3.toInt ≤ 9999 := btt0_3; have t2 : t0_3.toInt ≤ lx28.toInt := i46; omega), (by have t1 : -1 ≤ t0_3.toInt ∧ t0_3.toInt ≤ 9999 := btt0_3; have t2 : lx28.toInt ≤ t0_3.toInt := i47; omega)⟩ ⟨(by have t1 : 0 ≤ t0_6.toInt ∧ t0_6.toInt ≤ 1 := btt0_6; have t2 : t0_6.toInt ≤ lx31.toInt := i51; omega), (by have t1 : 0 ≤ t0_6.toInt ∧ t0_6.toInt ≤ 1 := btt0_6; have t2 : lx31.toInt ≤ t0_6.toInt := i52; omega)⟩
      replace hO33 := (hu66 _ (by decide)).trans hO33
      replace hA34 := (hu66 _ (by decide)).trans hA34
      replace hF := q_us hF hu66 (by simp)
      exact q_retv C0 V (⟨hI, hF, (-1), lx26, lx27, lx28, lx29, t0_5, lx31, hO32, (show 0 ≤ (-1 : Int32).toInt + 1 from (by have z9 : (-1 : Int32).toInt = -1 := rfl; omega)), (show (-1 : Int32).toInt ≤ 9999 from (by have z9 : (-1 : Int32).toInt = -1 := rfl; omega)), (show t0_1.toInt ≤ lx26.toInt from (by have z9 : (-1 : Int32).toInt = -1 := rfl; have t1 : t0_1.toInt ≤ lx26.toInt := i42; omega)), (show lx26.toInt ≤ t0_1.toInt from (by have z9 : (-1 : Int32).toInt = -1 := rfl; have t1 : lx26.toInt ≤ t0_1.toInt := i43; omega)), (show t0_2.toInt ≤ lx27.toInt from (by have z9 : (-1 : Int32).toInt = -1 := rfl; have t1 : t0_2.toInt ≤ lx27.toInt := i44; omega)), (show lx27.toInt ≤ t0_2.toInt from (by have z9 : (-1 : Int32).toInt = -1 := rfl; have t1 : lx27.toInt ≤ t0_2.toInt := i45; omega)), (show t0_3.toInt ≤ lx28.toInt from (by have z9 : (-1 : Int32).toInt = -1 := rfl; have t1 : t0_3.toInt ≤ lx28.toInt := i46; omega)), (show lx28.toInt ≤ t0_3.toInt from (by have z9 : (-1 : Int32).toInt = -1 := rfl; have t1 : lx28.toInt ≤ t0_3.toInt := i47; omega)), (show t0_4.toInt ≤ lx29.toInt from (by have z9 : (-1 : Int32).toInt = -1 := rfl; have t1 : t0_4.toInt ≤ lx29.toInt := i48; omega)), (show lx29.toInt ≤ t0_4.toInt from (by have z9 : (-1 : Int32).toInt = -1 := rfl; have t1 : lx29.toInt ≤ t0_4.toInt := i49; omega)), (show t0_6.toInt ≤ lx31.toInt from (by have z9 : (-1 : Int32).toInt = -1 := rfl; have t1 : t0_6.toInt ≤ lx31.toInt := i51; omega)), (show lx31.toInt ≤ t0_6.toInt from (by have z9 : (-1 : Int32).toInt = -1 := rfl; have t1 : lx31.toInt ≤ t0_6.toInt := i52; omega)), (show ((-1 : Int32), lx26, lx27, lx28, lx29, t0_5, lx31) = (F_Dir_takeIndex t0_0 t0_1 t0_2 t0_3 t0_4 t0_5 t0_6 t1_0 t2_0) from Eq.trans (by rw [F_Dir_takeIndex_J25.eq_1, if_pos c61]) hR54)⟩) d_6_4_76
    ·
      have b67 : q_F (lx24.toInt ≠ (-1)) := (q_neI c61)
      refine lv_aload_n hx hb d_6_4_36 rfl (lv_at hl 1 rfl) ?_
      refine q_get (ci := 10) (j := 6) (v := .ref (q 1)) C0 V i_Dir rfl rfl hO32 (by decide) w_365 rfl d_6_4_37 ?_
      refine lv_aload_n hx hb d_6_4_40 rfl (lv_at hl 1 rfl) ?_
      refine q_get (ci := 10) (j := 5) (v := .int lx30) C0 V i_Dir rfl rfl hO32 (by decide) w_363 rfl d_6_4_41 ?_
      refine lv_i2l hx hb d_6_4_44 rfl ?_
      obtain ⟨j68, e69⟩ := q_nm (lx30.toInt64 : Int64)
      refine q_tl (v := j68) e69 ?_
      have b70 : q_F (j68.toInt = lx30.toInt) := (by rw [← e69]; show (lx30.toInt64 : Int64).toInt = lx30.toInt; exact q_i2l rfl)
      refine q_goi V (q_runV (As := [.long j68]) (rest := []) (d := 1) (mc := 0) (ms := 0) (ci := 1) C0 V rfl LV_Dir_46 (X_She_at_p l D g q w59 1 4100 513 4100 (n_h1 g q) j68 hI t1_0 hO33 t2_0 hA34  _) rfl rfl hO33 rfl hl.1 rfl (Nat.le_of_ble_eq_true rfl) ⟨by decide, by decide⟩ ⟨Nat.le_of_ble_eq_true rfl, Nat.le_of_ble_eq_true rfl⟩ d_6_4_45) (fun a73 u71 H locs hp72 V => ?_)
      obtain ⟨rfl, b74, b75, b76, hE77⟩ := hp72
      have e78 : a73 = (F_She_at_p (4100 : Int32) (513 : Int32) (4100 : Int32) j68 t1_0 t2_0) := hE77
      replace b74 : q_F (0 ≤ a73.toInt) := b74
      replace b75 : q_F (a73.toInt ≤ 255) := b75
      replace b76 : q_F (a73.toInt ≤ t1_0.toInt + 254) := b76
      refine lv_bipush (v := 36) hx hb d_6_4_48 (by decide) ?_
      refine lv_icmp_ne (tgt := 66) hx hb d_6_4_50 (by decide) (fun c79 => ?_) (fun c79 => ?_)
      ·
        have b80 : q_F (a73.toInt ≠ 36) := (q_neI c79)
        refine lv_aload_n hx hb d_6_4_66 rfl (lv_at hl 1 rfl) ?_
        refine lv_iconst (v := (-1)) hx hb d_6_4_67 (by decide) ?_
        refine q_put (ci := 10) (j := 0) (v := .int (-1)) (ty := .int) C0 V i_Dir o_Dir n_Dir rfl rfl hO32 (by decide) w_354 rfl rfl rfl rfl (Nat.le_of_ble_eq_true rfl) d_6_4_68 (fun H locs w81 hu82 hO32 V => ?_)
        replace hO32 : w81[47]? = (some (q 47, .inr (10, [.int (-1), .int lx26, .int lx27, .int lx28, .int lx29, .int lx30, .ref (q 1), .int lx31])) : Option (Nat × va_E)) := hO32
        replace hI := n_p47 hI hu82 hO32 ⟨(by have t1 : -1 ≤ t0_2.toInt ∧ t0_2.toInt ≤ 9999 := btt0_2; have t2 : t0_2.toInt ≤ lx27.toInt := i44; omega), (by have t1 : -1 ≤ t0_2.toInt ∧ t0_2.toInt ≤ 9999 := btt0_2; have t2 : lx27.toInt ≤ t0_2.toInt := i45; omega)⟩ ⟨(by have t1 : -1 ≤ t0_3.toInt ∧ t0_3.toInt ≤ 9999 := btt0_3; have t2 : t0_3.toInt ≤ lx28.toInt := i46; omega), (by have t1 : -1 ≤ t0_3.toInt ∧ t0_3.toInt ≤ 9999 := btt0_3; have t2 : lx28.toInt ≤ t0_3.toInt := i47; omega)⟩ ⟨(by have t1 : 0 ≤ t0_6.toInt ∧ t0_6.toInt ≤ 1 := btt0_6; have t2 : t0_6.toInt ≤ lx31.toInt := i51; omega), (by have t1 : 0 ≤ t0_6.toInt ∧ t0_6.toInt ≤ 1 := btt0_6; have t2 : lx31.toInt ≤ t0_6.toInt := i52; omega)⟩
        replace hO33 := (hu82 _ (by decide)).trans hO33
        replace hA34 := (hu82 _ (by decide)).trans hA34
        replace hF := q_us hF hu82 (by simp)
        refine lv_aload_n hx hb d_6_4_71 rfl (lv_at hl 1 rfl) ?_
        refine lv_iload_n hx hb d_6_4_72 rfl (lv_at hl 0 rfl) ?_
        refine q_put (ci := 10) (j := 5) (v := .int t0_5) (ty := .int) C0 V i_Dir o_Dir n_Dir rfl rfl hO32 (by decide) w_363 rfl rfl rfl rfl (Nat.le_of_ble_eq_true rfl) d_6_4_73 (fun H locs w83 hu84 hO32 V => ?_)
        replace hO32 : w83[47]? = (some (q 47, .inr (10, [.int (-1), .int lx26, .int lx27, .int lx28, .int lx29, .int t0_5, .ref (q 1), .int lx31])) : Option (Nat × va_E)) := hO32
        replace hI := n_p47 hI hu84 hO32 ⟨(by have t1 : -1 ≤ t0_2.toInt ∧ t0_2.toInt ≤ 9999 := btt0_2; have t2 : t0_2.toInt ≤ lx27.toInt := i44; omega), (by have t1 : -1 ≤ t0_2.toInt ∧ t0_2.toInt ≤ 9999 := btt0_2; have t2 : lx27.toInt ≤ t0_2.toInt := i45; omega)⟩ ⟨(by have t1 : -1 ≤ t0_3.toInt ∧ t0_3.toInt ≤ 9999 := btt0_3; have t2 : t0_3.toInt ≤ lx28.toInt := i46; omega), (by have t1 : -1 ≤ t0_3.toInt ∧ t0_3.toInt ≤ 9999 := btt0_3; have t2 : lx28.toInt ≤ t0_3.toInt := i47; omega)⟩ ⟨(by have t1 : 0 ≤ t0_6.toInt ∧ t0_6.toInt ≤ 1 := btt0_6; have t2 : t0_6.toInt ≤ lx31.toInt := i51; omega), (by have t1 : 0 ≤ t0_6.toInt ∧ t0_6.toInt ≤ 1 := btt0_6; have t2 : lx31.toInt ≤ t0_6.toInt := i52; omega)⟩
        replace hO33 := (hu84 _ (by decide)).trans hO33
        replace hA34 := (hu84 _ (by decide)).trans hA34
        replace hF := q_us hF hu84 (by simp)
        exact q_retv C0 V (⟨hI, hF, (-1), lx26, lx27, lx28, lx29, t0_5, lx31, hO32, (show 0 ≤ (-1 : Int32).toInt + 1 from (by have z9 : (-1 : Int32).toInt = -1 := rfl; omega)), (show (-1 : Int32).toInt ≤ 9999 from (by have z9 : (-1 : Int32).toInt = -1 := rfl; omega)), (show t0_1.toInt ≤ lx26.toInt from (by have z9 : (-1 : Int32).toInt = -1 := rfl; have t1 : t0_1.toInt ≤ lx26.toInt := i42; omega)), (show lx26.toInt ≤ t0_1.toInt from (by have z9 : (-1 : Int32).toInt = -1 := rfl; have t1 : lx26.toInt ≤ t0_1.toInt := i43; omega)), (show t0_2.toInt ≤ lx27.toInt from (by have z9 : (-1 : Int32).toInt = -1 := rfl; have t1 : t0_2.toInt ≤ lx27.toInt := i44; omega)), (show lx27.toInt ≤ t0_2.toInt from (by have z9 : (-1 : Int32).toInt = -1 := rfl; have t1 : lx27.toInt ≤ t0_2.toInt := i45; omega)), (show t0_3.toInt ≤ lx28.toInt from (by have z9 : (-1 : Int32).toInt = -1 := rfl; have t1 : t0_3.toInt ≤ lx28.toInt := i46; omega)), (show lx28.toInt ≤ t0_3.toInt from (by have z9 : (-1 : Int32).toInt = -1 := rfl; have t1 : lx28.toInt ≤ t0_3.toInt := i47; omega)), (show t0_4.toInt ≤ lx29.toInt from (by have z9 : (-1 : Int32).toInt = -1 := rfl; have t1 : t0_4.toInt ≤ lx29.toInt := i48; omega)), (show lx29.toInt ≤ t0_4.toInt from (by have z9 : (-1 : Int32).toInt = -1 := rfl; have t1 : lx29.toInt ≤ t0_4.toInt := i49; omega)), (show t0_6.toInt ≤ lx31.toInt from (by have z9 : (-1 : Int32).toInt = -1 := rfl; have t1 : t0_6.toInt ≤ lx31.toInt := i51; omega)), (show lx31.toInt ≤ t0_6.toInt from (by have z9 : (-1 : Int32).toInt = -1 := rfl; have t1 : lx31.toInt ≤ t0_6.toInt := i52; omega)), (show ((-1 : Int32), lx26, lx27, lx28, lx29, t0_5, lx31) = (F_Dir_takeIndex t0_0 t0_1 t0_2 t0_3 t0_4 t0_5 t0_6 t1_0 t2_0) from Eq.trans (by have c79x := c79; rw [e78, ← e69] at c79x; rw [F_Dir_takeIndex_J25.eq_1, if_neg c61, if_neg c79x]) hR54)⟩) d_6_4_76
      ·
        have b85 : q_F (a73.toInt = 36) := (q_eqI c79)
        refine lv_aload_n hx hb d_6_4_53 rfl (lv_at hl 1 rfl) ?_
        refine lv_dup hx hb d_6_4_54 rfl ?_
        refine q_get (ci := 10) (j := 5) (v := .int lx30) C0 V i_Dir rfl rfl hO32 (by decide) w_363 rfl d_6_4_55 ?_
        refine lv_iconst (v := 1) hx hb d_6_4_58 (by decide) ?_
        refine lv_iadd hx hb d_6_4_59 ?_
        obtain ⟨a86, e87⟩ := q_nm (lx30 + 1 : Int32)
        refine q_ti (v := a86) e87 ?_
        refine q_put (ci := 10) (j := 5) (v := .int a86) (ty := .int) C0 V i_Dir o_Dir n_Dir rfl rfl hO32 (by decide) w_363 rfl rfl rfl rfl (Nat.le_of_ble_eq_true rfl) d_6_4_60 (fun H locs w88 hu89 hO32 V => ?_)
        replace hO32 : w88[47]? = (some (q 47, .inr (10, [.int lx24, .int lx26, .int lx27, .int lx28, .int lx29, .int a86, .ref (q 1), .int lx31])) : Option (Nat × va_E)) := hO32
        replace hI := n_p47 hI hu89 hO32 ⟨(by have t1 : -1 ≤ t0_2.toInt ∧ t0_2.toInt ≤ 9999 := btt0_2; have t2 : t0_2.toInt ≤ lx27.toInt := i44; omega), (by have t1 : -1 ≤ t0_2.toInt ∧ t0_2.toInt ≤ 9999 := btt0_2; have t2 : lx27.toInt ≤ t0_2.toInt := i45; omega)⟩ ⟨(by have t1 : -1 ≤ t0_3.toInt ∧ t0_3.toInt ≤ 9999 := btt0_3; have t2 : t0_3.toInt ≤ lx28.toInt := i46; omega), (by have t1 : -1 ≤ t0_3.toInt ∧ t0_3.toInt ≤ 9999 := btt0_3; have t2 : lx28.toInt ≤ t0_3.toInt := i47; omega)⟩ ⟨(by have t1 : 0 ≤ t0_6.toInt ∧ t0_6.toInt ≤ 1 := btt0_6; have t2 : t0_6.toInt ≤ lx31.toInt := i51; omega), (by have t1 : 0 ≤ t0_6.toInt ∧ t0_6.toInt ≤ 1 := btt0_6; have t2 : lx31.toInt ≤ t0_6.toInt := i52; omega)⟩
        replace hO33 := (hu89 _ (by decide)).trans hO33
        replace hA34 := (hu89 _ (by decide)).trans hA34
        replace hF := q_us hF hu89 (by simp)
        refine lv_goto (tgt := 76) hx hb d_6_4_63 (by decide) ?_
        exact q_retv C0 V (⟨hI, hF, lx24, lx26, lx27, lx28, lx29, a86, lx31, hO32, (show 0 ≤ lx24.toInt + 1 from (by have t1 : 0 ≤ lx24.toInt + 1 := i36; omega)), (show lx24.toInt ≤ 9999 from (by have t1 : lx24.toInt ≤ 9999 := i37; omega)), (show t0_1.toInt ≤ lx26.toInt from (by have t1 : t0_1.toInt ≤ lx26.toInt := i42; omega)), (show lx26.toInt ≤ t0_1.toInt from (by have t1 : lx26.toInt ≤ t0_1.toInt := i43; omega)), (show t0_2.toInt ≤ lx27.toInt from (by have t1 : t0_2.toInt ≤ lx27.toInt := i44; omega)), (show lx27.toInt ≤ t0_2.toInt from (by have t1 : lx27.toInt ≤ t0_2.toInt := i45; omega)), (show t0_3.toInt ≤ lx28.toInt from (by have t1 : t0_3.toInt ≤ lx28.toInt := i46; omega)), (show lx28.toInt ≤ t0_3.toInt from (by have t1 : lx28.toInt ≤ t0_3.toInt := i47; omega)), (show t0_4.toInt ≤ lx29.toInt from (by have t1 : t0_4.toInt ≤ lx29.toInt := i48; omega)), (show lx29.toInt ≤ t0_4.toInt from (by have t1 : lx29.toInt ≤ t0_4.toInt := i49; omega)), (show t0_6.toInt ≤ lx31.toInt from (by have t1 : t0_6.toInt ≤ lx31.toInt := i51; omega)), (show lx31.toInt ≤ t0_6.toInt from (by have t1 : lx31.toInt ≤ t0_6.toInt := i52; omega)), (show (lx24, lx26, lx27, lx28, lx29, a86, lx31) = (F_Dir_takeIndex t0_0 t0_1 t0_2 t0_3 t0_4 t0_5 t0_6 t1_0 t2_0) from Eq.trans (by have c79x := c79; rw [e78, ← e69] at c79x; rw [← e87, F_Dir_takeIndex_J25.eq_1, if_neg c61, if_pos c79x]) hR54)⟩) d_6_4_76
  ·
    intro J35
    refine lv_if_le (tgt := 24) hx hb d_6_4_14 (by decide) (fun c90 => ?_) (fun c90 => ?_)
    ·
      have b91 : q_F (a19.toInt ≤ 0) := (q_leI c90)
      refine lv_iconst (v := (-1)) hx hb d_6_4_24 (by decide) ?_
      exact J35 (((-1) : Int32), (t0_0 : Int32), (t0_1 : Int32), (t0_2 : Int32), (t0_3 : Int32), (t0_4 : Int32), (t0_5 : Int32), (t0_6 : Int32)) _ _ _ _ ⟨(show q_F (0 ≤ (-1) + 1) from (show 0 ≤ (-1) + 1 from by omega)), (show q_F ((-1) ≤ 9999) from (show (-1) ≤ 9999 from by omega)), (show q_F (a19.toInt ≤ (-1) + 9) from (show a19.toInt ≤ (-1) + 9 from by have t1 : a19.toInt ≤ 0 := b91; omega)), (show q_F ((-1) ≤ a19.toInt + 9998) from (show (-1) ≤ a19.toInt + 9998 from by have t1 : 0 ≤ a19.toInt + 1 := b20; omega)), (show q_F (t0_0.toInt ≤ t0_0.toInt) from (show t0_0.toInt ≤ t0_0.toInt from by omega)), (show q_F (t0_0.toInt ≤ t0_0.toInt) from (show t0_0.toInt ≤ t0_0.toInt from by omega)), (show q_F (t0_1.toInt ≤ t0_1.toInt) from (show t0_1.toInt ≤ t0_1.toInt from by omega)), (show q_F (t0_1.toInt ≤ t0_1.toInt) from (show t0_1.toInt ≤ t0_1.toInt from by omega)), (show q_F (t0_2.toInt ≤ t0_2.toInt) from (show t0_2.toInt ≤ t0_2.toInt from by omega)), (show q_F (t0_2.toInt ≤ t0_2.toInt) from (show t0_2.toInt ≤ t0_2.toInt from by omega)), (show q_F (t0_3.toInt ≤ t0_3.toInt) from (show t0_3.toInt ≤ t0_3.toInt from by omega)), (show q_F (t0_3.toInt ≤ t0_3.toInt) from (show t0_3.toInt ≤ t0_3.toInt from by omega)), (show q_F (t0_4.toInt ≤ t0_4.toInt) from (show t0_4.toInt ≤ t0_4.toInt from by omega)), (show q_F (t0_4.toInt ≤ t0_4.toInt) from (show t0_4.toInt ≤ t0_4.toInt from by omega)), (show q_F (t0_5.toInt ≤ t0_5.toInt) from (show t0_5.toInt ≤ t0_5.toInt from by omega)), (show q_F (t0_6.toInt ≤ t0_6.toInt) from (show t0_6.toInt ≤ t0_6.toInt from by omega)), (show q_F (t0_6.toInt ≤ t0_6.toInt) from (show t0_6.toInt ≤ t0_6.toInt from by omega)), V, q_lw hl (q_lw1 0 rfl (q_lw1 1 rfl q_lw0)), hI, hF, hT0, hT1, hT2, (show F_Dir_takeIndex_J25 t0_0 t0_1 t0_2 t0_3 t0_4 t0_5 t0_6 t1_0 t2_0 (-1) t0_0 t0_1 t0_2 t0_3 t0_4 t0_5 t0_6 = (F_Dir_takeIndex t0_0 t0_1 t0_2 t0_3 t0_4 t0_5 t0_6 t1_0 t2_0) from (by have c90x := c90; rw [e23] at c90x; rw [F_Dir_takeIndex.eq_1, if_pos c90x]))⟩
    ·
      have b92 : q_F (0 < a19.toInt) := (q_nleI c90)
      refine lv_aload_n hx hb d_6_4_17 rfl (lv_at hl 1 rfl) ?_
      refine q_goi V (q_runV (As := []) (rest := [.ref (q 47)]) (d := 3) (mc := 0) (ms := 0) (ci := 10) C0 V rfl LV_Dir_36 (X_Dir_takeNumber l D g q ws   hI t0_0 t0_1 t0_2 t0_3 t0_4 t0_5 t0_6 hT0 t1_0 hT1 t2_0 hT2  _) rfl rfl hT0 rfl hl.1 rfl (Nat.le_of_ble_eq_true rfl) ⟨by decide, by decide⟩ ⟨Nat.le_of_ble_eq_true rfl, Nat.le_of_ble_eq_true rfl⟩ d_6_4_18) (fun a95 u93 H locs hp94 V => ?_)
      obtain ⟨hI, hu120, y97, y98, y99, y100, y101, y102, y103, hO96, b104, b105, b106, b107, b108, b109, b110, b111, b112, b113, b114, b115, b116, b117, b118, hE119⟩ := hp94
      replace hO96 : u93[47]? = (some (q 47, .inr (10, [.int y97, .int y98, .int y99, .int y100, .int y101, .int y102, .ref (q 1), .int y103])) : Option (Nat × va_E)) := hO96
      obtain ⟨p121, e122⟩ : ∃ z, z = (F_Dir_takeNumber t0_0 t0_1 t0_2 t0_3 t0_4 t0_5 t0_6 t1_0 t2_0) := ⟨_, rfl⟩
      have e123 : a95 = p121.1 := congrArg (fun z => z.1) (hE119.trans e122.symm)
      have e124 : y97 = p121.2.1 := congrArg (fun z => z.2.1) (hE119.trans e122.symm)
      have e125 : y98 = p121.2.2.1 := congrArg (fun z => z.2.2.1) (hE119.trans e122.symm)
      have e126 : y99 = p121.2.2.2.1 := congrArg (fun z => z.2.2.2.1) (hE119.trans e122.symm)
      have e127 : y100 = p121.2.2.2.2.1 := congrArg (fun z => z.2.2.2.2.1) (hE119.trans e122.symm)
      have e128 : y101 = p121.2.2.2.2.2.1 := congrArg (fun z => z.2.2.2.2.2.1) (hE119.trans e122.symm)
      have e129 : y102 = p121.2.2.2.2.2.2.1 := congrArg (fun z => z.2.2.2.2.2.2.1) (hE119.trans e122.symm)
      have e130 : y103 = p121.2.2.2.2.2.2.2 := congrArg (fun z => z.2.2.2.2.2.2.2) (hE119.trans e122.symm)
      replace b104 : q_F (0 ≤ a95.toInt) := b104
      replace b105 : q_F (a95.toInt ≤ 9999) := b105
      replace b106 : q_F (t0_0.toInt ≤ y97.toInt) := b106
      replace b107 : q_F (y97.toInt ≤ t0_0.toInt) := b107
      replace b108 : q_F (t0_1.toInt ≤ y98.toInt) := b108
      replace b109 : q_F (y98.toInt ≤ t0_1.toInt) := b109
      replace b110 : q_F (t0_2.toInt ≤ y99.toInt) := b110
      replace b111 : q_F (y99.toInt ≤ t0_2.toInt) := b111
      replace b112 : q_F (t0_3.toInt ≤ y100.toInt) := b112
      replace b113 : q_F (y100.toInt ≤ t0_3.toInt) := b113
      replace b114 : q_F (t0_4.toInt ≤ y101.toInt) := b114
      replace b115 : q_F (y101.toInt ≤ t0_4.toInt) := b115
      replace b116 : q_F (t0_5.toInt ≤ y102.toInt) := b116
      replace b117 : q_F (t0_6.toInt ≤ y103.toInt) := b117
      replace b118 : q_F (y103.toInt ≤ t0_6.toInt) := b118
      replace hT1 := (hu120 _ (by decide)).trans hT1
      replace hT2 := (hu120 _ (by decide)).trans hT2
      replace hF := q_uc hF hu120 (by simp)
      have hR131 := (show F_Dir_takeIndex_c18 t0_0 t0_1 t0_2 t0_3 t0_4 t0_5 t0_6 t1_0 t2_0 p121 = (F_Dir_takeIndex t0_0 t0_1 t0_2 t0_3 t0_4 t0_5 t0_6 t1_0 t2_0) from (by have c90x := c90; rw [e23] at c90x; rw [e122, F_Dir_takeIndex.eq_1, if_neg c90x]))
      refine lv_goto (tgt := 25) hx hb d_6_4_21 (by decide) ?_
      exact J35 ((a95 : Int32), (y97 : Int32), (y98 : Int32), (y99 : Int32), (y100 : Int32), (y101 : Int32), (y102 : Int32), (y103 : Int32)) _ _ _ _ ⟨(show q_F (0 ≤ a95.toInt + 1) from (show 0 ≤ a95.toInt + 1 from by have t1 : 0 ≤ a95.toInt := b104; omega)), (show q_F (a95.toInt ≤ 9999) from (show a95.toInt ≤ 9999 from by have t1 : a95.toInt ≤ 9999 := b105; omega)), (show q_F (a19.toInt ≤ a95.toInt + 9) from (show a19.toInt ≤ a95.toInt + 9 from by have t1 : a19.toInt ≤ 9 := b21; have t2 : 0 ≤ a95.toInt := b104; omega)), (show q_F (a95.toInt ≤ a19.toInt + 9998) from (show a95.toInt ≤ a19.toInt + 9998 from by have t1 : 0 < a19.toInt := b92; have t2 : a95.toInt ≤ 9999 := b105; omega)), (show q_F (t0_0.toInt ≤ y97.toInt) from (show t0_0.toInt ≤ y97.toInt from by have t1 : t0_0.toInt ≤ y97.toInt := b106; omega)), (show q_F (y97.toInt ≤ t0_0.toInt) from (show y97.toInt ≤ t0_0.toInt from by have t1 : y97.toInt ≤ t0_0.toInt := b107; omega)), (show q_F (t0_1.toInt ≤ y98.toInt) from (show t0_1.toInt ≤ y98.toInt from by have t1 : t0_1.toInt ≤ y98.toInt := b108; omega)), (show q_F (y98.toInt ≤ t0_1.toInt) from (show y98.toInt ≤ t0_1.toInt from by have t1 : y98.toInt ≤ t0_1.toInt := b109; omega)), (show q_F (t0_2.toInt ≤ y99.toInt) from (show t0_2.toInt ≤ y99.toInt from by have t1 : t0_2.toInt ≤ y99.toInt := b110; omega)), (show q_F (y99.toInt ≤ t0_2.toInt) from (show y99.toInt ≤ t0_2.toInt from by have t1 : y99.toInt ≤ t0_2.toInt := b111; omega)), (show q_F (t0_3.toInt ≤ y100.toInt) from (show t0_3.toInt ≤ y100.toInt from by have t1 : t0_3.toInt ≤ y100.toInt := b112; omega)), (show q_F (y100.toInt ≤ t0_3.toInt) from (show y100.toInt ≤ t0_3.toInt from by have t1 : y100.toInt ≤ t0_3.toInt := b113; omega)), (show q_F (t0_4.toInt ≤ y101.toInt) from (show t0_4.toInt ≤ y101.toInt from by have t1 : t0_4.toInt ≤ y101.toInt := b114; omega)), (show q_F (y101.toInt ≤ t0_4.toInt) from (show y101.toInt ≤ t0_4.toInt from by have t1 : y101.toInt ≤ t0_4.toInt := b115; omega)), (show q_F (t0_5.toInt ≤ y102.toInt) from (show t0_5.toInt ≤ y102.toInt from by have t1 : t0_5.toInt ≤ y102.toInt := b116; omega)), (show q_F (t0_6.toInt ≤ y103.toInt) from (show t0_6.toInt ≤ y103.toInt from by have t1 : t0_6.toInt ≤ y103.toInt := b117; omega)), (show q_F (y103.toInt ≤ t0_6.toInt) from (show y103.toInt ≤ t0_6.toInt from by have t1 : y103.toInt ≤ t0_6.toInt := b118; omega)), V, q_lw hl (q_lw1 0 rfl (q_lw1 1 rfl q_lw0)), hI, hF, hO96, hT1, hT2, (show F_Dir_takeIndex_J25 t0_0 t0_1 t0_2 t0_3 t0_4 t0_5 t0_6 t1_0 t2_0 a95 y97 y98 y99 y100 y101 y102 y103 = (F_Dir_takeIndex t0_0 t0_1 t0_2 t0_3 t0_4 t0_5 t0_6 t1_0 t2_0) from Eq.trans (by rw [e130, e129, e128, e127, e126, e125, e124, e123, F_Dir_takeIndex_c18.eq_1]) hR131)⟩
def F_Dir_takeFlags_L0 (t0_0 : Int32) (t0_1 : Int32) (t0_2 : Int32) (t0_3 : Int32) (t0_4 : Int32) (t0_5 : Int32) (t0_6 : Int32) (t1_0 : Int32) (t2_0 : (Nat → Int64)) : Nat → Int32 → Int32 → Int32 → (Int32 × Int32 × Int32 × Int32 × Int32 × Int32 × Int32)
  | 0, _, _, _ => default
  | fm + 1, lx17, lx18, lx19 => if t1_0 ≤ lx18 then ((t0_0, lx17, t0_2, t0_3, t0_4, lx18, lx19)) else (if (0 : Int32) ≤ ((F_jStr_indexOf_II_0 ((((F_She_at_p (4100 : Int32) (513 : Int32) (4100 : Int32) (lx18.toInt64 : Int64) t1_0 t2_0) : Int32).toUInt32 % 65536).toInt32 : Int32)) : Int32) then (F_Dir_takeFlags_L0 t0_0 t0_1 t0_2 t0_3 t0_4 t0_5 t0_6 t1_0 t2_0 fm (lx17 ||| ((1 : Int32) <<< (((F_jStr_indexOf_II_0 ((((F_She_at_p (4100 : Int32) (513 : Int32) (4100 : Int32) (lx18.toInt64 : Int64) t1_0 t2_0) : Int32).toUInt32 % 65536).toInt32 : Int32)) : Int32) &&& 31) : Int32) : Int32) (lx18 + 1 : Int32) (lx19 ||| ((F_Dir_has ((1 : Int32) <<< (((F_jStr_indexOf_II_0 ((((F_She_at_p (4100 : Int32) (513 : Int32) (4100 : Int32) (lx18.toInt64 : Int64) t1_0 t2_0) : Int32).toUInt32 % 65536).toInt32 : Int32)) : Int32) &&& 31) : Int32) t0_0 lx17 t0_2 t0_3 t0_4 lx18 lx19) : Int32) : Int32)) else ((t0_0, lx17, t0_2, t0_3, t0_4, lx18, lx19)))
def F_Dir_takeFlags (t0_0 : Int32) (t0_1 : Int32) (t0_2 : Int32) (t0_3 : Int32) (t0_4 : Int32) (t0_5 : Int32) (t0_6 : Int32) (t1_0 : Int32) (t2_0 : (Nat → Int64)) : Int32 × Int32 × Int32 × Int32 × Int32 × Int32 × Int32 := F_Dir_takeFlags_L0 t0_0 t0_1 t0_2 t0_3 t0_4 t0_5 t0_6 t1_0 t2_0 ((4100 - t0_5.toInt).toNat + 1) t0_1 t0_5 t0_6
set_option maxRecDepth 100000 in
set_option maxHeartbeats 4000000 in
theorem X_Dir_takeFlags (l : Launch) (D : va_G) (g : Nat → ClassId) (q : Nat → Nat) (ws : va_W) (hI : q_I (nsh g q) q ws) (t0_0 : Int32) (t0_1 : Int32) (t0_2 : Int32) (t0_3 : Int32) (t0_4 : Int32) (t0_5 : Int32) (t0_6 : Int32) (hT0 : ws[47]? = (some (q 47, .inr (10, [.int t0_0, .int t0_1, .int t0_2, .int t0_3, .int t0_4, .int t0_5, .ref (q 1), .int t0_6])) : Option (Nat × va_E))) (t1_0 : Int32) (hT1 : ws[1]? = (some (q 1, .inr (1, [.ref (q 2), .int 4100, .int t1_0])) : Option (Nat × va_E))) (t2_0 : (Nat → Int64)) (hT2 : ws[2]? = (some (q 2, .inl (g 1, (513 : Int32).toNatClampNeg, .inr (.inl t2_0))) : Option (Nat × va_E))) : q_mV l y_Dir_takeFlags prog_6_method_5_code 2 5 0 0 D g [.ref (q 47)] ws (fun u => q_I (nsh g q) q u ∧ q_un ws u [47] ∧ ∃ (u0_0 : Int32) (u0_1 : Int32) (u0_2 : Int32) (u0_3 : Int32) (u0_4 : Int32) (u0_5 : Int32) (u0_6 : Int32), u[47]? = (some (q 47, .inr (10, [.int u0_0, .int u0_1, .int u0_2, .int u0_3, .int u0_4, .int u0_5, .ref (q 1), .int u0_6])) : Option (Nat × va_E)) ∧ (0 ≤ u0_6.toInt) ∧ (u0_6.toInt ≤ 1) ∧ (t0_0.toInt ≤ u0_0.toInt) ∧ (u0_0.toInt ≤ t0_0.toInt) ∧ (t0_2.toInt ≤ u0_2.toInt) ∧ (u0_2.toInt ≤ t0_2.toInt) ∧ (t0_3.toInt ≤ u0_3.toInt) ∧ (u0_3.toInt ≤ t0_3.toInt) ∧ (t0_4.toInt ≤ u0_4.toInt) ∧ (u0_4.toInt ≤ t0_4.toInt) ∧ (t0_5.toInt ≤ u0_5.toInt) ∧ (u0_0, u0_1, u0_2, u0_3, u0_4, u0_5, u0_6) = (F_Dir_takeFlags t0_0 t0_1 t0_2 t0_3 t0_4 t0_5 t0_6 t1_0 t2_0)) := by
  intro sz
  refine q_into (by decide) (Nat.le_of_ble_eq_true rfl) ?_
  intro p e s m below meth c ls hsz C0 V hl
  have hx := C0.1
  have hb := C0.2.1
  obtain ⟨yy0_0, yy0_1, yy0_2, yy0_3, yy0_4, yy0_5, yy0_6, hh0, btt0_2, btt0_3, btt0_6⟩ := n_o47 hI
  obtain ⟨rfl, rfl, rfl, rfl, rfl, rfl, rfl⟩ : t0_0 = yy0_0 ∧ t0_1 = yy0_1 ∧ t0_2 = yy0_2 ∧ t0_3 = yy0_3 ∧ t0_4 = yy0_4 ∧ t0_5 = yy0_5 ∧ t0_6 = yy0_6 := by have z := Option.some.inj (hT0.symm.trans hh0); simpa using z
  replace btt0_2 : q_F (-1 ≤ t0_2.toInt ∧ t0_2.toInt ≤ 9999) := btt0_2
  replace btt0_3 : q_F (-1 ≤ t0_3.toInt ∧ t0_3.toInt ≤ 9999) := btt0_3
  replace btt0_6 : q_F (0 ≤ t0_6.toInt ∧ t0_6.toInt ≤ 1) := btt0_6
  obtain ⟨yy1_0, hh1, btt1_0⟩ := n_shO hI (n_h1 g q)
  obtain ⟨rfl⟩ : t1_0 = yy1_0 := by have z := Option.some.inj (hT1.symm.trans hh1); simpa using z
  replace btt1_0 : q_F (0 ≤ t1_0.toInt ∧ t1_0.toInt ≤ 4100) := btt1_0
  have hF : q_un ws ws [47] := q_u0
  have hl : lv_has ls 2 [(0, .ref (q 47))] := hl
  refine q_loop (X := Int32 × Int32 × Int32) (fun z H locs ls w25 => q_F (0 ≤ z.2.2.toInt) ∧ q_F (z.2.2.toInt ≤ 1) ∧ q_F (t0_5.toInt + t0_6.toInt ≤ z.2.1.toInt + z.2.2.toInt) ∧ q_F (z.2.2.toInt + t0_5.toInt ≤ z.2.1.toInt + t0_6.toInt) ∧ q_Wd D g (va_A ws sz) s w25 H locs ∧ lv_has ls 2 [(0, .ref (q 47))] ∧ q_I (nsh g q) q w25 ∧ q_un ws w25 [47] ∧ w25[47]? = (some (q 47, .inr (10, [.int t0_0, .int z.1, .int t0_2, .int t0_3, .int t0_4, .int z.2.1, .ref (q 1), .int z.2.2])) : Option (Nat × va_E)) ∧ w25[1]? = (some (q 1, .inr (1, [.ref (q 2), .int 4100, .int t1_0])) : Option (Nat × va_E)) ∧ w25[2]? = (some (q 2, .inl (g 1, (513 : Int32).toNatClampNeg, .inr (.inl t2_0))) : Option (Nat × va_E)) ∧ (∃ n, (4100 - z.2.1.toInt).toNat < n ∧ F_Dir_takeFlags_L0 t0_0 t0_1 t0_2 t0_3 t0_4 t0_5 t0_6 t1_0 t2_0 n z.1 z.2.1 z.2.2 = (F_Dir_takeFlags t0_0 t0_1 t0_2 t0_3 t0_4 t0_5 t0_6 t1_0 t2_0))) (fun z => (4100 - z.2.1.toInt).toNat) ?_ ((t0_1 : Int32), (t0_5 : Int32), (t0_6 : Int32)) _ _ _ ws ⟨(show q_F (0 ≤ t0_6.toInt) from (show 0 ≤ t0_6.toInt from by have t1 : 0 ≤ t0_6.toInt ∧ t0_6.toInt ≤ 1 := btt0_6; omega)), (show q_F (t0_6.toInt ≤ 1) from (show t0_6.toInt ≤ 1 from by have t1 : 0 ≤ t0_6.toInt ∧ t0_6.toInt ≤ 1 := btt0_6; omega)), (show q_F (t0_5.toInt + t0_6.toInt ≤ t0_5.toInt + t0_6.toInt) from (show t0_5.toInt + t0_6.toInt ≤ t0_5.toInt + t0_6.toInt from by omega)), (show q_F (t0_6.toInt + t0_5.toInt ≤ t0_5.toInt + t0_6.toInt) from (show t0_6.toInt + t0_5.toInt ≤ t0_5.toInt + t0_6.toInt from by omega)), V, q_lw hl (q_lw1 0 rfl q_lw0), hI, hF, hT0, hT1, hT2, ⟨((4100 - t0_5.toInt).toNat + 1), Nat.lt_succ_self _, (show F_Dir_takeFlags_L0 t0_0 t0_1 t0_2 t0_3 t0_4 t0_5 t0_6 t1_0 t2_0 ((4100 - t0_5.toInt).toNat + 1) t0_1 t0_5 t0_6 = (F_Dir_takeFlags t0_0 t0_1 t0_2 t0_3 t0_4 t0_5 t0_6 t1_0 t2_0) from (by rw [F_Dir_takeFlags.eq_1]))⟩⟩
  rintro ⟨lx17, lx18, lx19⟩ H locs ls w25 ⟨i20, i21, i22, i23, V, hl, hI, hF, hO26, hO27, hO28, ⟨fu31, hf32, hR29⟩⟩ ih24
  obtain ⟨fm33, rfl⟩ : ∃ m, fu31 = m + 1 := ⟨fu31 - 1, by omega⟩
  replace i20 : q_F (0 ≤ lx19.toInt) := i20
  replace i21 : q_F (lx19.toInt ≤ 1) := i21
  replace i22 : q_F (t0_5.toInt + t0_6.toInt ≤ lx18.toInt + lx19.toInt) := i22
  replace i23 : q_F (lx19.toInt + t0_5.toInt ≤ lx18.toInt + t0_6.toInt) := i23
  replace hl : lv_has ls 2 [(0, .ref (q 47))] := hl
  replace hO26 : w25[47]? = (some (q 47, .inr (10, [.int t0_0, .int lx17, .int t0_2, .int t0_3, .int t0_4, .int lx18, .ref (q 1), .int lx19])) : Option (Nat × va_E)) := hO26
  replace hO27 : w25[1]? = (some (q 1, .inr (1, [.ref (q 2), .int 4100, .int t1_0])) : Option (Nat × va_E)) := hO27
  replace hO28 : w25[2]? = (some (q 2, .inl (g 1, (513 : Int32).toNatClampNeg, .inr (.inl t2_0))) : Option (Nat × va_E)) := hO28
  refine lv_aload_n hx hb d_6_5_0 rfl (lv_at hl 0 rfl) ?_
  refine q_get (ci := 10) (j := 5) (v := .int lx18) C0 V i_Dir rfl rfl hO26 (by decide) w_363 rfl d_6_5_1 ?_
  refine lv_aload_n hx hb d_6_5_4 rfl (lv_at hl 0 rfl) ?_
  refine q_get (ci := 10) (j := 6) (v := .ref (q 1)) C0 V i_Dir rfl rfl hO26 (by decide) w_365 rfl d_6_5_5 ?_
  refine q_get (ci := 1) (j := 2) (v := .int t1_0) C0 V i_She rfl rfl hO27 (by decide) w_57 rfl d_6_5_8 ?_
  refine lv_icmp_ge (tgt := 79) hx hb d_6_5_11 (by decide) (fun c34 => ?_) (fun c34 => ?_)
  ·
    have b35 : q_F (t1_0.toInt ≤ lx18.toInt) := (q_leI c34)
    exact q_retv C0 V (⟨hI, hF, t0_0, lx17, t0_2, t0_3, t0_4, lx18, lx19, hO26, (show 0 ≤ lx19.toInt from (by have t1 : 0 ≤ lx19.toInt := i20; omega)), (show lx19.toInt ≤ 1 from (by have t1 : lx19.toInt ≤ 1 := i21; omega)), (show t0_0.toInt ≤ t0_0.toInt from (by omega)), (show t0_0.toInt ≤ t0_0.toInt from (by omega)), (show t0_2.toInt ≤ t0_2.toInt from (by omega)), (show t0_2.toInt ≤ t0_2.toInt from (by omega)), (show t0_3.toInt ≤ t0_3.toInt from (by omega)), (show t0_3.toInt ≤ t0_3.toInt from (by omega)), (show t0_4.toInt ≤ t0_4.toInt from (by omega)), (show t0_4.toInt ≤ t0_4.toInt from (by omega)), (show t0_5.toInt ≤ lx18.toInt from (by have t1 : t0_5.toInt + t0_6.toInt ≤ lx18.toInt + lx19.toInt := i22; have t2 : lx19.toInt + t0_5.toInt ≤ lx18.toInt + t0_6.toInt := i23; omega)), (show (t0_0, lx17, t0_2, t0_3, t0_4, lx18, lx19) = (F_Dir_takeFlags t0_0 t0_1 t0_2 t0_3 t0_4 t0_5 t0_6 t1_0 t2_0) from Eq.trans (by rw [F_Dir_takeFlags_L0.eq_2, if_pos c34]) hR29)⟩) d_6_5_79
  ·
    have b36 : q_F (lx18.toInt < t1_0.toInt) := (q_nleI c34)
    refine q_ldcs (i := 0) C0 V rfl rfl d_6_5_14 ?_
    refine lv_aload_n hx hb d_6_5_16 rfl (lv_at hl 0 rfl) ?_
    refine q_get (ci := 10) (j := 6) (v := .ref (q 1)) C0 V i_Dir rfl rfl hO26 (by decide) w_365 rfl d_6_5_17 ?_
    refine lv_aload_n hx hb d_6_5_20 rfl (lv_at hl 0 rfl) ?_
    refine q_get (ci := 10) (j := 5) (v := .int lx18) C0 V i_Dir rfl rfl hO26 (by decide) w_363 rfl d_6_5_21 ?_
    refine lv_i2l hx hb d_6_5_24 rfl ?_
    obtain ⟨j37, e38⟩ := q_nm (lx18.toInt64 : Int64)
    refine q_tl (v := j37) e38 ?_
    have b39 : q_F (j37.toInt = lx18.toInt) := (by rw [← e38]; show (lx18.toInt64 : Int64).toInt = lx18.toInt; exact q_i2l rfl)
    refine q_goi V (q_runV (As := [.long j37]) (rest := [.ref (g (8 + 2 * 0))]) (d := 1) (mc := 0) (ms := 0) (ci := 1) C0 V rfl LV_Dir_46 (X_She_at_p l D g q w25 1 4100 513 4100 (n_h1 g q) j37 hI t1_0 hO27 t2_0 hO28  _) rfl rfl hO27 rfl hl.1 rfl (Nat.le_of_ble_eq_true rfl) ⟨by decide, by decide⟩ ⟨Nat.le_of_ble_eq_true rfl, Nat.le_of_ble_eq_true rfl⟩ d_6_5_25) (fun a42 u40 H locs hp41 V => ?_)
    obtain ⟨rfl, b43, b44, b45, hE46⟩ := hp41
    have e47 : a42 = (F_She_at_p (4100 : Int32) (513 : Int32) (4100 : Int32) j37 t1_0 t2_0) := hE46
    replace b43 : q_F (0 ≤ a42.toInt) := b43
    replace b44 : q_F (a42.toInt ≤ 255) := b44
    replace b45 : q_F (a42.toInt ≤ t1_0.toInt + 254) := b45
    refine lv_i2c hx hb d_6_5_28 rfl ?_
    obtain ⟨a48, e49⟩ := q_nm ((a42.toUInt32 % 65536).toInt32 : Int32)
    refine q_ti (v := a48) e49 ?_
    have b50 : q_F (a48.toInt = a42.toInt) := (by rw [← e49]; show ((a42.toUInt32 % 65536).toInt32 : Int32).toInt = a42.toInt; exact (n_i2c (x := a42)).2.2 (by have t1 : 0 ≤ a42.toInt := b43; omega) (by have t1 : a42.toInt ≤ 255 := b44; omega))
    refine q_goi V (q_runVs (As := [.int a48]) (rest := []) (d := 4) (mc := 0) (ms := 0) (i := 0) C0 V rfl LV_Dir_63 (X_jStr_indexOf_II_0 l D g q w25  a48 hI   _) rfl rfl rfl hl.1 rfl (Nat.le_of_ble_eq_true rfl) ⟨by decide, by decide⟩ ⟨Nat.le_of_ble_eq_true rfl, Nat.le_of_ble_eq_true rfl⟩ d_6_5_29) (fun a53 u51 H locs hp52 V => ?_)
    obtain ⟨rfl, b54, b55, hE56⟩ := hp52
    have e57 : a53 = (F_jStr_indexOf_II_0 a48) := hE56
    replace b54 : q_F (0 ≤ a53.toInt + 1) := b54
    replace b55 : q_F (a53.toInt ≤ 7) := b55
    refine lv_istore_n (lv' := [(1, .int a53), (0, .ref (q 47))]) hx hb d_6_5_32 rfl hl (by decide) rfl (fun ls hl => ?_)
    refine lv_iload_n hx hb d_6_5_33 rfl (lv_at hl 0 rfl) ?_
    refine lv_if_ge (tgt := 38) hx hb d_6_5_34 (by decide) (fun c58 => ?_) (fun c58 => ?_)
    ·
      have b59 : q_F (0 ≤ a53.toInt) := (q_leI c58)
      refine lv_aload_n hx hb d_6_5_38 rfl (lv_at hl 1 rfl) ?_
      refine lv_dup hx hb d_6_5_39 rfl ?_
      refine q_get (ci := 10) (j := 7) (v := .int lx19) C0 V i_Dir rfl rfl hO26 (by decide) w_366 rfl d_6_5_40 ?_
      refine lv_aload_n hx hb d_6_5_43 rfl (lv_at hl 1 rfl) ?_
      refine lv_iconst (v := 1) hx hb d_6_5_44 (by decide) ?_
      refine lv_iload_n hx hb d_6_5_45 rfl (lv_at hl 0 rfl) ?_
      refine lv_ishl hx hb d_6_5_46 ?_
      obtain ⟨a60, e61⟩ := q_nm ((1 : Int32) <<< (a53 &&& 31) : Int32)
      refine q_ti (v := a60) e61 ?_
      have b62 : q_F (1 ≤ a60.toInt ∧ a60.toInt ≤ 128) := (by rw [← e61]; show 1 ≤ ((1 : Int32) <<< (a53 &&& 31) : Int32).toInt ∧ ((1 : Int32) <<< (a53 &&& 31) : Int32).toInt ≤ 128; exact (by have hh : a53.toInt = 0 ∨ a53.toInt = 1 ∨ a53.toInt = 2 ∨ a53.toInt = 3 ∨ a53.toInt = 4 ∨ a53.toInt = 5 ∨ a53.toInt = 6 ∨ a53.toInt = 7 := (by have t1 : 0 ≤ a53.toInt := b59; have t2 : a53.toInt ≤ 7 := b55; omega); rcases hh with h | h | h | h | h | h | h | h <;> first | (rw [show a53 = (0 : Int32) from q_Ieq (x := a53.toInt) (y := 0) rfl (by decide) h]; decide) | (rw [show a53 = (1 : Int32) from q_Ieq (x := a53.toInt) (y := 1) rfl (by decide) h]; decide) | (rw [show a53 = (2 : Int32) from q_Ieq (x := a53.toInt) (y := 2) rfl (by decide) h]; decide) | (rw [show a53 = (3 : Int32) from q_Ieq (x := a53.toInt) (y := 3) rfl (by decide) h]; decide) | (rw [show a53 = (4 : Int32) from q_Ieq (x := a53.toInt) (y := 4) rfl (by decide) h]; decide) | (rw [show a53 = (5 : Int32) from q_Ieq (x := a53.toInt) (y := 5) rfl (by decide) h]; decide) | (rw [show a53 = (6 : Int32) from q_Ieq (x := a53.toInt) (y := 6) rfl (by decide) h]; decide) | (rw [show a53 = (7 : Int32) from q_Ieq (x := a53.toInt) (y := 7) rfl (by decide) h]; decide)))
      refine q_goi V (q_runV (As := [.int a60]) (rest := [.int lx19, .ref (q 47)]) (d := 1) (mc := 0) (ms := 0) (ci := 10) C0 V rfl LV_Dir_68 (X_Dir_has l D g q w25  a60 hI t0_0 lx17 t0_2 t0_3 t0_4 lx18 lx19 hO26  _) rfl rfl hO26 rfl hl.1 rfl (Nat.le_of_ble_eq_true rfl) ⟨by decide, by decide⟩ ⟨Nat.le_of_ble_eq_true rfl, Nat.le_of_ble_eq_true rfl⟩ d_6_5_47) (fun a65 u63 H locs hp64 V => ?_)
      obtain ⟨rfl, b66, b67, hE68⟩ := hp64
      have e69 : a65 = (F_Dir_has a60 t0_0 lx17 t0_2 t0_3 t0_4 lx18 lx19) := hE68
      replace b66 : q_F (0 ≤ a65.toInt) := b66
      replace b67 : q_F (a65.toInt ≤ 1) := b67
      refine lv_ior hx hb d_6_5_50 ?_
      obtain ⟨a70, e71⟩ := q_nm (lx19 ||| a65 : Int32)
      refine q_ti (v := a70) e71 ?_
      have b72 : q_F (0 ≤ a70.toInt ∧ a70.toInt ≤ 1) := (by rw [← e71]; show 0 ≤ (lx19 ||| a65 : Int32).toInt ∧ (lx19 ||| a65 : Int32).toInt ≤ 1; exact s_or' (x := lx19) (y := a65) 1 (by decide) 1 (by decide) ⟨(by have t1 : 0 ≤ lx19.toInt := i20; have t2 : lx19.toInt ≤ 1 := i21; omega), (by have t1 : 0 ≤ lx19.toInt := i20; have t2 : lx19.toInt ≤ 1 := i21; omega)⟩ ⟨(by have t1 : 0 ≤ a65.toInt := b66; have t2 : a65.toInt ≤ 1 := b67; omega), (by have t1 : 0 ≤ a65.toInt := b66; have t2 : a65.toInt ≤ 1 := b67; omega)⟩)
      refine q_put (ci := 10) (j := 7) (v := .int a70) (ty := .boolean) C0 V i_Dir o_Dir n_Dir rfl rfl hO26 (by decide) w_366 rfl rfl (q_nz01 (q_Ile (x := 0) (y := a70.toInt) (by decide) rfl (by have t1 : 0 ≤ a70.toInt ∧ a70.toInt ≤ 1 := b72; omega)) (q_Ile (x := a70.toInt) (y := 1) rfl (by decide) (by have t1 : 0 ≤ a70.toInt ∧ a70.toInt ≤ 1 := b72; omega))) (q_fz01 (q_Ile (x := 0) (y := a70.toInt) (by decide) rfl (by have t1 : 0 ≤ a70.toInt ∧ a70.toInt ≤ 1 := b72; omega)) (q_Ile (x := a70.toInt) (y := 1) rfl (by decide) (by have t1 : 0 ≤ a70.toInt ∧ a70.toInt ≤ 1 := b72; omega))) (Nat.le_of_ble_eq_true rfl) d_6_5_51 (fun H locs w73 hu74 hO26 V => ?_)
      replace hO26 : w73[47]? = (some (q 47, .inr (10, [.int t0_0, .int lx17, .int t0_2, .int t0_3, .int t0_4, .int lx18, .ref (q 1), .int a70])) : Option (Nat × va_E)) := hO26
      replace hI := n_p47 hI hu74 hO26 ⟨(by have t1 : -1 ≤ t0_2.toInt ∧ t0_2.toInt ≤ 9999 := btt0_2; omega), (by have t1 : -1 ≤ t0_2.toInt ∧ t0_2.toInt ≤ 9999 := btt0_2; omega)⟩ ⟨(by have t1 : -1 ≤ t0_3.toInt ∧ t0_3.toInt ≤ 9999 := btt0_3; omega), (by have t1 : -1 ≤ t0_3.toInt ∧ t0_3.toInt ≤ 9999 := btt0_3; omega)⟩ ⟨(by have t1 : 0 ≤ a70.toInt ∧ a70.toInt ≤ 1 := b72; omega), (by have t1 : 0 ≤ a70.toInt ∧ a70.toInt ≤ 1 := b72; omega)⟩
      replace hO27 := (hu74 _ (by decide)).trans hO27
      replace hO28 := (hu74 _ (by decide)).trans hO28
      replace hF := q_us hF hu74 (by simp)
      refine lv_aload_n hx hb d_6_5_54 rfl (lv_at hl 1 rfl) ?_
      refine lv_dup hx hb d_6_5_55 rfl ?_
      refine q_get (ci := 10) (j := 1) (v := .int lx17) C0 V i_Dir rfl rfl hO26 (by decide) w_356 rfl d_6_5_56 ?_
      refine lv_iconst (v := 1) hx hb d_6_5_59 (by decide) ?_
      refine lv_iload_n hx hb d_6_5_60 rfl (lv_at hl 0 rfl) ?_
      refine lv_ishl hx hb d_6_5_61 ?_
      obtain ⟨a75, e76⟩ := q_nm ((1 : Int32) <<< (a53 &&& 31) : Int32)
      refine q_ti (v := a75) e76 ?_
      have b77 : q_F (1 ≤ a75.toInt ∧ a75.toInt ≤ 128) := (by rw [← e76]; show 1 ≤ ((1 : Int32) <<< (a53 &&& 31) : Int32).toInt ∧ ((1 : Int32) <<< (a53 &&& 31) : Int32).toInt ≤ 128; exact (by have hh : a53.toInt = 0 ∨ a53.toInt = 1 ∨ a53.toInt = 2 ∨ a53.toInt = 3 ∨ a53.toInt = 4 ∨ a53.toInt = 5 ∨ a53.toInt = 6 ∨ a53.toInt = 7 := (by have t1 : 0 ≤ a53.toInt := b59; have t2 : a53.toInt ≤ 7 := b55; omega); rcases hh with h | h | h | h | h | h | h | h <;> first | (rw [show a53 = (0 : Int32) from q_Ieq (x := a53.toInt) (y := 0) rfl (by decide) h]; decide) | (rw [show a53 = (1 : Int32) from q_Ieq (x := a53.toInt) (y := 1) rfl (by decide) h]; decide) | (rw [show a53 = (2 : Int32) from q_Ieq (x := a53.toInt) (y := 2) rfl (by decide) h]; decide) | (rw [show a53 = (3 : Int32) from q_Ieq (x := a53.toInt) (y := 3) rfl (by decide) h]; decide) | (rw [show a53 = (4 : Int32) from q_Ieq (x := a53.toInt) (y := 4) rfl (by decide) h]; decide) | (rw [show a53 = (5 : Int32) from q_Ieq (x := a53.toInt) (y := 5) rfl (by decide) h]; decide) | (rw [show a53 = (6 : Int32) from q_Ieq (x := a53.toInt) (y := 6) rfl (by decide) h]; decide) | (rw [show a53 = (7 : Int32) from q_Ieq (x := a53.toInt) (y := 7) rfl (by decide) h]; decide)))
      refine lv_ior hx hb d_6_5_62 ?_
      obtain ⟨a78, e79⟩ := q_nm (lx17 ||| a75 : Int32)
      refine q_ti (v := a78) e79 ?_
      refine q_put (ci := 10) (j := 1) (v := .int a78) (ty := .int) C0 V i_Dir o_Dir n_Dir rfl rfl hO26 (by decide) w_356 rfl rfl rfl rfl (Nat.le_of_ble_eq_true rfl) d_6_5_63 (fun H locs w80 hu81 hO26 V => ?_)
      replace hO26 : w80[47]? = (some (q 47, .inr (10, [.int t0_0, .int a78, .int t0_2, .int t0_3, .int t0_4, .int lx18, .ref (q 1), .int a70])) : Option (Nat × va_E)) := hO26
      replace hI := n_p47 hI hu81 hO26 ⟨(by have t1 : -1 ≤ t0_2.toInt ∧ t0_2.toInt ≤ 9999 := btt0_2; omega), (by have t1 : -1 ≤ t0_2.toInt ∧ t0_2.toInt ≤ 9999 := btt0_2; omega)⟩ ⟨(by have t1 : -1 ≤ t0_3.toInt ∧ t0_3.toInt ≤ 9999 := btt0_3; omega), (by have t1 : -1 ≤ t0_3.toInt ∧ t0_3.toInt ≤ 9999 := btt0_3; omega)⟩ ⟨(by have t1 : 0 ≤ a70.toInt ∧ a70.toInt ≤ 1 := b72; omega), (by have t1 : 0 ≤ a70.toInt ∧ a70.toInt ≤ 1 := b72; omega)⟩
      replace hO27 := (hu81 _ (by decide)).trans hO27
      replace hO28 := (hu81 _ (by decide)).trans hO28
      replace hF := q_us hF hu81 (by simp)
      refine lv_aload_n hx hb d_6_5_66 rfl (lv_at hl 1 rfl) ?_
      refine lv_dup hx hb d_6_5_67 rfl ?_
      refine q_get (ci := 10) (j := 5) (v := .int lx18) C0 V i_Dir rfl rfl hO26 (by decide) w_363 rfl d_6_5_68 ?_
      refine lv_iconst (v := 1) hx hb d_6_5_71 (by decide) ?_
      refine lv_iadd hx hb d_6_5_72 ?_
      obtain ⟨a82, e83⟩ := q_nm (lx18 + 1 : Int32)
      refine q_ti (v := a82) e83 ?_
      have b84 : q_F (a82.toInt = lx18.toInt + 1) := (by rw [← e83]; show (lx18 + 1 : Int32).toInt = lx18.toInt + 1; exact q_addI (x := lx18.toInt) (y := 1) rfl (by decide) (by have _ := q_lo32 (x := lx18); have _ := q_hi32 (x := lx18); have t1 : lx18.toInt < t1_0.toInt := b36; have _ := q_lo32 (x := t1_0); have _ := q_hi32 (x := t1_0); omega) (by have _ := q_lo32 (x := lx18); have _ := q_hi32 (x := lx18); have t1 : lx18.toInt < t1_0.toInt := b36; have _ := q_lo32 (x := t1_0); have _ := q_hi32 (x := t1_0); omega))
      refine q_put (ci := 10) (j := 5) (v := .int a82) (ty := .int) C0 V i_Dir o_Dir n_Dir rfl rfl hO26 (by decide) w_363 rfl rfl rfl rfl (Nat.le_of_ble_eq_true rfl) d_6_5_73 (fun H locs w85 hu86 hO26 V => ?_)
      replace hO26 : w85[47]? = (some (q 47, .inr (10, [.int t0_0, .int a78, .int t0_2, .int t0_3, .int t0_4, .int a82, .ref (q 1), .int a70])) : Option (Nat × va_E)) := hO26
      replace hI := n_p47 hI hu86 hO26 ⟨(by have t1 : -1 ≤ t0_2.toInt ∧ t0_2.toInt ≤ 9999 := btt0_2; omega), (by have t1 : -1 ≤ t0_2.toInt ∧ t0_2.toInt ≤ 9999 := btt0_2; omega)⟩ ⟨(by have t1 : -1 ≤ t0_3.toInt ∧ t0_3.toInt ≤ 9999 := btt0_3; omega), (by have t1 : -1 ≤ t0_3.toInt ∧ t0_3.toInt ≤ 9999 := btt0_3; omega)⟩ ⟨(by have t1 : 0 ≤ a70.toInt ∧ a70.toInt ≤ 1 := b72; omega), (by have t1 : 0 ≤ a70.toInt ∧ a70.toInt ≤ 1 := b72; omega)⟩
      replace hO27 := (hu86 _ (by decide)).trans hO27
      replace hO28 := (hu86 _ (by decide)).trans hO28
      replace hF := q_us hF hu86 (by simp)
      refine lv_goto (tgt := 0) hx hb d_6_5_76 (by decide) ?_
      exact ih24 ((a78 : Int32), (a82 : Int32), (a70 : Int32)) _ _ _ _ (show (4100 - a82.toInt).toNat < (4100 - lx18.toInt).toNat from by have t1 : a82.toInt = lx18.toInt + 1 := b84; have t2 : 0 ≤ t1_0.toInt ∧ t1_0.toInt ≤ 4100 := btt1_0; have t3 : lx18.toInt < t1_0.toInt := b36; omega) ⟨(show q_F (0 ≤ a70.toInt) from (show 0 ≤ a70.toInt from by have t1 : 0 ≤ a70.toInt ∧ a70.toInt ≤ 1 := b72; omega)), (show q_F (a70.toInt ≤ 1) from (show a70.toInt ≤ 1 from by have t1 : 0 ≤ a70.toInt ∧ a70.toInt ≤ 1 := b72; omega)), (show q_F (t0_5.toInt + t0_6.toInt ≤ a82.toInt + a70.toInt) from (show t0_5.toInt + t0_6.toInt ≤ a82.toInt + a70.toInt from by have t1 : 0 ≤ t0_6.toInt ∧ t0_6.toInt ≤ 1 := btt0_6; have t2 : t0_5.toInt + t0_6.toInt ≤ lx18.toInt + lx19.toInt := i22; have t3 : lx19.toInt + t0_5.toInt ≤ lx18.toInt + t0_6.toInt := i23; have t4 : 0 ≤ a70.toInt ∧ a70.toInt ≤ 1 := b72; have t5 : a82.toInt = lx18.toInt + 1 := b84; omega)), (show q_F (a70.toInt + t0_5.toInt ≤ a82.toInt + t0_6.toInt) from (show a70.toInt + t0_5.toInt ≤ a82.toInt + t0_6.toInt from by have t1 : 0 ≤ t0_6.toInt ∧ t0_6.toInt ≤ 1 := btt0_6; have t2 : t0_5.toInt + t0_6.toInt ≤ lx18.toInt + lx19.toInt := i22; have t3 : lx19.toInt + t0_5.toInt ≤ lx18.toInt + t0_6.toInt := i23; have t4 : 0 ≤ a70.toInt ∧ a70.toInt ≤ 1 := b72; have t5 : a82.toInt = lx18.toInt + 1 := b84; omega)), V, q_lw hl (q_lw1 1 rfl q_lw0), hI, hF, hO26, hO27, hO28, ⟨fm33, Nat.lt_of_lt_of_le (show (4100 - a82.toInt).toNat < (4100 - lx18.toInt).toNat from by have t1 : a82.toInt = lx18.toInt + 1 := b84; have t2 : 0 ≤ t1_0.toInt ∧ t1_0.toInt ≤ 4100 := btt1_0; have t3 : lx18.toInt < t1_0.toInt := b36; omega) (Nat.le_of_lt_succ hf32), (show F_Dir_takeFlags_L0 t0_0 t0_1 t0_2 t0_3 t0_4 t0_5 t0_6 t1_0 t2_0 fm33 a78 a82 a70 = (F_Dir_takeFlags t0_0 t0_1 t0_2 t0_3 t0_4 t0_5 t0_6 t1_0 t2_0) from Eq.trans (by have c58x := c58; rw [e57, ← e49, e47, ← e38] at c58x; rw [← e83, ← e79, ← e76, ← e71, e69, ← e61, e57, ← e49, e47, ← e38, F_Dir_takeFlags_L0.eq_2, if_neg c34, if_pos c58x]) hR29)⟩⟩
    ·
      have b87 : q_F (a53.toInt < 0) := (q_nleI c58)
      exact q_retv C0 V (⟨hI, hF, t0_0, lx17, t0_2, t0_3, t0_4, lx18, lx19, hO26, (show 0 ≤ lx19.toInt from (by have t1 : 0 ≤ lx19.toInt := i20; omega)), (show lx19.toInt ≤ 1 from (by have t1 : lx19.toInt ≤ 1 := i21; omega)), (show t0_0.toInt ≤ t0_0.toInt from (by omega)), (show t0_0.toInt ≤ t0_0.toInt from (by omega)), (show t0_2.toInt ≤ t0_2.toInt from (by omega)), (show t0_2.toInt ≤ t0_2.toInt from (by omega)), (show t0_3.toInt ≤ t0_3.toInt from (by omega)), (show t0_3.toInt ≤ t0_3.toInt from (by omega)), (show t0_4.toInt ≤ t0_4.toInt from (by omega)), (show t0_4.toInt ≤ t0_4.toInt from (by omega)), (show t0_5.toInt ≤ lx18.toInt from (by have t1 : t0_5.toInt + t0_6.toInt ≤ lx18.toInt + lx19.toInt := i22; have t2 : lx19.toInt + t0_5.toInt ≤ lx18.toInt + t0_6.toInt := i23; omega)), (show (t0_0, lx17, t0_2, t0_3, t0_4, lx18, lx19) = (F_Dir_takeFlags t0_0 t0_1 t0_2 t0_3 t0_4 t0_5 t0_6 t1_0 t2_0) from Eq.trans (by have c58x := c58; rw [e57, ← e49, e47, ← e38] at c58x; rw [F_Dir_takeFlags_L0.eq_2, if_neg c34, if_neg c58x]) hR29)⟩) d_6_5_37
def F_Dir_parse_J101 (x2 : Int32) (t0_0 : Int32) (t0_1 : Int32) (t0_2 : Int32) (t0_3 : Int32) (t0_4 : Int32) (t0_5 : Int32) (t0_6 : Int32) (t1_0 : Int32) (t2_0 : (Nat → Int64)) (p49 : (Int32 × Int32 × Int32 × Int32 × Int32 × Int32 × Int32)) (p86 : (Int32 × Int32 × Int32 × Int32 × Int32 × Int32 × Int32)) (lx107 : Int32) (lx108 : Int32) (lx109 : Int32) (lx110 : Int32) (lx111 : Int32) (lx112 : Int32) (lx113 : Int32) (lx114 : Int32) (lx157 : Int32) (lx158 : Int32) (lx159 : Int32) (lx160 : Int32) (lx161 : Int32) (lx162 : Int32) (lx163 : Int32) : Int32 × Int32 × Int32 × Int32 × Int32 × Int32 × Int32 := if t1_0 ≤ lx162 then ((lx157, lx158, lx159, lx160, (-1 : Int32), (lx162 + 1 : Int32), lx163)) else ((lx157, lx158, lx159, lx160, ((F_She_at_p (4100 : Int32) (513 : Int32) (4100 : Int32) (lx162.toInt64 : Int64) t1_0 t2_0) : Int32), (lx162 + 1 : Int32), lx163))
def F_Dir_parse_c95 (x2 : Int32) (t0_0 : Int32) (t0_1 : Int32) (t0_2 : Int32) (t0_3 : Int32) (t0_4 : Int32) (t0_5 : Int32) (t0_6 : Int32) (t1_0 : Int32) (t2_0 : (Nat → Int64)) (p49 : (Int32 × Int32 × Int32 × Int32 × Int32 × Int32 × Int32)) (p86 : (Int32 × Int32 × Int32 × Int32 × Int32 × Int32 × Int32)) (lx107 : Int32) (lx108 : Int32) (lx109 : Int32) (lx110 : Int32) (lx111 : Int32) (lx112 : Int32) (lx113 : Int32) (lx114 : Int32) (p260 : (Int32 × Int32 × Int32 × Int32 × Int32 × Int32 × Int32 × Int32)) : Int32 × Int32 × Int32 × Int32 × Int32 × Int32 × Int32 := F_Dir_parse_J101 x2 t0_0 t0_1 t0_2 t0_3 t0_4 t0_5 t0_6 t1_0 t2_0 p49 p86 lx107 lx108 lx109 lx110 lx111 lx112 lx113 lx114 (p260.2.1 : Int32) (p260.2.2.1 : Int32) (p260.2.2.2.1 : Int32) (p260.1 : Int32) (p260.2.2.2.2.2.1 : Int32) (p260.2.2.2.2.2.2.1 : Int32) (p260.2.2.2.2.2.2.2 : Int32)
def F_Dir_parse_J45 (x2 : Int32) (t0_0 : Int32) (t0_1 : Int32) (t0_2 : Int32) (t0_3 : Int32) (t0_4 : Int32) (t0_5 : Int32) (t0_6 : Int32) (t1_0 : Int32) (t2_0 : (Nat → Int64)) (p49 : (Int32 × Int32 × Int32 × Int32 × Int32 × Int32 × Int32)) (p86 : (Int32 × Int32 × Int32 × Int32 × Int32 × Int32 × Int32)) (lx107 : Int32) (lx108 : Int32) (lx109 : Int32) (lx110 : Int32) (lx111 : Int32) (lx112 : Int32) (lx113 : Int32) (lx114 : Int32) : Int32 × Int32 × Int32 × Int32 × Int32 × Int32 × Int32 := if ((F_She_at_p (4100 : Int32) (513 : Int32) (4100 : Int32) (lx113.toInt64 : Int64) t1_0 t2_0) : Int32) = (46 : Int32) then (if ((F_Dir_figureAt (lx113 + 1 : Int32) t1_0 t2_0) : Int32) < (0 : Int32) then (F_Dir_parse_J101 x2 t0_0 t0_1 t0_2 t0_3 t0_4 t0_5 t0_6 t1_0 t2_0 p49 p86 lx107 lx108 lx109 lx110 lx111 lx112 lx113 lx114 lx108 lx109 lx107 (-1) lx112 lx113 lx114) else (F_Dir_parse_c95 x2 t0_0 t0_1 t0_2 t0_3 t0_4 t0_5 t0_6 t1_0 t2_0 p49 p86 lx107 lx108 lx109 lx110 lx111 lx112 lx113 lx114 ((F_Dir_takeNumber lx108 lx109 lx107 (-1 : Int32) lx112 (lx113 + 1 : Int32) lx114 t1_0 t2_0) : (Int32 × Int32 × Int32 × Int32 × Int32 × Int32 × Int32 × Int32)))) else (F_Dir_parse_J101 x2 t0_0 t0_1 t0_2 t0_3 t0_4 t0_5 t0_6 t1_0 t2_0 p49 p86 lx107 lx108 lx109 lx110 lx111 lx112 lx113 lx114 lx108 lx109 lx107 (-1) lx112 lx113 lx114)
def F_Dir_parse_c38 (x2 : Int32) (t0_0 : Int32) (t0_1 : Int32) (t0_2 : Int32) (t0_3 : Int32) (t0_4 : Int32) (t0_5 : Int32) (t0_6 : Int32) (t1_0 : Int32) (t2_0 : (Nat → Int64)) (p49 : (Int32 × Int32 × Int32 × Int32 × Int32 × Int32 × Int32)) (p86 : (Int32 × Int32 × Int32 × Int32 × Int32 × Int32 × Int32)) (p308 : (Int32 × Int32 × Int32 × Int32 × Int32 × Int32 × Int32 × Int32)) : Int32 × Int32 × Int32 × Int32 × Int32 × Int32 × Int32 := F_Dir_parse_J45 x2 t0_0 t0_1 t0_2 t0_3 t0_4 t0_5 t0_6 t1_0 t2_0 p49 p86 (p308.1 : Int32) (p308.2.1 : Int32) (p308.2.2.1 : Int32) (p308.2.2.2.1 : Int32) (p308.2.2.2.2.1 : Int32) (p308.2.2.2.2.2.1 : Int32) (p308.2.2.2.2.2.2.1 : Int32) (p308.2.2.2.2.2.2.2 : Int32)
def F_Dir_parse_c22 (x2 : Int32) (t0_0 : Int32) (t0_1 : Int32) (t0_2 : Int32) (t0_3 : Int32) (t0_4 : Int32) (t0_5 : Int32) (t0_6 : Int32) (t1_0 : Int32) (t2_0 : (Nat → Int64)) (p49 : (Int32 × Int32 × Int32 × Int32 × Int32 × Int32 × Int32)) (p86 : (Int32 × Int32 × Int32 × Int32 × Int32 × Int32 × Int32)) : Int32 × Int32 × Int32 × Int32 × Int32 × Int32 × Int32 := if ((F_Dir_figureAt (p86.2.2.2.2.2.1 : Int32) t1_0 t2_0) : Int32) ≤ (0 : Int32) then (F_Dir_parse_J45 x2 t0_0 t0_1 t0_2 t0_3 t0_4 t0_5 t0_6 t1_0 t2_0 p49 p86 (-1) (p86.1 : Int32) (p86.2.1 : Int32) (p86.2.2.1 : Int32) (p86.2.2.2.1 : Int32) (p86.2.2.2.2.1 : Int32) (p86.2.2.2.2.2.1 : Int32) (p86.2.2.2.2.2.2 : Int32)) else (F_Dir_parse_c38 x2 t0_0 t0_1 t0_2 t0_3 t0_4 t0_5 t0_6 t1_0 t2_0 p49 p86 ((F_Dir_takeNumber (p86.1 : Int32) (p86.2.1 : Int32) (p86.2.2.1 : Int32) (p86.2.2.2.1 : Int32) (p86.2.2.2.2.1 : Int32) (p86.2.2.2.2.2.1 : Int32) (p86.2.2.2.2.2.2 : Int32) t1_0 t2_0) : (Int32 × Int32 × Int32 × Int32 × Int32 × Int32 × Int32 × Int32)))
def F_Dir_parse_c18 (x2 : Int32) (t0_0 : Int32) (t0_1 : Int32) (t0_2 : Int32) (t0_3 : Int32) (t0_4 : Int32) (t0_5 : Int32) (t0_6 : Int32) (t1_0 : Int32) (t2_0 : (Nat → Int64)) (p49 : (Int32 × Int32 × Int32 × Int32 × Int32 × Int32 × Int32)) : Int32 × Int32 × Int32 × Int32 × Int32 × Int32 × Int32 := F_Dir_parse_c22 x2 t0_0 t0_1 t0_2 t0_3 t0_4 t0_5 t0_6 t1_0 t2_0 p49 ((F_Dir_takeFlags (p49.1 : Int32) (p49.2.1 : Int32) (p49.2.2.1 : Int32) (p49.2.2.2.1 : Int32) (p49.2.2.2.2.1 : Int32) (p49.2.2.2.2.2.1 : Int32) (p49.2.2.2.2.2.2 : Int32) t1_0 t2_0) : (Int32 × Int32 × Int32 × Int32 × Int32 × Int32 × Int32))
def F_Dir_parse (x2 : Int32) (t0_0 : Int32) (t0_1 : Int32) (t0_2 : Int32) (t0_3 : Int32) (t0_4 : Int32) (t0_5 : Int32) (t0_6 : Int32) (t1_0 : Int32) (t2_0 : (Nat → Int64)) : Int32 × Int32 × Int32 × Int32 × Int32 × Int32 × Int32 := F_Dir_parse_c18 x2 t0_0 t0_1 t0_2 t0_3 t0_4 t0_5 t0_6 t1_0 t2_0 ((F_Dir_takeIndex t0_0 (0 : Int32) t0_2 t0_3 t0_4 (x2 + 1 : Int32) (0 : Int32) t1_0 t2_0) : (Int32 × Int32 × Int32 × Int32 × Int32 × Int32 × Int32))
set_option maxRecDepth 100000 in
set_option maxHeartbeats 4000000 in
theorem X_Dir_parse (l : Launch) (D : va_G) (g : Nat → ClassId) (q : Nat → Nat) (ws : va_W) (x2 : Int32) (hI : q_I (nsh g q) q ws) (t0_0 : Int32) (t0_1 : Int32) (t0_2 : Int32) (t0_3 : Int32) (t0_4 : Int32) (t0_5 : Int32) (t0_6 : Int32) (hT0 : ws[47]? = (some (q 47, .inr (10, [.int t0_0, .int t0_1, .int t0_2, .int t0_3, .int t0_4, .int t0_5, .ref (q 1), .int t0_6])) : Option (Nat × va_E))) (t1_0 : Int32) (hT1 : ws[1]? = (some (q 1, .inr (1, [.ref (q 2), .int 4100, .int t1_0])) : Option (Nat × va_E))) (t2_0 : (Nat → Int64)) (hT2 : ws[2]? = (some (q 2, .inl (g 1, (513 : Int32).toNatClampNeg, .inr (.inl t2_0))) : Option (Nat × va_E))) : q_mV l y_Dir_parse prog_6_method_2_code 2 6 0 0 D g [.ref (q 47), .int x2] ws (fun u => q_I (nsh g q) q u ∧ q_un ws u [47] ∧ ∃ (u0_0 : Int32) (u0_1 : Int32) (u0_2 : Int32) (u0_3 : Int32) (u0_4 : Int32) (u0_5 : Int32) (u0_6 : Int32), u[47]? = (some (q 47, .inr (10, [.int u0_0, .int u0_1, .int u0_2, .int u0_3, .int u0_4, .int u0_5, .ref (q 1), .int u0_6])) : Option (Nat × va_E)) ∧ (0 ≤ u0_0.toInt + 1) ∧ (u0_0.toInt ≤ 9999) ∧ (0 ≤ u0_2.toInt + 1) ∧ (u0_2.toInt ≤ 9999) ∧ (0 ≤ u0_3.toInt + 1) ∧ (u0_3.toInt ≤ 9999) ∧ (0 ≤ u0_4.toInt + 1) ∧ (u0_4.toInt ≤ 255) ∧ (0 ≤ u0_6.toInt) ∧ (u0_6.toInt ≤ 1) ∧ (u0_4.toInt ≤ t1_0.toInt + 254) ∧ (u0_0, u0_1, u0_2, u0_3, u0_4, u0_5, u0_6) = (F_Dir_parse x2 t0_0 t0_1 t0_2 t0_3 t0_4 t0_5 t0_6 t1_0 t2_0)) := by
  intro sz
  refine q_into (by decide) (Nat.le_of_ble_eq_true rfl) ?_
  intro p e s m below meth c ls hsz C0 V hl
  have hx := C0.1
  have hb := C0.2.1
  obtain ⟨yy0_0, yy0_1, yy0_2, yy0_3, yy0_4, yy0_5, yy0_6, hh0, btt0_2, btt0_3, btt0_6⟩ := n_o47 hI
  obtain ⟨rfl, rfl, rfl, rfl, rfl, rfl, rfl⟩ : t0_0 = yy0_0 ∧ t0_1 = yy0_1 ∧ t0_2 = yy0_2 ∧ t0_3 = yy0_3 ∧ t0_4 = yy0_4 ∧ t0_5 = yy0_5 ∧ t0_6 = yy0_6 := by have z := Option.some.inj (hT0.symm.trans hh0); simpa using z
  replace btt0_2 : q_F (-1 ≤ t0_2.toInt ∧ t0_2.toInt ≤ 9999) := btt0_2
  replace btt0_3 : q_F (-1 ≤ t0_3.toInt ∧ t0_3.toInt ≤ 9999) := btt0_3
  replace btt0_6 : q_F (0 ≤ t0_6.toInt ∧ t0_6.toInt ≤ 1) := btt0_6
  obtain ⟨yy1_0, hh1, btt1_0⟩ := n_shO hI (n_h1 g q)
  obtain ⟨rfl⟩ : t1_0 = yy1_0 := by have z := Option.some.inj (hT1.symm.trans hh1); simpa using z
  replace btt1_0 : q_F (0 ≤ t1_0.toInt ∧ t1_0.toInt ≤ 4100) := btt1_0
  have hF : q_un ws ws [47] := q_u0
  have hl : lv_has ls 2 [(0, .ref (q 47)), (1, .int x2)] := hl
  refine lv_aload_n hx hb d_6_2_0 rfl (lv_at hl 0 rfl) ?_
  refine lv_iload_n hx hb d_6_2_1 rfl (lv_at hl 1 rfl) ?_
  refine lv_iconst (v := 1) hx hb d_6_2_2 (by decide) ?_
  refine lv_iadd hx hb d_6_2_3 ?_
  obtain ⟨a17, e18⟩ := q_nm (x2 + 1 : Int32)
  refine q_ti (v := a17) e18 ?_
  refine q_put (ci := 10) (j := 5) (v := .int a17) (ty := .int) C0 V i_Dir o_Dir n_Dir rfl rfl hT0 (by decide) w_363 rfl rfl rfl rfl (Nat.le_of_ble_eq_true rfl) d_6_2_4 (fun H locs w19 hu20 hT0 V => ?_)
  replace hT0 : w19[47]? = (some (q 47, .inr (10, [.int t0_0, .int t0_1, .int t0_2, .int t0_3, .int t0_4, .int a17, .ref (q 1), .int t0_6])) : Option (Nat × va_E)) := hT0
  replace hI := n_p47 hI hu20 hT0 ⟨(by have t1 : -1 ≤ t0_2.toInt ∧ t0_2.toInt ≤ 9999 := btt0_2; omega), (by have t1 : -1 ≤ t0_2.toInt ∧ t0_2.toInt ≤ 9999 := btt0_2; omega)⟩ ⟨(by have t1 : -1 ≤ t0_3.toInt ∧ t0_3.toInt ≤ 9999 := btt0_3; omega), (by have t1 : -1 ≤ t0_3.toInt ∧ t0_3.toInt ≤ 9999 := btt0_3; omega)⟩ ⟨(by have t1 : 0 ≤ t0_6.toInt ∧ t0_6.toInt ≤ 1 := btt0_6; omega), (by have t1 : 0 ≤ t0_6.toInt ∧ t0_6.toInt ≤ 1 := btt0_6; omega)⟩
  replace hT1 := (hu20 _ (by decide)).trans hT1
  replace hT2 := (hu20 _ (by decide)).trans hT2
  replace hF := q_us hF hu20 (by simp)
  refine lv_aload_n hx hb d_6_2_7 rfl (lv_at hl 0 rfl) ?_
  refine lv_iconst (v := 0) hx hb d_6_2_8 (by decide) ?_
  refine q_put (ci := 10) (j := 1) (v := .int 0) (ty := .int) C0 V i_Dir o_Dir n_Dir rfl rfl hT0 (by decide) w_356 rfl rfl rfl rfl (Nat.le_of_ble_eq_true rfl) d_6_2_9 (fun H locs w21 hu22 hT0 V => ?_)
  replace hT0 : w21[47]? = (some (q 47, .inr (10, [.int t0_0, .int 0, .int t0_2, .int t0_3, .int t0_4, .int a17, .ref (q 1), .int t0_6])) : Option (Nat × va_E)) := hT0
  replace hI := n_p47 hI hu22 hT0 ⟨(by have t1 : -1 ≤ t0_2.toInt ∧ t0_2.toInt ≤ 9999 := btt0_2; omega), (by have t1 : -1 ≤ t0_2.toInt ∧ t0_2.toInt ≤ 9999 := btt0_2; omega)⟩ ⟨(by have t1 : -1 ≤ t0_3.toInt ∧ t0_3.toInt ≤ 9999 := btt0_3; omega), (by have t1 : -1 ≤ t0_3.toInt ∧ t0_3.toInt ≤ 9999 := btt0_3; omega)⟩ ⟨(by have t1 : 0 ≤ t0_6.toInt ∧ t0_6.toInt ≤ 1 := btt0_6; omega), (by have t1 : 0 ≤ t0_6.toInt ∧ t0_6.toInt ≤ 1 := btt0_6; omega)⟩
  replace hT1 := (hu22 _ (by decide)).trans hT1
  replace hT2 := (hu22 _ (by decide)).trans hT2
  replace hF := q_us hF hu22 (by simp)
  refine lv_aload_n hx hb d_6_2_12 rfl (lv_at hl 0 rfl) ?_
  refine lv_iconst (v := 0) hx hb d_6_2_13 (by decide) ?_
  refine q_put (ci := 10) (j := 7) (v := .int 0) (ty := .boolean) C0 V i_Dir o_Dir n_Dir rfl rfl hT0 (by decide) w_366 rfl rfl rfl rfl (Nat.le_of_ble_eq_true rfl) d_6_2_14 (fun H locs w23 hu24 hT0 V => ?_)
  replace hT0 : w23[47]? = (some (q 47, .inr (10, [.int t0_0, .int 0, .int t0_2, .int t0_3, .int t0_4, .int a17, .ref (q 1), .int 0])) : Option (Nat × va_E)) := hT0
  replace hI := n_p47 hI hu24 hT0 ⟨(by have t1 : -1 ≤ t0_2.toInt ∧ t0_2.toInt ≤ 9999 := btt0_2; omega), (by have t1 : -1 ≤ t0_2.toInt ∧ t0_2.toInt ≤ 9999 := btt0_2; omega)⟩ ⟨(by have t1 : -1 ≤ t0_3.toInt ∧ t0_3.toInt ≤ 9999 := btt0_3; omega), (by have t1 : -1 ≤ t0_3.toInt ∧ t0_3.toInt ≤ 9999 := btt0_3; omega)⟩ ⟨(by have z9 : (0 : Int32).toInt = 0 := rfl; omega), (by have z9 : (0 : Int32).toInt = 0 := rfl; omega)⟩
  replace hT1 := (hu24 _ (by decide)).trans hT1
  replace hT2 := (hu24 _ (by decide)).trans hT2
  replace hF := q_us hF hu24 (by simp)
  refine lv_aload_n hx hb d_6_2_17 rfl (lv_at hl 0 rfl) ?_
  refine q_gov V (q_runV (As := []) (rest := []) (d := 4) (mc := 0) (ms := 0) (ci := 10) C0 V rfl LV_Dir_26 (X_Dir_takeIndex l D g q w23   hI t0_0 0 t0_2 t0_3 t0_4 a17 0 hT0 t1_0 hT1 t2_0 hT2  _) rfl rfl hT0 rfl hl.1 rfl (Nat.le_of_ble_eq_true rfl) ⟨by decide, by decide⟩ ⟨Nat.le_of_ble_eq_true rfl, Nat.le_of_ble_eq_true rfl⟩ d_6_2_18) (fun u25 H locs hp26 V => ?_)
  obtain ⟨hI, hu48, y28, y29, y30, y31, y32, y33, y34, hO27, b35, b36, b37, b38, b39, b40, b41, b42, b43, b44, b45, b46, hE47⟩ := hp26
  replace hO27 : u25[47]? = (some (q 47, .inr (10, [.int y28, .int y29, .int y30, .int y31, .int y32, .int y33, .ref (q 1), .int y34])) : Option (Nat × va_E)) := hO27
  obtain ⟨p49, e50⟩ : ∃ z, z = (F_Dir_takeIndex t0_0 (0 : Int32) t0_2 t0_3 t0_4 a17 (0 : Int32) t1_0 t2_0) := ⟨_, rfl⟩
  have e51 : y28 = p49.1 := congrArg (fun z => z.1) (hE47.trans e50.symm)
  have e52 : y29 = p49.2.1 := congrArg (fun z => z.2.1) (hE47.trans e50.symm)
  have e53 : y30 = p49.2.2.1 := congrArg (fun z => z.2.2.1) (hE47.trans e50.symm)
  have e54 : y31 = p49.2.2.2.1 := congrArg (fun z => z.2.2.2.1) (hE47.trans e50.symm)
  have e55 : y32 = p49.2.2.2.2.1 := congrArg (fun z => z.2.2.2.2.1) (hE47.trans e50.symm)
  have e56 : y33 = p49.2.2.2.2.2.1 := congrArg (fun z => z.2.2.2.2.2.1) (hE47.trans e50.symm)
  have e57 : y34 = p49.2.2.2.2.2.2 := congrArg (fun z => z.2.2.2.2.2.2) (hE47.trans e50.symm)
  replace b35 : q_F (0 ≤ y28.toInt + 1) := b35
  replace b36 : q_F (y28.toInt ≤ 9999) := b36
  replace b37 : q_F (0 ≤ y29.toInt) := b37
  replace b38 : q_F (y29.toInt ≤ 0) := b38
  replace b39 : q_F (t0_2.toInt ≤ y30.toInt) := b39
  replace b40 : q_F (y30.toInt ≤ t0_2.toInt) := b40
  replace b41 : q_F (t0_3.toInt ≤ y31.toInt) := b41
  replace b42 : q_F (y31.toInt ≤ t0_3.toInt) := b42
  replace b43 : q_F (t0_4.toInt ≤ y32.toInt) := b43
  replace b44 : q_F (y32.toInt ≤ t0_4.toInt) := b44
  replace b45 : q_F (0 ≤ y34.toInt) := b45
  replace b46 : q_F (y34.toInt ≤ 0) := b46
  replace hT1 := (hu48 _ (by decide)).trans hT1
  replace hT2 := (hu48 _ (by decide)).trans hT2
  replace hF := q_uc hF hu48 (by simp)
  have hR58 := (show F_Dir_parse_c18 x2 t0_0 t0_1 t0_2 t0_3 t0_4 t0_5 t0_6 t1_0 t2_0 p49 = (F_Dir_parse x2 t0_0 t0_1 t0_2 t0_3 t0_4 t0_5 t0_6 t1_0 t2_0) from (by rw [e50, ← e18, F_Dir_parse.eq_1]))
  refine lv_aload_n hx hb d_6_2_21 rfl (lv_at hl 0 rfl) ?_
  refine q_gov V (q_runV (As := []) (rest := []) (d := 5) (mc := 0) (ms := 0) (ci := 10) C0 V rfl LV_Dir_29 (X_Dir_takeFlags l D g q u25   hI y28 y29 y30 y31 y32 y33 y34 hO27 t1_0 hT1 t2_0 hT2  _) rfl rfl hO27 rfl hl.1 rfl (Nat.le_of_ble_eq_true rfl) ⟨by decide, by decide⟩ ⟨Nat.le_of_ble_eq_true rfl, Nat.le_of_ble_eq_true rfl⟩ d_6_2_22) (fun u63 H locs hp64 V => ?_)
  obtain ⟨hI, hu85, y66, y67, y68, y69, y70, y71, y72, hO65, b73, b74, b75, b76, b77, b78, b79, b80, b81, b82, b83, hE84⟩ := hp64
  replace hO65 : u63[47]? = (some (q 47, .inr (10, [.int y66, .int y67, .int y68, .int y69, .int y70, .int y71, .ref (q 1), .int y72])) : Option (Nat × va_E)) := hO65
  obtain ⟨p86, e87⟩ : ∃ z, z = (F_Dir_takeFlags y28 y29 y30 y31 y32 y33 y34 t1_0 t2_0) := ⟨_, rfl⟩
  have e88 : y66 = p86.1 := congrArg (fun z => z.1) (hE84.trans e87.symm)
  have e89 : y67 = p86.2.1 := congrArg (fun z => z.2.1) (hE84.trans e87.symm)
  have e90 : y68 = p86.2.2.1 := congrArg (fun z => z.2.2.1) (hE84.trans e87.symm)
  have e91 : y69 = p86.2.2.2.1 := congrArg (fun z => z.2.2.2.1) (hE84.trans e87.symm)
  have e92 : y70 = p86.2.2.2.2.1 := congrArg (fun z => z.2.2.2.2.1) (hE84.trans e87.symm)
  have e93 : y71 = p86.2.2.2.2.2.1 := congrArg (fun z => z.2.2.2.2.2.1) (hE84.trans e87.symm)
  have e94 : y72 = p86.2.2.2.2.2.2 := congrArg (fun z => z.2.2.2.2.2.2) (hE84.trans e87.symm)
  replace b73 : q_F (0 ≤ y72.toInt) := b73
  replace b74 : q_F (y72.toInt ≤ 1) := b74
  replace b75 : q_F (y28.toInt ≤ y66.toInt) := b75
  replace b76 : q_F (y66.toInt ≤ y28.toInt) := b76
  replace b77 : q_F (y30.toInt ≤ y68.toInt) := b77
  replace b78 : q_F (y68.toInt ≤ y30.toInt) := b78
  replace b79 : q_F (y31.toInt ≤ y69.toInt) := b79
  replace b80 : q_F (y69.toInt ≤ y31.toInt) := b80
  replace b81 : q_F (y32.toInt ≤ y70.toInt) := b81
  replace b82 : q_F (y70.toInt ≤ y32.toInt) := b82
  replace b83 : q_F (y33.toInt ≤ y71.toInt) := b83
  replace hT1 := (hu85 _ (by decide)).trans hT1
  replace hT2 := (hu85 _ (by decide)).trans hT2
  replace hF := q_uc hF hu85 (by simp)
  have hR95 := (show F_Dir_parse_c22 x2 t0_0 t0_1 t0_2 t0_3 t0_4 t0_5 t0_6 t1_0 t2_0 p49 p86 = (F_Dir_parse x2 t0_0 t0_1 t0_2 t0_3 t0_4 t0_5 t0_6 t1_0 t2_0) from Eq.trans (by rw [e87, e57, e56, e55, e54, e53, e52, e51, F_Dir_parse_c18.eq_1]) hR58)
  refine lv_aload_n hx hb d_6_2_25 rfl (lv_at hl 0 rfl) ?_
  refine lv_aload_n hx hb d_6_2_26 rfl (lv_at hl 0 rfl) ?_
  refine lv_aload_n hx hb d_6_2_27 rfl (lv_at hl 0 rfl) ?_
  refine q_get (ci := 10) (j := 5) (v := .int y71) C0 V i_Dir rfl rfl hO65 (by decide) w_363 rfl d_6_2_28 ?_
  refine q_goi V (q_runV (As := [.int y71]) (rest := [.ref (q 47)]) (d := 2) (mc := 0) (ms := 0) (ci := 10) C0 V rfl LV_Dir_32 (X_Dir_figureAt l D g q u63  y71 hI t1_0 hT1 t2_0 hT2  _) rfl rfl hO65 rfl hl.1 rfl (Nat.le_of_ble_eq_true rfl) ⟨by decide, by decide⟩ ⟨Nat.le_of_ble_eq_true rfl, Nat.le_of_ble_eq_true rfl⟩ d_6_2_31) (fun a102 u100 H locs hp101 V => ?_)
  obtain ⟨rfl, b103, b104, hE105⟩ := hp101
  have e106 : a102 = (F_Dir_figureAt y71 t1_0 t2_0) := hE105
  replace b103 : q_F (0 ≤ a102.toInt + 1) := b103
  replace b104 : q_F (a102.toInt ≤ 9) := b104
  refine q_join (X := Int32 × Int32 × Int32 × Int32 × Int32 × Int32 × Int32 × Int32) (fun z H locs ls w136 => q_F (0 ≤ z.1.toInt + 1) ∧ q_F (z.1.toInt ≤ 9999) ∧ q_F (a102.toInt ≤ z.1.toInt + 9) ∧ q_F (z.1.toInt ≤ a102.toInt + 9998) ∧ q_F (y66.toInt ≤ z.2.1.toInt) ∧ q_F (z.2.1.toInt ≤ y66.toInt) ∧ q_F (y67.toInt ≤ z.2.2.1.toInt) ∧ q_F (z.2.2.1.toInt ≤ y67.toInt) ∧ q_F (y68.toInt ≤ z.2.2.2.1.toInt) ∧ q_F (z.2.2.2.1.toInt ≤ y68.toInt) ∧ q_F (y69.toInt ≤ z.2.2.2.2.1.toInt) ∧ q_F (z.2.2.2.2.1.toInt ≤ y69.toInt) ∧ q_F (y70.toInt ≤ z.2.2.2.2.2.1.toInt) ∧ q_F (z.2.2.2.2.2.1.toInt ≤ y70.toInt) ∧ q_F (y71.toInt ≤ z.2.2.2.2.2.2.1.toInt) ∧ q_F (y72.toInt ≤ z.2.2.2.2.2.2.2.toInt) ∧ q_F (z.2.2.2.2.2.2.2.toInt ≤ y72.toInt) ∧ q_Wd D g (va_A ws sz) s w136 H locs ∧ lv_has ls 2 [(0, .ref (q 47))] ∧ q_I (nsh g q) q w136 ∧ q_un ws w136 [47] ∧ w136[47]? = (some (q 47, .inr (10, [.int z.2.1, .int z.2.2.1, .int z.2.2.2.1, .int z.2.2.2.2.1, .int z.2.2.2.2.2.1, .int z.2.2.2.2.2.2.1, .ref (q 1), .int z.2.2.2.2.2.2.2])) : Option (Nat × va_E)) ∧ w136[1]? = (some (q 1, .inr (1, [.ref (q 2), .int 4100, .int t1_0])) : Option (Nat × va_E)) ∧ w136[2]? = (some (q 2, .inl (g 1, (513 : Int32).toNatClampNeg, .inr (.inl t2_0))) : Option (Nat × va_E)) ∧ F_Dir_parse_J45 x2 t0_0 t0_1 t0_2 t0_3 t0_4 t0_5 t0_6 t1_0 t2_0 p49 p86 z.1 z.2.1 z.2.2.1 z.2.2.2.1 z.2.2.2.2.1 z.2.2.2.2.2.1 z.2.2.2.2.2.2.1 z.2.2.2.2.2.2.2 = (F_Dir_parse x2 t0_0 t0_1 t0_2 t0_3 t0_4 t0_5 t0_6 t1_0 t2_0)) (fun z => [.int z.1, .ref (q 47)]) 45 0 0 ?_ ?_
  ·
    rintro ⟨lx107, lx108, lx109, lx110, lx111, lx112, lx113, lx114⟩ H locs ls w136 ⟨i119, i120, i121, i122, i123, i124, i125, i126, i127, i128, i129, i130, i131, i132, i133, i134, i135, V, hl, hI, hF, hO115, hO116, hA117, hR137⟩
    replace i119 : q_F (0 ≤ lx107.toInt + 1) := i119
    replace i120 : q_F (lx107.toInt ≤ 9999) := i120
    replace i121 : q_F (a102.toInt ≤ lx107.toInt + 9) := i121
    replace i122 : q_F (lx107.toInt ≤ a102.toInt + 9998) := i122
    replace i123 : q_F (y66.toInt ≤ lx108.toInt) := i123
    replace i124 : q_F (lx108.toInt ≤ y66.toInt) := i124
    replace i125 : q_F (y67.toInt ≤ lx109.toInt) := i125
    replace i126 : q_F (lx109.toInt ≤ y67.toInt) := i126
    replace i127 : q_F (y68.toInt ≤ lx110.toInt) := i127
    replace i128 : q_F (lx110.toInt ≤ y68.toInt) := i128
    replace i129 : q_F (y69.toInt ≤ lx111.toInt) := i129
    replace i130 : q_F (lx111.toInt ≤ y69.toInt) := i130
    replace i131 : q_F (y70.toInt ≤ lx112.toInt) := i131
    replace i132 : q_F (lx112.toInt ≤ y70.toInt) := i132
    replace i133 : q_F (y71.toInt ≤ lx113.toInt) := i133
    replace i134 : q_F (y72.toInt ≤ lx114.toInt) := i134
    replace i135 : q_F (lx114.toInt ≤ y72.toInt) := i135
    replace hl : lv_has ls 2 [(0, .ref (q 47))] := hl
    replace hO115 : w136[47]? = (some (q 47, .inr (10, [.int lx108, .int lx109, .int lx110, .int lx111, .int lx112, .int lx113, .ref (q 1), .int lx114])) : Option (Nat × va_E)) := hO115
    replace hO116 : w136[1]? = (some (q 1, .inr (1, [.ref (q 2), .int 4100, .int t1_0])) : Option (Nat × va_E)) := hO116
    replace hA117 : w136[2]? = (some (q 2, .inl (g 1, (513 : Int32).toNatClampNeg, .inr (.inl t2_0))) : Option (Nat × va_E)) := hA117
    refine q_put (ci := 10) (j := 2) (v := .int lx107) (ty := .int) C0 V i_Dir o_Dir n_Dir rfl rfl hO115 (by decide) w_357 rfl rfl rfl rfl (Nat.le_of_ble_eq_true rfl) d_6_2_45 (fun H locs w142 hu143 hO115 V => ?_)
    replace hO115 : w142[47]? = (some (q 47, .inr (10, [.int lx108, .int lx109, .int lx107, .int lx111, .int lx112, .int lx113, .ref (q 1), .int lx114])) : Option (Nat × va_E)) := hO115
    replace hI := n_p47 hI hu143 hO115 ⟨(by have t1 : 0 ≤ lx107.toInt + 1 := i119; omega), (by have t1 : lx107.toInt ≤ 9999 := i120; omega)⟩ ⟨(by have t1 : -1 ≤ t0_3.toInt ∧ t0_3.toInt ≤ 9999 := btt0_3; have t2 : t0_3.toInt ≤ y31.toInt := b41; have t3 : y31.toInt ≤ y69.toInt := b79; have t4 : y69.toInt ≤ lx111.toInt := i129; omega), (by have t1 : -1 ≤ t0_3.toInt ∧ t0_3.toInt ≤ 9999 := btt0_3; have t2 : y31.toInt ≤ t0_3.toInt := b42; have t3 : y69.toInt ≤ y31.toInt := b80; have t4 : lx111.toInt ≤ y69.toInt := i130; omega)⟩ ⟨(by have t1 : 0 ≤ y72.toInt := b73; have t2 : y72.toInt ≤ lx114.toInt := i134; omega), (by have t1 : y72.toInt ≤ 1 := b74; have t2 : lx114.toInt ≤ y72.toInt := i135; omega)⟩
    replace hO116 := (hu143 _ (by decide)).trans hO116
    replace hA117 := (hu143 _ (by decide)).trans hA117
    replace hF := q_us hF hu143 (by simp)
    refine lv_aload_n hx hb d_6_2_48 rfl (lv_at hl 0 rfl) ?_
    refine lv_iconst (v := (-1)) hx hb d_6_2_49 (by decide) ?_
    refine q_put (ci := 10) (j := 3) (v := .int (-1)) (ty := .int) C0 V i_Dir o_Dir n_Dir rfl rfl hO115 (by decide) w_359 rfl rfl rfl rfl (Nat.le_of_ble_eq_true rfl) d_6_2_50 (fun H locs w144 hu145 hO115 V => ?_)
    replace hO115 : w144[47]? = (some (q 47, .inr (10, [.int lx108, .int lx109, .int lx107, .int (-1), .int lx112, .int lx113, .ref (q 1), .int lx114])) : Option (Nat × va_E)) := hO115
    replace hI := n_p47 hI hu145 hO115 ⟨(by have t1 : 0 ≤ lx107.toInt + 1 := i119; omega), (by have t1 : lx107.toInt ≤ 9999 := i120; omega)⟩ ⟨(by have z9 : (-1 : Int32).toInt = -1 := rfl; omega), (by have z9 : (-1 : Int32).toInt = -1 := rfl; omega)⟩ ⟨(by have t1 : 0 ≤ y72.toInt := b73; have t2 : y72.toInt ≤ lx114.toInt := i134; omega), (by have t1 : y72.toInt ≤ 1 := b74; have t2 : lx114.toInt ≤ y72.toInt := i135; omega)⟩
    replace hO116 := (hu145 _ (by decide)).trans hO116
    replace hA117 := (hu145 _ (by decide)).trans hA117
    replace hF := q_us hF hu145 (by simp)
    refine lv_aload_n hx hb d_6_2_53 rfl (lv_at hl 0 rfl) ?_
    refine q_get (ci := 10) (j := 6) (v := .ref (q 1)) C0 V i_Dir rfl rfl hO115 (by decide) w_365 rfl d_6_2_54 ?_
    refine lv_aload_n hx hb d_6_2_57 rfl (lv_at hl 0 rfl) ?_
    refine q_get (ci := 10) (j := 5) (v := .int lx113) C0 V i_Dir rfl rfl hO115 (by decide) w_363 rfl d_6_2_58 ?_
    refine lv_i2l hx hb d_6_2_61 rfl ?_
    obtain ⟨j146, e147⟩ := q_nm (lx113.toInt64 : Int64)
    refine q_tl (v := j146) e147 ?_
    have b148 : q_F (j146.toInt = lx113.toInt) := (by rw [← e147]; show (lx113.toInt64 : Int64).toInt = lx113.toInt; exact q_i2l rfl)
    refine q_goi V (q_runV (As := [.long j146]) (rest := []) (d := 1) (mc := 0) (ms := 0) (ci := 1) C0 V rfl LV_Dir_46 (X_She_at_p l D g q w144 1 4100 513 4100 (n_h1 g q) j146 hI t1_0 hO116 t2_0 hA117  _) rfl rfl hO116 rfl hl.1 rfl (Nat.le_of_ble_eq_true rfl) ⟨by decide, by decide⟩ ⟨Nat.le_of_ble_eq_true rfl, Nat.le_of_ble_eq_true rfl⟩ d_6_2_62) (fun a151 u149 H locs hp150 V => ?_)
    obtain ⟨rfl, b152, b153, b154, hE155⟩ := hp150
    have e156 : a151 = (F_She_at_p (4100 : Int32) (513 : Int32) (4100 : Int32) j146 t1_0 t2_0) := hE155
    replace b152 : q_F (0 ≤ a151.toInt) := b152
    replace b153 : q_F (a151.toInt ≤ 255) := b153
    replace b154 : q_F (a151.toInt ≤ t1_0.toInt + 254) := b154
    refine lv_bipush (v := 46) hx hb d_6_2_65 (by decide) ?_
    refine q_join (X := Int32 × Int32 × Int32 × Int32 × Int32 × Int32 × Int32) (fun z H locs ls w180 => q_F (0 ≤ z.2.2.2.1.toInt + 1) ∧ q_F (z.2.2.2.1.toInt ≤ 9999) ∧ q_F (lx108.toInt ≤ z.1.toInt) ∧ q_F (z.1.toInt ≤ lx108.toInt) ∧ q_F (lx109.toInt ≤ z.2.1.toInt) ∧ q_F (z.2.1.toInt ≤ lx109.toInt) ∧ q_F (lx107.toInt ≤ z.2.2.1.toInt) ∧ q_F (z.2.2.1.toInt ≤ lx107.toInt) ∧ q_F (lx112.toInt ≤ z.2.2.2.2.1.toInt) ∧ q_F (z.2.2.2.2.1.toInt ≤ lx112.toInt) ∧ q_F (lx114.toInt ≤ z.2.2.2.2.2.2.toInt) ∧ q_F (z.2.2.2.2.2.2.toInt ≤ lx114.toInt) ∧ q_Wd D g (va_A ws sz) s w180 H locs ∧ lv_has ls 2 [(0, .ref (q 47))] ∧ q_I (nsh g q) q w180 ∧ q_un ws w180 [47] ∧ w180[47]? = (some (q 47, .inr (10, [.int z.1, .int z.2.1, .int z.2.2.1, .int z.2.2.2.1, .int z.2.2.2.2.1, .int z.2.2.2.2.2.1, .ref (q 1), .int z.2.2.2.2.2.2])) : Option (Nat × va_E)) ∧ w180[1]? = (some (q 1, .inr (1, [.ref (q 2), .int 4100, .int t1_0])) : Option (Nat × va_E)) ∧ w180[2]? = (some (q 2, .inl (g 1, (513 : Int32).toNatClampNeg, .inr (.inl t2_0))) : Option (Nat × va_E)) ∧ F_Dir_parse_J101 x2 t0_0 t0_1 t0_2 t0_3 t0_4 t0_5 t0_6 t1_0 t2_0 p49 p86 lx107 lx108 lx109 lx110 lx111 lx112 lx113 lx114 z.1 z.2.1 z.2.2.1 z.2.2.2.1 z.2.2.2.2.1 z.2.2.2.2.2.1 z.2.2.2.2.2.2 = (F_Dir_parse x2 t0_0 t0_1 t0_2 t0_3 t0_4 t0_5 t0_6 t1_0 t2_0)) (fun z => []) 101 0 0 ?_ ?_
    ·
      rintro ⟨lx157, lx158, lx159, lx160, lx161, lx162, lx163⟩ H locs ls w180 ⟨i168, i169, i170, i171, i172, i173, i174, i175, i176, i177, i178, i179, V, hl, hI, hF, hO164, hO165, hA166, hR181⟩
      replace i168 : q_F (0 ≤ lx160.toInt + 1) := i168
      replace i169 : q_F (lx160.toInt ≤ 9999) := i169
      replace i170 : q_F (lx108.toInt ≤ lx157.toInt) := i170
      replace i171 : q_F (lx157.toInt ≤ lx108.toInt) := i171
      replace i172 : q_F (lx109.toInt ≤ lx158.toInt) := i172
      replace i173 : q_F (lx158.toInt ≤ lx109.toInt) := i173
      replace i174 : q_F (lx107.toInt ≤ lx159.toInt) := i174
      replace i175 : q_F (lx159.toInt ≤ lx107.toInt) := i175
      replace i176 : q_F (lx112.toInt ≤ lx161.toInt) := i176
      replace i177 : q_F (lx161.toInt ≤ lx112.toInt) := i177
      replace i178 : q_F (lx114.toInt ≤ lx163.toInt) := i178
      replace i179 : q_F (lx163.toInt ≤ lx114.toInt) := i179
      replace hl : lv_has ls 2 [(0, .ref (q 47))] := hl
      replace hO164 : w180[47]? = (some (q 47, .inr (10, [.int lx157, .int lx158, .int lx159, .int lx160, .int lx161, .int lx162, .ref (q 1), .int lx163])) : Option (Nat × va_E)) := hO164
      replace hO165 : w180[1]? = (some (q 1, .inr (1, [.ref (q 2), .int 4100, .int t1_0])) : Option (Nat × va_E)) := hO165
      replace hA166 : w180[2]? = (some (q 2, .inl (g 1, (513 : Int32).toNatClampNeg, .inr (.inl t2_0))) : Option (Nat × va_E)) := hA166
      refine lv_aload_n hx hb d_6_2_101 rfl (lv_at hl 0 rfl) ?_
      refine lv_aload_n hx hb d_6_2_102 rfl (lv_at hl 0 rfl) ?_
      refine q_get (ci := 10) (j := 5) (v := .int lx162) C0 V i_Dir rfl rfl hO164 (by decide) w_363 rfl d_6_2_103 ?_
      refine lv_aload_n hx hb d_6_2_106 rfl (lv_at hl 0 rfl) ?_
      refine q_get (ci := 10) (j := 6) (v := .ref (q 1)) C0 V i_Dir rfl rfl hO164 (by decide) w_365 rfl d_6_2_107 ?_
      refine q_get (ci := 1) (j := 2) (v := .int t1_0) C0 V i_She rfl rfl hO165 (by decide) w_57 rfl d_6_2_110 ?_
      refine lv_icmp_ge (tgt := 131) hx hb d_6_2_113 (by decide) (fun c186 => ?_) (fun c186 => ?_)
      ·
        have b187 : q_F (t1_0.toInt ≤ lx162.toInt) := (q_leI c186)
        refine lv_iconst (v := (-1)) hx hb d_6_2_131 (by decide) ?_
        refine q_put (ci := 10) (j := 4) (v := .int (-1)) (ty := .int) C0 V i_Dir o_Dir n_Dir rfl rfl hO164 (by decide) w_361 rfl rfl rfl rfl (Nat.le_of_ble_eq_true rfl) d_6_2_132 (fun H locs w188 hu189 hO164 V => ?_)
        replace hO164 : w188[47]? = (some (q 47, .inr (10, [.int lx157, .int lx158, .int lx159, .int lx160, .int (-1), .int lx162, .ref (q 1), .int lx163])) : Option (Nat × va_E)) := hO164
        replace hI := n_p47 hI hu189 hO164 ⟨(by have t1 : 0 ≤ lx107.toInt + 1 := i119; have t2 : lx107.toInt ≤ lx159.toInt := i174; omega), (by have t1 : lx107.toInt ≤ 9999 := i120; have t2 : lx159.toInt ≤ lx107.toInt := i175; omega)⟩ ⟨(by have t1 : 0 ≤ lx160.toInt + 1 := i168; omega), (by have t1 : lx160.toInt ≤ 9999 := i169; omega)⟩ ⟨(by have t1 : 0 ≤ y72.toInt := b73; have t2 : y72.toInt ≤ lx114.toInt := i134; have t3 : lx114.toInt ≤ lx163.toInt := i178; omega), (by have t1 : y72.toInt ≤ 1 := b74; have t2 : lx114.toInt ≤ y72.toInt := i135; have t3 : lx163.toInt ≤ lx114.toInt := i179; omega)⟩
        replace hO165 := (hu189 _ (by decide)).trans hO165
        replace hA166 := (hu189 _ (by decide)).trans hA166
        replace hF := q_us hF hu189 (by simp)
        refine lv_aload_n hx hb d_6_2_135 rfl (lv_at hl 0 rfl) ?_
        refine lv_dup hx hb d_6_2_136 rfl ?_
        refine q_get (ci := 10) (j := 5) (v := .int lx162) C0 V i_Dir rfl rfl hO164 (by decide) w_363 rfl d_6_2_137 ?_
        refine lv_iconst (v := 1) hx hb d_6_2_140 (by decide) ?_
        refine lv_iadd hx hb d_6_2_141 ?_
        obtain ⟨a190, e191⟩ := q_nm (lx162 + 1 : Int32)
        refine q_ti (v := a190) e191 ?_
        refine q_put (ci := 10) (j := 5) (v := .int a190) (ty := .int) C0 V i_Dir o_Dir n_Dir rfl rfl hO164 (by decide) w_363 rfl rfl rfl rfl (Nat.le_of_ble_eq_true rfl) d_6_2_142 (fun H locs w192 hu193 hO164 V => ?_)
        replace hO164 : w192[47]? = (some (q 47, .inr (10, [.int lx157, .int lx158, .int lx159, .int lx160, .int (-1), .int a190, .ref (q 1), .int lx163])) : Option (Nat × va_E)) := hO164
        replace hI := n_p47 hI hu193 hO164 ⟨(by have t1 : 0 ≤ lx107.toInt + 1 := i119; have t2 : lx107.toInt ≤ lx159.toInt := i174; omega), (by have t1 : lx107.toInt ≤ 9999 := i120; have t2 : lx159.toInt ≤ lx107.toInt := i175; omega)⟩ ⟨(by have t1 : 0 ≤ lx160.toInt + 1 := i168; omega), (by have t1 : lx160.toInt ≤ 9999 := i169; omega)⟩ ⟨(by have t1 : 0 ≤ y72.toInt := b73; have t2 : y72.toInt ≤ lx114.toInt := i134; have t3 : lx114.toInt ≤ lx163.toInt := i178; omega), (by have t1 : y72.toInt ≤ 1 := b74; have t2 : lx114.toInt ≤ y72.toInt := i135; have t3 : lx163.toInt ≤ lx114.toInt := i179; omega)⟩
        replace hO165 := (hu193 _ (by decide)).trans hO165
        replace hA166 := (hu193 _ (by decide)).trans hA166
        replace hF := q_us hF hu193 (by simp)
        exact q_retv C0 V (⟨hI, hF, lx157, lx158, lx159, lx160, (-1), a190, lx163, hO164, (show 0 ≤ lx157.toInt + 1 from (by have z14 : (-1 : Int32).toInt = -1 := rfl; have t1 : 0 ≤ y28.toInt + 1 := b35; have t2 : y28.toInt ≤ y66.toInt := b75; have t3 : y66.toInt ≤ lx108.toInt := i123; have t4 : lx108.toInt ≤ lx157.toInt := i170; omega)), (show lx157.toInt ≤ 9999 from (by have z14 : (-1 : Int32).toInt = -1 := rfl; have t1 : y28.toInt ≤ 9999 := b36; have t2 : y66.toInt ≤ y28.toInt := b76; have t3 : lx108.toInt ≤ y66.toInt := i124; have t4 : lx157.toInt ≤ lx108.toInt := i171; omega)), (show 0 ≤ lx159.toInt + 1 from (by have z14 : (-1 : Int32).toInt = -1 := rfl; have t1 : 0 ≤ lx107.toInt + 1 := i119; have t2 : lx107.toInt ≤ lx159.toInt := i174; omega)), (show lx159.toInt ≤ 9999 from (by have z14 : (-1 : Int32).toInt = -1 := rfl; have t1 : lx107.toInt ≤ 9999 := i120; have t2 : lx159.toInt ≤ lx107.toInt := i175; omega)), (show 0 ≤ lx160.toInt + 1 from (by have z14 : (-1 : Int32).toInt = -1 := rfl; have t1 : 0 ≤ lx160.toInt + 1 := i168; omega)), (show lx160.toInt ≤ 9999 from (by have z14 : (-1 : Int32).toInt = -1 := rfl; have t1 : lx160.toInt ≤ 9999 := i169; omega)), (show 0 ≤ (-1 : Int32).toInt + 1 from (by have z14 : (-1 : Int32).toInt = -1 := rfl; omega)), (show (-1 : Int32).toInt ≤ 255 from (by have z14 : (-1 : Int32).toInt = -1 := rfl; omega)), (show 0 ≤ lx163.toInt from (by have z14 : (-1 : Int32).toInt = -1 := rfl; have t1 : 0 ≤ y72.toInt := b73; have t2 : y72.toInt ≤ lx114.toInt := i134; have t3 : lx114.toInt ≤ lx163.toInt := i178; omega)), (show lx163.toInt ≤ 1 from (by have z14 : (-1 : Int32).toInt = -1 := rfl; have t1 : y72.toInt ≤ 1 := b74; have t2 : lx114.toInt ≤ y72.toInt := i135; have t3 : lx163.toInt ≤ lx114.toInt := i179; omega)), (show (-1 : Int32).toInt ≤ t1_0.toInt + 254 from (by have z14 : (-1 : Int32).toInt = -1 := rfl; have t1 : 0 ≤ t1_0.toInt ∧ t1_0.toInt ≤ 4100 := btt1_0; omega)), (show (lx157, lx158, lx159, lx160, (-1 : Int32), a190, lx163) = (F_Dir_parse x2 t0_0 t0_1 t0_2 t0_3 t0_4 t0_5 t0_6 t1_0 t2_0) from Eq.trans (by rw [← e191, F_Dir_parse_J101.eq_1, if_pos c186]) hR181)⟩) d_6_2_145
      ·
        have b194 : q_F (lx162.toInt < t1_0.toInt) := (q_nleI c186)
        refine lv_aload_n hx hb d_6_2_116 rfl (lv_at hl 0 rfl) ?_
        refine q_get (ci := 10) (j := 6) (v := .ref (q 1)) C0 V i_Dir rfl rfl hO164 (by decide) w_365 rfl d_6_2_117 ?_
        refine lv_aload_n hx hb d_6_2_120 rfl (lv_at hl 0 rfl) ?_
        refine q_get (ci := 10) (j := 5) (v := .int lx162) C0 V i_Dir rfl rfl hO164 (by decide) w_363 rfl d_6_2_121 ?_
        refine lv_i2l hx hb d_6_2_124 rfl ?_
        obtain ⟨j195, e196⟩ := q_nm (lx162.toInt64 : Int64)
        refine q_tl (v := j195) e196 ?_
        have b197 : q_F (j195.toInt = lx162.toInt) := (by rw [← e196]; show (lx162.toInt64 : Int64).toInt = lx162.toInt; exact q_i2l rfl)
        refine q_goi V (q_runV (As := [.long j195]) (rest := [.ref (q 47)]) (d := 1) (mc := 0) (ms := 0) (ci := 1) C0 V rfl LV_Dir_46 (X_She_at_p l D g q w180 1 4100 513 4100 (n_h1 g q) j195 hI t1_0 hO165 t2_0 hA166  _) rfl rfl hO165 rfl hl.1 rfl (Nat.le_of_ble_eq_true rfl) ⟨by decide, by decide⟩ ⟨Nat.le_of_ble_eq_true rfl, Nat.le_of_ble_eq_true rfl⟩ d_6_2_125) (fun a200 u198 H locs hp199 V => ?_)
        obtain ⟨rfl, b201, b202, b203, hE204⟩ := hp199
        have e205 : a200 = (F_She_at_p (4100 : Int32) (513 : Int32) (4100 : Int32) j195 t1_0 t2_0) := hE204
        replace b201 : q_F (0 ≤ a200.toInt) := b201
        replace b202 : q_F (a200.toInt ≤ 255) := b202
        replace b203 : q_F (a200.toInt ≤ t1_0.toInt + 254) := b203
        refine lv_goto (tgt := 132) hx hb d_6_2_128 (by decide) ?_
        refine q_put (ci := 10) (j := 4) (v := .int a200) (ty := .int) C0 V i_Dir o_Dir n_Dir rfl rfl hO164 (by decide) w_361 rfl rfl rfl rfl (Nat.le_of_ble_eq_true rfl) d_6_2_132 (fun H locs w206 hu207 hO164 V => ?_)
        replace hO164 : w206[47]? = (some (q 47, .inr (10, [.int lx157, .int lx158, .int lx159, .int lx160, .int a200, .int lx162, .ref (q 1), .int lx163])) : Option (Nat × va_E)) := hO164
        replace hI := n_p47 hI hu207 hO164 ⟨(by have t1 : 0 ≤ lx107.toInt + 1 := i119; have t2 : lx107.toInt ≤ lx159.toInt := i174; omega), (by have t1 : lx107.toInt ≤ 9999 := i120; have t2 : lx159.toInt ≤ lx107.toInt := i175; omega)⟩ ⟨(by have t1 : 0 ≤ lx160.toInt + 1 := i168; omega), (by have t1 : lx160.toInt ≤ 9999 := i169; omega)⟩ ⟨(by have t1 : 0 ≤ y72.toInt := b73; have t2 : y72.toInt ≤ lx114.toInt := i134; have t3 : lx114.toInt ≤ lx163.toInt := i178; omega), (by have t1 : y72.toInt ≤ 1 := b74; have t2 : lx114.toInt ≤ y72.toInt := i135; have t3 : lx163.toInt ≤ lx114.toInt := i179; omega)⟩
        replace hO165 := (hu207 _ (by decide)).trans hO165
        replace hA166 := (hu207 _ (by decide)).trans hA166
        replace hF := q_us hF hu207 (by simp)
        refine lv_aload_n hx hb d_6_2_135 rfl (lv_at hl 0 rfl) ?_
        refine lv_dup hx hb d_6_2_136 rfl ?_
        refine q_get (ci := 10) (j := 5) (v := .int lx162) C0 V i_Dir rfl rfl hO164 (by decide) w_363 rfl d_6_2_137 ?_
        refine lv_iconst (v := 1) hx hb d_6_2_140 (by decide) ?_
        refine lv_iadd hx hb d_6_2_141 ?_
        obtain ⟨a208, e209⟩ := q_nm (lx162 + 1 : Int32)
        refine q_ti (v := a208) e209 ?_
        have b210 : q_F (a208.toInt = lx162.toInt + 1) := (by rw [← e209]; show (lx162 + 1 : Int32).toInt = lx162.toInt + 1; exact q_addI (x := lx162.toInt) (y := 1) rfl (by decide) (by have _ := q_lo32 (x := lx162); have _ := q_hi32 (x := lx162); have t1 : lx162.toInt < t1_0.toInt := b194; have _ := q_lo32 (x := t1_0); have _ := q_hi32 (x := t1_0); omega) (by have _ := q_lo32 (x := lx162); have _ := q_hi32 (x := lx162); have t1 : lx162.toInt < t1_0.toInt := b194; have _ := q_lo32 (x := t1_0); have _ := q_hi32 (x := t1_0); omega))
        refine q_put (ci := 10) (j := 5) (v := .int a208) (ty := .int) C0 V i_Dir o_Dir n_Dir rfl rfl hO164 (by decide) w_363 rfl rfl rfl rfl (Nat.le_of_ble_eq_true rfl) d_6_2_142 (fun H locs w211 hu212 hO164 V => ?_)
        replace hO164 : w211[47]? = (some (q 47, .inr (10, [.int lx157, .int lx158, .int lx159, .int lx160, .int a200, .int a208, .ref (q 1), .int lx163])) : Option (Nat × va_E)) := hO164
        replace hI := n_p47 hI hu212 hO164 ⟨(by have t1 : 0 ≤ lx107.toInt + 1 := i119; have t2 : lx107.toInt ≤ lx159.toInt := i174; omega), (by have t1 : lx107.toInt ≤ 9999 := i120; have t2 : lx159.toInt ≤ lx107.toInt := i175; omega)⟩ ⟨(by have t1 : 0 ≤ lx160.toInt + 1 := i168; omega), (by have t1 : lx160.toInt ≤ 9999 := i169; omega)⟩ ⟨(by have t1 : 0 ≤ y72.toInt := b73; have t2 : y72.toInt ≤ lx114.toInt := i134; have t3 : lx114.toInt ≤ lx163.toInt := i178; omega), (by have t1 : y72.toInt ≤ 1 := b74; have t2 : lx114.toInt ≤ y72.toInt := i135; have t3 : lx163.toInt ≤ lx114.toInt := i179; omega)⟩
        replace hO165 := (hu212 _ (by decide)).trans hO165
        replace hA166 := (hu212 _ (by decide)).trans hA166
        replace hF := q_us hF hu212 (by simp)
        exact q_retv C0 V (⟨hI, hF, lx157, lx158, lx159, lx160, a200, a208, lx163, hO164, (show 0 ≤ lx157.toInt + 1 from (by have t1 : 0 ≤ y28.toInt + 1 := b35; have t2 : y28.toInt ≤ y66.toInt := b75; have t3 : y66.toInt ≤ lx108.toInt := i123; have t4 : lx108.toInt ≤ lx157.toInt := i170; omega)), (show lx157.toInt ≤ 9999 from (by have t1 : y28.toInt ≤ 9999 := b36; have t2 : y66.toInt ≤ y28.toInt := b76; have t3 : lx108.toInt ≤ y66.toInt := i124; have t4 : lx157.toInt ≤ lx108.toInt := i171; omega)), (show 0 ≤ lx159.toInt + 1 from (by have t1 : 0 ≤ lx107.toInt + 1 := i119; have t2 : lx107.toInt ≤ lx159.toInt := i174; omega)), (show lx159.toInt ≤ 9999 from (by have t1 : lx107.toInt ≤ 9999 := i120; have t2 : lx159.toInt ≤ lx107.toInt := i175; omega)), (show 0 ≤ lx160.toInt + 1 from (by have t1 : 0 ≤ lx160.toInt + 1 := i168; omega)), (show lx160.toInt ≤ 9999 from (by have t1 : lx160.toInt ≤ 9999 := i169; omega)), (show 0 ≤ a200.toInt + 1 from (by have t1 : 0 ≤ a200.toInt := b201; omega)), (show a200.toInt ≤ 255 from (by have t1 : a200.toInt ≤ 255 := b202; omega)), (show 0 ≤ lx163.toInt from (by have t1 : 0 ≤ y72.toInt := b73; have t2 : y72.toInt ≤ lx114.toInt := i134; have t3 : lx114.toInt ≤ lx163.toInt := i178; omega)), (show lx163.toInt ≤ 1 from (by have t1 : y72.toInt ≤ 1 := b74; have t2 : lx114.toInt ≤ y72.toInt := i135; have t3 : lx163.toInt ≤ lx114.toInt := i179; omega)), (show a200.toInt ≤ t1_0.toInt + 254 from (by have t1 : a200.toInt ≤ t1_0.toInt + 254 := b203; omega)), (show (lx157, lx158, lx159, lx160, a200, a208, lx163) = (F_Dir_parse x2 t0_0 t0_1 t0_2 t0_3 t0_4 t0_5 t0_6 t1_0 t2_0) from Eq.trans (by rw [← e209, e205, ← e196, F_Dir_parse_J101.eq_1, if_neg c186]) hR181)⟩) d_6_2_145
    ·
      intro J167
      refine lv_icmp_ne (tgt := 101) hx hb d_6_2_67 (by decide) (fun c213 => ?_) (fun c213 => ?_)
      ·
        have b214 : q_F (a151.toInt ≠ 46) := (q_neI c213)
        exact J167 ((lx108 : Int32), (lx109 : Int32), (lx107 : Int32), ((-1) : Int32), (lx112 : Int32), (lx113 : Int32), (lx114 : Int32)) _ _ _ _ ⟨(show q_F (0 ≤ (-1) + 1) from (show 0 ≤ (-1) + 1 from by omega)), (show q_F ((-1) ≤ 9999) from (show (-1) ≤ 9999 from by omega)), (show q_F (lx108.toInt ≤ lx108.toInt) from (show lx108.toInt ≤ lx108.toInt from by omega)), (show q_F (lx108.toInt ≤ lx108.toInt) from (show lx108.toInt ≤ lx108.toInt from by omega)), (show q_F (lx109.toInt ≤ lx109.toInt) from (show lx109.toInt ≤ lx109.toInt from by omega)), (show q_F (lx109.toInt ≤ lx109.toInt) from (show lx109.toInt ≤ lx109.toInt from by omega)), (show q_F (lx107.toInt ≤ lx107.toInt) from (show lx107.toInt ≤ lx107.toInt from by omega)), (show q_F (lx107.toInt ≤ lx107.toInt) from (show lx107.toInt ≤ lx107.toInt from by omega)), (show q_F (lx112.toInt ≤ lx112.toInt) from (show lx112.toInt ≤ lx112.toInt from by omega)), (show q_F (lx112.toInt ≤ lx112.toInt) from (show lx112.toInt ≤ lx112.toInt from by omega)), (show q_F (lx114.toInt ≤ lx114.toInt) from (show lx114.toInt ≤ lx114.toInt from by omega)), (show q_F (lx114.toInt ≤ lx114.toInt) from (show lx114.toInt ≤ lx114.toInt from by omega)), V, q_lw hl (q_lw1 0 rfl q_lw0), hI, hF, hO115, hO116, hA117, (show F_Dir_parse_J101 x2 t0_0 t0_1 t0_2 t0_3 t0_4 t0_5 t0_6 t1_0 t2_0 p49 p86 lx107 lx108 lx109 lx110 lx111 lx112 lx113 lx114 lx108 lx109 lx107 (-1) lx112 lx113 lx114 = (F_Dir_parse x2 t0_0 t0_1 t0_2 t0_3 t0_4 t0_5 t0_6 t1_0 t2_0) from Eq.trans (by have c213x := c213; rw [e156, ← e147] at c213x; rw [F_Dir_parse_J45.eq_1, if_neg c213x]) hR137)⟩
      ·
        have b215 : q_F (a151.toInt = 46) := (q_eqI c213)
        refine lv_aload_n hx hb d_6_2_70 rfl (lv_at hl 0 rfl) ?_
        refine lv_aload_n hx hb d_6_2_71 rfl (lv_at hl 0 rfl) ?_
        refine q_get (ci := 10) (j := 5) (v := .int lx113) C0 V i_Dir rfl rfl hO115 (by decide) w_363 rfl d_6_2_72 ?_
        refine lv_iconst (v := 1) hx hb d_6_2_75 (by decide) ?_
        refine lv_iadd hx hb d_6_2_76 ?_
        obtain ⟨a216, e217⟩ := q_nm (lx113 + 1 : Int32)
        refine q_ti (v := a216) e217 ?_
        refine q_goi V (q_runV (As := [.int a216]) (rest := []) (d := 2) (mc := 0) (ms := 0) (ci := 10) C0 V rfl LV_Dir_32 (X_Dir_figureAt l D g q w144  a216 hI t1_0 hO116 t2_0 hA117  _) rfl rfl hO115 rfl hl.1 rfl (Nat.le_of_ble_eq_true rfl) ⟨by decide, by decide⟩ ⟨Nat.le_of_ble_eq_true rfl, Nat.le_of_ble_eq_true rfl⟩ d_6_2_77) (fun a220 u218 H locs hp219 V => ?_)
        obtain ⟨rfl, b221, b222, hE223⟩ := hp219
        have e224 : a220 = (F_Dir_figureAt a216 t1_0 t2_0) := hE223
        replace b221 : q_F (0 ≤ a220.toInt + 1) := b221
        replace b222 : q_F (a220.toInt ≤ 9) := b222
        refine lv_if_lt (tgt := 101) hx hb d_6_2_80 (by decide) (fun c225 => ?_) (fun c225 => ?_)
        ·
          have b226 : q_F (a220.toInt < 0) := (q_ltI c225)
          exact J167 ((lx108 : Int32), (lx109 : Int32), (lx107 : Int32), ((-1) : Int32), (lx112 : Int32), (lx113 : Int32), (lx114 : Int32)) _ _ _ _ ⟨(show q_F (0 ≤ (-1) + 1) from (show 0 ≤ (-1) + 1 from by omega)), (show q_F ((-1) ≤ 9999) from (show (-1) ≤ 9999 from by omega)), (show q_F (lx108.toInt ≤ lx108.toInt) from (show lx108.toInt ≤ lx108.toInt from by omega)), (show q_F (lx108.toInt ≤ lx108.toInt) from (show lx108.toInt ≤ lx108.toInt from by omega)), (show q_F (lx109.toInt ≤ lx109.toInt) from (show lx109.toInt ≤ lx109.toInt from by omega)), (show q_F (lx109.toInt ≤ lx109.toInt) from (show lx109.toInt ≤ lx109.toInt from by omega)), (show q_F (lx107.toInt ≤ lx107.toInt) from (show lx107.toInt ≤ lx107.toInt from by omega)), (show q_F (lx107.toInt ≤ lx107.toInt) from (show lx107.toInt ≤ lx107.toInt from by omega)), (show q_F (lx112.toInt ≤ lx112.toInt) from (show lx112.toInt ≤ lx112.toInt from by omega)), (show q_F (lx112.toInt ≤ lx112.toInt) from (show lx112.toInt ≤ lx112.toInt from by omega)), (show q_F (lx114.toInt ≤ lx114.toInt) from (show lx114.toInt ≤ lx114.toInt from by omega)), (show q_F (lx114.toInt ≤ lx114.toInt) from (show lx114.toInt ≤ lx114.toInt from by omega)), V, q_lw hl (q_lw1 0 rfl q_lw0), hI, hF, hO115, hO116, hA117, (show F_Dir_parse_J101 x2 t0_0 t0_1 t0_2 t0_3 t0_4 t0_5 t0_6 t1_0 t2_0 p49 p86 lx107 lx108 lx109 lx110 lx111 lx112 lx113 lx114 lx108 lx109 lx107 (-1) lx112 lx113 lx114 = (F_Dir_parse x2 t0_0 t0_1 t0_2 t0_3 t0_4 t0_5 t0_6 t1_0 t2_0) from Eq.trans (by have c213x := c213; rw [e156, ← e147] at c213x; have c225x := c225; rw [e224, ← e217] at c225x; rw [F_Dir_parse_J45.eq_1, if_pos c213x, if_pos c225x]) hR137)⟩
        ·
          have b227 : q_F (0 ≤ a220.toInt) := (q_nltI c225)
          refine lv_aload_n hx hb d_6_2_83 rfl (lv_at hl 0 rfl) ?_
          refine lv_dup hx hb d_6_2_84 rfl ?_
          refine q_get (ci := 10) (j := 5) (v := .int lx113) C0 V i_Dir rfl rfl hO115 (by decide) w_363 rfl d_6_2_85 ?_
          refine lv_iconst (v := 1) hx hb d_6_2_88 (by decide) ?_
          refine lv_iadd hx hb d_6_2_89 ?_
          obtain ⟨a228, e229⟩ := q_nm (lx113 + 1 : Int32)
          refine q_ti (v := a228) e229 ?_
          refine q_put (ci := 10) (j := 5) (v := .int a228) (ty := .int) C0 V i_Dir o_Dir n_Dir rfl rfl hO115 (by decide) w_363 rfl rfl rfl rfl (Nat.le_of_ble_eq_true rfl) d_6_2_90 (fun H locs w230 hu231 hO115 V => ?_)
          replace hO115 : w230[47]? = (some (q 47, .inr (10, [.int lx108, .int lx109, .int lx107, .int (-1), .int lx112, .int a228, .ref (q 1), .int lx114])) : Option (Nat × va_E)) := hO115
          replace hI := n_p47 hI hu231 hO115 ⟨(by have t1 : 0 ≤ lx107.toInt + 1 := i119; omega), (by have t1 : lx107.toInt ≤ 9999 := i120; omega)⟩ ⟨(by have z9 : (-1 : Int32).toInt = -1 := rfl; omega), (by have z9 : (-1 : Int32).toInt = -1 := rfl; omega)⟩ ⟨(by have t1 : 0 ≤ y72.toInt := b73; have t2 : y72.toInt ≤ lx114.toInt := i134; omega), (by have t1 : y72.toInt ≤ 1 := b74; have t2 : lx114.toInt ≤ y72.toInt := i135; omega)⟩
          replace hO116 := (hu231 _ (by decide)).trans hO116
          replace hA117 := (hu231 _ (by decide)).trans hA117
          replace hF := q_us hF hu231 (by simp)
          refine lv_aload_n hx hb d_6_2_93 rfl (lv_at hl 0 rfl) ?_
          refine lv_aload_n hx hb d_6_2_94 rfl (lv_at hl 0 rfl) ?_
          refine q_goi V (q_runV (As := []) (rest := [.ref (q 47)]) (d := 3) (mc := 0) (ms := 0) (ci := 10) C0 V rfl LV_Dir_36 (X_Dir_takeNumber l D g q w230   hI lx108 lx109 lx107 (-1) lx112 a228 lx114 hO115 t1_0 hO116 t2_0 hA117  _) rfl rfl hO115 rfl hl.1 rfl (Nat.le_of_ble_eq_true rfl) ⟨by decide, by decide⟩ ⟨Nat.le_of_ble_eq_true rfl, Nat.le_of_ble_eq_true rfl⟩ d_6_2_95) (fun a234 u232 H locs hp233 V => ?_)
          obtain ⟨hI, hu259, y236, y237, y238, y239, y240, y241, y242, hO235, b243, b244, b245, b246, b247, b248, b249, b250, b251, b252, b253, b254, b255, b256, b257, hE258⟩ := hp233
          replace hO235 : u232[47]? = (some (q 47, .inr (10, [.int y236, .int y237, .int y238, .int y239, .int y240, .int y241, .ref (q 1), .int y242])) : Option (Nat × va_E)) := hO235
          obtain ⟨p260, e261⟩ : ∃ z, z = (F_Dir_takeNumber lx108 lx109 lx107 (-1 : Int32) lx112 a228 lx114 t1_0 t2_0) := ⟨_, rfl⟩
          have e262 : a234 = p260.1 := congrArg (fun z => z.1) (hE258.trans e261.symm)
          have e263 : y236 = p260.2.1 := congrArg (fun z => z.2.1) (hE258.trans e261.symm)
          have e264 : y237 = p260.2.2.1 := congrArg (fun z => z.2.2.1) (hE258.trans e261.symm)
          have e265 : y238 = p260.2.2.2.1 := congrArg (fun z => z.2.2.2.1) (hE258.trans e261.symm)
          have e266 : y239 = p260.2.2.2.2.1 := congrArg (fun z => z.2.2.2.2.1) (hE258.trans e261.symm)
          have e267 : y240 = p260.2.2.2.2.2.1 := congrArg (fun z => z.2.2.2.2.2.1) (hE258.trans e261.symm)
          have e268 : y241 = p260.2.2.2.2.2.2.1 := congrArg (fun z => z.2.2.2.2.2.2.1) (hE258.trans e261.symm)
          have e269 : y242 = p260.2.2.2.2.2.2.2 := congrArg (fun z => z.2.2.2.2.2.2.2) (hE258.trans e261.symm)
          replace b243 : q_F (0 ≤ a234.toInt) := b243
          replace b244 : q_F (a234.toInt ≤ 9999) := b244
          replace b245 : q_F (lx108.toInt ≤ y236.toInt) := b245
          replace b246 : q_F (y236.toInt ≤ lx108.toInt) := b246
          replace b247 : q_F (lx109.toInt ≤ y237.toInt) := b247
          replace b248 : q_F (y237.toInt ≤ lx109.toInt) := b248
          replace b249 : q_F (lx107.toInt ≤ y238.toInt) := b249
          replace b250 : q_F (y238.toInt ≤ lx107.toInt) := b250
          replace b251 : q_F ((-1) ≤ y239.toInt) := b251
          replace b252 : q_F (y239.toInt ≤ (-1)) := b252
          replace b253 : q_F (lx112.toInt ≤ y240.toInt) := b253
          replace b254 : q_F (y240.toInt ≤ lx112.toInt) := b254
          replace b255 : q_F (a228.toInt ≤ y241.toInt) := b255
          replace b256 : q_F (lx114.toInt ≤ y242.toInt) := b256
          replace b257 : q_F (y242.toInt ≤ lx114.toInt) := b257
          replace hO116 := (hu259 _ (by decide)).trans hO116
          replace hA117 := (hu259 _ (by decide)).trans hA117
          replace hF := q_uc hF hu259 (by simp)
          have hR270 := (show F_Dir_parse_c95 x2 t0_0 t0_1 t0_2 t0_3 t0_4 t0_5 t0_6 t1_0 t2_0 p49 p86 lx107 lx108 lx109 lx110 lx111 lx112 lx113 lx114 p260 = (F_Dir_parse x2 t0_0 t0_1 t0_2 t0_3 t0_4 t0_5 t0_6 t1_0 t2_0) from Eq.trans (by have c213x := c213; rw [e156, ← e147] at c213x; have c225x := c225; rw [e224, ← e217] at c225x; rw [e261, ← e229, F_Dir_parse_J45.eq_1, if_pos c213x, if_neg c225x]) hR137)
          refine q_put (ci := 10) (j := 3) (v := .int a234) (ty := .int) C0 V i_Dir o_Dir n_Dir rfl rfl hO235 (by decide) w_359 rfl rfl rfl rfl (Nat.le_of_ble_eq_true rfl) d_6_2_98 (fun H locs w275 hu276 hO235 V => ?_)
          replace hO235 : w275[47]? = (some (q 47, .inr (10, [.int y236, .int y237, .int y238, .int a234, .int y240, .int y241, .ref (q 1), .int y242])) : Option (Nat × va_E)) := hO235
          replace hI := n_p47 hI hu276 hO235 ⟨(by have t1 : 0 ≤ lx107.toInt + 1 := i119; have t2 : lx107.toInt ≤ y238.toInt := b249; omega), (by have t1 : lx107.toInt ≤ 9999 := i120; have t2 : y238.toInt ≤ lx107.toInt := b250; omega)⟩ ⟨(by have t1 : 0 ≤ a234.toInt := b243; omega), (by have t1 : a234.toInt ≤ 9999 := b244; omega)⟩ ⟨(by have t1 : 0 ≤ y72.toInt := b73; have t2 : y72.toInt ≤ lx114.toInt := i134; have t3 : lx114.toInt ≤ y242.toInt := b256; omega), (by have t1 : y72.toInt ≤ 1 := b74; have t2 : lx114.toInt ≤ y72.toInt := i135; have t3 : y242.toInt ≤ lx114.toInt := b257; omega)⟩
          replace hO116 := (hu276 _ (by decide)).trans hO116
          replace hA117 := (hu276 _ (by decide)).trans hA117
          replace hF := q_us hF hu276 (by simp)
          exact J167 ((y236 : Int32), (y237 : Int32), (y238 : Int32), (a234 : Int32), (y240 : Int32), (y241 : Int32), (y242 : Int32)) _ _ _ _ ⟨(show q_F (0 ≤ a234.toInt + 1) from (show 0 ≤ a234.toInt + 1 from by have t1 : 0 ≤ a234.toInt := b243; omega)), (show q_F (a234.toInt ≤ 9999) from (show a234.toInt ≤ 9999 from by have t1 : a234.toInt ≤ 9999 := b244; omega)), (show q_F (lx108.toInt ≤ y236.toInt) from (show lx108.toInt ≤ y236.toInt from by have t1 : lx108.toInt ≤ y236.toInt := b245; omega)), (show q_F (y236.toInt ≤ lx108.toInt) from (show y236.toInt ≤ lx108.toInt from by have t1 : y236.toInt ≤ lx108.toInt := b246; omega)), (show q_F (lx109.toInt ≤ y237.toInt) from (show lx109.toInt ≤ y237.toInt from by have t1 : lx109.toInt ≤ y237.toInt := b247; omega)), (show q_F (y237.toInt ≤ lx109.toInt) from (show y237.toInt ≤ lx109.toInt from by have t1 : y237.toInt ≤ lx109.toInt := b248; omega)), (show q_F (lx107.toInt ≤ y238.toInt) from (show lx107.toInt ≤ y238.toInt from by have t1 : lx107.toInt ≤ y238.toInt := b249; omega)), (show q_F (y238.toInt ≤ lx107.toInt) from (show y238.toInt ≤ lx107.toInt from by have t1 : y238.toInt ≤ lx107.toInt := b250; omega)), (show q_F (lx112.toInt ≤ y240.toInt) from (show lx112.toInt ≤ y240.toInt from by have t1 : lx112.toInt ≤ y240.toInt := b253; omega)), (show q_F (y240.toInt ≤ lx112.toInt) from (show y240.toInt ≤ lx112.toInt from by have t1 : y240.toInt ≤ lx112.toInt := b254; omega)), (show q_F (lx114.toInt ≤ y242.toInt) from (show lx114.toInt ≤ y242.toInt from by have t1 : lx114.toInt ≤ y242.toInt := b256; omega)), (show q_F (y242.toInt ≤ lx114.toInt) from (show y242.toInt ≤ lx114.toInt from by have t1 : y242.toInt ≤ lx114.toInt := b257; omega)), V, q_lw hl (q_lw1 0 rfl q_lw0), hI, hF, hO235, hO116, hA117, (show F_Dir_parse_J101 x2 t0_0 t0_1 t0_2 t0_3 t0_4 t0_5 t0_6 t1_0 t2_0 p49 p86 lx107 lx108 lx109 lx110 lx111 lx112 lx113 lx114 y236 y237 y238 a234 y240 y241 y242 = (F_Dir_parse x2 t0_0 t0_1 t0_2 t0_3 t0_4 t0_5 t0_6 t1_0 t2_0) from Eq.trans (by rw [e269, e268, e267, e265, e264, e263, e262, F_Dir_parse_c95.eq_1]) hR270)⟩
  ·
    intro J118
    refine lv_if_le (tgt := 44) hx hb d_6_2_34 (by decide) (fun c277 => ?_) (fun c277 => ?_)
    ·
      have b278 : q_F (a102.toInt ≤ 0) := (q_leI c277)
      refine lv_iconst (v := (-1)) hx hb d_6_2_44 (by decide) ?_
      exact J118 (((-1) : Int32), (y66 : Int32), (y67 : Int32), (y68 : Int32), (y69 : Int32), (y70 : Int32), (y71 : Int32), (y72 : Int32)) _ _ _ _ ⟨(show q_F (0 ≤ (-1) + 1) from (show 0 ≤ (-1) + 1 from by omega)), (show q_F ((-1) ≤ 9999) from (show (-1) ≤ 9999 from by omega)), (show q_F (a102.toInt ≤ (-1) + 9) from (show a102.toInt ≤ (-1) + 9 from by have t1 : a102.toInt ≤ 0 := b278; omega)), (show q_F ((-1) ≤ a102.toInt + 9998) from (show (-1) ≤ a102.toInt + 9998 from by have t1 : 0 ≤ a102.toInt + 1 := b103; omega)), (show q_F (y66.toInt ≤ y66.toInt) from (show y66.toInt ≤ y66.toInt from by omega)), (show q_F (y66.toInt ≤ y66.toInt) from (show y66.toInt ≤ y66.toInt from by omega)), (show q_F (y67.toInt ≤ y67.toInt) from (show y67.toInt ≤ y67.toInt from by omega)), (show q_F (y67.toInt ≤ y67.toInt) from (show y67.toInt ≤ y67.toInt from by omega)), (show q_F (y68.toInt ≤ y68.toInt) from (show y68.toInt ≤ y68.toInt from by omega)), (show q_F (y68.toInt ≤ y68.toInt) from (show y68.toInt ≤ y68.toInt from by omega)), (show q_F (y69.toInt ≤ y69.toInt) from (show y69.toInt ≤ y69.toInt from by omega)), (show q_F (y69.toInt ≤ y69.toInt) from (show y69.toInt ≤ y69.toInt from by omega)), (show q_F (y70.toInt ≤ y70.toInt) from (show y70.toInt ≤ y70.toInt from by omega)), (show q_F (y70.toInt ≤ y70.toInt) from (show y70.toInt ≤ y70.toInt from by omega)), (show q_F (y71.toInt ≤ y71.toInt) from (show y71.toInt ≤ y71.toInt from by omega)), (show q_F (y72.toInt ≤ y72.toInt) from (show y72.toInt ≤ y72.toInt from by omega)), (show q_F (y72.toInt ≤ y72.toInt) from (show y72.toInt ≤ y72.toInt from by omega)), V, q_lw hl (q_lw1 0 rfl q_lw0), hI, hF, hO65, hT1, hT2, (show F_Dir_parse_J45 x2 t0_0 t0_1 t0_2 t0_3 t0_4 t0_5 t0_6 t1_0 t2_0 p49 p86 (-1) y66 y67 y68 y69 y70 y71 y72 = (F_Dir_parse x2 t0_0 t0_1 t0_2 t0_3 t0_4 t0_5 t0_6 t1_0 t2_0) from Eq.trans (by have c277x := c277; rw [e106, e93] at c277x; rw [e94, e93, e92, e91, e90, e89, e88, F_Dir_parse_c22.eq_1, if_pos c277x]) hR95)⟩
    ·
      have b279 : q_F (0 < a102.toInt) := (q_nleI c277)
      refine lv_aload_n hx hb d_6_2_37 rfl (lv_at hl 0 rfl) ?_
      refine q_goi V (q_runV (As := []) (rest := [.ref (q 47)]) (d := 3) (mc := 0) (ms := 0) (ci := 10) C0 V rfl LV_Dir_36 (X_Dir_takeNumber l D g q u63   hI y66 y67 y68 y69 y70 y71 y72 hO65 t1_0 hT1 t2_0 hT2  _) rfl rfl hO65 rfl hl.1 rfl (Nat.le_of_ble_eq_true rfl) ⟨by decide, by decide⟩ ⟨Nat.le_of_ble_eq_true rfl, Nat.le_of_ble_eq_true rfl⟩ d_6_2_38) (fun a282 u280 H locs hp281 V => ?_)
      obtain ⟨hI, hu307, y284, y285, y286, y287, y288, y289, y290, hO283, b291, b292, b293, b294, b295, b296, b297, b298, b299, b300, b301, b302, b303, b304, b305, hE306⟩ := hp281
      replace hO283 : u280[47]? = (some (q 47, .inr (10, [.int y284, .int y285, .int y286, .int y287, .int y288, .int y289, .ref (q 1), .int y290])) : Option (Nat × va_E)) := hO283
      obtain ⟨p308, e309⟩ : ∃ z, z = (F_Dir_takeNumber y66 y67 y68 y69 y70 y71 y72 t1_0 t2_0) := ⟨_, rfl⟩
      have e310 : a282 = p308.1 := congrArg (fun z => z.1) (hE306.trans e309.symm)
      have e311 : y284 = p308.2.1 := congrArg (fun z => z.2.1) (hE306.trans e309.symm)
      have e312 : y285 = p308.2.2.1 := congrArg (fun z => z.2.2.1) (hE306.trans e309.symm)
      have e313 : y286 = p308.2.2.2.1 := congrArg (fun z => z.2.2.2.1) (hE306.trans e309.symm)
      have e314 : y287 = p308.2.2.2.2.1 := congrArg (fun z => z.2.2.2.2.1) (hE306.trans e309.symm)
      have e315 : y288 = p308.2.2.2.2.2.1 := congrArg (fun z => z.2.2.2.2.2.1) (hE306.trans e309.symm)
      have e316 : y289 = p308.2.2.2.2.2.2.1 := congrArg (fun z => z.2.2.2.2.2.2.1) (hE306.trans e309.symm)
      have e317 : y290 = p308.2.2.2.2.2.2.2 := congrArg (fun z => z.2.2.2.2.2.2.2) (hE306.trans e309.symm)
      replace b291 : q_F (0 ≤ a282.toInt) := b291
      replace b292 : q_F (a282.toInt ≤ 9999) := b292
      replace b293 : q_F (y66.toInt ≤ y284.toInt) := b293
      replace b294 : q_F (y284.toInt ≤ y66.toInt) := b294
      replace b295 : q_F (y67.toInt ≤ y285.toInt) := b295
      replace b296 : q_F (y285.toInt ≤ y67.toInt) := b296
      replace b297 : q_F (y68.toInt ≤ y286.toInt) := b297
      replace b298 : q_F (y286.toInt ≤ y68.toInt) := b298
      replace b299 : q_F (y69.toInt ≤ y287.toInt) := b299
      replace b300 : q_F (y287.toInt ≤ y69.toInt) := b300
      replace b301 : q_F (y70.toInt ≤ y288.toInt) := b301
      replace b302 : q_F (y288.toInt ≤ y70.toInt) := b302
      replace b303 : q_F (y71.toInt ≤ y289.toInt) := b303
      replace b304 : q_F (y72.toInt ≤ y290.toInt) := b304
      replace b305 : q_F (y290.toInt ≤ y72.toInt) := b305
      replace hT1 := (hu307 _ (by decide)).trans hT1
      replace hT2 := (hu307 _ (by decide)).trans hT2
      replace hF := q_uc hF hu307 (by simp)
      have hR318 := (show F_Dir_parse_c38 x2 t0_0 t0_1 t0_2 t0_3 t0_4 t0_5 t0_6 t1_0 t2_0 p49 p86 p308 = (F_Dir_parse x2 t0_0 t0_1 t0_2 t0_3 t0_4 t0_5 t0_6 t1_0 t2_0) from Eq.trans (by have c277x := c277; rw [e106, e93] at c277x; rw [e309, e94, e93, e92, e91, e90, e89, e88, F_Dir_parse_c22.eq_1, if_neg c277x]) hR95)
      refine lv_goto (tgt := 45) hx hb d_6_2_41 (by decide) ?_
      exact J118 ((a282 : Int32), (y284 : Int32), (y285 : Int32), (y286 : Int32), (y287 : Int32), (y288 : Int32), (y289 : Int32), (y290 : Int32)) _ _ _ _ ⟨(show q_F (0 ≤ a282.toInt + 1) from (show 0 ≤ a282.toInt + 1 from by have t1 : 0 ≤ a282.toInt := b291; omega)), (show q_F (a282.toInt ≤ 9999) from (show a282.toInt ≤ 9999 from by have t1 : a282.toInt ≤ 9999 := b292; omega)), (show q_F (a102.toInt ≤ a282.toInt + 9) from (show a102.toInt ≤ a282.toInt + 9 from by have t1 : a102.toInt ≤ 9 := b104; have t2 : 0 ≤ a282.toInt := b291; omega)), (show q_F (a282.toInt ≤ a102.toInt + 9998) from (show a282.toInt ≤ a102.toInt + 9998 from by have t1 : 0 < a102.toInt := b279; have t2 : a282.toInt ≤ 9999 := b292; omega)), (show q_F (y66.toInt ≤ y284.toInt) from (show y66.toInt ≤ y284.toInt from by have t1 : y66.toInt ≤ y284.toInt := b293; omega)), (show q_F (y284.toInt ≤ y66.toInt) from (show y284.toInt ≤ y66.toInt from by have t1 : y284.toInt ≤ y66.toInt := b294; omega)), (show q_F (y67.toInt ≤ y285.toInt) from (show y67.toInt ≤ y285.toInt from by have t1 : y67.toInt ≤ y285.toInt := b295; omega)), (show q_F (y285.toInt ≤ y67.toInt) from (show y285.toInt ≤ y67.toInt from by have t1 : y285.toInt ≤ y67.toInt := b296; omega)), (show q_F (y68.toInt ≤ y286.toInt) from (show y68.toInt ≤ y286.toInt from by have t1 : y68.toInt ≤ y286.toInt := b297; omega)), (show q_F (y286.toInt ≤ y68.toInt) from (show y286.toInt ≤ y68.toInt from by have t1 : y286.toInt ≤ y68.toInt := b298; omega)), (show q_F (y69.toInt ≤ y287.toInt) from (show y69.toInt ≤ y287.toInt from by have t1 : y69.toInt ≤ y287.toInt := b299; omega)), (show q_F (y287.toInt ≤ y69.toInt) from (show y287.toInt ≤ y69.toInt from by have t1 : y287.toInt ≤ y69.toInt := b300; omega)), (show q_F (y70.toInt ≤ y288.toInt) from (show y70.toInt ≤ y288.toInt from by have t1 : y70.toInt ≤ y288.toInt := b301; omega)), (show q_F (y288.toInt ≤ y70.toInt) from (show y288.toInt ≤ y70.toInt from by have t1 : y288.toInt ≤ y70.toInt := b302; omega)), (show q_F (y71.toInt ≤ y289.toInt) from (show y71.toInt ≤ y289.toInt from by have t1 : y71.toInt ≤ y289.toInt := b303; omega)), (show q_F (y72.toInt ≤ y290.toInt) from (show y72.toInt ≤ y290.toInt from by have t1 : y72.toInt ≤ y290.toInt := b304; omega)), (show q_F (y290.toInt ≤ y72.toInt) from (show y290.toInt ≤ y72.toInt from by have t1 : y290.toInt ≤ y72.toInt := b305; omega)), V, q_lw hl (q_lw1 0 rfl q_lw0), hI, hF, hO283, hT1, hT2, (show F_Dir_parse_J45 x2 t0_0 t0_1 t0_2 t0_3 t0_4 t0_5 t0_6 t1_0 t2_0 p49 p86 a282 y284 y285 y286 y287 y288 y289 y290 = (F_Dir_parse x2 t0_0 t0_1 t0_2 t0_3 t0_4 t0_5 t0_6 t1_0 t2_0) from Eq.trans (by rw [e317, e316, e315, e314, e313, e312, e311, e310, F_Dir_parse_c38.eq_1]) hR318)⟩
