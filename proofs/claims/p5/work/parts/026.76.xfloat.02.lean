def F_Flo_chooseEnd_L92 (A : Int32) (B : Int32) (C : Int32) (x2 : Int32) (x3 : Int32) (x4 : Int32) (t0_0 : Int64) (t0_1 : Int32) (t0_2 : Int32) (t1_0 : Int32) (t1_1 : Int32) (t2_0 : (Nat → Int32)) (t3_0 : Int32) (t3_1 : Int32) (t4_0 : (Nat → Int32)) (lx21 : Int32) (lx22 : Int32) (lx23 : Int32) (lx24 : (Nat → Int32)) (lx49 : Int64) : Nat → Int32 → Int64 → Int32 → (Int64 × Int32 × Int32 × Int32 × Int32 × (Nat → Int32))
  | 0, _, _, _ => default
  | fm + 1, lx63, lx64, lx65 => if (20 : Int32) ≤ lx63 then ((lx64, lx65, t0_2, lx22, lx23, lx24)) else (if (lg_cmp (lx64 - lx64 / 10 * 10 : Int64) 0 : Int32) = (0 : Int32) then (F_Flo_chooseEnd_L92 A B C x2 x3 x4 t0_0 t0_1 t0_2 t1_0 t1_1 t2_0 t3_0 t3_1 t4_0 lx21 lx22 lx23 lx24 lx49 fm (lx63 + 1 : Int32) (lx64 / 10 : Int64) (lx65 + 1 : Int32)) else ((lx64, lx65, t0_2, lx22, lx23, lx24)))
def F_Flo_chooseEnd_J89 (A : Int32) (B : Int32) (C : Int32) (x2 : Int32) (x3 : Int32) (x4 : Int32) (t0_0 : Int64) (t0_1 : Int32) (t0_2 : Int32) (t1_0 : Int32) (t1_1 : Int32) (t2_0 : (Nat → Int32)) (t3_0 : Int32) (t3_1 : Int32) (t4_0 : (Nat → Int32)) (lx21 : Int32) (lx22 : Int32) (lx23 : Int32) (lx24 : (Nat → Int32)) (lx49 : Int64) : Int64 × Int32 × Int32 × Int32 × Int32 × (Nat → Int32) := F_Flo_chooseEnd_L92 A B C x2 x3 x4 t0_0 t0_1 t0_2 t1_0 t1_1 t2_0 t3_0 t3_1 t4_0 lx21 lx22 lx23 lx24 lx49 ((20 - (0 : Int32).toInt).toNat + 1) 0 lx49 x4
def F_Flo_chooseEnd_J69 (A : Int32) (B : Int32) (C : Int32) (x2 : Int32) (x3 : Int32) (x4 : Int32) (t0_0 : Int64) (t0_1 : Int32) (t0_2 : Int32) (t1_0 : Int32) (t1_1 : Int32) (t2_0 : (Nat → Int32)) (t3_0 : Int32) (t3_1 : Int32) (t4_0 : (Nat → Int32)) (lx21 : Int32) (lx22 : Int32) (lx23 : Int32) (lx24 : (Nat → Int32)) : Int64 × Int32 × Int32 × Int32 × Int32 × (Nat → Int32) := if lx21 = (0 : Int32) then (F_Flo_chooseEnd_J89 A B C x2 x3 x4 t0_0 t0_1 t0_2 t1_0 t1_1 t2_0 t3_0 t3_1 t4_0 lx21 lx22 lx23 lx24 t0_0) else (F_Flo_chooseEnd_J89 A B C x2 x3 x4 t0_0 t0_1 t0_2 t1_0 t1_1 t2_0 t3_0 t3_1 t4_0 lx21 lx22 lx23 lx24 (t0_0 + 1 : Int64))
def F_Flo_chooseEnd_J67 (A : Int32) (B : Int32) (C : Int32) (x2 : Int32) (x3 : Int32) (x4 : Int32) (t0_0 : Int64) (t0_1 : Int32) (t0_2 : Int32) (t1_0 : Int32) (t1_1 : Int32) (t2_0 : (Nat → Int32)) (t3_0 : Int32) (t3_1 : Int32) (t4_0 : (Nat → Int32)) (p130 : (Int32 × Int32 × (Nat → Int32))) (y119 : Int32) (y120 : Int32) (f121 : (Nat → Int32)) (lx147 : Int32) : Int64 × Int32 × Int32 × Int32 × Int32 × (Nat → Int32) := F_Flo_chooseEnd_J69 A B C x2 x3 x4 t0_0 t0_1 t0_2 t1_0 t1_1 t2_0 t3_0 t3_1 t4_0 lx147 y119 y120 f121
def F_Flo_chooseEnd_J62 (A : Int32) (B : Int32) (C : Int32) (x2 : Int32) (x3 : Int32) (x4 : Int32) (t0_0 : Int64) (t0_1 : Int32) (t0_2 : Int32) (t1_0 : Int32) (t1_1 : Int32) (t2_0 : (Nat → Int32)) (t3_0 : Int32) (t3_1 : Int32) (t4_0 : (Nat → Int32)) (p130 : (Int32 × Int32 × (Nat → Int32))) (y119 : Int32) (y120 : Int32) (f121 : (Nat → Int32)) : Int64 × Int32 × Int32 × Int32 × Int32 × (Nat → Int32) := F_Flo_chooseEnd_J67 A B C x2 x3 x4 t0_0 t0_1 t0_2 t1_0 t1_1 t2_0 t3_0 t3_1 t4_0 p130 y119 y120 f121 1
def F_Flo_chooseEnd_J66 (A : Int32) (B : Int32) (C : Int32) (x2 : Int32) (x3 : Int32) (x4 : Int32) (t0_0 : Int64) (t0_1 : Int32) (t0_2 : Int32) (t1_0 : Int32) (t1_1 : Int32) (t2_0 : (Nat → Int32)) (t3_0 : Int32) (t3_1 : Int32) (t4_0 : (Nat → Int32)) (p130 : (Int32 × Int32 × (Nat → Int32))) (y119 : Int32) (y120 : Int32) (f121 : (Nat → Int32)) : Int64 × Int32 × Int32 × Int32 × Int32 × (Nat → Int32) := F_Flo_chooseEnd_J67 A B C x2 x3 x4 t0_0 t0_1 t0_2 t1_0 t1_1 t2_0 t3_0 t3_1 t4_0 p130 y119 y120 f121 0
def F_Flo_chooseEnd_c19 (A : Int32) (B : Int32) (C : Int32) (x2 : Int32) (x3 : Int32) (x4 : Int32) (t0_0 : Int64) (t0_1 : Int32) (t0_2 : Int32) (t1_0 : Int32) (t1_1 : Int32) (t2_0 : (Nat → Int32)) (t3_0 : Int32) (t3_1 : Int32) (t4_0 : (Nat → Int32)) (p130 : (Int32 × Int32 × (Nat → Int32))) : Int64 × Int32 × Int32 × Int32 × Int32 × (Nat → Int32) := if (0 : Int32) < ((F_Big_compareSize (220 : Int32) (220 : Int32) (p130.1 : Int32) (p130.2.1 : Int32) (p130.2.2 : (Nat → Int32)) t3_0 t3_1 t4_0) : Int32) then (F_Flo_chooseEnd_J62 A B C x2 x3 x4 t0_0 t0_1 t0_2 t1_0 t1_1 t2_0 t3_0 t3_1 t4_0 p130 (p130.1 : Int32) (p130.2.1 : Int32) (p130.2.2 : (Nat → Int32))) else (if ((F_Big_compareSize (220 : Int32) (220 : Int32) (p130.1 : Int32) (p130.2.1 : Int32) (p130.2.2 : (Nat → Int32)) t3_0 t3_1 t4_0) : Int32) = (0 : Int32) then (if (lg_cmp (t0_0 &&& 1 : Int64) 1 : Int32) = (0 : Int32) then (F_Flo_chooseEnd_J62 A B C x2 x3 x4 t0_0 t0_1 t0_2 t1_0 t1_1 t2_0 t3_0 t3_1 t4_0 p130 (p130.1 : Int32) (p130.2.1 : Int32) (p130.2.2 : (Nat → Int32))) else (F_Flo_chooseEnd_J66 A B C x2 x3 x4 t0_0 t0_1 t0_2 t1_0 t1_1 t2_0 t3_0 t3_1 t4_0 p130 (p130.1 : Int32) (p130.2.1 : Int32) (p130.2.2 : (Nat → Int32)))) else (F_Flo_chooseEnd_J66 A B C x2 x3 x4 t0_0 t0_1 t0_2 t1_0 t1_1 t2_0 t3_0 t3_1 t4_0 p130 (p130.1 : Int32) (p130.2.1 : Int32) (p130.2.2 : (Nat → Int32))))
def F_Flo_chooseEnd (A : Int32) (B : Int32) (C : Int32) (x2 : Int32) (x3 : Int32) (x4 : Int32) (t0_0 : Int64) (t0_1 : Int32) (t0_2 : Int32) (t1_0 : Int32) (t1_1 : Int32) (t2_0 : (Nat → Int32)) (t3_0 : Int32) (t3_1 : Int32) (t4_0 : (Nat → Int32)) : Int64 × Int32 × Int32 × Int32 × Int32 × (Nat → Int32) := if x2 = (0 : Int32) then (F_Flo_chooseEnd_J69 A B C x2 x3 x4 t0_0 t0_1 t0_2 t1_0 t1_1 t2_0 t3_0 t3_1 t4_0 x3 t1_0 t1_1 t2_0) else (if x3 = (0 : Int32) then (F_Flo_chooseEnd_J69 A B C x2 x3 x4 t0_0 t0_1 t0_2 t1_0 t1_1 t2_0 t3_0 t3_1 t4_0 x3 t1_0 t1_1 t2_0) else (F_Flo_chooseEnd_c19 A B C x2 x3 x4 t0_0 t0_1 t0_2 t1_0 t1_1 t2_0 t3_0 t3_1 t4_0 ((F_Big_shiftLeft (220 : Int32) (1 : Int32) t1_0 t1_1 t2_0) : (Int32 × Int32 × (Nat → Int32)))))
set_option maxRecDepth 100000 in
set_option maxHeartbeats 4000000 in
theorem X_Flo_chooseEnd (l : Launch) (D : va_G) (g : Nat → ClassId) (q : Nat → Nat) (ws : va_W) (k1 : Nat) (A B C : Int32) (hB1 : q_isFlo (nsh g q) q k1 A B C) (x2 : Int32) (x3 : Int32) (x4 : Int32) (hI : q_I (nsh g q) q ws) (t0_0 : Int64) (t0_1 : Int32) (t0_2 : Int32) (hT0 : ws[k1]? = (some (q k1, .inr (6, [.int A, .int B, .int C, .long t0_0, .int t0_1, .ref (q 9), .int t0_2])) : Option (Nat × va_E))) (t1_0 : Int32) (t1_1 : Int32) (hT1 : ws[22]? = (some (q 22, .inr (2, [.ref (q 23), .int t1_0, .int t1_1])) : Option (Nat × va_E))) (t2_0 : (Nat → Int32)) (hT2 : ws[23]? = (some (q 23, .inl (g 0, (220 : Int32).toNatClampNeg, .inl t2_0)) : Option (Nat × va_E))) (t3_0 : Int32) (t3_1 : Int32) (hT3 : ws[24]? = (some (q 24, .inr (2, [.ref (q 25), .int t3_0, .int t3_1])) : Option (Nat × va_E))) (t4_0 : (Nat → Int32)) (hT4 : ws[25]? = (some (q 25, .inl (g 0, (220 : Int32).toNatClampNeg, .inl t4_0)) : Option (Nat × va_E))) (hzx2 : 0 ≤ x2.toInt ∧ x2.toInt ≤ 1) (hzx3 : 0 ≤ x3.toInt ∧ x3.toInt ≤ 1) : q_mV l y_Flo_chooseEnd prog_7_method_22_code 6 4 0 0 D g [.ref (q k1), .int x2, .int x3, .int x4] ws (fun u => q_I (nsh g q) q u ∧ q_un ws u [22, 23, k1] ∧ ∃ (u0_0 : Int64) (u0_1 : Int32) (u0_2 : Int32) (u1_0 : Int32) (u1_1 : Int32) (u2_0 : (Nat → Int32)), u[k1]? = (some (q k1, .inr (6, [.int A, .int B, .int C, .long u0_0, .int u0_1, .ref (q 9), .int u0_2])) : Option (Nat × va_E)) ∧ u[22]? = (some (q 22, .inr (2, [.ref (q 23), .int u1_0, .int u1_1])) : Option (Nat × va_E)) ∧ u[23]? = (some (q 23, .inl (g 0, (220 : Int32).toNatClampNeg, .inl u2_0)) : Option (Nat × va_E)) ∧ (0 ≤ u1_0.toInt) ∧ (u1_0.toInt ≤ 220) ∧ (0 ≤ u1_1.toInt) ∧ (t0_2.toInt ≤ u0_2.toInt) ∧ (u0_2.toInt ≤ t0_2.toInt) ∧ (u1_0.toInt ≤ t1_0.toInt + 219) ∧ (u1_1.toInt ≤ t1_1.toInt) ∧ (u0_0, u0_1, u0_2, u1_0, u1_1, u2_0) = (F_Flo_chooseEnd A B C x2 x3 x4 t0_0 t0_1 t0_2 t1_0 t1_1 t2_0 t3_0 t3_1 t4_0)) := by
  intro sz
  refine q_into (by decide) (Nat.le_of_ble_eq_true rfl) ?_
  intro p e s m below meth c ls hsz C0 V hl
  have hx := C0.1
  have hb := C0.2.1
  replace hzx2 : q_F (0 ≤ x2.toInt ∧ x2.toInt ≤ 1) := hzx2
  replace hzx3 : q_F (0 ≤ x3.toInt ∧ x3.toInt ≤ 1) := hzx3
  obtain ⟨btt1_0, btt1_1⟩ := q_bigW hI (n_b22 g q) hT1
  replace btt1_0 : q_F (0 ≤ t1_0.toInt ∧ t1_0.toInt ≤ 220) := btt1_0
  replace btt1_1 : q_F (0 ≤ t1_1.toInt ∧ t1_1.toInt ≤ 1) := btt1_1
  have btt3_1 := (q_bigW hI (n_b24 g q) hT3).2
  clear btt3_1
  have hF : q_un ws ws [22, 23, k1] := q_u0
  have hl : lv_has ls 6 [(0, .ref (q k1)), (1, .int x2), (2, .int x3), (3, .int x4)] := hl
  refine lv_iload_n hx hb d_7_22_0 rfl (lv_at hl 2 rfl) ?_
  refine lv_istore (lv' := [(4, .int x3), (0, .ref (q k1)), (1, .int x2), (2, .int x3), (3, .int x4)]) hx hb d_7_22_1 hl (by decide) rfl (fun ls hl => ?_)
  refine lv_iload_n hx hb d_7_22_3 rfl (lv_at hl 2 rfl) ?_
  refine q_join (X := Int32 × Int32 × Int32 × (Nat → Int32)) (fun z H locs ls w41 => q_F (z.1.toInt ≤ x3.toInt) ∧ q_F (z.2.1.toInt ≤ t1_0.toInt + 219) ∧ q_F (z.2.2.1.toInt ≤ t1_1.toInt) ∧ q_F (z.2.2.1.toInt ≤ z.1.toInt + 1) ∧ q_F (z.1.toInt ≤ z.2.2.1.toInt + 1) ∧ q_F (0 ≤ z.1.toInt + z.2.2.1.toInt) ∧ q_F (z.2.2.1.toInt ≤ z.2.1.toInt + 1) ∧ q_F (z.2.1.toInt ≤ z.2.2.1.toInt + 220) ∧ q_F (0 ≤ z.2.1.toInt + z.2.2.1.toInt) ∧ q_F (z.2.1.toInt + z.2.2.1.toInt ≤ 221) ∧ q_Wd D g (va_A ws sz) s w41 H locs ∧ lv_has ls 6 [(4, .int z.1), (0, .ref (q k1)), (3, .int x4)] ∧ q_I (nsh g q) q w41 ∧ q_un ws w41 [22, 23, k1] ∧ w41[k1]? = (some (q k1, .inr (6, [.int A, .int B, .int C, .long t0_0, .int t0_1, .ref (q 9), .int t0_2])) : Option (Nat × va_E)) ∧ w41[22]? = (some (q 22, .inr (2, [.ref (q 23), .int z.2.1, .int z.2.2.1])) : Option (Nat × va_E)) ∧ w41[23]? = (some (q 23, .inl (g 0, (220 : Int32).toNatClampNeg, .inl z.2.2.2)) : Option (Nat × va_E)) ∧ w41[24]? = (some (q 24, .inr (2, [.ref (q 25), .int t3_0, .int t3_1])) : Option (Nat × va_E)) ∧ w41[25]? = (some (q 25, .inl (g 0, (220 : Int32).toNatClampNeg, .inl t4_0)) : Option (Nat × va_E)) ∧ F_Flo_chooseEnd_J69 A B C x2 x3 x4 t0_0 t0_1 t0_2 t1_0 t1_1 t2_0 t3_0 t3_1 t4_0 z.1 z.2.1 z.2.2.1 z.2.2.2 = (F_Flo_chooseEnd A B C x2 x3 x4 t0_0 t0_1 t0_2 t1_0 t1_1 t2_0 t3_0 t3_1 t4_0)) (fun z => []) 69 0 0 ?_ ?_
  ·
    rintro ⟨lx21, lx22, lx23, lx24⟩ H locs ls w41 ⟨i31, i32, i33, i34, i35, i36, i37, i38, i39, i40, V, hl, hI, hF, hO25, hO26, hA27, hO28, hA29, hR42⟩
    clear i31
    replace i32 : q_F (lx22.toInt ≤ t1_0.toInt + 219) := i32
    replace i33 : q_F (lx23.toInt ≤ t1_1.toInt) := i33
    clear i34
    replace i35 : q_F (lx21.toInt ≤ lx23.toInt + 1) := i35
    replace i36 : q_F (0 ≤ lx21.toInt + lx23.toInt) := i36
    replace i37 : q_F (lx23.toInt ≤ lx22.toInt + 1) := i37
    replace i38 : q_F (lx22.toInt ≤ lx23.toInt + 220) := i38
    replace i39 : q_F (0 ≤ lx22.toInt + lx23.toInt) := i39
    replace i40 : q_F (lx22.toInt + lx23.toInt ≤ 221) := i40
    replace hl : lv_has ls 6 [(4, .int lx21), (0, .ref (q k1)), (3, .int x4)] := hl
    replace hO25 : w41[k1]? = (some (q k1, .inr (6, [.int A, .int B, .int C, .long t0_0, .int t0_1, .ref (q 9), .int t0_2])) : Option (Nat × va_E)) := hO25
    replace hO26 : w41[22]? = (some (q 22, .inr (2, [.ref (q 23), .int lx22, .int lx23])) : Option (Nat × va_E)) := hO26
    replace hA27 : w41[23]? = (some (q 23, .inl (g 0, (220 : Int32).toNatClampNeg, .inl lx24)) : Option (Nat × va_E)) := hA27
    replace hO28 : w41[24]? = (some (q 24, .inr (2, [.ref (q 25), .int t3_0, .int t3_1])) : Option (Nat × va_E)) := hO28
    replace hA29 : w41[25]? = (some (q 25, .inl (g 0, (220 : Int32).toNatClampNeg, .inl t4_0)) : Option (Nat × va_E)) := hA29
    refine lv_aload_n hx hb d_7_22_69 rfl (lv_at hl 1 rfl) ?_
    refine lv_iload_n hx hb d_7_22_70 rfl (lv_at hl 2 rfl) ?_
    refine q_put (ci := 6) (j := 4) (v := .int x4) (ty := .int) C0 V i_Flo o_Flo n_Flo rfl rfl hO25 (by decide) w_240 rfl rfl rfl rfl (Nat.le_of_ble_eq_true rfl) d_7_22_71 (fun H locs w47 hu48 hO25 V => ?_)
    replace hO25 : w47[k1]? = (some (q k1, .inr (6, [.int A, .int B, .int C, .long t0_0, .int x4, .ref (q 9), .int t0_2])) : Option (Nat × va_E)) := hO25
    replace hI := n_flO' hI hB1 hu48 hO25 
    replace hO26 := (hu48 _ (by have z0 := hB1.2.2.2.2; omega)).trans hO26
    replace hA27 := (hu48 _ (by have z0 := hB1.2.2.2.2; omega)).trans hA27
    replace hO28 := (hu48 _ (by have z0 := hB1.2.2.2.2; omega)).trans hO28
    replace hA29 := (hu48 _ (by have z0 := hB1.2.2.2.2; omega)).trans hA29
    replace hF := q_us hF hu48 (by simp)
    refine lv_iload hx hb d_7_22_74 (lv_at hl 0 rfl) ?_
    refine q_join (X := Int64) (fun z H locs ls w56 => q_Wd D g (va_A ws sz) s w56 H locs ∧ lv_has ls 6 [(0, .ref (q k1))] ∧ q_I (nsh g q) q w56 ∧ q_un ws w56 [22, 23, k1] ∧ w56[k1]? = (some (q k1, .inr (6, [.int A, .int B, .int C, .long z, .int x4, .ref (q 9), .int t0_2])) : Option (Nat × va_E)) ∧ w56[22]? = (some (q 22, .inr (2, [.ref (q 23), .int lx22, .int lx23])) : Option (Nat × va_E)) ∧ w56[23]? = (some (q 23, .inl (g 0, (220 : Int32).toNatClampNeg, .inl lx24)) : Option (Nat × va_E)) ∧ w56[24]? = (some (q 24, .inr (2, [.ref (q 25), .int t3_0, .int t3_1])) : Option (Nat × va_E)) ∧ w56[25]? = (some (q 25, .inl (g 0, (220 : Int32).toNatClampNeg, .inl t4_0)) : Option (Nat × va_E)) ∧ F_Flo_chooseEnd_J89 A B C x2 x3 x4 t0_0 t0_1 t0_2 t1_0 t1_1 t2_0 t3_0 t3_1 t4_0 lx21 lx22 lx23 lx24 z = (F_Flo_chooseEnd A B C x2 x3 x4 t0_0 t0_1 t0_2 t1_0 t1_1 t2_0 t3_0 t3_1 t4_0)) (fun z => []) 89 0 0 ?_ ?_
    ·
      rintro lx49 H locs ls w56 hZ9
      obtain ⟨V, hZ9⟩ := hZ9
      obtain ⟨hl, hZ9⟩ := hZ9
      obtain ⟨hI, hZ9⟩ := hZ9
      obtain ⟨hF, hZ9⟩ := hZ9
      obtain ⟨hO50, hZ9⟩ := hZ9
      obtain ⟨hO51, hZ9⟩ := hZ9
      obtain ⟨hA52, hZ9⟩ := hZ9
      obtain ⟨hO53, hZ9⟩ := hZ9
      obtain ⟨hA54, hR57⟩ := hZ9
      replace hl : lv_has ls 6 [(0, .ref (q k1))] := hl
      replace hO50 : w56[k1]? = (some (q k1, .inr (6, [.int A, .int B, .int C, .long lx49, .int x4, .ref (q 9), .int t0_2])) : Option (Nat × va_E)) := hO50
      replace hO51 : w56[22]? = (some (q 22, .inr (2, [.ref (q 23), .int lx22, .int lx23])) : Option (Nat × va_E)) := hO51
      replace hA52 : w56[23]? = (some (q 23, .inl (g 0, (220 : Int32).toNatClampNeg, .inl lx24)) : Option (Nat × va_E)) := hA52
      replace hO53 : w56[24]? = (some (q 24, .inr (2, [.ref (q 25), .int t3_0, .int t3_1])) : Option (Nat × va_E)) := hO53
      replace hA54 : w56[25]? = (some (q 25, .inl (g 0, (220 : Int32).toNatClampNeg, .inl t4_0)) : Option (Nat × va_E)) := hA54
      refine lv_iconst (v := 0) hx hb d_7_22_89 (by decide) ?_
      refine lv_istore (lv' := [(5, .int 0), (0, .ref (q k1))]) hx hb d_7_22_90 hl (by decide) rfl (fun ls hl => ?_)
      refine q_loop (X := Int32 × Int64 × Int32) (fun z H locs ls w69 => q_F (0 ≤ z.1.toInt) ∧ q_F (z.1.toInt ≤ 20) ∧ q_Wd D g (va_A ws sz) s w69 H locs ∧ lv_has ls 6 [(5, .int z.1), (0, .ref (q k1))] ∧ q_I (nsh g q) q w69 ∧ q_un ws w69 [22, 23, k1] ∧ w69[k1]? = (some (q k1, .inr (6, [.int A, .int B, .int C, .long z.2.1, .int z.2.2, .ref (q 9), .int t0_2])) : Option (Nat × va_E)) ∧ w69[22]? = (some (q 22, .inr (2, [.ref (q 23), .int lx22, .int lx23])) : Option (Nat × va_E)) ∧ w69[23]? = (some (q 23, .inl (g 0, (220 : Int32).toNatClampNeg, .inl lx24)) : Option (Nat × va_E)) ∧ w69[24]? = (some (q 24, .inr (2, [.ref (q 25), .int t3_0, .int t3_1])) : Option (Nat × va_E)) ∧ w69[25]? = (some (q 25, .inl (g 0, (220 : Int32).toNatClampNeg, .inl t4_0)) : Option (Nat × va_E)) ∧ (∃ n, (20 - z.1.toInt).toNat < n ∧ F_Flo_chooseEnd_L92 A B C x2 x3 x4 t0_0 t0_1 t0_2 t1_0 t1_1 t2_0 t3_0 t3_1 t4_0 lx21 lx22 lx23 lx24 lx49 n z.1 z.2.1 z.2.2 = (F_Flo_chooseEnd A B C x2 x3 x4 t0_0 t0_1 t0_2 t1_0 t1_1 t2_0 t3_0 t3_1 t4_0))) (fun z => (20 - z.1.toInt).toNat) ?_ ((0 : Int32), (lx49 : Int64), (x4 : Int32)) _ _ _ w56 ⟨(show q_F (0 ≤ 0) from (show 0 ≤ 0 from by omega)), (show q_F (0 ≤ 20) from (show 0 ≤ 20 from by omega)), V, q_lw hl (q_lw1 0 rfl (q_lw1 1 rfl q_lw0)), hI, hF, hO50, hO51, hA52, hO53, hA54, ⟨((20 - (0 : Int32).toInt).toNat + 1), Nat.lt_succ_self _, (show F_Flo_chooseEnd_L92 A B C x2 x3 x4 t0_0 t0_1 t0_2 t1_0 t1_1 t2_0 t3_0 t3_1 t4_0 lx21 lx22 lx23 lx24 lx49 ((20 - (0 : Int32).toInt).toNat + 1) 0 lx49 x4 = (F_Flo_chooseEnd A B C x2 x3 x4 t0_0 t0_1 t0_2 t1_0 t1_1 t2_0 t3_0 t3_1 t4_0) from Eq.trans (by rw [F_Flo_chooseEnd_J89.eq_1]) hR57)⟩⟩
      rintro ⟨lx63, lx64, lx65⟩ H locs ls w69 ⟨i66, i67, V, hl, hI, hF, hO70, hO71, hO72, hO73, hO74, ⟨fu77, hf78, hR75⟩⟩ ih68
      obtain ⟨fm79, rfl⟩ : ∃ m, fu77 = m + 1 := ⟨fu77 - 1, by omega⟩
      replace i66 : q_F (0 ≤ lx63.toInt) := i66
      replace i67 : q_F (lx63.toInt ≤ 20) := i67
      replace hl : lv_has ls 6 [(5, .int lx63), (0, .ref (q k1))] := hl
      replace hO70 : w69[k1]? = (some (q k1, .inr (6, [.int A, .int B, .int C, .long lx64, .int lx65, .ref (q 9), .int t0_2])) : Option (Nat × va_E)) := hO70
      replace hO71 : w69[22]? = (some (q 22, .inr (2, [.ref (q 23), .int lx22, .int lx23])) : Option (Nat × va_E)) := hO71
      replace hO72 : w69[23]? = (some (q 23, .inl (g 0, (220 : Int32).toNatClampNeg, .inl lx24)) : Option (Nat × va_E)) := hO72
      replace hO73 : w69[24]? = (some (q 24, .inr (2, [.ref (q 25), .int t3_0, .int t3_1])) : Option (Nat × va_E)) := hO73
      replace hO74 : w69[25]? = (some (q 25, .inl (g 0, (220 : Int32).toNatClampNeg, .inl t4_0)) : Option (Nat × va_E)) := hO74
      refine lv_iload hx hb d_7_22_92 (lv_at hl 0 rfl) ?_
      refine lv_bipush (v := 20) hx hb d_7_22_94 (by decide) ?_
      refine lv_icmp_ge (tgt := 140) hx hb d_7_22_96 (by decide) (fun c80 => ?_) (fun c80 => ?_)
      ·
        exact q_retv C0 V (⟨hI, hF, lx64, lx65, t0_2, lx22, lx23, lx24, hO70, hO71, hO72, (show 0 ≤ lx22.toInt from (by have t1 : lx23.toInt ≤ lx22.toInt + 1 := i37; have t2 : 0 ≤ lx22.toInt + lx23.toInt := i39; omega)), (show lx22.toInt ≤ 220 from (by have t1 : lx22.toInt ≤ lx23.toInt + 220 := i38; have t2 : lx22.toInt + lx23.toInt ≤ 221 := i40; omega)), (show 0 ≤ lx23.toInt from (by have t1 : lx21.toInt ≤ lx23.toInt + 1 := i35; have t2 : 0 ≤ lx21.toInt + lx23.toInt := i36; omega)), (show t0_2.toInt ≤ t0_2.toInt from (by omega)), (show t0_2.toInt ≤ t0_2.toInt from (by omega)), (show lx22.toInt ≤ t1_0.toInt + 219 from (by first | with_reducible exact q_fe i32 | (have t1 : lx22.toInt ≤ t1_0.toInt + 219 := i32; omega))), (show lx23.toInt ≤ t1_1.toInt from (by first | with_reducible exact q_fe i33 | (have t1 : lx23.toInt ≤ t1_1.toInt := i33; omega))), (show (lx64, lx65, t0_2, lx22, lx23, lx24) = (F_Flo_chooseEnd A B C x2 x3 x4 t0_0 t0_1 t0_2 t1_0 t1_1 t2_0 t3_0 t3_1 t4_0) from Eq.trans (by rw [F_Flo_chooseEnd_L92.eq_2, if_pos c80]) hR75)⟩) d_7_22_140
      ·
        have b82 : q_F (lx63.toInt < 20) := (q_nleI c80)
        refine lv_aload_n hx hb d_7_22_99 rfl (lv_at hl 1 rfl) ?_
        refine q_get (ci := 6) (j := 3) (v := .long lx64) C0 V i_Flo rfl rfl hO70 (by decide) w_237 rfl d_7_22_100 ?_
        refine q_ldc2 C0 rfl w_1194 d_7_22_103 ?_
        refine lv_lrem hx hb d_7_22_106 (by decide) ?_
        obtain ⟨j83, e84⟩ := q_nm (lx64 - lx64 / 10 * 10 : Int64)
        refine q_tl (v := j83) e84 ?_
        refine lv_lconst (v := 0) hx hb d_7_22_107 (by decide) ?_
        refine W.lcmp hx hb d_7_22_108 ?_
        obtain ⟨a85, e86⟩ := q_nm (lg_cmp j83 0 : Int32)
        refine q_ti (v := a85) e86 ?_
        refine lv_if_ne (tgt := 140) hx hb d_7_22_109 (by decide) (fun c88 => ?_) (fun c88 => ?_)
        ·
          exact q_retv C0 V (⟨hI, hF, lx64, lx65, t0_2, lx22, lx23, lx24, hO70, hO71, hO72, (show 0 ≤ lx22.toInt from (by have t1 : lx23.toInt ≤ lx22.toInt + 1 := i37; have t2 : 0 ≤ lx22.toInt + lx23.toInt := i39; omega)), (show lx22.toInt ≤ 220 from (by have t1 : lx22.toInt ≤ lx23.toInt + 220 := i38; have t2 : lx22.toInt + lx23.toInt ≤ 221 := i40; omega)), (show 0 ≤ lx23.toInt from (by have t1 : lx21.toInt ≤ lx23.toInt + 1 := i35; have t2 : 0 ≤ lx21.toInt + lx23.toInt := i36; omega)), (show t0_2.toInt ≤ t0_2.toInt from (by omega)), (show t0_2.toInt ≤ t0_2.toInt from (by omega)), (show lx22.toInt ≤ t1_0.toInt + 219 from (by first | with_reducible exact q_fe i32 | (have t1 : lx22.toInt ≤ t1_0.toInt + 219 := i32; omega))), (show lx23.toInt ≤ t1_1.toInt from (by first | with_reducible exact q_fe i33 | (have t1 : lx23.toInt ≤ t1_1.toInt := i33; omega))), (show (lx64, lx65, t0_2, lx22, lx23, lx24) = (F_Flo_chooseEnd A B C x2 x3 x4 t0_0 t0_1 t0_2 t1_0 t1_1 t2_0 t3_0 t3_1 t4_0) from Eq.trans (by have c88x := c88; rw [← e86, ← e84] at c88x; rw [F_Flo_chooseEnd_L92.eq_2, if_neg c80, if_neg c88x]) hR75)⟩) d_7_22_140
        ·
          refine lv_aload_n hx hb d_7_22_112 rfl (lv_at hl 1 rfl) ?_
          refine lv_dup hx hb d_7_22_113 rfl ?_
          refine q_get (ci := 6) (j := 3) (v := .long lx64) C0 V i_Flo rfl rfl hO70 (by decide) w_237 rfl d_7_22_114 ?_
          refine q_ldc2 C0 rfl w_1194 d_7_22_117 ?_
          refine lv_ldiv hx hb d_7_22_120 (by decide) ?_
          obtain ⟨j91, e92⟩ := q_nm (lx64 / 10 : Int64)
          refine q_tl (v := j91) e92 ?_
          refine q_put (ci := 6) (j := 3) (v := .long j91) (ty := .long) C0 V i_Flo o_Flo n_Flo rfl rfl hO70 (by decide) w_237 rfl rfl rfl rfl (Nat.le_of_ble_eq_true rfl) d_7_22_121 (fun H locs w93 hu94 hO70 V => ?_)
          replace hO70 : w93[k1]? = (some (q k1, .inr (6, [.int A, .int B, .int C, .long j91, .int lx65, .ref (q 9), .int t0_2])) : Option (Nat × va_E)) := hO70
          replace hI := n_flO' hI hB1 hu94 hO70 
          replace hO71 := (hu94 _ (by have z0 := hB1.2.2.2.2; omega)).trans hO71
          replace hO72 := (hu94 _ (by have z0 := hB1.2.2.2.2; omega)).trans hO72
          replace hO73 := (hu94 _ (by have z0 := hB1.2.2.2.2; omega)).trans hO73
          replace hO74 := (hu94 _ (by have z0 := hB1.2.2.2.2; omega)).trans hO74
          replace hF := q_us hF hu94 (by simp)
          refine lv_aload_n hx hb d_7_22_124 rfl (lv_at hl 1 rfl) ?_
          refine lv_dup hx hb d_7_22_125 rfl ?_
          refine q_get (ci := 6) (j := 4) (v := .int lx65) C0 V i_Flo rfl rfl hO70 (by decide) w_240 rfl d_7_22_126 ?_
          refine lv_iconst (v := 1) hx hb d_7_22_129 (by decide) ?_
          refine lv_iadd hx hb d_7_22_130 ?_
          obtain ⟨a95, e96⟩ := q_nm (lx65 + 1 : Int32)
          refine q_ti (v := a95) e96 ?_
          refine q_put (ci := 6) (j := 4) (v := .int a95) (ty := .int) C0 V i_Flo o_Flo n_Flo rfl rfl hO70 (by decide) w_240 rfl rfl rfl rfl (Nat.le_of_ble_eq_true rfl) d_7_22_131 (fun H locs w97 hu98 hO70 V => ?_)
          replace hO70 : w97[k1]? = (some (q k1, .inr (6, [.int A, .int B, .int C, .long j91, .int a95, .ref (q 9), .int t0_2])) : Option (Nat × va_E)) := hO70
          replace hI := n_flO' hI hB1 hu98 hO70 
          replace hO71 := (hu98 _ (by have z0 := hB1.2.2.2.2; omega)).trans hO71
          replace hO72 := (hu98 _ (by have z0 := hB1.2.2.2.2; omega)).trans hO72
          replace hO73 := (hu98 _ (by have z0 := hB1.2.2.2.2; omega)).trans hO73
          replace hO74 := (hu98 _ (by have z0 := hB1.2.2.2.2; omega)).trans hO74
          replace hF := q_us hF hu98 (by simp)
          obtain ⟨a99, e100⟩ := q_nm (lx63 + 1 : Int32)
          have b101 : q_F (a99.toInt = lx63.toInt + 1) := (by rw [← e100]; exact q_addI (y := 1) rfl (by decide) (by have t1 : 0 ≤ lx63.toInt := i66; have t2 : lx63.toInt ≤ 20 := i67; omega) (by have t1 : 0 ≤ lx63.toInt := i66; have t2 : lx63.toInt ≤ 20 := i67; omega))
          refine lv_iinc (v := a99) (lv' := [(5, .int a99), (0, .ref (q k1))]) hx hb d_7_22_134 hl (k := 0) rfl (e100) (by decide) rfl (fun ls hl => ?_)
          refine lv_goto (tgt := 92) hx hb d_7_22_137 (by decide) ?_
          exact ih68 ((a99 : Int32), (j91 : Int64), (a95 : Int32)) _ _ _ _ (show (20 - a99.toInt).toNat < (20 - lx63.toInt).toNat from by have t1 : a99.toInt = lx63.toInt + 1 := b101; have t2 : lx63.toInt ≤ 20 := i67; have t3 : lx63.toInt < 20 := b82; omega) ⟨(show q_F (0 ≤ a99.toInt) from (show 0 ≤ a99.toInt from by have t1 : 0 ≤ lx63.toInt := i66; have t2 : a99.toInt = lx63.toInt + 1 := b101; omega)), (show q_F (a99.toInt ≤ 20) from (show a99.toInt ≤ 20 from by have t1 : lx63.toInt < 20 := b82; have t2 : a99.toInt = lx63.toInt + 1 := b101; omega)), V, q_lw hl (q_lw1 0 rfl (q_lw1 1 rfl q_lw0)), hI, hF, hO70, hO71, hO72, hO73, hO74, ⟨fm79, Nat.lt_of_lt_of_le (show (20 - a99.toInt).toNat < (20 - lx63.toInt).toNat from by have t1 : a99.toInt = lx63.toInt + 1 := b101; have t2 : lx63.toInt ≤ 20 := i67; have t3 : lx63.toInt < 20 := b82; omega) (Nat.le_of_lt_succ hf78), (show F_Flo_chooseEnd_L92 A B C x2 x3 x4 t0_0 t0_1 t0_2 t1_0 t1_1 t2_0 t3_0 t3_1 t4_0 lx21 lx22 lx23 lx24 lx49 fm79 a99 j91 a95 = (F_Flo_chooseEnd A B C x2 x3 x4 t0_0 t0_1 t0_2 t1_0 t1_1 t2_0 t3_0 t3_1 t4_0) from Eq.trans (by have c88x := c88; rw [← e86, ← e84] at c88x; rw [← e100, ← e96, ← e92, F_Flo_chooseEnd_L92.eq_2, if_neg c80, if_pos c88x]) hR75)⟩⟩
    ·
      intro J55
      refine lv_if_eq (tgt := 89) hx hb d_7_22_76 (by decide) (fun c102 => ?_) (fun c102 => ?_)
      ·
        exact J55 ((t0_0 : Int64)) _ _ _ _ ⟨V, q_lw hl (q_lw1 1 rfl q_lw0), hI, hF, hO25, hO26, hA27, hO28, hA29, (show F_Flo_chooseEnd_J89 A B C x2 x3 x4 t0_0 t0_1 t0_2 t1_0 t1_1 t2_0 t3_0 t3_1 t4_0 lx21 lx22 lx23 lx24 t0_0 = (F_Flo_chooseEnd A B C x2 x3 x4 t0_0 t0_1 t0_2 t1_0 t1_1 t2_0 t3_0 t3_1 t4_0) from Eq.trans (by rw [F_Flo_chooseEnd_J69.eq_1, if_pos c102]) hR42)⟩
      ·
        refine lv_aload_n hx hb d_7_22_79 rfl (lv_at hl 1 rfl) ?_
        refine lv_dup hx hb d_7_22_80 rfl ?_
        refine q_get (ci := 6) (j := 3) (v := .long t0_0) C0 V i_Flo rfl rfl hO25 (by decide) w_237 rfl d_7_22_81 ?_
        refine lv_lconst (v := 1) hx hb d_7_22_84 (by decide) ?_
        refine lv_ladd hx hb d_7_22_85 ?_
        obtain ⟨j105, e106⟩ := q_nm (t0_0 + 1 : Int64)
        refine q_tl (v := j105) e106 ?_
        refine q_put (ci := 6) (j := 3) (v := .long j105) (ty := .long) C0 V i_Flo o_Flo n_Flo rfl rfl hO25 (by decide) w_237 rfl rfl rfl rfl (Nat.le_of_ble_eq_true rfl) d_7_22_86 (fun H locs w107 hu108 hO25 V => ?_)
        replace hO25 : w107[k1]? = (some (q k1, .inr (6, [.int A, .int B, .int C, .long j105, .int x4, .ref (q 9), .int t0_2])) : Option (Nat × va_E)) := hO25
        replace hI := n_flO' hI hB1 hu108 hO25 
        replace hO26 := (hu108 _ (by have z0 := hB1.2.2.2.2; omega)).trans hO26
        replace hA27 := (hu108 _ (by have z0 := hB1.2.2.2.2; omega)).trans hA27
        replace hO28 := (hu108 _ (by have z0 := hB1.2.2.2.2; omega)).trans hO28
        replace hA29 := (hu108 _ (by have z0 := hB1.2.2.2.2; omega)).trans hA29
        replace hF := q_us hF hu108 (by simp)
        exact J55 ((j105 : Int64)) _ _ _ _ ⟨V, q_lw hl (q_lw1 1 rfl q_lw0), hI, hF, hO25, hO26, hA27, hO28, hA29, (show F_Flo_chooseEnd_J89 A B C x2 x3 x4 t0_0 t0_1 t0_2 t1_0 t1_1 t2_0 t3_0 t3_1 t4_0 lx21 lx22 lx23 lx24 j105 = (F_Flo_chooseEnd A B C x2 x3 x4 t0_0 t0_1 t0_2 t1_0 t1_1 t2_0 t3_0 t3_1 t4_0) from Eq.trans (by rw [← e106, F_Flo_chooseEnd_J69.eq_1, if_neg c102]) hR42)⟩
  ·
    intro J30
    refine lv_if_eq (tgt := 69) hx hb d_7_22_4 (by decide) (fun c109 => ?_) (fun c109 => ?_)
    ·
      exact J30 ((x3 : Int32), (t1_0 : Int32), (t1_1 : Int32), (t2_0 : (Nat → Int32))) _ _ _ _ ⟨(show q_F (x3.toInt ≤ x3.toInt) from (show x3.toInt ≤ x3.toInt from by omega)), (show q_F (t1_0.toInt ≤ t1_0.toInt + 219) from (show t1_0.toInt ≤ t1_0.toInt + 219 from by omega)), (show q_F (t1_1.toInt ≤ t1_1.toInt) from (show t1_1.toInt ≤ t1_1.toInt from by omega)), (show q_F (t1_1.toInt ≤ x3.toInt + 1) from (show t1_1.toInt ≤ x3.toInt + 1 from by have t1 : 0 ≤ x3.toInt ∧ x3.toInt ≤ 1 := hzx3; have t2 : 0 ≤ t1_1.toInt ∧ t1_1.toInt ≤ 1 := btt1_1; omega)), (show q_F (x3.toInt ≤ t1_1.toInt + 1) from (show x3.toInt ≤ t1_1.toInt + 1 from by have t1 : 0 ≤ x3.toInt ∧ x3.toInt ≤ 1 := hzx3; have t2 : 0 ≤ t1_1.toInt ∧ t1_1.toInt ≤ 1 := btt1_1; omega)), (show q_F (0 ≤ x3.toInt + t1_1.toInt) from (show 0 ≤ x3.toInt + t1_1.toInt from by have t1 : 0 ≤ x3.toInt ∧ x3.toInt ≤ 1 := hzx3; have t2 : 0 ≤ t1_1.toInt ∧ t1_1.toInt ≤ 1 := btt1_1; omega)), (show q_F (t1_1.toInt ≤ t1_0.toInt + 1) from (show t1_1.toInt ≤ t1_0.toInt + 1 from by have t1 : 0 ≤ t1_0.toInt ∧ t1_0.toInt ≤ 220 := btt1_0; have t2 : 0 ≤ t1_1.toInt ∧ t1_1.toInt ≤ 1 := btt1_1; omega)), (show q_F (t1_0.toInt ≤ t1_1.toInt + 220) from (show t1_0.toInt ≤ t1_1.toInt + 220 from by have t1 : 0 ≤ t1_0.toInt ∧ t1_0.toInt ≤ 220 := btt1_0; have t2 : 0 ≤ t1_1.toInt ∧ t1_1.toInt ≤ 1 := btt1_1; omega)), (show q_F (0 ≤ t1_0.toInt + t1_1.toInt) from (show 0 ≤ t1_0.toInt + t1_1.toInt from by have t1 : 0 ≤ t1_0.toInt ∧ t1_0.toInt ≤ 220 := btt1_0; have t2 : 0 ≤ t1_1.toInt ∧ t1_1.toInt ≤ 1 := btt1_1; omega)), (show q_F (t1_0.toInt + t1_1.toInt ≤ 221) from (show t1_0.toInt + t1_1.toInt ≤ 221 from by have t1 : 0 ≤ t1_0.toInt ∧ t1_0.toInt ≤ 220 := btt1_0; have t2 : 0 ≤ t1_1.toInt ∧ t1_1.toInt ≤ 1 := btt1_1; omega)), V, q_lw hl (q_lw1 0 rfl (q_lw1 1 rfl (q_lw1 4 rfl q_lw0))), hI, hF, hT0, hT1, hT2, hT3, hT4, (show F_Flo_chooseEnd_J69 A B C x2 x3 x4 t0_0 t0_1 t0_2 t1_0 t1_1 t2_0 t3_0 t3_1 t4_0 x3 t1_0 t1_1 t2_0 = (F_Flo_chooseEnd A B C x2 x3 x4 t0_0 t0_1 t0_2 t1_0 t1_1 t2_0 t3_0 t3_1 t4_0) from (by rw [F_Flo_chooseEnd.eq_1, if_pos c109]))⟩
    ·
      have b111 : q_F (x2.toInt ≠ 0) := (q_neI c109)
      refine lv_iload_n hx hb d_7_22_7 rfl (lv_at hl 3 rfl) ?_
      refine lv_if_eq (tgt := 69) hx hb d_7_22_8 (by decide) (fun c112 => ?_) (fun c112 => ?_)
      ·
        exact J30 ((x3 : Int32), (t1_0 : Int32), (t1_1 : Int32), (t2_0 : (Nat → Int32))) _ _ _ _ ⟨(show q_F (x3.toInt ≤ x3.toInt) from (show x3.toInt ≤ x3.toInt from by omega)), (show q_F (t1_0.toInt ≤ t1_0.toInt + 219) from (show t1_0.toInt ≤ t1_0.toInt + 219 from by omega)), (show q_F (t1_1.toInt ≤ t1_1.toInt) from (show t1_1.toInt ≤ t1_1.toInt from by omega)), (show q_F (t1_1.toInt ≤ x3.toInt + 1) from (show t1_1.toInt ≤ x3.toInt + 1 from by have t1 : 0 ≤ x3.toInt ∧ x3.toInt ≤ 1 := hzx3; have t2 : 0 ≤ t1_1.toInt ∧ t1_1.toInt ≤ 1 := btt1_1; omega)), (show q_F (x3.toInt ≤ t1_1.toInt + 1) from (show x3.toInt ≤ t1_1.toInt + 1 from by have t1 : 0 ≤ x3.toInt ∧ x3.toInt ≤ 1 := hzx3; have t2 : 0 ≤ t1_1.toInt ∧ t1_1.toInt ≤ 1 := btt1_1; omega)), (show q_F (0 ≤ x3.toInt + t1_1.toInt) from (show 0 ≤ x3.toInt + t1_1.toInt from by have t1 : 0 ≤ x3.toInt ∧ x3.toInt ≤ 1 := hzx3; have t2 : 0 ≤ t1_1.toInt ∧ t1_1.toInt ≤ 1 := btt1_1; omega)), (show q_F (t1_1.toInt ≤ t1_0.toInt + 1) from (show t1_1.toInt ≤ t1_0.toInt + 1 from by have t1 : 0 ≤ t1_0.toInt ∧ t1_0.toInt ≤ 220 := btt1_0; have t2 : 0 ≤ t1_1.toInt ∧ t1_1.toInt ≤ 1 := btt1_1; omega)), (show q_F (t1_0.toInt ≤ t1_1.toInt + 220) from (show t1_0.toInt ≤ t1_1.toInt + 220 from by have t1 : 0 ≤ t1_0.toInt ∧ t1_0.toInt ≤ 220 := btt1_0; have t2 : 0 ≤ t1_1.toInt ∧ t1_1.toInt ≤ 1 := btt1_1; omega)), (show q_F (0 ≤ t1_0.toInt + t1_1.toInt) from (show 0 ≤ t1_0.toInt + t1_1.toInt from by have t1 : 0 ≤ t1_0.toInt ∧ t1_0.toInt ≤ 220 := btt1_0; have t2 : 0 ≤ t1_1.toInt ∧ t1_1.toInt ≤ 1 := btt1_1; omega)), (show q_F (t1_0.toInt + t1_1.toInt ≤ 221) from (show t1_0.toInt + t1_1.toInt ≤ 221 from by have t1 : 0 ≤ t1_0.toInt ∧ t1_0.toInt ≤ 220 := btt1_0; have t2 : 0 ≤ t1_1.toInt ∧ t1_1.toInt ≤ 1 := btt1_1; omega)), V, q_lw hl (q_lw1 0 rfl (q_lw1 1 rfl (q_lw1 4 rfl q_lw0))), hI, hF, hT0, hT1, hT2, hT3, hT4, (show F_Flo_chooseEnd_J69 A B C x2 x3 x4 t0_0 t0_1 t0_2 t1_0 t1_1 t2_0 t3_0 t3_1 t4_0 x3 t1_0 t1_1 t2_0 = (F_Flo_chooseEnd A B C x2 x3 x4 t0_0 t0_1 t0_2 t1_0 t1_1 t2_0 t3_0 t3_1 t4_0) from (by rw [F_Flo_chooseEnd.eq_1, if_neg c109, if_pos c112]))⟩
      ·
        have b114 : q_F (x3.toInt ≠ 0) := (q_neI c112)
        refine lv_aload_n hx hb d_7_22_11 rfl (lv_at hl 1 rfl) ?_
        refine q_get (ci := 6) (j := 5) (v := .ref (q 9)) C0 V i_Flo rfl rfl hT0 (by decide) w_241 rfl d_7_22_12 ?_
        have hO115 := n_o9 hI
        refine q_get (ci := 4) (j := 6) (v := .ref (q 22)) C0 V i_Mil rfl rfl hO115 (by decide) w_127 rfl d_7_22_15 ?_
        refine lv_iconst (v := 1) hx hb d_7_22_18 (by decide) ?_
        refine q_gov V (q_runV (As := [.int 1]) (rest := []) (d := 3) (mc := 0) (ms := 0) (ci := 2) C0 V rfl LV_Flo_69 (X_Big_shiftLeft l D g q ws 22 220 (n_b22 g q) (by decide) 1 hI t1_0 t1_1 hT1 t2_0 hT2  _) rfl rfl hT1 rfl hl.1 rfl (Nat.le_of_ble_eq_true rfl) ⟨by decide, by decide⟩ ⟨Nat.le_of_ble_eq_true rfl, Nat.le_of_ble_eq_true rfl⟩ d_7_22_19) (fun u116 H locs hp117 V => ?_)
        obtain ⟨hI, hZ9⟩ := hp117
        obtain ⟨hu129, hZ9⟩ := hZ9
        obtain ⟨y119, hZ9⟩ := hZ9
        obtain ⟨y120, hZ9⟩ := hZ9
        obtain ⟨f121, hZ9⟩ := hZ9
        obtain ⟨hO118, hZ9⟩ := hZ9
        obtain ⟨hA122, hZ9⟩ := hZ9
        obtain ⟨b123, hZ9⟩ := hZ9
        obtain ⟨b124, hZ9⟩ := hZ9
        obtain ⟨b125, hZ9⟩ := hZ9
        obtain ⟨b126, hZ9⟩ := hZ9
        obtain ⟨b127, hE128⟩ := hZ9
        replace hO118 : u116[22]? = (some (q 22, .inr (2, [.ref (q 23), .int y119, .int y120])) : Option (Nat × va_E)) := hO118
        replace hA122 : u116[23]? = (some (q 23, .inl (g 0, (220 : Int32).toNatClampNeg, .inl f121)) : Option (Nat × va_E)) := hA122
        obtain ⟨p130, e131⟩ : ∃ z, z = (F_Big_shiftLeft (220 : Int32) (1 : Int32) t1_0 t1_1 t2_0) := ⟨_, rfl⟩
        have e132 : y119 = p130.1 := congrArg (fun z => z.1) (hE128.trans e131.symm)
        have e133 : y120 = p130.2.1 := congrArg (fun z => z.2.1) (hE128.trans e131.symm)
        have e134 : f121 = p130.2.2 := congrArg (fun z => z.2.2) (hE128.trans e131.symm)
        replace b123 : q_F (0 ≤ y119.toInt) := b123
        replace b124 : q_F (0 ≤ y120.toInt) := b124
        replace b125 : q_F (y119.toInt ≤ t1_0.toInt + 219) := b125
        replace b126 : q_F (y119.toInt ≤ 220) := b126
        replace b127 : q_F (y120.toInt ≤ t1_1.toInt) := b127
        replace hT0 := (hu129 _ (by have z0 := hB1.2.2.2.2; simp only [List.mem_cons, List.not_mem_nil, or_false, not_or]; omega)).trans hT0
        replace hT3 := (hu129 _ (by decide)).trans hT3
        replace hT4 := (hu129 _ (by decide)).trans hT4
        replace hO115 := (hu129 _ (by decide)).trans hO115
        replace hF := q_uc hF hu129 (by simp)
        have hR135 := (show F_Flo_chooseEnd_c19 A B C x2 x3 x4 t0_0 t0_1 t0_2 t1_0 t1_1 t2_0 t3_0 t3_1 t4_0 p130 = (F_Flo_chooseEnd A B C x2 x3 x4 t0_0 t0_1 t0_2 t1_0 t1_1 t2_0 t3_0 t3_1 t4_0) from (by rw [e131, F_Flo_chooseEnd.eq_1, if_neg c109, if_neg c112]))
        refine lv_aload_n hx hb d_7_22_22 rfl (lv_at hl 1 rfl) ?_
        refine q_get (ci := 6) (j := 5) (v := .ref (q 9)) C0 V i_Flo rfl rfl hT0 (by decide) w_241 rfl d_7_22_23 ?_
        refine q_get (ci := 4) (j := 6) (v := .ref (q 22)) C0 V i_Mil rfl rfl hO115 (by decide) w_127 rfl d_7_22_26 ?_
        refine lv_aload_n hx hb d_7_22_29 rfl (lv_at hl 1 rfl) ?_
        refine q_get (ci := 6) (j := 5) (v := .ref (q 9)) C0 V i_Flo rfl rfl hT0 (by decide) w_241 rfl d_7_22_30 ?_
        refine q_get (ci := 4) (j := 7) (v := .ref (q 24)) C0 V i_Mil rfl rfl hO115 (by decide) w_130 rfl d_7_22_33 ?_
        refine q_goi V (q_runV (As := [.ref (q 24)]) (rest := []) (d := 2) (mc := 0) (ms := 0) (ci := 2) C0 V rfl LV_Flo_162 (X_Big_compareSize l D g q u116 22 220 (n_b22 g q) (by decide) 24 220 (n_b24 g q) (by decide)  hI y119 y120 hO118 f121 hA122 t3_0 t3_1 hT3 t4_0 hT4  _) rfl rfl hO118 rfl hl.1 rfl (Nat.le_of_ble_eq_true rfl) ⟨by decide, by decide⟩ ⟨Nat.le_of_ble_eq_true rfl, Nat.le_of_ble_eq_true rfl⟩ d_7_22_36) (fun a142 u140 H locs hp141 V => ?_)
        obtain ⟨rfl, b143, b144, hE145⟩ := hp141
        have e146 : a142 = (F_Big_compareSize (220 : Int32) (220 : Int32) y119 y120 f121 t3_0 t3_1 t4_0) := hE145
        clear b143
        replace b144 : q_F (a142.toInt ≤ 1) := b144
        refine lv_istore (lv' := [(5, .int a142), (4, .int x3), (0, .ref (q k1)), (1, .int x2), (2, .int x3), (3, .int x4)]) hx hb d_7_22_39 hl (by decide) rfl (fun ls hl => ?_)
        refine lv_iload hx hb d_7_22_41 (lv_at hl 0 rfl) ?_
        refine q_join (X := Int32) (fun z H locs ls _ => q_F (a142.toInt ≤ z.toInt) ∧ q_F (x2.toInt ≤ z.toInt + 1) ∧ q_F (z.toInt ≤ x2.toInt) ∧ q_Wd D g (va_A ws sz) s u116 H locs ∧ lv_has ls 6 [(0, .ref (q k1)), (3, .int x4)] ∧ F_Flo_chooseEnd_J67 A B C x2 x3 x4 t0_0 t0_1 t0_2 t1_0 t1_1 t2_0 t3_0 t3_1 t4_0 p130 y119 y120 f121 z = (F_Flo_chooseEnd A B C x2 x3 x4 t0_0 t0_1 t0_2 t1_0 t1_1 t2_0 t3_0 t3_1 t4_0)) (fun z => [.int z]) 67 0 0 ?_ ?_
        ·
          rintro lx147 H locs ls _ hZ9
          replace hZ9 := hZ9.2
          obtain ⟨i155, hZ9⟩ := hZ9
          obtain ⟨i156, hZ9⟩ := hZ9
          obtain ⟨V, hZ9⟩ := hZ9
          obtain ⟨hl, hR157⟩ := hZ9
          replace i155 : q_F (x2.toInt ≤ lx147.toInt + 1) := i155
          replace i156 : q_F (lx147.toInt ≤ x2.toInt) := i156
          replace hl : lv_has ls 6 [(0, .ref (q k1)), (3, .int x4)] := hl
          refine lv_istore (lv' := [(4, .int lx147), (0, .ref (q k1)), (3, .int x4)]) hx hb d_7_22_67 hl (by decide) rfl (fun ls hl => ?_)
          exact J30 ((lx147 : Int32), (y119 : Int32), (y120 : Int32), (f121 : (Nat → Int32))) _ _ _ _ ⟨(show q_F (lx147.toInt ≤ x3.toInt) from (show lx147.toInt ≤ x3.toInt from by have t1 : 0 ≤ x2.toInt ∧ x2.toInt ≤ 1 := hzx2; have t2 : 0 ≤ x3.toInt ∧ x3.toInt ≤ 1 := hzx3; have t3 : x3.toInt ≠ 0 := b114; have t4 : lx147.toInt ≤ x2.toInt := i156; omega)), (show q_F (y119.toInt ≤ t1_0.toInt + 219) from (show y119.toInt ≤ t1_0.toInt + 219 from by have t1 : y119.toInt ≤ t1_0.toInt + 219 := b125; omega)), (show q_F (y120.toInt ≤ t1_1.toInt) from (show y120.toInt ≤ t1_1.toInt from by have t1 : y120.toInt ≤ t1_1.toInt := b127; omega)), (show q_F (y120.toInt ≤ lx147.toInt + 1) from (show y120.toInt ≤ lx147.toInt + 1 from by have t1 : 0 ≤ x2.toInt ∧ x2.toInt ≤ 1 := hzx2; have t2 : 0 ≤ t1_1.toInt ∧ t1_1.toInt ≤ 1 := btt1_1; have t3 : x2.toInt ≠ 0 := b111; have t4 : y120.toInt ≤ t1_1.toInt := b127; have t5 : x2.toInt ≤ lx147.toInt + 1 := i155; omega)), (show q_F (lx147.toInt ≤ y120.toInt + 1) from (show lx147.toInt ≤ y120.toInt + 1 from by have t1 : 0 ≤ x2.toInt ∧ x2.toInt ≤ 1 := hzx2; have t2 : 0 ≤ y120.toInt := b124; have t3 : lx147.toInt ≤ x2.toInt := i156; omega)), (show q_F (0 ≤ lx147.toInt + y120.toInt) from (show 0 ≤ lx147.toInt + y120.toInt from by have t1 : 0 ≤ x2.toInt ∧ x2.toInt ≤ 1 := hzx2; have t2 : x2.toInt ≠ 0 := b111; have t3 : 0 ≤ y120.toInt := b124; have t4 : x2.toInt ≤ lx147.toInt + 1 := i155; omega)), (show q_F (y120.toInt ≤ y119.toInt + 1) from (show y120.toInt ≤ y119.toInt + 1 from by have t1 : 0 ≤ t1_1.toInt ∧ t1_1.toInt ≤ 1 := btt1_1; have t2 : 0 ≤ y119.toInt := b123; have t3 : y120.toInt ≤ t1_1.toInt := b127; omega)), (show q_F (y119.toInt ≤ y120.toInt + 220) from (show y119.toInt ≤ y120.toInt + 220 from by have t1 : 0 ≤ y120.toInt := b124; have t2 : y119.toInt ≤ 220 := b126; omega)), (show q_F (0 ≤ y119.toInt + y120.toInt) from (show 0 ≤ y119.toInt + y120.toInt from by have t1 : 0 ≤ y119.toInt := b123; have t2 : 0 ≤ y120.toInt := b124; omega)), (show q_F (y119.toInt + y120.toInt ≤ 221) from (show y119.toInt + y120.toInt ≤ 221 from by have t1 : 0 ≤ t1_1.toInt ∧ t1_1.toInt ≤ 1 := btt1_1; have t2 : y119.toInt ≤ 220 := b126; have t3 : y120.toInt ≤ t1_1.toInt := b127; omega)), V, q_lw hl (q_lw1 0 rfl (q_lw1 1 rfl (q_lw1 2 rfl q_lw0))), hI, hF, hT0, hO118, hA122, hT3, hT4, (show F_Flo_chooseEnd_J69 A B C x2 x3 x4 t0_0 t0_1 t0_2 t1_0 t1_1 t2_0 t3_0 t3_1 t4_0 lx147 y119 y120 f121 = (F_Flo_chooseEnd A B C x2 x3 x4 t0_0 t0_1 t0_2 t1_0 t1_1 t2_0 t3_0 t3_1 t4_0) from Eq.trans (by rw [F_Flo_chooseEnd_J67.eq_1]) hR157)⟩
        ·
          intro J153
          refine q_join (X := Unit) (fun z H locs ls _ => q_Wd D g (va_A ws sz) s u116 H locs ∧ lv_has ls 6 [(0, .ref (q k1)), (3, .int x4)] ∧ F_Flo_chooseEnd_J62 A B C x2 x3 x4 t0_0 t0_1 t0_2 t1_0 t1_1 t2_0 t3_0 t3_1 t4_0 p130 y119 y120 f121 = (F_Flo_chooseEnd A B C x2 x3 x4 t0_0 t0_1 t0_2 t1_0 t1_1 t2_0 t3_0 t3_1 t4_0)) (fun z => []) 62 0 0 ?_ ?_
          ·
            rintro _ H locs ls _ ⟨V, hl, hR168⟩
            replace hl : lv_has ls 6 [(0, .ref (q k1)), (3, .int x4)] := hl
            refine lv_iconst (v := 1) hx hb d_7_22_62 (by decide) ?_
            refine lv_goto (tgt := 67) hx hb d_7_22_63 (by decide) ?_
            exact J153 ((1 : Int32)) _ _ _ u116 ⟨(show q_F (a142.toInt ≤ 1) from (show a142.toInt ≤ 1 from by have t1 : a142.toInt ≤ 1 := b144; omega)), (show q_F (x2.toInt ≤ 1 + 1) from (show x2.toInt ≤ 1 + 1 from by have t1 : 0 ≤ x2.toInt ∧ x2.toInt ≤ 1 := hzx2; omega)), (show q_F (1 ≤ x2.toInt) from (show 1 ≤ x2.toInt from by have t1 : 0 ≤ x2.toInt ∧ x2.toInt ≤ 1 := hzx2; have t2 : x2.toInt ≠ 0 := b111; omega)), V, q_lw hl (q_lw1 0 rfl (q_lw1 1 rfl q_lw0)), (show F_Flo_chooseEnd_J67 A B C x2 x3 x4 t0_0 t0_1 t0_2 t1_0 t1_1 t2_0 t3_0 t3_1 t4_0 p130 y119 y120 f121 1 = (F_Flo_chooseEnd A B C x2 x3 x4 t0_0 t0_1 t0_2 t1_0 t1_1 t2_0 t3_0 t3_1 t4_0) from Eq.trans (by rw [F_Flo_chooseEnd_J62.eq_1]) hR168)⟩
          ·
            intro J167
            refine lv_if_gt (tgt := 62) hx hb d_7_22_43 (by decide) (fun c173 => ?_) (fun c173 => ?_)
            ·
              exact J167 (()) _ _ _ u116 ⟨V, q_lw hl (q_lw1 2 rfl (q_lw1 5 rfl q_lw0)), (show F_Flo_chooseEnd_J62 A B C x2 x3 x4 t0_0 t0_1 t0_2 t1_0 t1_1 t2_0 t3_0 t3_1 t4_0 p130 y119 y120 f121 = (F_Flo_chooseEnd A B C x2 x3 x4 t0_0 t0_1 t0_2 t1_0 t1_1 t2_0 t3_0 t3_1 t4_0) from Eq.trans (by have c173x := c173; rw [e146, e134, e133, e132] at c173x; rw [e134, e133, e132, F_Flo_chooseEnd_c19.eq_1, if_pos c173x]) hR135)⟩
            ·
              have b175 : q_F (a142.toInt ≤ 0) := (q_nltI c173)
              refine lv_iload hx hb d_7_22_46 (lv_at hl 0 rfl) ?_
              refine q_join (X := Unit) (fun z H locs ls _ => q_Wd D g (va_A ws sz) s u116 H locs ∧ lv_has ls 6 [(0, .ref (q k1)), (3, .int x4)] ∧ F_Flo_chooseEnd_J66 A B C x2 x3 x4 t0_0 t0_1 t0_2 t1_0 t1_1 t2_0 t3_0 t3_1 t4_0 p130 y119 y120 f121 = (F_Flo_chooseEnd A B C x2 x3 x4 t0_0 t0_1 t0_2 t1_0 t1_1 t2_0 t3_0 t3_1 t4_0)) (fun z => []) 66 0 0 ?_ ?_
              ·
                rintro _ H locs ls _ ⟨V, hl, hR182⟩
                replace hl : lv_has ls 6 [(0, .ref (q k1)), (3, .int x4)] := hl
                refine lv_iconst (v := 0) hx hb d_7_22_66 (by decide) ?_
                exact J153 ((0 : Int32)) _ _ _ u116 ⟨(show q_F (a142.toInt ≤ 0) from (show a142.toInt ≤ 0 from by have t1 : a142.toInt ≤ 0 := b175; omega)), (show q_F (x2.toInt ≤ 0 + 1) from (show x2.toInt ≤ 0 + 1 from by have t1 : 0 ≤ x2.toInt ∧ x2.toInt ≤ 1 := hzx2; omega)), (show q_F (0 ≤ x2.toInt) from (show 0 ≤ x2.toInt from by have t1 : 0 ≤ x2.toInt ∧ x2.toInt ≤ 1 := hzx2; omega)), V, q_lw hl (q_lw1 0 rfl (q_lw1 1 rfl q_lw0)), (show F_Flo_chooseEnd_J67 A B C x2 x3 x4 t0_0 t0_1 t0_2 t1_0 t1_1 t2_0 t3_0 t3_1 t4_0 p130 y119 y120 f121 0 = (F_Flo_chooseEnd A B C x2 x3 x4 t0_0 t0_1 t0_2 t1_0 t1_1 t2_0 t3_0 t3_1 t4_0) from Eq.trans (by rw [F_Flo_chooseEnd_J66.eq_1]) hR182)⟩
              ·
                intro J181
                refine lv_if_ne (tgt := 66) hx hb d_7_22_48 (by decide) (fun c187 => ?_) (fun c187 => ?_)
                ·
                  exact J181 (()) _ _ _ u116 ⟨V, q_lw hl (q_lw1 2 rfl (q_lw1 5 rfl q_lw0)), (show F_Flo_chooseEnd_J66 A B C x2 x3 x4 t0_0 t0_1 t0_2 t1_0 t1_1 t2_0 t3_0 t3_1 t4_0 p130 y119 y120 f121 = (F_Flo_chooseEnd A B C x2 x3 x4 t0_0 t0_1 t0_2 t1_0 t1_1 t2_0 t3_0 t3_1 t4_0) from Eq.trans (by have c173x := c173; rw [e146, e134, e133, e132] at c173x; have c187x := c187; rw [e146, e134, e133, e132] at c187x; rw [e134, e133, e132, F_Flo_chooseEnd_c19.eq_1, if_neg c173x, if_neg c187x]) hR135)⟩
                ·
                  refine lv_aload_n hx hb d_7_22_51 rfl (lv_at hl 2 rfl) ?_
                  refine q_get (ci := 6) (j := 3) (v := .long t0_0) C0 V i_Flo rfl rfl hT0 (by decide) w_237 rfl d_7_22_52 ?_
                  refine lv_lconst (v := 1) hx hb d_7_22_55 (by decide) ?_
                  refine lv_land hx hb d_7_22_56 ?_
                  obtain ⟨j190, e191⟩ := q_nm (t0_0 &&& 1 : Int64)
                  refine q_tl (v := j190) e191 ?_
                  refine lv_lconst (v := 1) hx hb d_7_22_57 (by decide) ?_
                  refine W.lcmp hx hb d_7_22_58 ?_
                  obtain ⟨a193, e194⟩ := q_nm (lg_cmp j190 1 : Int32)
                  refine q_ti (v := a193) e194 ?_
                  refine lv_if_ne (tgt := 66) hx hb d_7_22_59 (by decide) (fun c196 => ?_) (fun c196 => ?_)
                  ·
                    exact J181 (()) _ _ _ u116 ⟨V, q_lw hl (q_lw1 2 rfl (q_lw1 5 rfl q_lw0)), (show F_Flo_chooseEnd_J66 A B C x2 x3 x4 t0_0 t0_1 t0_2 t1_0 t1_1 t2_0 t3_0 t3_1 t4_0 p130 y119 y120 f121 = (F_Flo_chooseEnd A B C x2 x3 x4 t0_0 t0_1 t0_2 t1_0 t1_1 t2_0 t3_0 t3_1 t4_0) from Eq.trans (by have c173x := c173; rw [e146, e134, e133, e132] at c173x; have c187x := c187; rw [e146, e134, e133, e132] at c187x; have c196x := c196; rw [← e194, ← e191] at c196x; rw [e134, e133, e132, F_Flo_chooseEnd_c19.eq_1, if_neg c173x, if_pos c187x, if_neg c196x]) hR135)⟩
                  ·
                    exact J167 (()) _ _ _ u116 ⟨V, q_lw hl (q_lw1 2 rfl (q_lw1 5 rfl q_lw0)), (show F_Flo_chooseEnd_J62 A B C x2 x3 x4 t0_0 t0_1 t0_2 t1_0 t1_1 t2_0 t3_0 t3_1 t4_0 p130 y119 y120 f121 = (F_Flo_chooseEnd A B C x2 x3 x4 t0_0 t0_1 t0_2 t1_0 t1_1 t2_0 t3_0 t3_1 t4_0) from Eq.trans (by have c173x := c173; rw [e146, e134, e133, e132] at c173x; have c187x := c187; rw [e146, e134, e133, e132] at c187x; have c196x := c196; rw [← e194, ← e191] at c196x; rw [e134, e133, e132, F_Flo_chooseEnd_c19.eq_1, if_neg c173x, if_pos c187x, if_pos c196x]) hR135)⟩
def F_Flo_prepare_c239 (K_F_Flo_prepare_L218 : Int32 → Int32 → Int32 → Int32 → (Nat → Int32) → (Int64 × Int32 × Int32 × Int32 × Int32 × (Nat → Int32) × Int32 × Int32 × (Nat → Int32) × Int32 × Int32 × (Nat → Int32) × Int32 × Int32 × (Nat → Int32))) (A : Int32) (B : Int32) (C : Int32) (x2 : Int64) (t0_0 : Int64) (t0_1 : Int32) (t0_2 : Int32) (t1_0 : Int32) (t1_1 : Int32) (t2_0 : (Nat → Int32)) (t3_0 : Int32) (t3_1 : Int32) (t4_0 : (Nat → Int32)) (t5_0 : Int32) (t5_1 : Int32) (t6_0 : (Nat → Int32)) (t7_0 : Int32) (t7_1 : Int32) (t8_0 : (Nat → Int32)) (a39 : Int32) (p64 : (Int32 × Int32 × (Nat → Int32))) (a99 : Int32) (p123 : (Int32 × Int32 × (Nat → Int32))) (y112 : Int32) (y113 : Int32) (f114 : (Nat → Int32)) (p147 : (Int32 × Int32 × (Nat → Int32))) (p180 : (Int32 × Int32 × (Nat → Int32))) (y169 : Int32) (y170 : Int32) (f171 : (Nat → Int32)) (p204 : (Int32 × Int32 × (Nat → Int32))) (p231 : (Int32 × Int32 × (Nat → Int32))) (y220 : Int32) (y221 : Int32) (f222 : (Nat → Int32)) (p255 : (Int32 × Int32 × (Nat → Int32))) (lx273 : Int32) (lx274 : Int32) (lx275 : (Nat → Int32)) (p311 : (Int32 × Int32 × (Nat → Int32))) (y301 : Int32) (y302 : Int32) (f303 : (Nat → Int32)) (p336 : (Int32 × Int32 × (Nat → Int32))) (y326 : Int32) (y327 : Int32) (f328 : (Nat → Int32)) (p362 : (Int32 × Int32 × (Nat → Int32))) (y352 : Int32) (y353 : Int32) (f354 : (Nat → Int32)) (p387 : (Int32 × Int32 × (Nat → Int32))) (y377 : Int32) (y378 : Int32) (f379 : (Nat → Int32)) (lx398 : Int32) (lx399 : Int32) (lx400 : Int32) (lx401 : Int32) (lx402 : (Nat → Int32)) (p453 : (Int32 × Int32 × (Nat → Int32))) : Int64 × Int32 × Int32 × Int32 × Int32 × (Nat → Int32) × Int32 × Int32 × (Nat → Int32) × Int32 × Int32 × (Nat → Int32) × Int32 × Int32 × (Nat → Int32) := K_F_Flo_prepare_L218 (lx398 + 1 : Int32) (lx399 + 1 : Int32) (p453.1 : Int32) (p453.2.1 : Int32) (p453.2.2 : (Nat → Int32))
def F_Flo_prepare_L218 (A : Int32) (B : Int32) (C : Int32) (x2 : Int64) (t0_0 : Int64) (t0_1 : Int32) (t0_2 : Int32) (t1_0 : Int32) (t1_1 : Int32) (t2_0 : (Nat → Int32)) (t3_0 : Int32) (t3_1 : Int32) (t4_0 : (Nat → Int32)) (t5_0 : Int32) (t5_1 : Int32) (t6_0 : (Nat → Int32)) (t7_0 : Int32) (t7_1 : Int32) (t8_0 : (Nat → Int32)) (a39 : Int32) (p64 : (Int32 × Int32 × (Nat → Int32))) (a99 : Int32) (p123 : (Int32 × Int32 × (Nat → Int32))) (y112 : Int32) (y113 : Int32) (f114 : (Nat → Int32)) (p147 : (Int32 × Int32 × (Nat → Int32))) (p180 : (Int32 × Int32 × (Nat → Int32))) (y169 : Int32) (y170 : Int32) (f171 : (Nat → Int32)) (p204 : (Int32 × Int32 × (Nat → Int32))) (p231 : (Int32 × Int32 × (Nat → Int32))) (y220 : Int32) (y221 : Int32) (f222 : (Nat → Int32)) (p255 : (Int32 × Int32 × (Nat → Int32))) (lx273 : Int32) (lx274 : Int32) (lx275 : (Nat → Int32)) (p311 : (Int32 × Int32 × (Nat → Int32))) (y301 : Int32) (y302 : Int32) (f303 : (Nat → Int32)) (p336 : (Int32 × Int32 × (Nat → Int32))) (y326 : Int32) (y327 : Int32) (f328 : (Nat → Int32)) (p362 : (Int32 × Int32 × (Nat → Int32))) (y352 : Int32) (y353 : Int32) (f354 : (Nat → Int32)) (p387 : (Int32 × Int32 × (Nat → Int32))) (y377 : Int32) (y378 : Int32) (f379 : (Nat → Int32)) : Nat → Int32 → Int32 → Int32 → Int32 → (Nat → Int32) → (Int64 × Int32 × Int32 × Int32 × Int32 × (Nat → Int32) × Int32 × Int32 × (Nat → Int32) × Int32 × Int32 × (Nat → Int32) × Int32 × Int32 × (Nat → Int32))
  | 0, _, _, _, _, _ => default
  | fm + 1, lx398, lx399, lx400, lx401, lx402 => if (3 : Int32) ≤ lx398 then ((t0_0, t0_1, lx399, y326, y327, f328, lx400, lx401, lx402, y352, y353, f354, y377, y378, f379)) else (if ((F_Big_compareSize (220 : Int32) (220 : Int32) y326 y327 f328 lx400 lx401 lx402) : Int32) < (0 : Int32) then ((t0_0, t0_1, lx399, y326, y327, f328, lx400, lx401, lx402, y352, y353, f354, y377, y378, f379)) else (F_Flo_prepare_c239 (F_Flo_prepare_L218 A B C x2 t0_0 t0_1 t0_2 t1_0 t1_1 t2_0 t3_0 t3_1 t4_0 t5_0 t5_1 t6_0 t7_0 t7_1 t8_0 a39 p64 a99 p123 y112 y113 f114 p147 p180 y169 y170 f171 p204 p231 y220 y221 f222 p255 lx273 lx274 lx275 p311 y301 y302 f303 p336 y326 y327 f328 p362 y352 y353 f354 p387 y377 y378 f379 fm) A B C x2 t0_0 t0_1 t0_2 t1_0 t1_1 t2_0 t3_0 t3_1 t4_0 t5_0 t5_1 t6_0 t7_0 t7_1 t8_0 a39 p64 a99 p123 y112 y113 f114 p147 p180 y169 y170 f171 p204 p231 y220 y221 f222 p255 lx273 lx274 lx275 p311 y301 y302 f303 p336 y326 y327 f328 p362 y352 y353 f354 p387 y377 y378 f379 lx398 lx399 lx400 lx401 lx402 ((F_Big_multiplySmall (220 : Int32) (10 : Int32) (0 : Int32) lx400 lx401 lx402) : (Int32 × Int32 × (Nat → Int32)))))
def F_Flo_prepare_c212 (A : Int32) (B : Int32) (C : Int32) (x2 : Int64) (t0_0 : Int64) (t0_1 : Int32) (t0_2 : Int32) (t1_0 : Int32) (t1_1 : Int32) (t2_0 : (Nat → Int32)) (t3_0 : Int32) (t3_1 : Int32) (t4_0 : (Nat → Int32)) (t5_0 : Int32) (t5_1 : Int32) (t6_0 : (Nat → Int32)) (t7_0 : Int32) (t7_1 : Int32) (t8_0 : (Nat → Int32)) (a39 : Int32) (p64 : (Int32 × Int32 × (Nat → Int32))) (a99 : Int32) (p123 : (Int32 × Int32 × (Nat → Int32))) (y112 : Int32) (y113 : Int32) (f114 : (Nat → Int32)) (p147 : (Int32 × Int32 × (Nat → Int32))) (p180 : (Int32 × Int32 × (Nat → Int32))) (y169 : Int32) (y170 : Int32) (f171 : (Nat → Int32)) (p204 : (Int32 × Int32 × (Nat → Int32))) (p231 : (Int32 × Int32 × (Nat → Int32))) (y220 : Int32) (y221 : Int32) (f222 : (Nat → Int32)) (p255 : (Int32 × Int32 × (Nat → Int32))) (lx273 : Int32) (lx274 : Int32) (lx275 : (Nat → Int32)) (p311 : (Int32 × Int32 × (Nat → Int32))) (y301 : Int32) (y302 : Int32) (f303 : (Nat → Int32)) (p336 : (Int32 × Int32 × (Nat → Int32))) (y326 : Int32) (y327 : Int32) (f328 : (Nat → Int32)) (p362 : (Int32 × Int32 × (Nat → Int32))) (y352 : Int32) (y353 : Int32) (f354 : (Nat → Int32)) (p387 : (Int32 × Int32 × (Nat → Int32))) : Int64 × Int32 × Int32 × Int32 × Int32 × (Nat → Int32) × Int32 × Int32 × (Nat → Int32) × Int32 × Int32 × (Nat → Int32) × Int32 × Int32 × (Nat → Int32) := F_Flo_prepare_L218 A B C x2 t0_0 t0_1 t0_2 t1_0 t1_1 t2_0 t3_0 t3_1 t4_0 t5_0 t5_1 t6_0 t7_0 t7_1 t8_0 a39 p64 a99 p123 y112 y113 f114 p147 p180 y169 y170 f171 p204 p231 y220 y221 f222 p255 lx273 lx274 lx275 p311 y301 y302 f303 p336 y326 y327 f328 p362 y352 y353 f354 p387 (p387.1 : Int32) (p387.2.1 : Int32) (p387.2.2 : (Nat → Int32)) ((3 - (0 : Int32).toInt).toNat + 1) 0 a99 y301 y302 f303
def F_Flo_prepare_c197 (A : Int32) (B : Int32) (C : Int32) (x2 : Int64) (t0_0 : Int64) (t0_1 : Int32) (t0_2 : Int32) (t1_0 : Int32) (t1_1 : Int32) (t2_0 : (Nat → Int32)) (t3_0 : Int32) (t3_1 : Int32) (t4_0 : (Nat → Int32)) (t5_0 : Int32) (t5_1 : Int32) (t6_0 : (Nat → Int32)) (t7_0 : Int32) (t7_1 : Int32) (t8_0 : (Nat → Int32)) (a39 : Int32) (p64 : (Int32 × Int32 × (Nat → Int32))) (a99 : Int32) (p123 : (Int32 × Int32 × (Nat → Int32))) (y112 : Int32) (y113 : Int32) (f114 : (Nat → Int32)) (p147 : (Int32 × Int32 × (Nat → Int32))) (p180 : (Int32 × Int32 × (Nat → Int32))) (y169 : Int32) (y170 : Int32) (f171 : (Nat → Int32)) (p204 : (Int32 × Int32 × (Nat → Int32))) (p231 : (Int32 × Int32 × (Nat → Int32))) (y220 : Int32) (y221 : Int32) (f222 : (Nat → Int32)) (p255 : (Int32 × Int32 × (Nat → Int32))) (lx273 : Int32) (lx274 : Int32) (lx275 : (Nat → Int32)) (p311 : (Int32 × Int32 × (Nat → Int32))) (y301 : Int32) (y302 : Int32) (f303 : (Nat → Int32)) (p336 : (Int32 × Int32 × (Nat → Int32))) (y326 : Int32) (y327 : Int32) (f328 : (Nat → Int32)) (p362 : (Int32 × Int32 × (Nat → Int32))) : Int64 × Int32 × Int32 × Int32 × Int32 × (Nat → Int32) × Int32 × Int32 × (Nat → Int32) × Int32 × Int32 × (Nat → Int32) × Int32 × Int32 × (Nat → Int32) := F_Flo_prepare_c212 A B C x2 t0_0 t0_1 t0_2 t1_0 t1_1 t2_0 t3_0 t3_1 t4_0 t5_0 t5_1 t6_0 t7_0 t7_1 t8_0 a39 p64 a99 p123 y112 y113 f114 p147 p180 y169 y170 f171 p204 p231 y220 y221 f222 p255 lx273 lx274 lx275 p311 y301 y302 f303 p336 y326 y327 f328 p362 (p362.1 : Int32) (p362.2.1 : Int32) (p362.2.2 : (Nat → Int32)) ((F_Big_timesTen (220 : Int32) (-a99 : Int32) lx273 lx274 lx275) : (Int32 × Int32 × (Nat → Int32)))
def F_Flo_prepare_c182 (A : Int32) (B : Int32) (C : Int32) (x2 : Int64) (t0_0 : Int64) (t0_1 : Int32) (t0_2 : Int32) (t1_0 : Int32) (t1_1 : Int32) (t2_0 : (Nat → Int32)) (t3_0 : Int32) (t3_1 : Int32) (t4_0 : (Nat → Int32)) (t5_0 : Int32) (t5_1 : Int32) (t6_0 : (Nat → Int32)) (t7_0 : Int32) (t7_1 : Int32) (t8_0 : (Nat → Int32)) (a39 : Int32) (p64 : (Int32 × Int32 × (Nat → Int32))) (a99 : Int32) (p123 : (Int32 × Int32 × (Nat → Int32))) (y112 : Int32) (y113 : Int32) (f114 : (Nat → Int32)) (p147 : (Int32 × Int32 × (Nat → Int32))) (p180 : (Int32 × Int32 × (Nat → Int32))) (y169 : Int32) (y170 : Int32) (f171 : (Nat → Int32)) (p204 : (Int32 × Int32 × (Nat → Int32))) (p231 : (Int32 × Int32 × (Nat → Int32))) (y220 : Int32) (y221 : Int32) (f222 : (Nat → Int32)) (p255 : (Int32 × Int32 × (Nat → Int32))) (lx273 : Int32) (lx274 : Int32) (lx275 : (Nat → Int32)) (p311 : (Int32 × Int32 × (Nat → Int32))) (y301 : Int32) (y302 : Int32) (f303 : (Nat → Int32)) (p336 : (Int32 × Int32 × (Nat → Int32))) : Int64 × Int32 × Int32 × Int32 × Int32 × (Nat → Int32) × Int32 × Int32 × (Nat → Int32) × Int32 × Int32 × (Nat → Int32) × Int32 × Int32 × (Nat → Int32) := F_Flo_prepare_c197 A B C x2 t0_0 t0_1 t0_2 t1_0 t1_1 t2_0 t3_0 t3_1 t4_0 t5_0 t5_1 t6_0 t7_0 t7_1 t8_0 a39 p64 a99 p123 y112 y113 f114 p147 p180 y169 y170 f171 p204 p231 y220 y221 f222 p255 lx273 lx274 lx275 p311 y301 y302 f303 p336 (p336.1 : Int32) (p336.2.1 : Int32) (p336.2.2 : (Nat → Int32)) ((F_Big_timesTen (220 : Int32) (-a99 : Int32) y220 y221 f222) : (Int32 × Int32 × (Nat → Int32)))
def F_Flo_prepare_c172 (A : Int32) (B : Int32) (C : Int32) (x2 : Int64) (t0_0 : Int64) (t0_1 : Int32) (t0_2 : Int32) (t1_0 : Int32) (t1_1 : Int32) (t2_0 : (Nat → Int32)) (t3_0 : Int32) (t3_1 : Int32) (t4_0 : (Nat → Int32)) (t5_0 : Int32) (t5_1 : Int32) (t6_0 : (Nat → Int32)) (t7_0 : Int32) (t7_1 : Int32) (t8_0 : (Nat → Int32)) (a39 : Int32) (p64 : (Int32 × Int32 × (Nat → Int32))) (a99 : Int32) (p123 : (Int32 × Int32 × (Nat → Int32))) (y112 : Int32) (y113 : Int32) (f114 : (Nat → Int32)) (p147 : (Int32 × Int32 × (Nat → Int32))) (p180 : (Int32 × Int32 × (Nat → Int32))) (y169 : Int32) (y170 : Int32) (f171 : (Nat → Int32)) (p204 : (Int32 × Int32 × (Nat → Int32))) (p231 : (Int32 × Int32 × (Nat → Int32))) (y220 : Int32) (y221 : Int32) (f222 : (Nat → Int32)) (p255 : (Int32 × Int32 × (Nat → Int32))) (lx273 : Int32) (lx274 : Int32) (lx275 : (Nat → Int32)) (p311 : (Int32 × Int32 × (Nat → Int32))) : Int64 × Int32 × Int32 × Int32 × Int32 × (Nat → Int32) × Int32 × Int32 × (Nat → Int32) × Int32 × Int32 × (Nat → Int32) × Int32 × Int32 × (Nat → Int32) := F_Flo_prepare_c182 A B C x2 t0_0 t0_1 t0_2 t1_0 t1_1 t2_0 t3_0 t3_1 t4_0 t5_0 t5_1 t6_0 t7_0 t7_1 t8_0 a39 p64 a99 p123 y112 y113 f114 p147 p180 y169 y170 f171 p204 p231 y220 y221 f222 p255 lx273 lx274 lx275 p311 (p311.1 : Int32) (p311.2.1 : Int32) (p311.2.2 : (Nat → Int32)) ((F_Big_timesTen (220 : Int32) (-a99 : Int32) y112 y113 f114) : (Int32 × Int32 × (Nat → Int32)))
def F_Flo_prepare_J166 (A : Int32) (B : Int32) (C : Int32) (x2 : Int64) (t0_0 : Int64) (t0_1 : Int32) (t0_2 : Int32) (t1_0 : Int32) (t1_1 : Int32) (t2_0 : (Nat → Int32)) (t3_0 : Int32) (t3_1 : Int32) (t4_0 : (Nat → Int32)) (t5_0 : Int32) (t5_1 : Int32) (t6_0 : (Nat → Int32)) (t7_0 : Int32) (t7_1 : Int32) (t8_0 : (Nat → Int32)) (a39 : Int32) (p64 : (Int32 × Int32 × (Nat → Int32))) (a99 : Int32) (p123 : (Int32 × Int32 × (Nat → Int32))) (y112 : Int32) (y113 : Int32) (f114 : (Nat → Int32)) (p147 : (Int32 × Int32 × (Nat → Int32))) (p180 : (Int32 × Int32 × (Nat → Int32))) (y169 : Int32) (y170 : Int32) (f171 : (Nat → Int32)) (p204 : (Int32 × Int32 × (Nat → Int32))) (p231 : (Int32 × Int32 × (Nat → Int32))) (y220 : Int32) (y221 : Int32) (f222 : (Nat → Int32)) (p255 : (Int32 × Int32 × (Nat → Int32))) (lx273 : Int32) (lx274 : Int32) (lx275 : (Nat → Int32)) : Int64 × Int32 × Int32 × Int32 × Int32 × (Nat → Int32) × Int32 × Int32 × (Nat → Int32) × Int32 × Int32 × (Nat → Int32) × Int32 × Int32 × (Nat → Int32) := F_Flo_prepare_c172 A B C x2 t0_0 t0_1 t0_2 t1_0 t1_1 t2_0 t3_0 t3_1 t4_0 t5_0 t5_1 t6_0 t7_0 t7_1 t8_0 a39 p64 a99 p123 y112 y113 f114 p147 p180 y169 y170 f171 p204 p231 y220 y221 f222 p255 lx273 lx274 lx275 ((F_Big_timesTen (220 : Int32) a99 y169 y170 f171) : (Int32 × Int32 × (Nat → Int32)))
def F_Flo_prepare_c162 (A : Int32) (B : Int32) (C : Int32) (x2 : Int64) (t0_0 : Int64) (t0_1 : Int32) (t0_2 : Int32) (t1_0 : Int32) (t1_1 : Int32) (t2_0 : (Nat → Int32)) (t3_0 : Int32) (t3_1 : Int32) (t4_0 : (Nat → Int32)) (t5_0 : Int32) (t5_1 : Int32) (t6_0 : (Nat → Int32)) (t7_0 : Int32) (t7_1 : Int32) (t8_0 : (Nat → Int32)) (a39 : Int32) (p64 : (Int32 × Int32 × (Nat → Int32))) (a99 : Int32) (p123 : (Int32 × Int32 × (Nat → Int32))) (y112 : Int32) (y113 : Int32) (f114 : (Nat → Int32)) (p147 : (Int32 × Int32 × (Nat → Int32))) (p180 : (Int32 × Int32 × (Nat → Int32))) (y169 : Int32) (y170 : Int32) (f171 : (Nat → Int32)) (p204 : (Int32 × Int32 × (Nat → Int32))) (p231 : (Int32 × Int32 × (Nat → Int32))) (y220 : Int32) (y221 : Int32) (f222 : (Nat → Int32)) (p255 : (Int32 × Int32 × (Nat → Int32))) (p500 : (Int32 × Int32 × Int32 × (Nat → Int32))) : Int64 × Int32 × Int32 × Int32 × Int32 × (Nat → Int32) × Int32 × Int32 × (Nat → Int32) × Int32 × Int32 × (Nat → Int32) × Int32 × Int32 × (Nat → Int32) := F_Flo_prepare_J166 A B C x2 t0_0 t0_1 t0_2 t1_0 t1_1 t2_0 t3_0 t3_1 t4_0 t5_0 t5_1 t6_0 t7_0 t7_1 t8_0 a39 p64 a99 p123 y112 y113 f114 p147 p180 y169 y170 f171 p204 p231 y220 y221 f222 p255 (p500.2.1 : Int32) (p500.2.2.1 : Int32) (p500.2.2.2 : (Nat → Int32))
def F_Flo_prepare_c132 (A : Int32) (B : Int32) (C : Int32) (x2 : Int64) (t0_0 : Int64) (t0_1 : Int32) (t0_2 : Int32) (t1_0 : Int32) (t1_1 : Int32) (t2_0 : (Nat → Int32)) (t3_0 : Int32) (t3_1 : Int32) (t4_0 : (Nat → Int32)) (t5_0 : Int32) (t5_1 : Int32) (t6_0 : (Nat → Int32)) (t7_0 : Int32) (t7_1 : Int32) (t8_0 : (Nat → Int32)) (a39 : Int32) (p64 : (Int32 × Int32 × (Nat → Int32))) (a99 : Int32) (p123 : (Int32 × Int32 × (Nat → Int32))) (y112 : Int32) (y113 : Int32) (f114 : (Nat → Int32)) (p147 : (Int32 × Int32 × (Nat → Int32))) (p180 : (Int32 × Int32 × (Nat → Int32))) (y169 : Int32) (y170 : Int32) (f171 : (Nat → Int32)) (p204 : (Int32 × Int32 × (Nat → Int32))) (p231 : (Int32 × Int32 × (Nat → Int32))) (y220 : Int32) (y221 : Int32) (f222 : (Nat → Int32)) (p255 : (Int32 × Int32 × (Nat → Int32))) : Int64 × Int32 × Int32 × Int32 × Int32 × (Nat → Int32) × Int32 × Int32 × (Nat → Int32) × Int32 × Int32 × (Nat → Int32) × Int32 × Int32 × (Nat → Int32) := if (lg_cmp ((F_Flo_fraction A B C x2) : Int64) 0 : Int32) = (0 : Int32) then (if ((F_Flo_exponent A B C x2) : Int32) ≤ (1 : Int32) then (F_Flo_prepare_J166 A B C x2 t0_0 t0_1 t0_2 t1_0 t1_1 t2_0 t3_0 t3_1 t4_0 t5_0 t5_1 t6_0 t7_0 t7_1 t8_0 a39 p64 a99 p123 y112 y113 f114 p147 p180 y169 y170 f171 p204 p231 y220 y221 f222 p255 (p255.1 : Int32) (p255.2.1 : Int32) (p255.2.2 : (Nat → Int32))) else (F_Flo_prepare_c162 A B C x2 t0_0 t0_1 t0_2 t1_0 t1_1 t2_0 t3_0 t3_1 t4_0 t5_0 t5_1 t6_0 t7_0 t7_1 t8_0 a39 p64 a99 p123 y112 y113 f114 p147 p180 y169 y170 f171 p204 p231 y220 y221 f222 p255 ((F_Big_shiftRight (220 : Int32) (1 : Int32) (p255.1 : Int32) (p255.2.1 : Int32) (p255.2.2 : (Nat → Int32))) : (Int32 × Int32 × Int32 × (Nat → Int32))))) else (F_Flo_prepare_J166 A B C x2 t0_0 t0_1 t0_2 t1_0 t1_1 t2_0 t3_0 t3_1 t4_0 t5_0 t5_1 t6_0 t7_0 t7_1 t8_0 a39 p64 a99 p123 y112 y113 f114 p147 p180 y169 y170 f171 p204 p231 y220 y221 f222 p255 (p255.1 : Int32) (p255.2.1 : Int32) (p255.2.2 : (Nat → Int32)))
def F_Flo_prepare_c115 (A : Int32) (B : Int32) (C : Int32) (x2 : Int64) (t0_0 : Int64) (t0_1 : Int32) (t0_2 : Int32) (t1_0 : Int32) (t1_1 : Int32) (t2_0 : (Nat → Int32)) (t3_0 : Int32) (t3_1 : Int32) (t4_0 : (Nat → Int32)) (t5_0 : Int32) (t5_1 : Int32) (t6_0 : (Nat → Int32)) (t7_0 : Int32) (t7_1 : Int32) (t8_0 : (Nat → Int32)) (a39 : Int32) (p64 : (Int32 × Int32 × (Nat → Int32))) (a99 : Int32) (p123 : (Int32 × Int32 × (Nat → Int32))) (y112 : Int32) (y113 : Int32) (f114 : (Nat → Int32)) (p147 : (Int32 × Int32 × (Nat → Int32))) (p180 : (Int32 × Int32 × (Nat → Int32))) (y169 : Int32) (y170 : Int32) (f171 : (Nat → Int32)) (p204 : (Int32 × Int32 × (Nat → Int32))) (p231 : (Int32 × Int32 × (Nat → Int32))) : Int64 × Int32 × Int32 × Int32 × Int32 × (Nat → Int32) × Int32 × Int32 × (Nat → Int32) × Int32 × Int32 × (Nat → Int32) × Int32 × Int32 × (Nat → Int32) := F_Flo_prepare_c132 A B C x2 t0_0 t0_1 t0_2 t1_0 t1_1 t2_0 t3_0 t3_1 t4_0 t5_0 t5_1 t6_0 t7_0 t7_1 t8_0 a39 p64 a99 p123 y112 y113 f114 p147 p180 y169 y170 f171 p204 p231 (p231.1 : Int32) (p231.2.1 : Int32) (p231.2.2 : (Nat → Int32)) ((F_Big_copy (220 : Int32) (220 : Int32) t7_0 t7_1 t8_0 (p231.1 : Int32) (p231.2.1 : Int32) (p231.2.2 : (Nat → Int32))) : (Int32 × Int32 × (Nat → Int32)))
def F_Flo_prepare_c100 (A : Int32) (B : Int32) (C : Int32) (x2 : Int64) (t0_0 : Int64) (t0_1 : Int32) (t0_2 : Int32) (t1_0 : Int32) (t1_1 : Int32) (t2_0 : (Nat → Int32)) (t3_0 : Int32) (t3_1 : Int32) (t4_0 : (Nat → Int32)) (t5_0 : Int32) (t5_1 : Int32) (t6_0 : (Nat → Int32)) (t7_0 : Int32) (t7_1 : Int32) (t8_0 : (Nat → Int32)) (a39 : Int32) (p64 : (Int32 × Int32 × (Nat → Int32))) (a99 : Int32) (p123 : (Int32 × Int32 × (Nat → Int32))) (y112 : Int32) (y113 : Int32) (f114 : (Nat → Int32)) (p147 : (Int32 × Int32 × (Nat → Int32))) (p180 : (Int32 × Int32 × (Nat → Int32))) (y169 : Int32) (y170 : Int32) (f171 : (Nat → Int32)) (p204 : (Int32 × Int32 × (Nat → Int32))) : Int64 × Int32 × Int32 × Int32 × Int32 × (Nat → Int32) × Int32 × Int32 × (Nat → Int32) × Int32 × Int32 × (Nat → Int32) × Int32 × Int32 × (Nat → Int32) := F_Flo_prepare_c115 A B C x2 t0_0 t0_1 t0_2 t1_0 t1_1 t2_0 t3_0 t3_1 t4_0 t5_0 t5_1 t6_0 t7_0 t7_1 t8_0 a39 p64 a99 p123 y112 y113 f114 p147 p180 y169 y170 f171 p204 ((F_Big_shiftLeft (220 : Int32) (if 0 < a39 then a39 else 0 : Int32) (p204.1 : Int32) (p204.2.1 : Int32) (p204.2.2 : (Nat → Int32))) : (Int32 × Int32 × (Nat → Int32)))
def F_Flo_prepare_c87 (A : Int32) (B : Int32) (C : Int32) (x2 : Int64) (t0_0 : Int64) (t0_1 : Int32) (t0_2 : Int32) (t1_0 : Int32) (t1_1 : Int32) (t2_0 : (Nat → Int32)) (t3_0 : Int32) (t3_1 : Int32) (t4_0 : (Nat → Int32)) (t5_0 : Int32) (t5_1 : Int32) (t6_0 : (Nat → Int32)) (t7_0 : Int32) (t7_1 : Int32) (t8_0 : (Nat → Int32)) (a39 : Int32) (p64 : (Int32 × Int32 × (Nat → Int32))) (a99 : Int32) (p123 : (Int32 × Int32 × (Nat → Int32))) (y112 : Int32) (y113 : Int32) (f114 : (Nat → Int32)) (p147 : (Int32 × Int32 × (Nat → Int32))) (p180 : (Int32 × Int32 × (Nat → Int32))) : Int64 × Int32 × Int32 × Int32 × Int32 × (Nat → Int32) × Int32 × Int32 × (Nat → Int32) × Int32 × Int32 × (Nat → Int32) × Int32 × Int32 × (Nat → Int32) := F_Flo_prepare_c100 A B C x2 t0_0 t0_1 t0_2 t1_0 t1_1 t2_0 t3_0 t3_1 t4_0 t5_0 t5_1 t6_0 t7_0 t7_1 t8_0 a39 p64 a99 p123 y112 y113 f114 p147 p180 (p180.1 : Int32) (p180.2.1 : Int32) (p180.2.2 : (Nat → Int32)) ((F_Big_setLong (220 : Int32) (2 : Int64) t5_0 t5_1 t6_0) : (Int32 × Int32 × (Nat → Int32)))
def F_Flo_prepare_c74 (A : Int32) (B : Int32) (C : Int32) (x2 : Int64) (t0_0 : Int64) (t0_1 : Int32) (t0_2 : Int32) (t1_0 : Int32) (t1_1 : Int32) (t2_0 : (Nat → Int32)) (t3_0 : Int32) (t3_1 : Int32) (t4_0 : (Nat → Int32)) (t5_0 : Int32) (t5_1 : Int32) (t6_0 : (Nat → Int32)) (t7_0 : Int32) (t7_1 : Int32) (t8_0 : (Nat → Int32)) (a39 : Int32) (p64 : (Int32 × Int32 × (Nat → Int32))) (a99 : Int32) (p123 : (Int32 × Int32 × (Nat → Int32))) (y112 : Int32) (y113 : Int32) (f114 : (Nat → Int32)) (p147 : (Int32 × Int32 × (Nat → Int32))) : Int64 × Int32 × Int32 × Int32 × Int32 × (Nat → Int32) × Int32 × Int32 × (Nat → Int32) × Int32 × Int32 × (Nat → Int32) × Int32 × Int32 × (Nat → Int32) := F_Flo_prepare_c87 A B C x2 t0_0 t0_1 t0_2 t1_0 t1_1 t2_0 t3_0 t3_1 t4_0 t5_0 t5_1 t6_0 t7_0 t7_1 t8_0 a39 p64 a99 p123 y112 y113 f114 p147 ((F_Big_shiftLeft (220 : Int32) (2 + (if 0 < (-a39 : Int32) then (-a39 : Int32) else 0 : Int32) : Int32) (p147.1 : Int32) (p147.2.1 : Int32) (p147.2.2 : (Nat → Int32))) : (Int32 × Int32 × (Nat → Int32)))
def F_Flo_prepare_c68 (A : Int32) (B : Int32) (C : Int32) (x2 : Int64) (t0_0 : Int64) (t0_1 : Int32) (t0_2 : Int32) (t1_0 : Int32) (t1_1 : Int32) (t2_0 : (Nat → Int32)) (t3_0 : Int32) (t3_1 : Int32) (t4_0 : (Nat → Int32)) (t5_0 : Int32) (t5_1 : Int32) (t6_0 : (Nat → Int32)) (t7_0 : Int32) (t7_1 : Int32) (t8_0 : (Nat → Int32)) (a39 : Int32) (p64 : (Int32 × Int32 × (Nat → Int32))) (a99 : Int32) (p123 : (Int32 × Int32 × (Nat → Int32))) : Int64 × Int32 × Int32 × Int32 × Int32 × (Nat → Int32) × Int32 × Int32 × (Nat → Int32) × Int32 × Int32 × (Nat → Int32) × Int32 × Int32 × (Nat → Int32) := F_Flo_prepare_c74 A B C x2 t0_0 t0_1 t0_2 t1_0 t1_1 t2_0 t3_0 t3_1 t4_0 t5_0 t5_1 t6_0 t7_0 t7_1 t8_0 a39 p64 a99 p123 (p123.1 : Int32) (p123.2.1 : Int32) (p123.2.2 : (Nat → Int32)) ((F_Big_setLong (220 : Int32) (1 : Int64) t3_0 t3_1 t4_0) : (Int32 × Int32 × (Nat → Int32)))
def F_Flo_prepare_c31 (A : Int32) (B : Int32) (C : Int32) (x2 : Int64) (t0_0 : Int64) (t0_1 : Int32) (t0_2 : Int32) (t1_0 : Int32) (t1_1 : Int32) (t2_0 : (Nat → Int32)) (t3_0 : Int32) (t3_1 : Int32) (t4_0 : (Nat → Int32)) (t5_0 : Int32) (t5_1 : Int32) (t6_0 : (Nat → Int32)) (t7_0 : Int32) (t7_1 : Int32) (t8_0 : (Nat → Int32)) (a39 : Int32) (p64 : (Int32 × Int32 × (Nat → Int32))) : Int64 × Int32 × Int32 × Int32 × Int32 × (Nat → Int32) × Int32 × Int32 × (Nat → Int32) × Int32 × Int32 × (Nat → Int32) × Int32 × Int32 × (Nat → Int32) := F_Flo_prepare_c68 A B C x2 t0_0 t0_1 t0_2 t1_0 t1_1 t2_0 t3_0 t3_1 t4_0 t5_0 t5_1 t6_0 t7_0 t7_1 t8_0 a39 p64 (((F_jMath_floorDiv_JJJ ((((((F_Big_bitLength (220 : Int32) (p64.1 : Int32) (p64.2.1 : Int32) (p64.2.2 : (Nat → Int32))) : Int32) - 1 : Int32) + a39 : Int32).toInt64 : Int64) * 301029995 : Int64) (1000000000 : Int64)) : Int64).toInt32 : Int32) ((F_Big_shiftLeft (220 : Int32) (2 + (if 0 < a39 then a39 else 0 : Int32) : Int32) (p64.1 : Int32) (p64.2.1 : Int32) (p64.2.2 : (Nat → Int32))) : (Int32 × Int32 × (Nat → Int32)))
def F_Flo_prepare (A : Int32) (B : Int32) (C : Int32) (x2 : Int64) (t0_0 : Int64) (t0_1 : Int32) (t0_2 : Int32) (t1_0 : Int32) (t1_1 : Int32) (t2_0 : (Nat → Int32)) (t3_0 : Int32) (t3_1 : Int32) (t4_0 : (Nat → Int32)) (t5_0 : Int32) (t5_1 : Int32) (t6_0 : (Nat → Int32)) (t7_0 : Int32) (t7_1 : Int32) (t8_0 : (Nat → Int32)) : Int64 × Int32 × Int32 × Int32 × Int32 × (Nat → Int32) × Int32 × Int32 × (Nat → Int32) × Int32 × Int32 × (Nat → Int32) × Int32 × Int32 × (Nat → Int32) := F_Flo_prepare_c31 A B C x2 t0_0 t0_1 t0_2 t1_0 t1_1 t2_0 t3_0 t3_1 t4_0 t5_0 t5_1 t6_0 t7_0 t7_1 t8_0 ((F_Flo_power A B C x2) : Int32) ((F_Big_setLong (220 : Int32) ((F_Flo_number A B C x2) : Int64) t1_0 t1_1 t2_0) : (Int32 × Int32 × (Nat → Int32)))
set_option maxRecDepth 100000 in
set_option maxHeartbeats 4000000 in
theorem X_Flo_prepare (l : Launch) (D : va_G) (g : Nat → ClassId) (q : Nat → Nat) (ws : va_W) (k1 : Nat) (A B C : Int32) (hB1 : q_isFlo (nsh g q) q k1 A B C) (x2 : Int64) (hI : q_I (nsh g q) q ws) (t0_0 : Int64) (t0_1 : Int32) (t0_2 : Int32) (hT0 : ws[k1]? = (some (q k1, .inr (6, [.int A, .int B, .int C, .long t0_0, .int t0_1, .ref (q 9), .int t0_2])) : Option (Nat × va_E))) (t1_0 : Int32) (t1_1 : Int32) (hT1 : ws[22]? = (some (q 22, .inr (2, [.ref (q 23), .int t1_0, .int t1_1])) : Option (Nat × va_E))) (t2_0 : (Nat → Int32)) (hT2 : ws[23]? = (some (q 23, .inl (g 0, (220 : Int32).toNatClampNeg, .inl t2_0)) : Option (Nat × va_E))) (t3_0 : Int32) (t3_1 : Int32) (hT3 : ws[24]? = (some (q 24, .inr (2, [.ref (q 25), .int t3_0, .int t3_1])) : Option (Nat × va_E))) (t4_0 : (Nat → Int32)) (hT4 : ws[25]? = (some (q 25, .inl (g 0, (220 : Int32).toNatClampNeg, .inl t4_0)) : Option (Nat × va_E))) (t5_0 : Int32) (t5_1 : Int32) (hT5 : ws[26]? = (some (q 26, .inr (2, [.ref (q 27), .int t5_0, .int t5_1])) : Option (Nat × va_E))) (t6_0 : (Nat → Int32)) (hT6 : ws[27]? = (some (q 27, .inl (g 0, (220 : Int32).toNatClampNeg, .inl t6_0)) : Option (Nat × va_E))) (t7_0 : Int32) (t7_1 : Int32) (hT7 : ws[28]? = (some (q 28, .inr (2, [.ref (q 29), .int t7_0, .int t7_1])) : Option (Nat × va_E))) (t8_0 : (Nat → Int32)) (hT8 : ws[29]? = (some (q 29, .inl (g 0, (220 : Int32).toNatClampNeg, .inl t8_0)) : Option (Nat × va_E))) : q_mV l y_Flo_prepare prog_7_method_20_code 7 4 0 0 D g [.ref (q k1), .long x2] ws (fun u => q_I (nsh g q) q u ∧ q_un ws u [22, 23, 24, 25, 26, 27, 28, 29, k1] ∧ ∃ (u0_0 : Int64) (u0_1 : Int32) (u0_2 : Int32) (u1_0 : Int32) (u1_1 : Int32) (u2_0 : (Nat → Int32)) (u3_0 : Int32) (u3_1 : Int32) (u4_0 : (Nat → Int32)) (u5_0 : Int32) (u5_1 : Int32) (u6_0 : (Nat → Int32)) (u7_0 : Int32) (u7_1 : Int32) (u8_0 : (Nat → Int32)), u[k1]? = (some (q k1, .inr (6, [.int A, .int B, .int C, .long u0_0, .int u0_1, .ref (q 9), .int u0_2])) : Option (Nat × va_E)) ∧ u[22]? = (some (q 22, .inr (2, [.ref (q 23), .int u1_0, .int u1_1])) : Option (Nat × va_E)) ∧ u[23]? = (some (q 23, .inl (g 0, (220 : Int32).toNatClampNeg, .inl u2_0)) : Option (Nat × va_E)) ∧ u[24]? = (some (q 24, .inr (2, [.ref (q 25), .int u3_0, .int u3_1])) : Option (Nat × va_E)) ∧ u[25]? = (some (q 25, .inl (g 0, (220 : Int32).toNatClampNeg, .inl u4_0)) : Option (Nat × va_E)) ∧ u[26]? = (some (q 26, .inr (2, [.ref (q 27), .int u5_0, .int u5_1])) : Option (Nat × va_E)) ∧ u[27]? = (some (q 27, .inl (g 0, (220 : Int32).toNatClampNeg, .inl u6_0)) : Option (Nat × va_E)) ∧ u[28]? = (some (q 28, .inr (2, [.ref (q 29), .int u7_0, .int u7_1])) : Option (Nat × va_E)) ∧ u[29]? = (some (q 29, .inl (g 0, (220 : Int32).toNatClampNeg, .inl u8_0)) : Option (Nat × va_E)) ∧ (0 ≤ u1_0.toInt) ∧ (u1_0.toInt ≤ 220) ∧ (0 ≤ u1_1.toInt) ∧ (u1_1.toInt ≤ 1) ∧ (0 ≤ u3_0.toInt) ∧ (u3_0.toInt ≤ 220) ∧ (0 ≤ u3_1.toInt) ∧ (u3_1.toInt ≤ 1) ∧ (0 ≤ u5_0.toInt) ∧ (u5_0.toInt ≤ 220) ∧ (0 ≤ u5_1.toInt) ∧ (u5_1.toInt ≤ 1) ∧ (0 ≤ u7_0.toInt) ∧ (u7_0.toInt ≤ 220) ∧ (0 ≤ u7_1.toInt) ∧ (t0_0.toInt ≤ u0_0.toInt) ∧ (u0_0.toInt ≤ t0_0.toInt) ∧ (t0_1.toInt ≤ u0_1.toInt) ∧ (u0_1.toInt ≤ t0_1.toInt) ∧ (u0_0, u0_1, u0_2, u1_0, u1_1, u2_0, u3_0, u3_1, u4_0, u5_0, u5_1, u6_0, u7_0, u7_1, u8_0) = (F_Flo_prepare A B C x2 t0_0 t0_1 t0_2 t1_0 t1_1 t2_0 t3_0 t3_1 t4_0 t5_0 t5_1 t6_0 t7_0 t7_1 t8_0)) := by
  intro sz
  refine q_into (by decide) (Nat.le_of_ble_eq_true rfl) ?_
  intro p e s m below meth c ls hsz C0 V hl
  have hx := C0.1
  have hb := C0.2.1
  have btt1_1 := (q_bigW hI (n_b22 g q) hT1).2
  clear btt1_1
  have btt3_1 := (q_bigW hI (n_b24 g q) hT3).2
  clear btt3_1
  have btt5_1 := (q_bigW hI (n_b26 g q) hT5).2
  clear btt5_1
  have btt7_1 := (q_bigW hI (n_b28 g q) hT7).2
  clear btt7_1
  have hF : q_un ws ws [22, 23, 24, 25, 26, 27, 28, 29, k1] := q_u0
  have hl : lv_has ls 7 [(0, .ref (q k1)), (1, .long x2)] := hl
  refine lv_aload_n hx hb d_7_20_0 rfl (lv_at hl 0 rfl) ?_
  refine lv_lload_n hx hb d_7_20_1 rfl (lv_at hl 1 rfl) ?_
  refine q_goi V (q_runV (As := [.long x2]) (rest := []) (d := 2) (mc := 0) (ms := 0) (ci := 6) C0 V rfl LV_Flo_52 (X_Flo_power l D g q ws k1 A B C hB1 x2 hI   _) rfl rfl hT0 rfl hl.1 rfl (Nat.le_of_ble_eq_true rfl) ⟨by decide, by decide⟩ ⟨Nat.le_of_ble_eq_true rfl, Nat.le_of_ble_eq_true rfl⟩ d_7_20_2) (fun a39 u37 H locs hp38 V => ?_)
  obtain ⟨rfl, b40, b41, hE42⟩ := hp38
  have e43 : a39 = (F_Flo_power A B C x2) := hE42
  clear b40
  clear b41
  refine lv_istore_n (lv' := [(3, .int a39), (0, .ref (q k1)), (1, .long x2)]) hx hb d_7_20_5 rfl hl (by decide) rfl (fun ls hl => ?_)
  refine lv_aload_n hx hb d_7_20_6 rfl (lv_at hl 1 rfl) ?_
  refine q_get (ci := 6) (j := 5) (v := .ref (q 9)) C0 V i_Flo rfl rfl hT0 (by decide) w_241 rfl d_7_20_7 ?_
  have hO44 := n_o9 hI
  refine q_get (ci := 4) (j := 6) (v := .ref (q 22)) C0 V i_Mil rfl rfl hO44 (by decide) w_127 rfl d_7_20_10 ?_
  refine lv_astore (lv' := [(4, .ref (q 22)), (3, .int a39), (0, .ref (q k1)), (1, .long x2)]) hx hb d_7_20_13 hl (by decide) rfl (fun ls hl => ?_)
  refine lv_aload_n hx hb d_7_20_15 rfl (lv_at hl 2 rfl) ?_
  refine q_get (ci := 6) (j := 5) (v := .ref (q 9)) C0 V i_Flo rfl rfl hT0 (by decide) w_241 rfl d_7_20_16 ?_
  refine q_get (ci := 4) (j := 7) (v := .ref (q 24)) C0 V i_Mil rfl rfl hO44 (by decide) w_130 rfl d_7_20_19 ?_
  refine lv_astore (lv' := [(5, .ref (q 24)), (4, .ref (q 22)), (3, .int a39), (0, .ref (q k1)), (1, .long x2)]) hx hb d_7_20_22 hl (by decide) rfl (fun ls hl => ?_)
  refine lv_aload hx hb d_7_20_24 (lv_at hl 1 rfl) ?_
  refine lv_aload_n hx hb d_7_20_26 rfl (lv_at hl 3 rfl) ?_
  refine lv_lload_n hx hb d_7_20_27 rfl (lv_at hl 4 rfl) ?_
  refine q_gol V (q_runV (As := [.long x2]) (rest := [.ref (q 22)]) (d := 2) (mc := 0) (ms := 0) (ci := 6) C0 V rfl LV_Flo_61 (X_Flo_number l D g q ws k1 A B C hB1 x2 hI   _) rfl rfl hT0 rfl hl.1 rfl (Nat.le_of_ble_eq_true rfl) ⟨by decide, by decide⟩ ⟨Nat.le_of_ble_eq_true rfl, Nat.le_of_ble_eq_true rfl⟩ d_7_20_28) (fun j47 u45 H locs hp46 V => ?_)
  obtain ⟨rfl, hE48⟩ := hp46
  have e49 : j47 = (F_Flo_number A B C x2) := hE48
  refine q_gov V (q_runV (As := [.long j47]) (rest := []) (d := 2) (mc := 0) (ms := 0) (ci := 2) C0 V rfl LV_Flo_63 (X_Big_setLong l D g q ws 22 220 (n_b22 g q) (by decide) j47 hI t1_0 t1_1 hT1 t2_0 hT2  _) rfl rfl hT1 rfl hl.1 rfl (Nat.le_of_ble_eq_true rfl) ⟨by decide, by decide⟩ ⟨Nat.le_of_ble_eq_true rfl, Nat.le_of_ble_eq_true rfl⟩ d_7_20_31) (fun u50 H locs hp51 V => ?_)
  obtain ⟨hI, hZ9⟩ := hp51
  obtain ⟨hu63, hZ9⟩ := hZ9
  obtain ⟨y53, hZ9⟩ := hZ9
  obtain ⟨y54, hZ9⟩ := hZ9
  obtain ⟨f55, hZ9⟩ := hZ9
  obtain ⟨hO52, hZ9⟩ := hZ9
  obtain ⟨hA56, hZ9⟩ := hZ9
  replace hZ9 := hZ9.2.2.2
  obtain ⟨b60, hZ9⟩ := hZ9
  obtain ⟨-, hE62⟩ := hZ9
  replace hO52 : u50[22]? = (some (q 22, .inr (2, [.ref (q 23), .int y53, .int y54])) : Option (Nat × va_E)) := hO52
  replace hA56 : u50[23]? = (some (q 23, .inl (g 0, (220 : Int32).toNatClampNeg, .inl f55)) : Option (Nat × va_E)) := hA56
  obtain ⟨p64, e65⟩ : ∃ z, z = (F_Big_setLong (220 : Int32) j47 t1_0 t1_1 t2_0) := ⟨_, rfl⟩
  have e66 : y53 = p64.1 := congrArg (fun z => z.1) (hE62.trans e65.symm)
  have e67 : y54 = p64.2.1 := congrArg (fun z => z.2.1) (hE62.trans e65.symm)
  have e68 : f55 = p64.2.2 := congrArg (fun z => z.2.2) (hE62.trans e65.symm)
  replace b60 : q_F (y54.toInt ≤ 1) := b60
  replace hT0 := (hu63 _ (by have z0 := hB1.2.2.2.2; simp only [List.mem_cons, List.not_mem_nil, or_false, not_or]; omega)).trans hT0
  replace hT3 := (hu63 _ (by decide)).trans hT3
  replace hT4 := (hu63 _ (by decide)).trans hT4
  replace hT5 := (hu63 _ (by decide)).trans hT5
  replace hT6 := (hu63 _ (by decide)).trans hT6
  replace hT7 := (hu63 _ (by decide)).trans hT7
  replace hT8 := (hu63 _ (by decide)).trans hT8
  replace hO44 := (hu63 _ (by decide)).trans hO44
  replace hF := q_uc hF hu63 (by simp)
  have hR69 := (show F_Flo_prepare_c31 A B C x2 t0_0 t0_1 t0_2 t1_0 t1_1 t2_0 t3_0 t3_1 t4_0 t5_0 t5_1 t6_0 t7_0 t7_1 t8_0 a39 p64 = (F_Flo_prepare A B C x2 t0_0 t0_1 t0_2 t1_0 t1_1 t2_0 t3_0 t3_1 t4_0 t5_0 t5_1 t6_0 t7_0 t7_1 t8_0) from (by rw [e65, e49, e43, F_Flo_prepare.eq_1]))
  refine lv_aload_n hx hb d_7_20_34 rfl (lv_at hl 3 rfl) ?_
  refine lv_aload hx hb d_7_20_35 (lv_at hl 1 rfl) ?_
  refine q_goi V (q_runV (As := []) (rest := [.ref (q k1)]) (d := 3) (mc := 0) (ms := 0) (ci := 2) C0 V rfl LV_Flo_104 (X_Big_bitLength l D g q u50 22 220 (n_b22 g q) (by decide)  hI y53 y54 hO52 f55 hA56  _) rfl rfl hO52 rfl hl.1 rfl (Nat.le_of_ble_eq_true rfl) ⟨by decide, by decide⟩ ⟨Nat.le_of_ble_eq_true rfl, Nat.le_of_ble_eq_true rfl⟩ d_7_20_37) (fun a76 u74 H locs hp75 V => ?_)
  obtain ⟨rfl, b77, b78, b79, hE80⟩ := hp75
  have e81 : a76 = (F_Big_bitLength (220 : Int32) y53 y54 f55) := hE80
  clear b77
  clear b78
  clear b79
  refine lv_iconst (v := 1) hx hb d_7_20_40 (by decide) ?_
  refine lv_isub hx hb d_7_20_41 ?_
  obtain ⟨a82, e83⟩ := q_nm (a76 - 1 : Int32)
  refine q_ti (v := a82) e83 ?_
  refine lv_iload_n hx hb d_7_20_42 rfl (lv_at hl 2 rfl) ?_
  refine lv_iadd hx hb d_7_20_43 ?_
  obtain ⟨a85, e86⟩ := q_nm (a82 + a39 : Int32)
  refine q_ti (v := a85) e86 ?_
  refine lv_i2l hx hb d_7_20_44 rfl ?_
  obtain ⟨j88, e89⟩ := q_nm (a85.toInt64 : Int64)
  refine q_tl (v := j88) e89 ?_
  refine q_ldc2 C0 rfl w_1184 d_7_20_45 ?_
  refine lv_lmul hx hb d_7_20_48 ?_
  obtain ⟨j91, e92⟩ := q_nm (j88 * 301029995 : Int64)
  refine q_tl (v := j91) e92 ?_
  refine q_ldc2 C0 rfl w_1185 d_7_20_49 ?_
  refine q_gol V (q_runS (As := [.long j91, .long 1000000000]) (rest := [.ref (q k1)]) (d := 1) (mc := 0) (ms := 0) C0 V rfl LS_Flo_182 (X_jMath_floorDiv_JJJ l D g q u50  j91 1000000000 hI  (by have y0 : (1000000000 : Int64).toInt = 1000000000 := rfl; omega) _) rfl hl.1 rfl (Nat.le_of_ble_eq_true rfl) ⟨by decide, by decide⟩ ⟨Nat.le_of_ble_eq_true rfl, Nat.le_of_ble_eq_true rfl⟩ d_7_20_52) (fun j96 u94 H locs hp95 V => ?_)
  obtain ⟨rfl, hE97⟩ := hp95
  have e98 : j96 = (F_jMath_floorDiv_JJJ j91 (1000000000 : Int64)) := hE97
  refine lv_l2i hx hb d_7_20_55 rfl ?_
  obtain ⟨a99, e100⟩ := q_nm (j96.toInt32 : Int32)
  refine q_ti (v := a99) e100 ?_
  refine q_put (ci := 6) (j := 6) (v := .int a99) (ty := .int) C0 V i_Flo o_Flo n_Flo rfl rfl hT0 (by decide) w_242 rfl rfl rfl rfl (Nat.le_of_ble_eq_true rfl) d_7_20_56 (fun H locs w101 hu102 hT0 V => ?_)
  replace hT0 : w101[k1]? = (some (q k1, .inr (6, [.int A, .int B, .int C, .long t0_0, .int t0_1, .ref (q 9), .int a99])) : Option (Nat × va_E)) := hT0
  replace hI := n_flO' hI hB1 hu102 hT0 
  replace hO52 := (hu102 _ (by have z0 := hB1.2.2.2.2; omega)).trans hO52
  replace hA56 := (hu102 _ (by have z0 := hB1.2.2.2.2; omega)).trans hA56
  replace hT3 := (hu102 _ (by have z0 := hB1.2.2.2.2; omega)).trans hT3
  replace hT4 := (hu102 _ (by have z0 := hB1.2.2.2.2; omega)).trans hT4
  replace hT5 := (hu102 _ (by have z0 := hB1.2.2.2.2; omega)).trans hT5
  replace hT6 := (hu102 _ (by have z0 := hB1.2.2.2.2; omega)).trans hT6
  replace hT7 := (hu102 _ (by have z0 := hB1.2.2.2.2; omega)).trans hT7
  replace hT8 := (hu102 _ (by have z0 := hB1.2.2.2.2; omega)).trans hT8
  replace hO44 := (hu102 _ (by have z0 := hB1.2.2.2.2; omega)).trans hO44
  replace hF := q_us hF hu102 (by simp)
  refine lv_aload hx hb d_7_20_59 (lv_at hl 1 rfl) ?_
  refine lv_iconst (v := 2) hx hb d_7_20_61 (by decide) ?_
  refine lv_iconst (v := 0) hx hb d_7_20_62 (by decide) ?_
  refine lv_iload_n hx hb d_7_20_63 rfl (lv_at hl 2 rfl) ?_
  refine q_max C0 hl.1 rfl w_802 w_803 w_7 w_804 ⟨Nat.le_of_ble_eq_true rfl, Nat.le_of_ble_eq_true rfl⟩ ⟨Nat.le_of_ble_eq_true rfl, Nat.le_of_ble_eq_true rfl⟩ d_7_20_64 ?_
  obtain ⟨a103, e104⟩ := q_nm (if 0 < a39 then a39 else 0 : Int32)
  refine q_ti (v := a103) e104 ?_
  refine lv_iadd hx hb d_7_20_67 ?_
  obtain ⟨a106, e107⟩ := q_nm (2 + a103 : Int32)
  refine q_ti (v := a106) e107 ?_
  refine q_gov V (q_runV (As := [.int a106]) (rest := []) (d := 3) (mc := 0) (ms := 0) (ci := 2) C0 V rfl LV_Flo_69 (X_Big_shiftLeft l D g q w101 22 220 (n_b22 g q) (by decide) a106 hI y53 y54 hO52 f55 hA56  _) rfl rfl hO52 rfl hl.1 rfl (Nat.le_of_ble_eq_true rfl) ⟨by decide, by decide⟩ ⟨Nat.le_of_ble_eq_true rfl, Nat.le_of_ble_eq_true rfl⟩ d_7_20_68) (fun u109 H locs hp110 V => ?_)
  obtain ⟨hI, hZ9⟩ := hp110
  obtain ⟨hu122, hZ9⟩ := hZ9
  obtain ⟨y112, hZ9⟩ := hZ9
  obtain ⟨y113, hZ9⟩ := hZ9
  obtain ⟨f114, hZ9⟩ := hZ9
  obtain ⟨hO111, hZ9⟩ := hZ9
  obtain ⟨hA115, hZ9⟩ := hZ9
  obtain ⟨b116, hZ9⟩ := hZ9
  obtain ⟨b117, hZ9⟩ := hZ9
  replace hZ9 := hZ9.2.2
  obtain ⟨b120, hE121⟩ := hZ9
  replace hO111 : u109[22]? = (some (q 22, .inr (2, [.ref (q 23), .int y112, .int y113])) : Option (Nat × va_E)) := hO111
  replace hA115 : u109[23]? = (some (q 23, .inl (g 0, (220 : Int32).toNatClampNeg, .inl f114)) : Option (Nat × va_E)) := hA115
  obtain ⟨p123, e124⟩ : ∃ z, z = (F_Big_shiftLeft (220 : Int32) a106 y53 y54 f55) := ⟨_, rfl⟩
  have e125 : y112 = p123.1 := congrArg (fun z => z.1) (hE121.trans e124.symm)
  have e126 : y113 = p123.2.1 := congrArg (fun z => z.2.1) (hE121.trans e124.symm)
  have e127 : f114 = p123.2.2 := congrArg (fun z => z.2.2) (hE121.trans e124.symm)
  replace b116 : q_F (0 ≤ y112.toInt) := b116
  replace b117 : q_F (0 ≤ y113.toInt) := b117
  replace b120 : q_F (y113.toInt ≤ y54.toInt) := b120
  replace hT0 := (hu122 _ (by have z0 := hB1.2.2.2.2; simp only [List.mem_cons, List.not_mem_nil, or_false, not_or]; omega)).trans hT0
  replace hT3 := (hu122 _ (by decide)).trans hT3
  replace hT4 := (hu122 _ (by decide)).trans hT4
  replace hT5 := (hu122 _ (by decide)).trans hT5
  replace hT6 := (hu122 _ (by decide)).trans hT6
  replace hT7 := (hu122 _ (by decide)).trans hT7
  replace hT8 := (hu122 _ (by decide)).trans hT8
  replace hO44 := (hu122 _ (by decide)).trans hO44
  replace hF := q_uc hF hu122 (by simp)
  have hR128 := (show F_Flo_prepare_c68 A B C x2 t0_0 t0_1 t0_2 t1_0 t1_1 t2_0 t3_0 t3_1 t4_0 t5_0 t5_1 t6_0 t7_0 t7_1 t8_0 a39 p64 a99 p123 = (F_Flo_prepare A B C x2 t0_0 t0_1 t0_2 t1_0 t1_1 t2_0 t3_0 t3_1 t4_0 t5_0 t5_1 t6_0 t7_0 t7_1 t8_0) from Eq.trans (by rw [e124, ← e107, ← e104, ← e100, e98, ← e92, ← e89, ← e86, ← e83, e81, e68, e67, e66, F_Flo_prepare_c31.eq_1]) hR69)
  refine lv_aload hx hb d_7_20_71 (lv_at hl 0 rfl) ?_
  refine lv_lconst (v := 1) hx hb d_7_20_73 (by decide) ?_
  refine q_gov V (q_runV (As := [.long 1]) (rest := []) (d := 2) (mc := 0) (ms := 0) (ci := 2) C0 V rfl LV_Flo_63 (X_Big_setLong l D g q u109 24 220 (n_b24 g q) (by decide) 1 hI t3_0 t3_1 hT3 t4_0 hT4  _) rfl rfl hT3 rfl hl.1 rfl (Nat.le_of_ble_eq_true rfl) ⟨by decide, by decide⟩ ⟨Nat.le_of_ble_eq_true rfl, Nat.le_of_ble_eq_true rfl⟩ d_7_20_74) (fun u133 H locs hp134 V => ?_)
  obtain ⟨hI, hZ9⟩ := hp134
  obtain ⟨hu146, hZ9⟩ := hZ9
  obtain ⟨y136, hZ9⟩ := hZ9
  obtain ⟨y137, hZ9⟩ := hZ9
  obtain ⟨f138, hZ9⟩ := hZ9
  obtain ⟨hO135, hZ9⟩ := hZ9
  obtain ⟨hA139, hZ9⟩ := hZ9
  replace hZ9 := hZ9.2.2.2
  obtain ⟨b143, hZ9⟩ := hZ9
  obtain ⟨-, hE145⟩ := hZ9
  replace hO135 : u133[24]? = (some (q 24, .inr (2, [.ref (q 25), .int y136, .int y137])) : Option (Nat × va_E)) := hO135
  replace hA139 : u133[25]? = (some (q 25, .inl (g 0, (220 : Int32).toNatClampNeg, .inl f138)) : Option (Nat × va_E)) := hA139
  obtain ⟨p147, e148⟩ : ∃ z, z = (F_Big_setLong (220 : Int32) (1 : Int64) t3_0 t3_1 t4_0) := ⟨_, rfl⟩
  have e149 : y136 = p147.1 := congrArg (fun z => z.1) (hE145.trans e148.symm)
  have e150 : y137 = p147.2.1 := congrArg (fun z => z.2.1) (hE145.trans e148.symm)
  have e151 : f138 = p147.2.2 := congrArg (fun z => z.2.2) (hE145.trans e148.symm)
  replace b143 : q_F (y137.toInt ≤ 1) := b143
  replace hT0 := (hu146 _ (by have z0 := hB1.2.2.2.2; simp only [List.mem_cons, List.not_mem_nil, or_false, not_or]; omega)).trans hT0
  replace hO111 := (hu146 _ (by decide)).trans hO111
  replace hA115 := (hu146 _ (by decide)).trans hA115
  replace hT5 := (hu146 _ (by decide)).trans hT5
  replace hT6 := (hu146 _ (by decide)).trans hT6
  replace hT7 := (hu146 _ (by decide)).trans hT7
  replace hT8 := (hu146 _ (by decide)).trans hT8
  replace hO44 := (hu146 _ (by decide)).trans hO44
  replace hF := q_uc hF hu146 (by simp)
  have hR152 := (show F_Flo_prepare_c74 A B C x2 t0_0 t0_1 t0_2 t1_0 t1_1 t2_0 t3_0 t3_1 t4_0 t5_0 t5_1 t6_0 t7_0 t7_1 t8_0 a39 p64 a99 p123 y112 y113 f114 p147 = (F_Flo_prepare A B C x2 t0_0 t0_1 t0_2 t1_0 t1_1 t2_0 t3_0 t3_1 t4_0 t5_0 t5_1 t6_0 t7_0 t7_1 t8_0) from Eq.trans (by rw [e148, e127, e126, e125, F_Flo_prepare_c68.eq_1]) hR128)
  refine lv_aload hx hb d_7_20_77 (lv_at hl 0 rfl) ?_
  refine lv_iconst (v := 2) hx hb d_7_20_79 (by decide) ?_
  refine lv_iconst (v := 0) hx hb d_7_20_80 (by decide) ?_
  refine lv_iload_n hx hb d_7_20_81 rfl (lv_at hl 2 rfl) ?_
  refine lv_ineg hx hb d_7_20_82 ?_
  obtain ⟨a157, e158⟩ := q_nm (-a39 : Int32)
  refine q_ti (v := a157) e158 ?_
  refine q_max C0 hl.1 rfl w_802 w_803 w_7 w_804 ⟨Nat.le_of_ble_eq_true rfl, Nat.le_of_ble_eq_true rfl⟩ ⟨Nat.le_of_ble_eq_true rfl, Nat.le_of_ble_eq_true rfl⟩ d_7_20_83 ?_
  obtain ⟨a160, e161⟩ := q_nm (if 0 < a157 then a157 else 0 : Int32)
  refine q_ti (v := a160) e161 ?_
  refine lv_iadd hx hb d_7_20_86 ?_
  obtain ⟨a163, e164⟩ := q_nm (2 + a160 : Int32)
  refine q_ti (v := a163) e164 ?_
  refine q_gov V (q_runV (As := [.int a163]) (rest := []) (d := 3) (mc := 0) (ms := 0) (ci := 2) C0 V rfl LV_Flo_69 (X_Big_shiftLeft l D g q u133 24 220 (n_b24 g q) (by decide) a163 hI y136 y137 hO135 f138 hA139  _) rfl rfl hO135 rfl hl.1 rfl (Nat.le_of_ble_eq_true rfl) ⟨by decide, by decide⟩ ⟨Nat.le_of_ble_eq_true rfl, Nat.le_of_ble_eq_true rfl⟩ d_7_20_87) (fun u166 H locs hp167 V => ?_)
  obtain ⟨hI, hZ9⟩ := hp167
  obtain ⟨hu179, hZ9⟩ := hZ9
  obtain ⟨y169, hZ9⟩ := hZ9
  obtain ⟨y170, hZ9⟩ := hZ9
  obtain ⟨f171, hZ9⟩ := hZ9
  obtain ⟨hO168, hZ9⟩ := hZ9
  obtain ⟨hA172, hZ9⟩ := hZ9
  obtain ⟨b173, hZ9⟩ := hZ9
  obtain ⟨b174, hZ9⟩ := hZ9
  replace hZ9 := hZ9.2.2
  obtain ⟨b177, hE178⟩ := hZ9
  replace hO168 : u166[24]? = (some (q 24, .inr (2, [.ref (q 25), .int y169, .int y170])) : Option (Nat × va_E)) := hO168
  replace hA172 : u166[25]? = (some (q 25, .inl (g 0, (220 : Int32).toNatClampNeg, .inl f171)) : Option (Nat × va_E)) := hA172
  obtain ⟨p180, e181⟩ : ∃ z, z = (F_Big_shiftLeft (220 : Int32) a163 y136 y137 f138) := ⟨_, rfl⟩
  have e182 : y169 = p180.1 := congrArg (fun z => z.1) (hE178.trans e181.symm)
  have e183 : y170 = p180.2.1 := congrArg (fun z => z.2.1) (hE178.trans e181.symm)
  have e184 : f171 = p180.2.2 := congrArg (fun z => z.2.2) (hE178.trans e181.symm)
  replace b173 : q_F (0 ≤ y169.toInt) := b173
  replace b174 : q_F (0 ≤ y170.toInt) := b174
  replace b177 : q_F (y170.toInt ≤ y137.toInt) := b177
  replace hT0 := (hu179 _ (by have z0 := hB1.2.2.2.2; simp only [List.mem_cons, List.not_mem_nil, or_false, not_or]; omega)).trans hT0
  replace hO111 := (hu179 _ (by decide)).trans hO111
  replace hA115 := (hu179 _ (by decide)).trans hA115
  replace hT5 := (hu179 _ (by decide)).trans hT5
  replace hT6 := (hu179 _ (by decide)).trans hT6
  replace hT7 := (hu179 _ (by decide)).trans hT7
  replace hT8 := (hu179 _ (by decide)).trans hT8
  replace hO44 := (hu179 _ (by decide)).trans hO44
  replace hF := q_uc hF hu179 (by simp)
  have hR185 := (show F_Flo_prepare_c87 A B C x2 t0_0 t0_1 t0_2 t1_0 t1_1 t2_0 t3_0 t3_1 t4_0 t5_0 t5_1 t6_0 t7_0 t7_1 t8_0 a39 p64 a99 p123 y112 y113 f114 p147 p180 = (F_Flo_prepare A B C x2 t0_0 t0_1 t0_2 t1_0 t1_1 t2_0 t3_0 t3_1 t4_0 t5_0 t5_1 t6_0 t7_0 t7_1 t8_0) from Eq.trans (by rw [e181, ← e164, ← e161, ← e158, e151, e150, e149, F_Flo_prepare_c74.eq_1]) hR152)
  refine lv_aload_n hx hb d_7_20_90 rfl (lv_at hl 3 rfl) ?_
  refine q_get (ci := 6) (j := 5) (v := .ref (q 9)) C0 V i_Flo rfl rfl hT0 (by decide) w_241 rfl d_7_20_91 ?_
  refine q_get (ci := 4) (j := 8) (v := .ref (q 26)) C0 V i_Mil rfl rfl hO44 (by decide) w_132 rfl d_7_20_94 ?_
  refine q_ldc2 C0 rfl w_1189 d_7_20_97 ?_
  refine q_gov V (q_runV (As := [.long 2]) (rest := []) (d := 2) (mc := 0) (ms := 0) (ci := 2) C0 V rfl LV_Flo_63 (X_Big_setLong l D g q u166 26 220 (n_b26 g q) (by decide) 2 hI t5_0 t5_1 hT5 t6_0 hT6  _) rfl rfl hT5 rfl hl.1 rfl (Nat.le_of_ble_eq_true rfl) ⟨by decide, by decide⟩ ⟨Nat.le_of_ble_eq_true rfl, Nat.le_of_ble_eq_true rfl⟩ d_7_20_100) (fun u190 H locs hp191 V => ?_)
  obtain ⟨hI, hZ9⟩ := hp191
  obtain ⟨hu203, hZ9⟩ := hZ9
  obtain ⟨y193, hZ9⟩ := hZ9
  obtain ⟨y194, hZ9⟩ := hZ9
  obtain ⟨f195, hZ9⟩ := hZ9
  obtain ⟨hO192, hZ9⟩ := hZ9
  obtain ⟨hA196, hZ9⟩ := hZ9
  replace hZ9 := hZ9.2.2.2
  obtain ⟨b200, hZ9⟩ := hZ9
  obtain ⟨-, hE202⟩ := hZ9
  replace hO192 : u190[26]? = (some (q 26, .inr (2, [.ref (q 27), .int y193, .int y194])) : Option (Nat × va_E)) := hO192
  replace hA196 : u190[27]? = (some (q 27, .inl (g 0, (220 : Int32).toNatClampNeg, .inl f195)) : Option (Nat × va_E)) := hA196
  obtain ⟨p204, e205⟩ : ∃ z, z = (F_Big_setLong (220 : Int32) (2 : Int64) t5_0 t5_1 t6_0) := ⟨_, rfl⟩
  have e206 : y193 = p204.1 := congrArg (fun z => z.1) (hE202.trans e205.symm)
  have e207 : y194 = p204.2.1 := congrArg (fun z => z.2.1) (hE202.trans e205.symm)
  have e208 : f195 = p204.2.2 := congrArg (fun z => z.2.2) (hE202.trans e205.symm)
  replace b200 : q_F (y194.toInt ≤ 1) := b200
  replace hT0 := (hu203 _ (by have z0 := hB1.2.2.2.2; simp only [List.mem_cons, List.not_mem_nil, or_false, not_or]; omega)).trans hT0
  replace hO111 := (hu203 _ (by decide)).trans hO111
  replace hA115 := (hu203 _ (by decide)).trans hA115
  replace hO168 := (hu203 _ (by decide)).trans hO168
  replace hA172 := (hu203 _ (by decide)).trans hA172
  replace hT7 := (hu203 _ (by decide)).trans hT7
  replace hT8 := (hu203 _ (by decide)).trans hT8
  replace hO44 := (hu203 _ (by decide)).trans hO44
  replace hF := q_uc hF hu203 (by simp)
  have hR209 := (show F_Flo_prepare_c100 A B C x2 t0_0 t0_1 t0_2 t1_0 t1_1 t2_0 t3_0 t3_1 t4_0 t5_0 t5_1 t6_0 t7_0 t7_1 t8_0 a39 p64 a99 p123 y112 y113 f114 p147 p180 y169 y170 f171 p204 = (F_Flo_prepare A B C x2 t0_0 t0_1 t0_2 t1_0 t1_1 t2_0 t3_0 t3_1 t4_0 t5_0 t5_1 t6_0 t7_0 t7_1 t8_0) from Eq.trans (by rw [e205, e184, e183, e182, F_Flo_prepare_c87.eq_1]) hR185)
  refine lv_aload_n hx hb d_7_20_103 rfl (lv_at hl 3 rfl) ?_
  refine q_get (ci := 6) (j := 5) (v := .ref (q 9)) C0 V i_Flo rfl rfl hT0 (by decide) w_241 rfl d_7_20_104 ?_
  refine q_get (ci := 4) (j := 8) (v := .ref (q 26)) C0 V i_Mil rfl rfl hO44 (by decide) w_132 rfl d_7_20_107 ?_
  refine lv_iconst (v := 0) hx hb d_7_20_110 (by decide) ?_
  refine lv_iload_n hx hb d_7_20_111 rfl (lv_at hl 2 rfl) ?_
  refine q_max C0 hl.1 rfl w_802 w_803 w_7 w_804 ⟨Nat.le_of_ble_eq_true rfl, Nat.le_of_ble_eq_true rfl⟩ ⟨Nat.le_of_ble_eq_true rfl, Nat.le_of_ble_eq_true rfl⟩ d_7_20_112 ?_
  obtain ⟨a214, e215⟩ := q_nm (if 0 < a39 then a39 else 0 : Int32)
  refine q_ti (v := a214) e215 ?_
  refine q_gov V (q_runV (As := [.int a214]) (rest := []) (d := 3) (mc := 0) (ms := 0) (ci := 2) C0 V rfl LV_Flo_69 (X_Big_shiftLeft l D g q u190 26 220 (n_b26 g q) (by decide) a214 hI y193 y194 hO192 f195 hA196  _) rfl rfl hO192 rfl hl.1 rfl (Nat.le_of_ble_eq_true rfl) ⟨by decide, by decide⟩ ⟨Nat.le_of_ble_eq_true rfl, Nat.le_of_ble_eq_true rfl⟩ d_7_20_115) (fun u217 H locs hp218 V => ?_)
  obtain ⟨hI, hZ9⟩ := hp218
  obtain ⟨hu230, hZ9⟩ := hZ9
  obtain ⟨y220, hZ9⟩ := hZ9
  obtain ⟨y221, hZ9⟩ := hZ9
  obtain ⟨f222, hZ9⟩ := hZ9
  obtain ⟨hO219, hZ9⟩ := hZ9
  obtain ⟨hA223, hZ9⟩ := hZ9
  obtain ⟨b224, hZ9⟩ := hZ9
  obtain ⟨b225, hZ9⟩ := hZ9
  replace hZ9 := hZ9.2
  obtain ⟨b227, hZ9⟩ := hZ9
  obtain ⟨b228, hE229⟩ := hZ9
  replace hO219 : u217[26]? = (some (q 26, .inr (2, [.ref (q 27), .int y220, .int y221])) : Option (Nat × va_E)) := hO219
  replace hA223 : u217[27]? = (some (q 27, .inl (g 0, (220 : Int32).toNatClampNeg, .inl f222)) : Option (Nat × va_E)) := hA223
  obtain ⟨p231, e232⟩ : ∃ z, z = (F_Big_shiftLeft (220 : Int32) a214 y193 y194 f195) := ⟨_, rfl⟩
  have e233 : y220 = p231.1 := congrArg (fun z => z.1) (hE229.trans e232.symm)
  have e234 : y221 = p231.2.1 := congrArg (fun z => z.2.1) (hE229.trans e232.symm)
  have e235 : f222 = p231.2.2 := congrArg (fun z => z.2.2) (hE229.trans e232.symm)
  replace b224 : q_F (0 ≤ y220.toInt) := b224
  replace b225 : q_F (0 ≤ y221.toInt) := b225
  replace b227 : q_F (y220.toInt ≤ 220) := b227
  replace b228 : q_F (y221.toInt ≤ y194.toInt) := b228
  replace hT0 := (hu230 _ (by have z0 := hB1.2.2.2.2; simp only [List.mem_cons, List.not_mem_nil, or_false, not_or]; omega)).trans hT0
  replace hO111 := (hu230 _ (by decide)).trans hO111
  replace hA115 := (hu230 _ (by decide)).trans hA115
  replace hO168 := (hu230 _ (by decide)).trans hO168
  replace hA172 := (hu230 _ (by decide)).trans hA172
  replace hT7 := (hu230 _ (by decide)).trans hT7
  replace hT8 := (hu230 _ (by decide)).trans hT8
  replace hO44 := (hu230 _ (by decide)).trans hO44
  replace hF := q_uc hF hu230 (by simp)
  have hR236 := (show F_Flo_prepare_c115 A B C x2 t0_0 t0_1 t0_2 t1_0 t1_1 t2_0 t3_0 t3_1 t4_0 t5_0 t5_1 t6_0 t7_0 t7_1 t8_0 a39 p64 a99 p123 y112 y113 f114 p147 p180 y169 y170 f171 p204 p231 = (F_Flo_prepare A B C x2 t0_0 t0_1 t0_2 t1_0 t1_1 t2_0 t3_0 t3_1 t4_0 t5_0 t5_1 t6_0 t7_0 t7_1 t8_0) from Eq.trans (by rw [e232, ← e215, e208, e207, e206, F_Flo_prepare_c100.eq_1]) hR209)
  refine lv_aload_n hx hb d_7_20_118 rfl (lv_at hl 3 rfl) ?_
  refine q_get (ci := 6) (j := 5) (v := .ref (q 9)) C0 V i_Flo rfl rfl hT0 (by decide) w_241 rfl d_7_20_119 ?_
  refine q_get (ci := 4) (j := 9) (v := .ref (q 28)) C0 V i_Mil rfl rfl hO44 (by decide) w_134 rfl d_7_20_122 ?_
  refine lv_aload_n hx hb d_7_20_125 rfl (lv_at hl 3 rfl) ?_
  refine q_get (ci := 6) (j := 5) (v := .ref (q 9)) C0 V i_Flo rfl rfl hT0 (by decide) w_241 rfl d_7_20_126 ?_
  refine q_get (ci := 4) (j := 8) (v := .ref (q 26)) C0 V i_Mil rfl rfl hO44 (by decide) w_132 rfl d_7_20_129 ?_
  refine q_gov V (q_runV (As := [.ref (q 26)]) (rest := []) (d := 2) (mc := 0) (ms := 0) (ci := 2) C0 V rfl LV_Flo_127 (X_Big_copy l D g q u217 28 220 (n_b28 g q) (by decide) 26 220 (n_b26 g q) (by decide)  (by decide) hI t7_0 t7_1 hT7 t8_0 hT8 y220 y221 hO219 f222 hA223  _) rfl rfl hT7 rfl hl.1 rfl (Nat.le_of_ble_eq_true rfl) ⟨by decide, by decide⟩ ⟨Nat.le_of_ble_eq_true rfl, Nat.le_of_ble_eq_true rfl⟩ d_7_20_132) (fun u241 H locs hp242 V => ?_)
  obtain ⟨hI, hZ9⟩ := hp242
  obtain ⟨hu254, hZ9⟩ := hZ9
  obtain ⟨y244, hZ9⟩ := hZ9
  obtain ⟨y245, hZ9⟩ := hZ9
  obtain ⟨f246, hZ9⟩ := hZ9
  obtain ⟨hO243, hZ9⟩ := hZ9
  obtain ⟨hA247, hZ9⟩ := hZ9
  obtain ⟨b248, hZ9⟩ := hZ9
  obtain ⟨b249, hZ9⟩ := hZ9
  obtain ⟨b250, hZ9⟩ := hZ9
  obtain ⟨b251, hZ9⟩ := hZ9
  obtain ⟨b252, hE253⟩ := hZ9
  replace hO243 : u241[28]? = (some (q 28, .inr (2, [.ref (q 29), .int y244, .int y245])) : Option (Nat × va_E)) := hO243
  replace hA247 : u241[29]? = (some (q 29, .inl (g 0, (220 : Int32).toNatClampNeg, .inl f246)) : Option (Nat × va_E)) := hA247
  obtain ⟨p255, e256⟩ : ∃ z, z = (F_Big_copy (220 : Int32) (220 : Int32) t7_0 t7_1 t8_0 y220 y221 f222) := ⟨_, rfl⟩
  have e257 : y244 = p255.1 := congrArg (fun z => z.1) (hE253.trans e256.symm)
  have e258 : y245 = p255.2.1 := congrArg (fun z => z.2.1) (hE253.trans e256.symm)
  have e259 : f246 = p255.2.2 := congrArg (fun z => z.2.2) (hE253.trans e256.symm)
  replace b248 : q_F (0 ≤ y244.toInt) := b248
  replace b249 : q_F (y244.toInt ≤ y220.toInt) := b249
  replace b250 : q_F (y244.toInt ≤ 220) := b250
  replace b251 : q_F (y221.toInt ≤ y245.toInt) := b251
  replace b252 : q_F (y245.toInt ≤ y221.toInt) := b252
  replace hT0 := (hu254 _ (by have z0 := hB1.2.2.2.2; simp only [List.mem_cons, List.not_mem_nil, or_false, not_or]; omega)).trans hT0
  replace hO111 := (hu254 _ (by decide)).trans hO111
  replace hA115 := (hu254 _ (by decide)).trans hA115
  replace hO168 := (hu254 _ (by decide)).trans hO168
  replace hA172 := (hu254 _ (by decide)).trans hA172
  replace hO219 := (hu254 _ (by decide)).trans hO219
  replace hA223 := (hu254 _ (by decide)).trans hA223
  replace hO44 := (hu254 _ (by decide)).trans hO44
  replace hF := q_uc hF hu254 (by simp)
  have hR260 := (show F_Flo_prepare_c132 A B C x2 t0_0 t0_1 t0_2 t1_0 t1_1 t2_0 t3_0 t3_1 t4_0 t5_0 t5_1 t6_0 t7_0 t7_1 t8_0 a39 p64 a99 p123 y112 y113 f114 p147 p180 y169 y170 f171 p204 p231 y220 y221 f222 p255 = (F_Flo_prepare A B C x2 t0_0 t0_1 t0_2 t1_0 t1_1 t2_0 t3_0 t3_1 t4_0 t5_0 t5_1 t6_0 t7_0 t7_1 t8_0) from Eq.trans (by rw [e256, e235, e234, e233, F_Flo_prepare_c115.eq_1]) hR236)
  refine lv_aload_n hx hb d_7_20_135 rfl (lv_at hl 3 rfl) ?_
  refine lv_lload_n hx hb d_7_20_136 rfl (lv_at hl 4 rfl) ?_
  refine q_gol V (q_runV (As := [.long x2]) (rest := []) (d := 1) (mc := 0) (ms := 0) (ci := 6) C0 V rfl LV_Flo_35 (X_Flo_fraction l D g q u241 k1 A B C hB1 x2 hI   _) rfl rfl hT0 rfl hl.1 rfl (Nat.le_of_ble_eq_true rfl) ⟨by decide, by decide⟩ ⟨Nat.le_of_ble_eq_true rfl, Nat.le_of_ble_eq_true rfl⟩ d_7_20_137) (fun j267 u265 H locs hp266 V => ?_)
  obtain ⟨rfl, hE268⟩ := hp266
  have e269 : j267 = (F_Flo_fraction A B C x2) := hE268
  refine lv_lconst (v := 0) hx hb d_7_20_140 (by decide) ?_
  refine W.lcmp hx hb d_7_20_141 ?_
  obtain ⟨a270, e271⟩ := q_nm (lg_cmp j267 0 : Int32)
  refine q_ti (v := a270) e271 ?_
  refine q_join (X := Int32 × Int32 × (Nat → Int32)) (fun z H locs ls w292 => q_F (0 ≤ z.2.1.toInt) ∧ q_F (z.2.1.toInt ≤ 1) ∧ q_F (z.2.1.toInt ≤ z.1.toInt + 1) ∧ q_F (z.1.toInt ≤ z.2.1.toInt + 220) ∧ q_F (0 ≤ z.1.toInt + z.2.1.toInt) ∧ q_F (z.1.toInt + z.2.1.toInt ≤ 221) ∧ q_Wd D g (va_A ws sz) s w292 H locs ∧ lv_has ls 7 [(5, .ref (q 24)), (4, .ref (q 22)), (0, .ref (q k1))] ∧ q_I (nsh g q) q w292 ∧ q_un ws w292 [22, 23, 24, 25, 26, 27, 28, 29, k1] ∧ w292[k1]? = (some (q k1, .inr (6, [.int A, .int B, .int C, .long t0_0, .int t0_1, .ref (q 9), .int a99])) : Option (Nat × va_E)) ∧ w292[22]? = (some (q 22, .inr (2, [.ref (q 23), .int y112, .int y113])) : Option (Nat × va_E)) ∧ w292[23]? = (some (q 23, .inl (g 0, (220 : Int32).toNatClampNeg, .inl f114)) : Option (Nat × va_E)) ∧ w292[24]? = (some (q 24, .inr (2, [.ref (q 25), .int y169, .int y170])) : Option (Nat × va_E)) ∧ w292[25]? = (some (q 25, .inl (g 0, (220 : Int32).toNatClampNeg, .inl f171)) : Option (Nat × va_E)) ∧ w292[26]? = (some (q 26, .inr (2, [.ref (q 27), .int y220, .int y221])) : Option (Nat × va_E)) ∧ w292[27]? = (some (q 27, .inl (g 0, (220 : Int32).toNatClampNeg, .inl f222)) : Option (Nat × va_E)) ∧ w292[28]? = (some (q 28, .inr (2, [.ref (q 29), .int z.1, .int z.2.1])) : Option (Nat × va_E)) ∧ w292[29]? = (some (q 29, .inl (g 0, (220 : Int32).toNatClampNeg, .inl z.2.2)) : Option (Nat × va_E)) ∧ F_Flo_prepare_J166 A B C x2 t0_0 t0_1 t0_2 t1_0 t1_1 t2_0 t3_0 t3_1 t4_0 t5_0 t5_1 t6_0 t7_0 t7_1 t8_0 a39 p64 a99 p123 y112 y113 f114 p147 p180 y169 y170 f171 p204 p231 y220 y221 f222 p255 z.1 z.2.1 z.2.2 = (F_Flo_prepare A B C x2 t0_0 t0_1 t0_2 t1_0 t1_1 t2_0 t3_0 t3_1 t4_0 t5_0 t5_1 t6_0 t7_0 t7_1 t8_0)) (fun z => []) 166 0 0 ?_ ?_
  ·
    rintro ⟨lx273, lx274, lx275⟩ H locs ls w292 ⟨i286, i287, i288, i289, i290, i291, V, hl, hI, hF, hO276, hO277, hA278, hO279, hA280, hO281, hA282, hO283, hA284, hR293⟩
    replace i286 : q_F (0 ≤ lx274.toInt) := i286
    clear i287
    replace i288 : q_F (lx274.toInt ≤ lx273.toInt + 1) := i288
    clear i289
    replace i290 : q_F (0 ≤ lx273.toInt + lx274.toInt) := i290
    clear i291
    replace hl : lv_has ls 7 [(5, .ref (q 24)), (4, .ref (q 22)), (0, .ref (q k1))] := hl
    replace hO276 : w292[k1]? = (some (q k1, .inr (6, [.int A, .int B, .int C, .long t0_0, .int t0_1, .ref (q 9), .int a99])) : Option (Nat × va_E)) := hO276
    replace hO277 : w292[22]? = (some (q 22, .inr (2, [.ref (q 23), .int y112, .int y113])) : Option (Nat × va_E)) := hO277
    replace hA278 : w292[23]? = (some (q 23, .inl (g 0, (220 : Int32).toNatClampNeg, .inl f114)) : Option (Nat × va_E)) := hA278
    replace hO279 : w292[24]? = (some (q 24, .inr (2, [.ref (q 25), .int y169, .int y170])) : Option (Nat × va_E)) := hO279
    replace hA280 : w292[25]? = (some (q 25, .inl (g 0, (220 : Int32).toNatClampNeg, .inl f171)) : Option (Nat × va_E)) := hA280
    replace hO281 : w292[26]? = (some (q 26, .inr (2, [.ref (q 27), .int y220, .int y221])) : Option (Nat × va_E)) := hO281
    replace hA282 : w292[27]? = (some (q 27, .inl (g 0, (220 : Int32).toNatClampNeg, .inl f222)) : Option (Nat × va_E)) := hA282
    replace hO283 : w292[28]? = (some (q 28, .inr (2, [.ref (q 29), .int lx273, .int lx274])) : Option (Nat × va_E)) := hO283
    replace hA284 : w292[29]? = (some (q 29, .inl (g 0, (220 : Int32).toNatClampNeg, .inl lx275)) : Option (Nat × va_E)) := hA284
    refine lv_aload hx hb d_7_20_166 (lv_at hl 0 rfl) ?_
    refine lv_aload_n hx hb d_7_20_168 rfl (lv_at hl 2 rfl) ?_
    refine q_get (ci := 6) (j := 6) (v := .int a99) C0 V i_Flo rfl rfl hO276 (by decide) w_242 rfl d_7_20_169 ?_
    refine q_gov V (q_runV (As := [.int a99]) (rest := []) (d := 2) (mc := 0) (ms := 0) (ci := 2) C0 V rfl LV_Flo_187 (X_Big_timesTen l D g q w292 24 220 (n_b24 g q) (by decide) a99 hI y169 y170 hO279 f171 hA280  _) rfl rfl hO279 rfl hl.1 rfl (Nat.le_of_ble_eq_true rfl) ⟨by decide, by decide⟩ ⟨Nat.le_of_ble_eq_true rfl, Nat.le_of_ble_eq_true rfl⟩ d_7_20_172) (fun u298 H locs hp299 V => ?_)
    obtain ⟨hI, hZ9⟩ := hp299
    obtain ⟨hu310, hZ9⟩ := hZ9
    obtain ⟨y301, hZ9⟩ := hZ9
    obtain ⟨y302, hZ9⟩ := hZ9
    obtain ⟨f303, hZ9⟩ := hZ9
    obtain ⟨hO300, hZ9⟩ := hZ9
    obtain ⟨hA304, hZ9⟩ := hZ9
    obtain ⟨b305, hZ9⟩ := hZ9
    obtain ⟨b306, hZ9⟩ := hZ9
    obtain ⟨b307, hZ9⟩ := hZ9
    obtain ⟨b308, hE309⟩ := hZ9
    replace hO300 : u298[24]? = (some (q 24, .inr (2, [.ref (q 25), .int y301, .int y302])) : Option (Nat × va_E)) := hO300
    replace hA304 : u298[25]? = (some (q 25, .inl (g 0, (220 : Int32).toNatClampNeg, .inl f303)) : Option (Nat × va_E)) := hA304
    obtain ⟨p311, e312⟩ : ∃ z, z = (F_Big_timesTen (220 : Int32) a99 y169 y170 f171) := ⟨_, rfl⟩
    have e313 : y301 = p311.1 := congrArg (fun z => z.1) (hE309.trans e312.symm)
    have e314 : y302 = p311.2.1 := congrArg (fun z => z.2.1) (hE309.trans e312.symm)
    have e315 : f303 = p311.2.2 := congrArg (fun z => z.2.2) (hE309.trans e312.symm)
    replace b305 : q_F (y169.toInt ≤ y301.toInt) := b305
    replace b306 : q_F (y301.toInt ≤ 220) := b306
    replace b307 : q_F (y170.toInt ≤ y302.toInt) := b307
    replace b308 : q_F (y302.toInt ≤ y170.toInt) := b308
    replace hO276 := (hu310 _ (by have z0 := hB1.2.2.2.2; simp only [List.mem_cons, List.not_mem_nil, or_false, not_or]; omega)).trans hO276
    replace hO277 := (hu310 _ (by decide)).trans hO277
    replace hA278 := (hu310 _ (by decide)).trans hA278
    replace hO281 := (hu310 _ (by decide)).trans hO281
    replace hA282 := (hu310 _ (by decide)).trans hA282
    replace hO283 := (hu310 _ (by decide)).trans hO283
    replace hA284 := (hu310 _ (by decide)).trans hA284
    replace hF := q_uc hF hu310 (by simp)
    have hR316 := (show F_Flo_prepare_c172 A B C x2 t0_0 t0_1 t0_2 t1_0 t1_1 t2_0 t3_0 t3_1 t4_0 t5_0 t5_1 t6_0 t7_0 t7_1 t8_0 a39 p64 a99 p123 y112 y113 f114 p147 p180 y169 y170 f171 p204 p231 y220 y221 f222 p255 lx273 lx274 lx275 p311 = (F_Flo_prepare A B C x2 t0_0 t0_1 t0_2 t1_0 t1_1 t2_0 t3_0 t3_1 t4_0 t5_0 t5_1 t6_0 t7_0 t7_1 t8_0) from Eq.trans (by rw [e312, F_Flo_prepare_J166.eq_1]) hR293)
    refine lv_aload hx hb d_7_20_175 (lv_at hl 1 rfl) ?_
    refine lv_aload_n hx hb d_7_20_177 rfl (lv_at hl 2 rfl) ?_
    refine q_get (ci := 6) (j := 6) (v := .int a99) C0 V i_Flo rfl rfl hO276 (by decide) w_242 rfl d_7_20_178 ?_
    refine lv_ineg hx hb d_7_20_181 ?_
    obtain ⟨a321, e322⟩ := q_nm (-a99 : Int32)
    refine q_ti (v := a321) e322 ?_
    refine q_gov V (q_runV (As := [.int a321]) (rest := []) (d := 2) (mc := 0) (ms := 0) (ci := 2) C0 V rfl LV_Flo_187 (X_Big_timesTen l D g q u298 22 220 (n_b22 g q) (by decide) a321 hI y112 y113 hO277 f114 hA278  _) rfl rfl hO277 rfl hl.1 rfl (Nat.le_of_ble_eq_true rfl) ⟨by decide, by decide⟩ ⟨Nat.le_of_ble_eq_true rfl, Nat.le_of_ble_eq_true rfl⟩ d_7_20_182) (fun u323 H locs hp324 V => ?_)
    obtain ⟨hI, hZ9⟩ := hp324
    obtain ⟨hu335, hZ9⟩ := hZ9
    obtain ⟨y326, hZ9⟩ := hZ9
    obtain ⟨y327, hZ9⟩ := hZ9
    obtain ⟨f328, hZ9⟩ := hZ9
    obtain ⟨hO325, hZ9⟩ := hZ9
    obtain ⟨hA329, hZ9⟩ := hZ9
    obtain ⟨b330, hZ9⟩ := hZ9
    obtain ⟨b331, hZ9⟩ := hZ9
    obtain ⟨b332, hZ9⟩ := hZ9
    obtain ⟨b333, hE334⟩ := hZ9
    replace hO325 : u323[22]? = (some (q 22, .inr (2, [.ref (q 23), .int y326, .int y327])) : Option (Nat × va_E)) := hO325
    replace hA329 : u323[23]? = (some (q 23, .inl (g 0, (220 : Int32).toNatClampNeg, .inl f328)) : Option (Nat × va_E)) := hA329
    obtain ⟨p336, e337⟩ : ∃ z, z = (F_Big_timesTen (220 : Int32) a321 y112 y113 f114) := ⟨_, rfl⟩
    have e338 : y326 = p336.1 := congrArg (fun z => z.1) (hE334.trans e337.symm)
    have e339 : y327 = p336.2.1 := congrArg (fun z => z.2.1) (hE334.trans e337.symm)
    have e340 : f328 = p336.2.2 := congrArg (fun z => z.2.2) (hE334.trans e337.symm)
    replace b330 : q_F (y112.toInt ≤ y326.toInt) := b330
    replace b331 : q_F (y326.toInt ≤ 220) := b331
    replace b332 : q_F (y113.toInt ≤ y327.toInt) := b332
    replace b333 : q_F (y327.toInt ≤ y113.toInt) := b333
    replace hO276 := (hu335 _ (by have z0 := hB1.2.2.2.2; simp only [List.mem_cons, List.not_mem_nil, or_false, not_or]; omega)).trans hO276
    replace hO300 := (hu335 _ (by decide)).trans hO300
    replace hA304 := (hu335 _ (by decide)).trans hA304
    replace hO281 := (hu335 _ (by decide)).trans hO281
    replace hA282 := (hu335 _ (by decide)).trans hA282
    replace hO283 := (hu335 _ (by decide)).trans hO283
    replace hA284 := (hu335 _ (by decide)).trans hA284
    replace hF := q_uc hF hu335 (by simp)
    have hR341 := (show F_Flo_prepare_c182 A B C x2 t0_0 t0_1 t0_2 t1_0 t1_1 t2_0 t3_0 t3_1 t4_0 t5_0 t5_1 t6_0 t7_0 t7_1 t8_0 a39 p64 a99 p123 y112 y113 f114 p147 p180 y169 y170 f171 p204 p231 y220 y221 f222 p255 lx273 lx274 lx275 p311 y301 y302 f303 p336 = (F_Flo_prepare A B C x2 t0_0 t0_1 t0_2 t1_0 t1_1 t2_0 t3_0 t3_1 t4_0 t5_0 t5_1 t6_0 t7_0 t7_1 t8_0) from Eq.trans (by rw [e337, ← e322, e315, e314, e313, F_Flo_prepare_c172.eq_1]) hR316)
    refine lv_aload_n hx hb d_7_20_185 rfl (lv_at hl 2 rfl) ?_
    refine q_get (ci := 6) (j := 5) (v := .ref (q 9)) C0 V i_Flo rfl rfl hO276 (by decide) w_241 rfl d_7_20_186 ?_
    have hO346 := n_o9 hI
    refine q_get (ci := 4) (j := 8) (v := .ref (q 26)) C0 V i_Mil rfl rfl hO346 (by decide) w_132 rfl d_7_20_189 ?_
    refine lv_aload_n hx hb d_7_20_192 rfl (lv_at hl 2 rfl) ?_
    refine q_get (ci := 6) (j := 6) (v := .int a99) C0 V i_Flo rfl rfl hO276 (by decide) w_242 rfl d_7_20_193 ?_
    refine lv_ineg hx hb d_7_20_196 ?_
    obtain ⟨a347, e348⟩ := q_nm (-a99 : Int32)
    refine q_ti (v := a347) e348 ?_
    refine q_gov V (q_runV (As := [.int a347]) (rest := []) (d := 2) (mc := 0) (ms := 0) (ci := 2) C0 V rfl LV_Flo_187 (X_Big_timesTen l D g q u323 26 220 (n_b26 g q) (by decide) a347 hI y220 y221 hO281 f222 hA282  _) rfl rfl hO281 rfl hl.1 rfl (Nat.le_of_ble_eq_true rfl) ⟨by decide, by decide⟩ ⟨Nat.le_of_ble_eq_true rfl, Nat.le_of_ble_eq_true rfl⟩ d_7_20_197) (fun u349 H locs hp350 V => ?_)
    obtain ⟨hI, hZ9⟩ := hp350
    obtain ⟨hu361, hZ9⟩ := hZ9
    obtain ⟨y352, hZ9⟩ := hZ9
    obtain ⟨y353, hZ9⟩ := hZ9
    obtain ⟨f354, hZ9⟩ := hZ9
    obtain ⟨hO351, hZ9⟩ := hZ9
    obtain ⟨hA355, hZ9⟩ := hZ9
    obtain ⟨b356, hZ9⟩ := hZ9
    obtain ⟨b357, hZ9⟩ := hZ9
    obtain ⟨b358, hZ9⟩ := hZ9
    obtain ⟨b359, hE360⟩ := hZ9
    replace hO351 : u349[26]? = (some (q 26, .inr (2, [.ref (q 27), .int y352, .int y353])) : Option (Nat × va_E)) := hO351
    replace hA355 : u349[27]? = (some (q 27, .inl (g 0, (220 : Int32).toNatClampNeg, .inl f354)) : Option (Nat × va_E)) := hA355
    obtain ⟨p362, e363⟩ : ∃ z, z = (F_Big_timesTen (220 : Int32) a347 y220 y221 f222) := ⟨_, rfl⟩
    have e364 : y352 = p362.1 := congrArg (fun z => z.1) (hE360.trans e363.symm)
    have e365 : y353 = p362.2.1 := congrArg (fun z => z.2.1) (hE360.trans e363.symm)
    have e366 : f354 = p362.2.2 := congrArg (fun z => z.2.2) (hE360.trans e363.symm)
    replace b356 : q_F (y220.toInt ≤ y352.toInt) := b356
    replace b357 : q_F (y352.toInt ≤ 220) := b357
    replace b358 : q_F (y221.toInt ≤ y353.toInt) := b358
    replace b359 : q_F (y353.toInt ≤ y221.toInt) := b359
    replace hO276 := (hu361 _ (by have z0 := hB1.2.2.2.2; simp only [List.mem_cons, List.not_mem_nil, or_false, not_or]; omega)).trans hO276
    replace hO325 := (hu361 _ (by decide)).trans hO325
    replace hA329 := (hu361 _ (by decide)).trans hA329
    replace hO300 := (hu361 _ (by decide)).trans hO300
    replace hA304 := (hu361 _ (by decide)).trans hA304
    replace hO283 := (hu361 _ (by decide)).trans hO283
    replace hA284 := (hu361 _ (by decide)).trans hA284
    replace hO346 := (hu361 _ (by decide)).trans hO346
    replace hF := q_uc hF hu361 (by simp)
    have hR367 := (show F_Flo_prepare_c197 A B C x2 t0_0 t0_1 t0_2 t1_0 t1_1 t2_0 t3_0 t3_1 t4_0 t5_0 t5_1 t6_0 t7_0 t7_1 t8_0 a39 p64 a99 p123 y112 y113 f114 p147 p180 y169 y170 f171 p204 p231 y220 y221 f222 p255 lx273 lx274 lx275 p311 y301 y302 f303 p336 y326 y327 f328 p362 = (F_Flo_prepare A B C x2 t0_0 t0_1 t0_2 t1_0 t1_1 t2_0 t3_0 t3_1 t4_0 t5_0 t5_1 t6_0 t7_0 t7_1 t8_0) from Eq.trans (by rw [e363, ← e348, e340, e339, e338, F_Flo_prepare_c182.eq_1]) hR341)
    refine lv_aload_n hx hb d_7_20_200 rfl (lv_at hl 2 rfl) ?_
    refine q_get (ci := 6) (j := 5) (v := .ref (q 9)) C0 V i_Flo rfl rfl hO276 (by decide) w_241 rfl d_7_20_201 ?_
    refine q_get (ci := 4) (j := 9) (v := .ref (q 28)) C0 V i_Mil rfl rfl hO346 (by decide) w_134 rfl d_7_20_204 ?_
    refine lv_aload_n hx hb d_7_20_207 rfl (lv_at hl 2 rfl) ?_
    refine q_get (ci := 6) (j := 6) (v := .int a99) C0 V i_Flo rfl rfl hO276 (by decide) w_242 rfl d_7_20_208 ?_
    refine lv_ineg hx hb d_7_20_211 ?_
    obtain ⟨a372, e373⟩ := q_nm (-a99 : Int32)
    refine q_ti (v := a372) e373 ?_
    refine q_gov V (q_runV (As := [.int a372]) (rest := []) (d := 2) (mc := 0) (ms := 0) (ci := 2) C0 V rfl LV_Flo_187 (X_Big_timesTen l D g q u349 28 220 (n_b28 g q) (by decide) a372 hI lx273 lx274 hO283 lx275 hA284  _) rfl rfl hO283 rfl hl.1 rfl (Nat.le_of_ble_eq_true rfl) ⟨by decide, by decide⟩ ⟨Nat.le_of_ble_eq_true rfl, Nat.le_of_ble_eq_true rfl⟩ d_7_20_212) (fun u374 H locs hp375 V => ?_)
    obtain ⟨hI, hZ9⟩ := hp375
    obtain ⟨hu386, hZ9⟩ := hZ9
    obtain ⟨y377, hZ9⟩ := hZ9
    obtain ⟨y378, hZ9⟩ := hZ9
    obtain ⟨f379, hZ9⟩ := hZ9
    obtain ⟨hO376, hZ9⟩ := hZ9
    obtain ⟨hA380, hZ9⟩ := hZ9
    obtain ⟨b381, hZ9⟩ := hZ9
    obtain ⟨b382, hZ9⟩ := hZ9
    obtain ⟨b383, hZ9⟩ := hZ9
    obtain ⟨-, hE385⟩ := hZ9
    replace hO376 : u374[28]? = (some (q 28, .inr (2, [.ref (q 29), .int y377, .int y378])) : Option (Nat × va_E)) := hO376
    replace hA380 : u374[29]? = (some (q 29, .inl (g 0, (220 : Int32).toNatClampNeg, .inl f379)) : Option (Nat × va_E)) := hA380
    obtain ⟨p387, e388⟩ : ∃ z, z = (F_Big_timesTen (220 : Int32) a372 lx273 lx274 lx275) := ⟨_, rfl⟩
    have e389 : y377 = p387.1 := congrArg (fun z => z.1) (hE385.trans e388.symm)
    have e390 : y378 = p387.2.1 := congrArg (fun z => z.2.1) (hE385.trans e388.symm)
    have e391 : f379 = p387.2.2 := congrArg (fun z => z.2.2) (hE385.trans e388.symm)
    replace b381 : q_F (lx273.toInt ≤ y377.toInt) := b381
    replace b382 : q_F (y377.toInt ≤ 220) := b382
    replace b383 : q_F (lx274.toInt ≤ y378.toInt) := b383
    replace hO276 := (hu386 _ (by have z0 := hB1.2.2.2.2; simp only [List.mem_cons, List.not_mem_nil, or_false, not_or]; omega)).trans hO276
    replace hO325 := (hu386 _ (by decide)).trans hO325
    replace hA329 := (hu386 _ (by decide)).trans hA329
    replace hO300 := (hu386 _ (by decide)).trans hO300
    replace hA304 := (hu386 _ (by decide)).trans hA304
    replace hO351 := (hu386 _ (by decide)).trans hO351
    replace hA355 := (hu386 _ (by decide)).trans hA355
    replace hF := q_uc hF hu386 (by simp)
    have hR392 := (show F_Flo_prepare_c212 A B C x2 t0_0 t0_1 t0_2 t1_0 t1_1 t2_0 t3_0 t3_1 t4_0 t5_0 t5_1 t6_0 t7_0 t7_1 t8_0 a39 p64 a99 p123 y112 y113 f114 p147 p180 y169 y170 f171 p204 p231 y220 y221 f222 p255 lx273 lx274 lx275 p311 y301 y302 f303 p336 y326 y327 f328 p362 y352 y353 f354 p387 = (F_Flo_prepare A B C x2 t0_0 t0_1 t0_2 t1_0 t1_1 t2_0 t3_0 t3_1 t4_0 t5_0 t5_1 t6_0 t7_0 t7_1 t8_0) from Eq.trans (by rw [e388, ← e373, e366, e365, e364, F_Flo_prepare_c197.eq_1]) hR367)
    refine lv_iconst (v := 0) hx hb d_7_20_215 (by decide) ?_
    refine lv_istore (lv' := [(6, .int 0), (5, .ref (q 24)), (4, .ref (q 22)), (0, .ref (q k1))]) hx hb d_7_20_216 hl (by decide) rfl (fun ls hl => ?_)
    refine q_loop (X := Int32 × Int32 × Int32 × Int32 × (Nat → Int32)) (fun z H locs ls w411 => q_F (z.1.toInt ≤ 3) ∧ q_F (y302.toInt ≤ z.2.2.2.1.toInt) ∧ q_F (z.2.2.2.1.toInt ≤ y302.toInt) ∧ q_F (z.2.2.1.toInt ≤ z.2.2.2.1.toInt + 220) ∧ q_F (z.2.2.1.toInt + z.2.2.2.1.toInt ≤ 221) ∧ q_F (z.2.2.1.toInt ≤ z.1.toInt + y301.toInt) ∧ q_F (z.2.2.2.1.toInt + y301.toInt ≤ z.2.2.1.toInt + y302.toInt) ∧ q_Wd D g (va_A ws sz) s w411 H locs ∧ lv_has ls 7 [(6, .int z.1), (5, .ref (q 24)), (4, .ref (q 22)), (0, .ref (q k1))] ∧ q_I (nsh g q) q w411 ∧ q_un ws w411 [22, 23, 24, 25, 26, 27, 28, 29, k1] ∧ w411[k1]? = (some (q k1, .inr (6, [.int A, .int B, .int C, .long t0_0, .int t0_1, .ref (q 9), .int z.2.1])) : Option (Nat × va_E)) ∧ w411[22]? = (some (q 22, .inr (2, [.ref (q 23), .int y326, .int y327])) : Option (Nat × va_E)) ∧ w411[23]? = (some (q 23, .inl (g 0, (220 : Int32).toNatClampNeg, .inl f328)) : Option (Nat × va_E)) ∧ w411[24]? = (some (q 24, .inr (2, [.ref (q 25), .int z.2.2.1, .int z.2.2.2.1])) : Option (Nat × va_E)) ∧ w411[25]? = (some (q 25, .inl (g 0, (220 : Int32).toNatClampNeg, .inl z.2.2.2.2)) : Option (Nat × va_E)) ∧ w411[26]? = (some (q 26, .inr (2, [.ref (q 27), .int y352, .int y353])) : Option (Nat × va_E)) ∧ w411[27]? = (some (q 27, .inl (g 0, (220 : Int32).toNatClampNeg, .inl f354)) : Option (Nat × va_E)) ∧ w411[28]? = (some (q 28, .inr (2, [.ref (q 29), .int y377, .int y378])) : Option (Nat × va_E)) ∧ w411[29]? = (some (q 29, .inl (g 0, (220 : Int32).toNatClampNeg, .inl f379)) : Option (Nat × va_E)) ∧ (∃ n, (3 - z.1.toInt).toNat < n ∧ F_Flo_prepare_L218 A B C x2 t0_0 t0_1 t0_2 t1_0 t1_1 t2_0 t3_0 t3_1 t4_0 t5_0 t5_1 t6_0 t7_0 t7_1 t8_0 a39 p64 a99 p123 y112 y113 f114 p147 p180 y169 y170 f171 p204 p231 y220 y221 f222 p255 lx273 lx274 lx275 p311 y301 y302 f303 p336 y326 y327 f328 p362 y352 y353 f354 p387 y377 y378 f379 n z.1 z.2.1 z.2.2.1 z.2.2.2.1 z.2.2.2.2 = (F_Flo_prepare A B C x2 t0_0 t0_1 t0_2 t1_0 t1_1 t2_0 t3_0 t3_1 t4_0 t5_0 t5_1 t6_0 t7_0 t7_1 t8_0))) (fun z => (3 - z.1.toInt).toNat) ?_ ((0 : Int32), (a99 : Int32), (y301 : Int32), (y302 : Int32), (f303 : (Nat → Int32))) _ _ _ u374 ⟨(show q_F (0 ≤ 3) from (show 0 ≤ 3 from by omega)), (show q_F (y302.toInt ≤ y302.toInt) from (show y302.toInt ≤ y302.toInt from by omega)), (show q_F (y302.toInt ≤ y302.toInt) from (show y302.toInt ≤ y302.toInt from by omega)), (show q_F (y301.toInt ≤ y302.toInt + 220) from (show y301.toInt ≤ y302.toInt + 220 from by have t1 : 0 ≤ y170.toInt := b174; have t2 : y301.toInt ≤ 220 := b306; have t3 : y170.toInt ≤ y302.toInt := b307; omega)), (show q_F (y301.toInt + y302.toInt ≤ 221) from (show y301.toInt + y302.toInt ≤ 221 from by have t1 : y137.toInt ≤ 1 := b143; have t2 : y170.toInt ≤ y137.toInt := b177; have t3 : y301.toInt ≤ 220 := b306; have t4 : y302.toInt ≤ y170.toInt := b308; omega)), (show q_F (y301.toInt ≤ 0 + y301.toInt) from (show y301.toInt ≤ 0 + y301.toInt from by omega)), (show q_F (y302.toInt + y301.toInt ≤ y301.toInt + y302.toInt) from (show y302.toInt + y301.toInt ≤ y301.toInt + y302.toInt from by omega)), V, q_lw hl (q_lw1 0 rfl (q_lw1 1 rfl (q_lw1 2 rfl (q_lw1 3 rfl q_lw0)))), hI, hF, hO276, hO325, hA329, hO300, hA304, hO351, hA355, hO376, hA380, ⟨((3 - (0 : Int32).toInt).toNat + 1), Nat.lt_succ_self _, (show F_Flo_prepare_L218 A B C x2 t0_0 t0_1 t0_2 t1_0 t1_1 t2_0 t3_0 t3_1 t4_0 t5_0 t5_1 t6_0 t7_0 t7_1 t8_0 a39 p64 a99 p123 y112 y113 f114 p147 p180 y169 y170 f171 p204 p231 y220 y221 f222 p255 lx273 lx274 lx275 p311 y301 y302 f303 p336 y326 y327 f328 p362 y352 y353 f354 p387 y377 y378 f379 ((3 - (0 : Int32).toInt).toNat + 1) 0 a99 y301 y302 f303 = (F_Flo_prepare A B C x2 t0_0 t0_1 t0_2 t1_0 t1_1 t2_0 t3_0 t3_1 t4_0 t5_0 t5_1 t6_0 t7_0 t7_1 t8_0) from Eq.trans (by rw [e391, e390, e389, F_Flo_prepare_c212.eq_1]) hR392)⟩⟩
    rintro ⟨lx398, lx399, lx400, lx401, lx402⟩ H locs ls w411 ⟨i403, i404, i405, i406, i407, i408, i409, V, hl, hI, hF, hO412, hO413, hO414, hO415, hO416, hO417, hO418, hO419, hO420, ⟨fu423, hf424, hR421⟩⟩ ih410
    obtain ⟨fm425, rfl⟩ : ∃ m, fu423 = m + 1 := ⟨fu423 - 1, by omega⟩
    replace i403 : q_F (lx398.toInt ≤ 3) := i403
    replace i404 : q_F (y302.toInt ≤ lx401.toInt) := i404
    replace i405 : q_F (lx401.toInt ≤ y302.toInt) := i405
    replace i406 : q_F (lx400.toInt ≤ lx401.toInt + 220) := i406
    replace i407 : q_F (lx400.toInt + lx401.toInt ≤ 221) := i407
    replace i408 : q_F (lx400.toInt ≤ lx398.toInt + y301.toInt) := i408
    replace i409 : q_F (lx401.toInt + y301.toInt ≤ lx400.toInt + y302.toInt) := i409
    replace hl : lv_has ls 7 [(6, .int lx398), (5, .ref (q 24)), (4, .ref (q 22)), (0, .ref (q k1))] := hl
    replace hO412 : w411[k1]? = (some (q k1, .inr (6, [.int A, .int B, .int C, .long t0_0, .int t0_1, .ref (q 9), .int lx399])) : Option (Nat × va_E)) := hO412
    replace hO413 : w411[22]? = (some (q 22, .inr (2, [.ref (q 23), .int y326, .int y327])) : Option (Nat × va_E)) := hO413
    replace hO414 : w411[23]? = (some (q 23, .inl (g 0, (220 : Int32).toNatClampNeg, .inl f328)) : Option (Nat × va_E)) := hO414
    replace hO415 : w411[24]? = (some (q 24, .inr (2, [.ref (q 25), .int lx400, .int lx401])) : Option (Nat × va_E)) := hO415
    replace hO416 : w411[25]? = (some (q 25, .inl (g 0, (220 : Int32).toNatClampNeg, .inl lx402)) : Option (Nat × va_E)) := hO416
    replace hO417 : w411[26]? = (some (q 26, .inr (2, [.ref (q 27), .int y352, .int y353])) : Option (Nat × va_E)) := hO417
    replace hO418 : w411[27]? = (some (q 27, .inl (g 0, (220 : Int32).toNatClampNeg, .inl f354)) : Option (Nat × va_E)) := hO418
    replace hO419 : w411[28]? = (some (q 28, .inr (2, [.ref (q 29), .int y377, .int y378])) : Option (Nat × va_E)) := hO419
    replace hO420 : w411[29]? = (some (q 29, .inl (g 0, (220 : Int32).toNatClampNeg, .inl f379)) : Option (Nat × va_E)) := hO420
    refine lv_iload hx hb d_7_20_218 (lv_at hl 0 rfl) ?_
    refine lv_iconst (v := 3) hx hb d_7_20_220 (by decide) ?_
    refine lv_icmp_ge (tgt := 258) hx hb d_7_20_221 (by decide) (fun c426 => ?_) (fun c426 => ?_)
    ·
      exact q_retv C0 V (⟨hI, hF, t0_0, t0_1, lx399, y326, y327, f328, lx400, lx401, lx402, y352, y353, f354, y377, y378, f379, hO412, hO413, hO414, hO415, hO416, hO417, hO418, hO419, hO420, (show 0 ≤ y326.toInt from (by have t1 : 0 ≤ y112.toInt := b116; have t2 : y112.toInt ≤ y326.toInt := b330; omega)), (show y326.toInt ≤ 220 from (by first | with_reducible exact q_fe b331 | (have t1 : y326.toInt ≤ 220 := b331; omega))), (show 0 ≤ y327.toInt from (by have t1 : 0 ≤ y113.toInt := b117; have t2 : y113.toInt ≤ y327.toInt := b332; omega)), (show y327.toInt ≤ 1 from (by have t1 : y54.toInt ≤ 1 := b60; have t2 : y113.toInt ≤ y54.toInt := b120; have t3 : y327.toInt ≤ y113.toInt := b333; omega)), (show 0 ≤ lx400.toInt from (by have t1 : 0 ≤ y169.toInt := b173; have t2 : y169.toInt ≤ y301.toInt := b305; have t3 : y302.toInt ≤ lx401.toInt := i404; have t4 : lx401.toInt + y301.toInt ≤ lx400.toInt + y302.toInt := i409; omega)), (show lx400.toInt ≤ 220 from (by have t1 : lx400.toInt ≤ lx401.toInt + 220 := i406; have t2 : lx400.toInt + lx401.toInt ≤ 221 := i407; omega)), (show 0 ≤ lx401.toInt from (by have t1 : 0 ≤ y170.toInt := b174; have t2 : y170.toInt ≤ y302.toInt := b307; have t3 : y302.toInt ≤ lx401.toInt := i404; omega)), (show lx401.toInt ≤ 1 from (by have t1 : y137.toInt ≤ 1 := b143; have t2 : y170.toInt ≤ y137.toInt := b177; have t3 : y302.toInt ≤ y170.toInt := b308; have t4 : lx401.toInt ≤ y302.toInt := i405; omega)), (show 0 ≤ y352.toInt from (by have t1 : 0 ≤ y220.toInt := b224; have t2 : y220.toInt ≤ y352.toInt := b356; omega)), (show y352.toInt ≤ 220 from (by first | with_reducible exact q_fe b357 | (have t1 : y352.toInt ≤ 220 := b357; omega))), (show 0 ≤ y353.toInt from (by have t1 : 0 ≤ y221.toInt := b225; have t2 : y221.toInt ≤ y353.toInt := b358; omega)), (show y353.toInt ≤ 1 from (by have t1 : y194.toInt ≤ 1 := b200; have t2 : y221.toInt ≤ y194.toInt := b228; have t3 : y353.toInt ≤ y221.toInt := b359; omega)), (show 0 ≤ y377.toInt from (by have t1 : lx274.toInt ≤ lx273.toInt + 1 := i288; have t2 : 0 ≤ lx273.toInt + lx274.toInt := i290; have t3 : lx273.toInt ≤ y377.toInt := b381; omega)), (show y377.toInt ≤ 220 from (by first | with_reducible exact q_fe b382 | (have t1 : y377.toInt ≤ 220 := b382; omega))), (show 0 ≤ y378.toInt from (by have t1 : 0 ≤ lx274.toInt := i286; have t2 : lx274.toInt ≤ y378.toInt := b383; omega)), (show t0_0.toInt ≤ t0_0.toInt from (by omega)), (show t0_0.toInt ≤ t0_0.toInt from (by omega)), (show t0_1.toInt ≤ t0_1.toInt from (by omega)), (show t0_1.toInt ≤ t0_1.toInt from (by omega)), (show (t0_0, t0_1, lx399, y326, y327, f328, lx400, lx401, lx402, y352, y353, f354, y377, y378, f379) = (F_Flo_prepare A B C x2 t0_0 t0_1 t0_2 t1_0 t1_1 t2_0 t3_0 t3_1 t4_0 t5_0 t5_1 t6_0 t7_0 t7_1 t8_0) from Eq.trans (by rw [F_Flo_prepare_L218.eq_2, if_pos c426]) hR421)⟩) d_7_20_258
    ·
      have b428 : q_F (lx398.toInt < 3) := (q_nleI c426)
      refine lv_aload hx hb d_7_20_224 (lv_at hl 2 rfl) ?_
      refine lv_aload hx hb d_7_20_226 (lv_at hl 1 rfl) ?_
      refine q_goi V (q_runV (As := [.ref (q 24)]) (rest := []) (d := 2) (mc := 0) (ms := 0) (ci := 2) C0 V rfl LV_Flo_162 (X_Big_compareSize l D g q w411 22 220 (n_b22 g q) (by decide) 24 220 (n_b24 g q) (by decide)  hI y326 y327 hO413 f328 hO414 lx400 lx401 hO415 lx402 hO416  _) rfl rfl hO413 rfl hl.1 rfl (Nat.le_of_ble_eq_true rfl) ⟨by decide, by decide⟩ ⟨Nat.le_of_ble_eq_true rfl, Nat.le_of_ble_eq_true rfl⟩ d_7_20_228) (fun a431 u429 H locs hp430 V => ?_)
      obtain ⟨rfl, b432, b433, hE434⟩ := hp430
      have e435 : a431 = (F_Big_compareSize (220 : Int32) (220 : Int32) y326 y327 f328 lx400 lx401 lx402) := hE434
      clear b432
      clear b433
      refine lv_if_lt (tgt := 258) hx hb d_7_20_231 (by decide) (fun c436 => ?_) (fun c436 => ?_)
      ·
        exact q_retv C0 V (⟨hI, hF, t0_0, t0_1, lx399, y326, y327, f328, lx400, lx401, lx402, y352, y353, f354, y377, y378, f379, hO412, hO413, hO414, hO415, hO416, hO417, hO418, hO419, hO420, (show 0 ≤ y326.toInt from (by have t1 : 0 ≤ y112.toInt := b116; have t2 : y112.toInt ≤ y326.toInt := b330; omega)), (show y326.toInt ≤ 220 from (by first | with_reducible exact q_fe b331 | (have t1 : y326.toInt ≤ 220 := b331; omega))), (show 0 ≤ y327.toInt from (by have t1 : 0 ≤ y113.toInt := b117; have t2 : y113.toInt ≤ y327.toInt := b332; omega)), (show y327.toInt ≤ 1 from (by have t1 : y54.toInt ≤ 1 := b60; have t2 : y113.toInt ≤ y54.toInt := b120; have t3 : y327.toInt ≤ y113.toInt := b333; omega)), (show 0 ≤ lx400.toInt from (by have t1 : 0 ≤ y169.toInt := b173; have t2 : y169.toInt ≤ y301.toInt := b305; have t3 : y302.toInt ≤ lx401.toInt := i404; have t4 : lx401.toInt + y301.toInt ≤ lx400.toInt + y302.toInt := i409; omega)), (show lx400.toInt ≤ 220 from (by have t1 : lx400.toInt ≤ lx401.toInt + 220 := i406; have t2 : lx400.toInt + lx401.toInt ≤ 221 := i407; omega)), (show 0 ≤ lx401.toInt from (by have t1 : 0 ≤ y170.toInt := b174; have t2 : y170.toInt ≤ y302.toInt := b307; have t3 : y302.toInt ≤ lx401.toInt := i404; omega)), (show lx401.toInt ≤ 1 from (by have t1 : y137.toInt ≤ 1 := b143; have t2 : y170.toInt ≤ y137.toInt := b177; have t3 : y302.toInt ≤ y170.toInt := b308; have t4 : lx401.toInt ≤ y302.toInt := i405; omega)), (show 0 ≤ y352.toInt from (by have t1 : 0 ≤ y220.toInt := b224; have t2 : y220.toInt ≤ y352.toInt := b356; omega)), (show y352.toInt ≤ 220 from (by first | with_reducible exact q_fe b357 | (have t1 : y352.toInt ≤ 220 := b357; omega))), (show 0 ≤ y353.toInt from (by have t1 : 0 ≤ y221.toInt := b225; have t2 : y221.toInt ≤ y353.toInt := b358; omega)), (show y353.toInt ≤ 1 from (by have t1 : y194.toInt ≤ 1 := b200; have t2 : y221.toInt ≤ y194.toInt := b228; have t3 : y353.toInt ≤ y221.toInt := b359; omega)), (show 0 ≤ y377.toInt from (by have t1 : lx274.toInt ≤ lx273.toInt + 1 := i288; have t2 : 0 ≤ lx273.toInt + lx274.toInt := i290; have t3 : lx273.toInt ≤ y377.toInt := b381; omega)), (show y377.toInt ≤ 220 from (by first | with_reducible exact q_fe b382 | (have t1 : y377.toInt ≤ 220 := b382; omega))), (show 0 ≤ y378.toInt from (by have t1 : 0 ≤ lx274.toInt := i286; have t2 : lx274.toInt ≤ y378.toInt := b383; omega)), (show t0_0.toInt ≤ t0_0.toInt from (by omega)), (show t0_0.toInt ≤ t0_0.toInt from (by omega)), (show t0_1.toInt ≤ t0_1.toInt from (by omega)), (show t0_1.toInt ≤ t0_1.toInt from (by omega)), (show (t0_0, t0_1, lx399, y326, y327, f328, lx400, lx401, lx402, y352, y353, f354, y377, y378, f379) = (F_Flo_prepare A B C x2 t0_0 t0_1 t0_2 t1_0 t1_1 t2_0 t3_0 t3_1 t4_0 t5_0 t5_1 t6_0 t7_0 t7_1 t8_0) from Eq.trans (by have c436x := c436; rw [e435] at c436x; rw [F_Flo_prepare_L218.eq_2, if_neg c426, if_pos c436x]) hR421)⟩) d_7_20_258
      ·
        refine lv_aload hx hb d_7_20_234 (lv_at hl 1 rfl) ?_
        refine lv_bipush (v := 10) hx hb d_7_20_236 (by decide) ?_
        refine lv_iconst (v := 0) hx hb d_7_20_238 (by decide) ?_
        refine q_gov V (q_runV (As := [.int 10, .int 0]) (rest := []) (d := 1) (mc := 0) (ms := 0) (ci := 2) C0 V rfl LV_Flo_190 (X_Big_multiplySmall l D g q w411 24 220 (n_b24 g q) (by decide) 10 0 hI lx400 lx401 hO415 lx402 hO416  _) rfl rfl hO415 rfl hl.1 rfl (Nat.le_of_ble_eq_true rfl) ⟨by decide, by decide⟩ ⟨Nat.le_of_ble_eq_true rfl, Nat.le_of_ble_eq_true rfl⟩ d_7_20_239) (fun u439 H locs hp440 V => ?_)
        obtain ⟨hI, hZ9⟩ := hp440
        obtain ⟨hu452, hZ9⟩ := hZ9
        obtain ⟨y442, hZ9⟩ := hZ9
        obtain ⟨y443, hZ9⟩ := hZ9
        obtain ⟨f444, hZ9⟩ := hZ9
        obtain ⟨hO441, hZ9⟩ := hZ9
        obtain ⟨hA445, hZ9⟩ := hZ9
        obtain ⟨b446, hZ9⟩ := hZ9
        obtain ⟨b447, hZ9⟩ := hZ9
        obtain ⟨b448, hZ9⟩ := hZ9
        obtain ⟨b449, hZ9⟩ := hZ9
        obtain ⟨b450, hE451⟩ := hZ9
        replace hO441 : u439[24]? = (some (q 24, .inr (2, [.ref (q 25), .int y442, .int y443])) : Option (Nat × va_E)) := hO441
        replace hA445 : u439[25]? = (some (q 25, .inl (g 0, (220 : Int32).toNatClampNeg, .inl f444)) : Option (Nat × va_E)) := hA445
        obtain ⟨p453, e454⟩ : ∃ z, z = (F_Big_multiplySmall (220 : Int32) (10 : Int32) (0 : Int32) lx400 lx401 lx402) := ⟨_, rfl⟩
        have e455 : y442 = p453.1 := congrArg (fun z => z.1) (hE451.trans e454.symm)
        have e456 : y443 = p453.2.1 := congrArg (fun z => z.2.1) (hE451.trans e454.symm)
        have e457 : f444 = p453.2.2 := congrArg (fun z => z.2.2) (hE451.trans e454.symm)
        replace b446 : q_F (lx400.toInt ≤ y442.toInt) := b446
        replace b447 : q_F (y442.toInt ≤ lx400.toInt + 1) := b447
        replace b448 : q_F (y442.toInt ≤ 220) := b448
        replace b449 : q_F (lx401.toInt ≤ y443.toInt) := b449
        replace b450 : q_F (y443.toInt ≤ lx401.toInt) := b450
        replace hO412 := (hu452 _ (by have z0 := hB1.2.2.2.2; simp only [List.mem_cons, List.not_mem_nil, or_false, not_or]; omega)).trans hO412
        replace hO413 := (hu452 _ (by decide)).trans hO413
        replace hO414 := (hu452 _ (by decide)).trans hO414
        replace hO417 := (hu452 _ (by decide)).trans hO417
        replace hO418 := (hu452 _ (by decide)).trans hO418
        replace hO419 := (hu452 _ (by decide)).trans hO419
        replace hO420 := (hu452 _ (by decide)).trans hO420
        replace hF := q_uc hF hu452 (by simp)
        have hR458 := (show F_Flo_prepare_c239 (F_Flo_prepare_L218 A B C x2 t0_0 t0_1 t0_2 t1_0 t1_1 t2_0 t3_0 t3_1 t4_0 t5_0 t5_1 t6_0 t7_0 t7_1 t8_0 a39 p64 a99 p123 y112 y113 f114 p147 p180 y169 y170 f171 p204 p231 y220 y221 f222 p255 lx273 lx274 lx275 p311 y301 y302 f303 p336 y326 y327 f328 p362 y352 y353 f354 p387 y377 y378 f379 fm425) A B C x2 t0_0 t0_1 t0_2 t1_0 t1_1 t2_0 t3_0 t3_1 t4_0 t5_0 t5_1 t6_0 t7_0 t7_1 t8_0 a39 p64 a99 p123 y112 y113 f114 p147 p180 y169 y170 f171 p204 p231 y220 y221 f222 p255 lx273 lx274 lx275 p311 y301 y302 f303 p336 y326 y327 f328 p362 y352 y353 f354 p387 y377 y378 f379 lx398 lx399 lx400 lx401 lx402 p453 = (F_Flo_prepare A B C x2 t0_0 t0_1 t0_2 t1_0 t1_1 t2_0 t3_0 t3_1 t4_0 t5_0 t5_1 t6_0 t7_0 t7_1 t8_0) from Eq.trans (by have c436x := c436; rw [e435] at c436x; rw [e454, F_Flo_prepare_L218.eq_2, if_neg c426, if_neg c436x]) hR421)
        refine lv_aload_n hx hb d_7_20_242 rfl (lv_at hl 3 rfl) ?_
        refine lv_dup hx hb d_7_20_243 rfl ?_
        refine q_get (ci := 6) (j := 6) (v := .int lx399) C0 V i_Flo rfl rfl hO412 (by decide) w_242 rfl d_7_20_244 ?_
        refine lv_iconst (v := 1) hx hb d_7_20_247 (by decide) ?_
        refine lv_iadd hx hb d_7_20_248 ?_
        obtain ⟨a463, e464⟩ := q_nm (lx399 + 1 : Int32)
        refine q_ti (v := a463) e464 ?_
        refine q_put (ci := 6) (j := 6) (v := .int a463) (ty := .int) C0 V i_Flo o_Flo n_Flo rfl rfl hO412 (by decide) w_242 rfl rfl rfl rfl (Nat.le_of_ble_eq_true rfl) d_7_20_249 (fun H locs w465 hu466 hO412 V => ?_)
        replace hO412 : w465[k1]? = (some (q k1, .inr (6, [.int A, .int B, .int C, .long t0_0, .int t0_1, .ref (q 9), .int a463])) : Option (Nat × va_E)) := hO412
        replace hI := n_flO' hI hB1 hu466 hO412 
        replace hO413 := (hu466 _ (by have z0 := hB1.2.2.2.2; omega)).trans hO413
        replace hO414 := (hu466 _ (by have z0 := hB1.2.2.2.2; omega)).trans hO414
        replace hO441 := (hu466 _ (by have z0 := hB1.2.2.2.2; omega)).trans hO441
        replace hA445 := (hu466 _ (by have z0 := hB1.2.2.2.2; omega)).trans hA445
        replace hO417 := (hu466 _ (by have z0 := hB1.2.2.2.2; omega)).trans hO417
        replace hO418 := (hu466 _ (by have z0 := hB1.2.2.2.2; omega)).trans hO418
        replace hO419 := (hu466 _ (by have z0 := hB1.2.2.2.2; omega)).trans hO419
        replace hO420 := (hu466 _ (by have z0 := hB1.2.2.2.2; omega)).trans hO420
        replace hF := q_us hF hu466 (by simp)
        obtain ⟨a467, e468⟩ := q_nm (lx398 + 1 : Int32)
        have b469 : q_F (a467.toInt = lx398.toInt + 1) := (by rw [← e468]; exact q_addI (y := 1) rfl (by decide) (by have _ := q_lo32 (x := lx398); have _ := q_hi32 (x := lx398); have t1 : lx398.toInt ≤ 3 := i403; omega) (by have _ := q_lo32 (x := lx398); have _ := q_hi32 (x := lx398); have t1 : lx398.toInt ≤ 3 := i403; omega))
        refine lv_iinc (v := a467) (lv' := [(6, .int a467), (5, .ref (q 24)), (4, .ref (q 22)), (0, .ref (q k1))]) hx hb d_7_20_252 hl (k := 0) rfl (e468) (by decide) rfl (fun ls hl => ?_)
        refine lv_goto (tgt := 218) hx hb d_7_20_255 (by decide) ?_
        exact ih410 ((a467 : Int32), (a463 : Int32), (y442 : Int32), (y443 : Int32), (f444 : (Nat → Int32))) _ _ _ _ (show (3 - a467.toInt).toNat < (3 - lx398.toInt).toNat from by have t1 : a467.toInt = lx398.toInt + 1 := b469; have t2 : lx398.toInt ≤ 3 := i403; have t3 : lx398.toInt < 3 := b428; omega) ⟨(show q_F (a467.toInt ≤ 3) from (show a467.toInt ≤ 3 from by have t1 : lx398.toInt < 3 := b428; have t2 : a467.toInt = lx398.toInt + 1 := b469; omega)), (show q_F (y302.toInt ≤ y443.toInt) from (show y302.toInt ≤ y443.toInt from by have t1 : y302.toInt ≤ lx401.toInt := i404; have t2 : lx401.toInt ≤ y443.toInt := b449; omega)), (show q_F (y443.toInt ≤ y302.toInt) from (show y443.toInt ≤ y302.toInt from by have t1 : lx401.toInt ≤ y302.toInt := i405; have t2 : y443.toInt ≤ lx401.toInt := b450; omega)), (show q_F (y442.toInt ≤ y443.toInt + 220) from (show y442.toInt ≤ y443.toInt + 220 from by have t1 : 0 ≤ y170.toInt := b174; have t2 : y170.toInt ≤ y302.toInt := b307; have t3 : y302.toInt ≤ lx401.toInt := i404; have t4 : y442.toInt ≤ 220 := b448; have t5 : lx401.toInt ≤ y443.toInt := b449; omega)), (show q_F (y442.toInt + y443.toInt ≤ 221) from (show y442.toInt + y443.toInt ≤ 221 from by have t1 : y137.toInt ≤ 1 := b143; have t2 : y170.toInt ≤ y137.toInt := b177; have t3 : y302.toInt ≤ y170.toInt := b308; have t4 : lx401.toInt ≤ y302.toInt := i405; have t5 : y442.toInt ≤ 220 := b448; have t6 : y443.toInt ≤ lx401.toInt := b450; omega)), (show q_F (y442.toInt ≤ a467.toInt + y301.toInt) from (show y442.toInt ≤ a467.toInt + y301.toInt from by have t1 : lx400.toInt ≤ lx398.toInt + y301.toInt := i408; have t2 : y442.toInt ≤ lx400.toInt + 1 := b447; have t3 : a467.toInt = lx398.toInt + 1 := b469; omega)), (show q_F (y443.toInt + y301.toInt ≤ y442.toInt + y302.toInt) from (show y443.toInt + y301.toInt ≤ y442.toInt + y302.toInt from by have t1 : lx401.toInt + y301.toInt ≤ lx400.toInt + y302.toInt := i409; have t2 : lx400.toInt ≤ y442.toInt := b446; have t3 : y443.toInt ≤ lx401.toInt := b450; omega)), V, q_lw hl (q_lw1 0 rfl (q_lw1 1 rfl (q_lw1 2 rfl (q_lw1 3 rfl q_lw0)))), hI, hF, hO412, hO413, hO414, hO441, hA445, hO417, hO418, hO419, hO420, ⟨fm425, Nat.lt_of_lt_of_le (show (3 - a467.toInt).toNat < (3 - lx398.toInt).toNat from by have t1 : a467.toInt = lx398.toInt + 1 := b469; have t2 : lx398.toInt ≤ 3 := i403; have t3 : lx398.toInt < 3 := b428; omega) (Nat.le_of_lt_succ hf424), (show F_Flo_prepare_L218 A B C x2 t0_0 t0_1 t0_2 t1_0 t1_1 t2_0 t3_0 t3_1 t4_0 t5_0 t5_1 t6_0 t7_0 t7_1 t8_0 a39 p64 a99 p123 y112 y113 f114 p147 p180 y169 y170 f171 p204 p231 y220 y221 f222 p255 lx273 lx274 lx275 p311 y301 y302 f303 p336 y326 y327 f328 p362 y352 y353 f354 p387 y377 y378 f379 fm425 a467 a463 y442 y443 f444 = (F_Flo_prepare A B C x2 t0_0 t0_1 t0_2 t1_0 t1_1 t2_0 t3_0 t3_1 t4_0 t5_0 t5_1 t6_0 t7_0 t7_1 t8_0) from Eq.trans (by rw [← e468, ← e464, e457, e456, e455, F_Flo_prepare_c239.eq_1]) hR458)⟩⟩
  ·
    intro J285
    refine lv_if_ne (tgt := 166) hx hb d_7_20_142 (by decide) (fun c470 => ?_) (fun c470 => ?_)
    ·
      exact J285 ((y244 : Int32), (y245 : Int32), (f246 : (Nat → Int32))) _ _ _ _ ⟨(show q_F (0 ≤ y245.toInt) from (show 0 ≤ y245.toInt from by have t1 : 0 ≤ y221.toInt := b225; have t2 : y221.toInt ≤ y245.toInt := b251; omega)), (show q_F (y245.toInt ≤ 1) from (show y245.toInt ≤ 1 from by have t1 : y194.toInt ≤ 1 := b200; have t2 : y221.toInt ≤ y194.toInt := b228; have t3 : y245.toInt ≤ y221.toInt := b252; omega)), (show q_F (y245.toInt ≤ y244.toInt + 1) from (show y245.toInt ≤ y244.toInt + 1 from by have t1 : y194.toInt ≤ 1 := b200; have t2 : y221.toInt ≤ y194.toInt := b228; have t3 : 0 ≤ y244.toInt := b248; have t4 : y245.toInt ≤ y221.toInt := b252; omega)), (show q_F (y244.toInt ≤ y245.toInt + 220) from (show y244.toInt ≤ y245.toInt + 220 from by have t1 : 0 ≤ y221.toInt := b225; have t2 : y220.toInt ≤ 220 := b227; have t3 : y244.toInt ≤ y220.toInt := b249; have t4 : y221.toInt ≤ y245.toInt := b251; omega)), (show q_F (0 ≤ y244.toInt + y245.toInt) from (show 0 ≤ y244.toInt + y245.toInt from by have t1 : 0 ≤ y221.toInt := b225; have t2 : 0 ≤ y244.toInt := b248; have t3 : y221.toInt ≤ y245.toInt := b251; omega)), (show q_F (y244.toInt + y245.toInt ≤ 221) from (show y244.toInt + y245.toInt ≤ 221 from by have t1 : y194.toInt ≤ 1 := b200; have t2 : y220.toInt ≤ 220 := b227; have t3 : y221.toInt ≤ y194.toInt := b228; have t4 : y244.toInt ≤ y220.toInt := b249; have t5 : y245.toInt ≤ y221.toInt := b252; omega)), V, q_lw hl (q_lw1 0 rfl (q_lw1 1 rfl (q_lw1 3 rfl q_lw0))), hI, hF, hT0, hO111, hA115, hO168, hA172, hO219, hA223, hO243, hA247, (show F_Flo_prepare_J166 A B C x2 t0_0 t0_1 t0_2 t1_0 t1_1 t2_0 t3_0 t3_1 t4_0 t5_0 t5_1 t6_0 t7_0 t7_1 t8_0 a39 p64 a99 p123 y112 y113 f114 p147 p180 y169 y170 f171 p204 p231 y220 y221 f222 p255 y244 y245 f246 = (F_Flo_prepare A B C x2 t0_0 t0_1 t0_2 t1_0 t1_1 t2_0 t3_0 t3_1 t4_0 t5_0 t5_1 t6_0 t7_0 t7_1 t8_0) from Eq.trans (by have c470x := c470; rw [← e271, e269] at c470x; rw [e259, e258, e257, F_Flo_prepare_c132.eq_1, if_neg c470x]) hR260)⟩
    ·
      refine lv_aload_n hx hb d_7_20_145 rfl (lv_at hl 3 rfl) ?_
      refine lv_lload_n hx hb d_7_20_146 rfl (lv_at hl 4 rfl) ?_
      refine q_goi V (q_runV (As := [.long x2]) (rest := []) (d := 1) (mc := 0) (ms := 0) (ci := 6) C0 V rfl LV_Flo_27 (X_Flo_exponent l D g q u241 k1 A B C hB1 x2 hI   _) rfl rfl hT0 rfl hl.1 rfl (Nat.le_of_ble_eq_true rfl) ⟨by decide, by decide⟩ ⟨Nat.le_of_ble_eq_true rfl, Nat.le_of_ble_eq_true rfl⟩ d_7_20_147) (fun a475 u473 H locs hp474 V => ?_)
      obtain ⟨rfl, b476, b477, hE478⟩ := hp474
      have e479 : a475 = (F_Flo_exponent A B C x2) := hE478
      clear b476
      clear b477
      refine lv_iconst (v := 1) hx hb d_7_20_150 (by decide) ?_
      refine lv_icmp_le (tgt := 166) hx hb d_7_20_151 (by decide) (fun c480 => ?_) (fun c480 => ?_)
      ·
        exact J285 ((y244 : Int32), (y245 : Int32), (f246 : (Nat → Int32))) _ _ _ _ ⟨(show q_F (0 ≤ y245.toInt) from (show 0 ≤ y245.toInt from by have t1 : 0 ≤ y221.toInt := b225; have t2 : y221.toInt ≤ y245.toInt := b251; omega)), (show q_F (y245.toInt ≤ 1) from (show y245.toInt ≤ 1 from by have t1 : y194.toInt ≤ 1 := b200; have t2 : y221.toInt ≤ y194.toInt := b228; have t3 : y245.toInt ≤ y221.toInt := b252; omega)), (show q_F (y245.toInt ≤ y244.toInt + 1) from (show y245.toInt ≤ y244.toInt + 1 from by have t1 : y194.toInt ≤ 1 := b200; have t2 : y221.toInt ≤ y194.toInt := b228; have t3 : 0 ≤ y244.toInt := b248; have t4 : y245.toInt ≤ y221.toInt := b252; omega)), (show q_F (y244.toInt ≤ y245.toInt + 220) from (show y244.toInt ≤ y245.toInt + 220 from by have t1 : 0 ≤ y221.toInt := b225; have t2 : y220.toInt ≤ 220 := b227; have t3 : y244.toInt ≤ y220.toInt := b249; have t4 : y221.toInt ≤ y245.toInt := b251; omega)), (show q_F (0 ≤ y244.toInt + y245.toInt) from (show 0 ≤ y244.toInt + y245.toInt from by have t1 : 0 ≤ y221.toInt := b225; have t2 : 0 ≤ y244.toInt := b248; have t3 : y221.toInt ≤ y245.toInt := b251; omega)), (show q_F (y244.toInt + y245.toInt ≤ 221) from (show y244.toInt + y245.toInt ≤ 221 from by have t1 : y194.toInt ≤ 1 := b200; have t2 : y220.toInt ≤ 220 := b227; have t3 : y221.toInt ≤ y194.toInt := b228; have t4 : y244.toInt ≤ y220.toInt := b249; have t5 : y245.toInt ≤ y221.toInt := b252; omega)), V, q_lw hl (q_lw1 0 rfl (q_lw1 1 rfl (q_lw1 3 rfl q_lw0))), hI, hF, hT0, hO111, hA115, hO168, hA172, hO219, hA223, hO243, hA247, (show F_Flo_prepare_J166 A B C x2 t0_0 t0_1 t0_2 t1_0 t1_1 t2_0 t3_0 t3_1 t4_0 t5_0 t5_1 t6_0 t7_0 t7_1 t8_0 a39 p64 a99 p123 y112 y113 f114 p147 p180 y169 y170 f171 p204 p231 y220 y221 f222 p255 y244 y245 f246 = (F_Flo_prepare A B C x2 t0_0 t0_1 t0_2 t1_0 t1_1 t2_0 t3_0 t3_1 t4_0 t5_0 t5_1 t6_0 t7_0 t7_1 t8_0) from Eq.trans (by have c470x := c470; rw [← e271, e269] at c470x; have c480x := c480; rw [e479] at c480x; rw [e259, e258, e257, F_Flo_prepare_c132.eq_1, if_pos c470x, if_pos c480x]) hR260)⟩
      ·
        refine lv_aload_n hx hb d_7_20_154 rfl (lv_at hl 3 rfl) ?_
        refine q_get (ci := 6) (j := 5) (v := .ref (q 9)) C0 V i_Flo rfl rfl hT0 (by decide) w_241 rfl d_7_20_155 ?_
        refine q_get (ci := 4) (j := 9) (v := .ref (q 28)) C0 V i_Mil rfl rfl hO44 (by decide) w_134 rfl d_7_20_158 ?_
        refine lv_iconst (v := 1) hx hb d_7_20_161 (by decide) ?_
        refine q_goi V (q_runV (As := [.int 1]) (rest := []) (d := 3) (mc := 0) (ms := 0) (ci := 2) C0 V rfl LV_Flo_73 (X_Big_shiftRight l D g q u241 28 220 (n_b28 g q) (by decide) 1 hI y244 y245 hO243 f246 hA247  _) rfl rfl hO243 rfl hl.1 rfl (Nat.le_of_ble_eq_true rfl) ⟨by decide, by decide⟩ ⟨Nat.le_of_ble_eq_true rfl, Nat.le_of_ble_eq_true rfl⟩ d_7_20_162) (fun a485 u483 H locs hp484 V => ?_)
        obtain ⟨hI, hZ9⟩ := hp484
        obtain ⟨hu499, hZ9⟩ := hZ9
        obtain ⟨y487, hZ9⟩ := hZ9
        obtain ⟨y488, hZ9⟩ := hZ9
        obtain ⟨f489, hZ9⟩ := hZ9
        obtain ⟨hO486, hZ9⟩ := hZ9
        obtain ⟨hA490, hZ9⟩ := hZ9
        replace hZ9 := hZ9.2.2
        obtain ⟨b493, hZ9⟩ := hZ9
        obtain ⟨b494, hZ9⟩ := hZ9
        replace hZ9 := hZ9.2
        obtain ⟨b496, hZ9⟩ := hZ9
        obtain ⟨b497, hE498⟩ := hZ9
        replace hO486 : u483[28]? = (some (q 28, .inr (2, [.ref (q 29), .int y487, .int y488])) : Option (Nat × va_E)) := hO486
        replace hA490 : u483[29]? = (some (q 29, .inl (g 0, (220 : Int32).toNatClampNeg, .inl f489)) : Option (Nat × va_E)) := hA490
        obtain ⟨p500, e501⟩ : ∃ z, z = (F_Big_shiftRight (220 : Int32) (1 : Int32) y244 y245 f246) := ⟨_, rfl⟩
        have e502 : a485 = p500.1 := congrArg (fun z => z.1) (hE498.trans e501.symm)
        have e503 : y487 = p500.2.1 := congrArg (fun z => z.2.1) (hE498.trans e501.symm)
        have e504 : y488 = p500.2.2.1 := congrArg (fun z => z.2.2.1) (hE498.trans e501.symm)
        have e505 : f489 = p500.2.2.2 := congrArg (fun z => z.2.2.2) (hE498.trans e501.symm)
        replace b493 : q_F (0 ≤ y487.toInt) := b493
        replace b494 : q_F (0 ≤ y488.toInt) := b494
        replace b496 : q_F (y487.toInt ≤ y244.toInt) := b496
        replace b497 : q_F (y488.toInt ≤ y245.toInt) := b497
        replace hT0 := (hu499 _ (by have z0 := hB1.2.2.2.2; simp only [List.mem_cons, List.not_mem_nil, or_false, not_or]; omega)).trans hT0
        replace hO111 := (hu499 _ (by decide)).trans hO111
        replace hA115 := (hu499 _ (by decide)).trans hA115
        replace hO168 := (hu499 _ (by decide)).trans hO168
        replace hA172 := (hu499 _ (by decide)).trans hA172
        replace hO219 := (hu499 _ (by decide)).trans hO219
        replace hA223 := (hu499 _ (by decide)).trans hA223
        replace hF := q_uc hF hu499 (by simp)
        have hR506 := (show F_Flo_prepare_c162 A B C x2 t0_0 t0_1 t0_2 t1_0 t1_1 t2_0 t3_0 t3_1 t4_0 t5_0 t5_1 t6_0 t7_0 t7_1 t8_0 a39 p64 a99 p123 y112 y113 f114 p147 p180 y169 y170 f171 p204 p231 y220 y221 f222 p255 p500 = (F_Flo_prepare A B C x2 t0_0 t0_1 t0_2 t1_0 t1_1 t2_0 t3_0 t3_1 t4_0 t5_0 t5_1 t6_0 t7_0 t7_1 t8_0) from Eq.trans (by have c470x := c470; rw [← e271, e269] at c470x; have c480x := c480; rw [e479] at c480x; rw [e501, e259, e258, e257, F_Flo_prepare_c132.eq_1, if_pos c470x, if_neg c480x]) hR260)
        refine lv_pop hx hb d_7_20_165 rfl ?_
        exact J285 ((y487 : Int32), (y488 : Int32), (f489 : (Nat → Int32))) _ _ _ _ ⟨(show q_F (0 ≤ y488.toInt) from (show 0 ≤ y488.toInt from by have t1 : 0 ≤ y488.toInt := b494; omega)), (show q_F (y488.toInt ≤ 1) from (show y488.toInt ≤ 1 from by have t1 : y194.toInt ≤ 1 := b200; have t2 : y221.toInt ≤ y194.toInt := b228; have t3 : y245.toInt ≤ y221.toInt := b252; have t4 : y488.toInt ≤ y245.toInt := b497; omega)), (show q_F (y488.toInt ≤ y487.toInt + 1) from (show y488.toInt ≤ y487.toInt + 1 from by have t1 : y194.toInt ≤ 1 := b200; have t2 : y221.toInt ≤ y194.toInt := b228; have t3 : y245.toInt ≤ y221.toInt := b252; have t4 : 0 ≤ y487.toInt := b493; have t5 : y488.toInt ≤ y245.toInt := b497; omega)), (show q_F (y487.toInt ≤ y488.toInt + 220) from (show y487.toInt ≤ y488.toInt + 220 from by have t1 : y244.toInt ≤ 220 := b250; have t2 : 0 ≤ y488.toInt := b494; have t3 : y487.toInt ≤ y244.toInt := b496; omega)), (show q_F (0 ≤ y487.toInt + y488.toInt) from (show 0 ≤ y487.toInt + y488.toInt from by have t1 : 0 ≤ y487.toInt := b493; have t2 : 0 ≤ y488.toInt := b494; omega)), (show q_F (y487.toInt + y488.toInt ≤ 221) from (show y487.toInt + y488.toInt ≤ 221 from by have t1 : y194.toInt ≤ 1 := b200; have t2 : y220.toInt ≤ 220 := b227; have t3 : y221.toInt ≤ y194.toInt := b228; have t4 : y244.toInt ≤ y220.toInt := b249; have t5 : y245.toInt ≤ y221.toInt := b252; have t6 : y487.toInt ≤ y244.toInt := b496; have t7 : y488.toInt ≤ y245.toInt := b497; omega)), V, q_lw hl (q_lw1 0 rfl (q_lw1 1 rfl (q_lw1 3 rfl q_lw0))), hI, hF, hT0, hO111, hA115, hO168, hA172, hO219, hA223, hO486, hA490, (show F_Flo_prepare_J166 A B C x2 t0_0 t0_1 t0_2 t1_0 t1_1 t2_0 t3_0 t3_1 t4_0 t5_0 t5_1 t6_0 t7_0 t7_1 t8_0 a39 p64 a99 p123 y112 y113 f114 p147 p180 y169 y170 f171 p204 p231 y220 y221 f222 p255 y487 y488 f489 = (F_Flo_prepare A B C x2 t0_0 t0_1 t0_2 t1_0 t1_1 t2_0 t3_0 t3_1 t4_0 t5_0 t5_1 t6_0 t7_0 t7_1 t8_0) from Eq.trans (by rw [e505, e504, e503, F_Flo_prepare_c162.eq_1]) hR506)⟩

