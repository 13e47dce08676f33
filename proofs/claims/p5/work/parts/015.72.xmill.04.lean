def F_Mil_shifted_c91 (R : Int32) (x3 : Int32) (t0_0 : Int32) (t0_1 : Int32) (t1_0 : (Nat → Int32)) (t2_0 : Int32) (t2_1 : Int32) (t3_0 : (Nat → Int32)) (t4_0 : Int32) (t4_1 : Int32) (t5_0 : (Nat → Int32)) (p40 : (Int32 × Int32 × (Nat → Int32))) (y29 : Int32) (y30 : Int32) (f31 : (Nat → Int32)) (lx52 : Int32) (p84 : (Int32 × Int32 × Int32 × (Nat → Int32))) (y71 : Int32) (y72 : Int32) (f73 : (Nat → Int32)) (p115 : (Int32 × Int32 × (Nat → Int32))) (y104 : Int32) (y105 : Int32) (f106 : (Nat → Int32)) (p138 : (Int32 × Int32 × (Nat → Int32))) : Int32 × Int32 × Int32 × (Nat → Int32) × Int32 × Int32 × (Nat → Int32) := ((1 : Int32), (p138.1 : Int32), (p138.2.1 : Int32), (p138.2.2 : (Nat → Int32)), y104, y105, f106)
def F_Mil_shifted_c79 (R : Int32) (x3 : Int32) (t0_0 : Int32) (t0_1 : Int32) (t1_0 : (Nat → Int32)) (t2_0 : Int32) (t2_1 : Int32) (t3_0 : (Nat → Int32)) (t4_0 : Int32) (t4_1 : Int32) (t5_0 : (Nat → Int32)) (p40 : (Int32 × Int32 × (Nat → Int32))) (y29 : Int32) (y30 : Int32) (f31 : (Nat → Int32)) (lx52 : Int32) (p84 : (Int32 × Int32 × Int32 × (Nat → Int32))) (y71 : Int32) (y72 : Int32) (f73 : (Nat → Int32)) (p115 : (Int32 × Int32 × (Nat → Int32))) : Int32 × Int32 × Int32 × (Nat → Int32) × Int32 × Int32 × (Nat → Int32) := F_Mil_shifted_c91 R x3 t0_0 t0_1 t1_0 t2_0 t2_1 t3_0 t4_0 t4_1 t5_0 p40 y29 y30 f31 lx52 p84 y71 y72 f73 p115 (p115.1 : Int32) (p115.2.1 : Int32) (p115.2.2 : (Nat → Int32)) ((F_Big_addSigned (220 : Int32) (220 : Int32) (0 : Int32) y71 y72 f73 (p115.1 : Int32) (p115.2.1 : Int32) (p115.2.2 : (Nat → Int32))) : (Int32 × Int32 × (Nat → Int32)))
def F_Mil_shifted_c59 (R : Int32) (x3 : Int32) (t0_0 : Int32) (t0_1 : Int32) (t1_0 : (Nat → Int32)) (t2_0 : Int32) (t2_1 : Int32) (t3_0 : (Nat → Int32)) (t4_0 : Int32) (t4_1 : Int32) (t5_0 : (Nat → Int32)) (p40 : (Int32 × Int32 × (Nat → Int32))) (y29 : Int32) (y30 : Int32) (f31 : (Nat → Int32)) (lx52 : Int32) (p84 : (Int32 × Int32 × Int32 × (Nat → Int32))) : Int32 × Int32 × Int32 × (Nat → Int32) × Int32 × Int32 × (Nat → Int32) := if (p84.1 : Int32) = (0 : Int32) then (((1 : Int32), (p84.2.1 : Int32), (p84.2.2.1 : Int32), (p84.2.2.2 : (Nat → Int32)), t2_0, t2_1, t3_0)) else (if t4_1 = (0 : Int32) then (((1 : Int32), (p84.2.1 : Int32), (p84.2.2.1 : Int32), (p84.2.2.2 : (Nat → Int32)), t2_0, t2_1, t3_0)) else (F_Mil_shifted_c79 R x3 t0_0 t0_1 t1_0 t2_0 t2_1 t3_0 t4_0 t4_1 t5_0 p40 y29 y30 f31 lx52 p84 (p84.2.1 : Int32) (p84.2.2.1 : Int32) (p84.2.2.2 : (Nat → Int32)) ((F_Big_setLong (220 : Int32) (-1 : Int64) t2_0 t2_1 t3_0) : (Int32 × Int32 × (Nat → Int32)))))
def F_Mil_shifted_J53 (R : Int32) (x3 : Int32) (t0_0 : Int32) (t0_1 : Int32) (t1_0 : (Nat → Int32)) (t2_0 : Int32) (t2_1 : Int32) (t3_0 : (Nat → Int32)) (t4_0 : Int32) (t4_1 : Int32) (t5_0 : (Nat → Int32)) (p40 : (Int32 × Int32 × (Nat → Int32))) (y29 : Int32) (y30 : Int32) (f31 : (Nat → Int32)) (lx52 : Int32) : Int32 × Int32 × Int32 × (Nat → Int32) × Int32 × Int32 × (Nat → Int32) := F_Mil_shifted_c59 R x3 t0_0 t0_1 t1_0 t2_0 t2_1 t3_0 t4_0 t4_1 t5_0 p40 y29 y30 f31 lx52 ((F_Big_shiftRight (220 : Int32) lx52 y29 y30 f31) : (Int32 × Int32 × Int32 × (Nat → Int32)))
def F_Mil_shifted_c33 (R : Int32) (x3 : Int32) (t0_0 : Int32) (t0_1 : Int32) (t1_0 : (Nat → Int32)) (t2_0 : Int32) (t2_1 : Int32) (t3_0 : (Nat → Int32)) (t4_0 : Int32) (t4_1 : Int32) (t5_0 : (Nat → Int32)) (p40 : (Int32 × Int32 × (Nat → Int32))) (p171 : (Int32 × Int32 × (Nat → Int32))) : Int32 × Int32 × Int32 × (Nat → Int32) × Int32 × Int32 × (Nat → Int32) := ((1 : Int32), (p171.1 : Int32), (p171.2.1 : Int32), (p171.2.2 : (Nat → Int32)), t2_0, t2_1, t3_0)
def F_Mil_shifted_c33_7 (R : Int32) (x3 : Int32) (t0_0 : Int32) (t0_1 : Int32) (t1_0 : (Nat → Int32)) (t2_0 : Int32) (t2_1 : Int32) (t3_0 : (Nat → Int32)) (t4_0 : Int32) (t4_1 : Int32) (t5_0 : (Nat → Int32)) (p40 : (Int32 × Int32 × (Nat → Int32))) (p198 : (Int32 × Int32 × (Nat → Int32))) : Int32 × Int32 × Int32 × (Nat → Int32) × Int32 × Int32 × (Nat → Int32) := ((1 : Int32), (p198.1 : Int32), (p198.2.1 : Int32), (p198.2.2 : (Nat → Int32)), t2_0, t2_1, t3_0)
def F_Mil_shifted_c5 (R : Int32) (x3 : Int32) (t0_0 : Int32) (t0_1 : Int32) (t1_0 : (Nat → Int32)) (t2_0 : Int32) (t2_1 : Int32) (t3_0 : (Nat → Int32)) (t4_0 : Int32) (t4_1 : Int32) (t5_0 : (Nat → Int32)) (p40 : (Int32 × Int32 × (Nat → Int32))) : Int32 × Int32 × Int32 × (Nat → Int32) × Int32 × Int32 × (Nat → Int32) := if x3 < (0 : Int32) then (if (-2048 : Int32) ≤ x3 then (F_Mil_shifted_J53 R x3 t0_0 t0_1 t1_0 t2_0 t2_1 t3_0 t4_0 t4_1 t5_0 p40 (p40.1 : Int32) (p40.2.1 : Int32) (p40.2.2 : (Nat → Int32)) (-x3 : Int32)) else (F_Mil_shifted_J53 R x3 t0_0 t0_1 t1_0 t2_0 t2_1 t3_0 t4_0 t4_1 t5_0 p40 (p40.1 : Int32) (p40.2.1 : Int32) (p40.2.2 : (Nat → Int32)) 2048)) else (if t4_0 ≤ (0 : Int32) then (F_Mil_shifted_c33 R x3 t0_0 t0_1 t1_0 t2_0 t2_1 t3_0 t4_0 t4_1 t5_0 p40 ((F_Big_shiftLeft (220 : Int32) x3 (p40.1 : Int32) (p40.2.1 : Int32) (p40.2.2 : (Nat → Int32))) : (Int32 × Int32 × (Nat → Int32)))) else (if x3 ≤ (2048 : Int32) then (F_Mil_shifted_c33_7 R x3 t0_0 t0_1 t1_0 t2_0 t2_1 t3_0 t4_0 t4_1 t5_0 p40 ((F_Big_shiftLeft (220 : Int32) x3 (p40.1 : Int32) (p40.2.1 : Int32) (p40.2.2 : (Nat → Int32))) : (Int32 × Int32 × (Nat → Int32)))) else (((0 : Int32), (p40.1 : Int32), (p40.2.1 : Int32), (p40.2.2 : (Nat → Int32)), t2_0, t2_1, t3_0))))
def F_Mil_shifted (R : Int32) (x3 : Int32) (t0_0 : Int32) (t0_1 : Int32) (t1_0 : (Nat → Int32)) (t2_0 : Int32) (t2_1 : Int32) (t3_0 : (Nat → Int32)) (t4_0 : Int32) (t4_1 : Int32) (t5_0 : (Nat → Int32)) : Int32 × Int32 × Int32 × (Nat → Int32) × Int32 × Int32 × (Nat → Int32) := F_Mil_shifted_c5 R x3 t0_0 t0_1 t1_0 t2_0 t2_1 t3_0 t4_0 t4_1 t5_0 ((F_Big_copy (220 : Int32) R t0_0 t0_1 t1_0 t4_0 t4_1 t5_0) : (Int32 × Int32 × (Nat → Int32)))
set_option maxRecDepth 100000 in
set_option maxHeartbeats 4000000 in
theorem X_Mil_shifted (l : Launch) (D : va_G) (g : Nat → ClassId) (q : Nat → Nat) (ws : va_W) (k2 : Nat) (R : Int32) (hB2 : q_isBig (nsh g q) g q k2 R) (zk2 : (10 ≤ k2 ∧ k2 ≤ 32) ∨ 66 ≤ k2) (x3 : Int32) (ne_k2_10 : k2 ≠ 10) (ne_k2_11 : k2 ≠ 11) (ne_k2_9 : k2 ≠ 9) (ne_k2_24 : k2 ≠ 24) (ne_k2_25 : k2 ≠ 25) (ne_k2_23 : k2 ≠ 23) (hI : q_I (nsh g q) q ws) (t0_0 : Int32) (t0_1 : Int32) (hT0 : ws[10]? = (some (q 10, .inr (2, [.ref (q 11), .int t0_0, .int t0_1])) : Option (Nat × va_E))) (t1_0 : (Nat → Int32)) (hT1 : ws[11]? = (some (q 11, .inl (g 0, (220 : Int32).toNatClampNeg, .inl t1_0)) : Option (Nat × va_E))) (t2_0 : Int32) (t2_1 : Int32) (hT2 : ws[24]? = (some (q 24, .inr (2, [.ref (q 25), .int t2_0, .int t2_1])) : Option (Nat × va_E))) (t3_0 : (Nat → Int32)) (hT3 : ws[25]? = (some (q 25, .inl (g 0, (220 : Int32).toNatClampNeg, .inl t3_0)) : Option (Nat × va_E))) (t4_0 : Int32) (t4_1 : Int32) (hT4 : ws[k2]? = (some (q k2, .inr (2, [.ref (q (k2 + 1)), .int t4_0, .int t4_1])) : Option (Nat × va_E))) (t5_0 : (Nat → Int32)) (hT5 : ws[k2 + 1]? = (some (q (k2 + 1), .inl (g 0, R.toNatClampNeg, .inl t5_0)) : Option (Nat × va_E))) : q_mI l y_Mil_shifted prog_8_method_10_code 4 (.boolean) 4 0 0 D g [.ref (q 9), .ref (q k2), .int x3] ws (fun r u => q_I (nsh g q) q u ∧ q_un ws u [10, 11, 24, 25] ∧ ∃ (u0_0 : Int32) (u0_1 : Int32) (u1_0 : (Nat → Int32)) (u2_0 : Int32) (u2_1 : Int32) (u3_0 : (Nat → Int32)), u[10]? = (some (q 10, .inr (2, [.ref (q 11), .int u0_0, .int u0_1])) : Option (Nat × va_E)) ∧ u[11]? = (some (q 11, .inl (g 0, (220 : Int32).toNatClampNeg, .inl u1_0)) : Option (Nat × va_E)) ∧ u[24]? = (some (q 24, .inr (2, [.ref (q 25), .int u2_0, .int u2_1])) : Option (Nat × va_E)) ∧ u[25]? = (some (q 25, .inl (g 0, (220 : Int32).toNatClampNeg, .inl u3_0)) : Option (Nat × va_E)) ∧ (0 ≤ r.toInt) ∧ (r.toInt ≤ 1) ∧ (0 ≤ u0_0.toInt) ∧ (u0_0.toInt ≤ 220) ∧ (0 ≤ u0_1.toInt) ∧ (0 ≤ u2_0.toInt) ∧ (u2_0.toInt ≤ 220) ∧ (0 ≤ u2_1.toInt) ∧ (u2_1.toInt ≤ 1) ∧ (u0_0.toInt ≤ t4_0.toInt + 219) ∧ (u0_1.toInt ≤ t4_1.toInt) ∧ (u2_0.toInt ≤ t2_0.toInt + 3) ∧ (r, u0_0, u0_1, u1_0, u2_0, u2_1, u3_0) = (F_Mil_shifted R x3 t0_0 t0_1 t1_0 t2_0 t2_1 t3_0 t4_0 t4_1 t5_0)) := by
  intro sz
  refine q_into (by decide) (Nat.le_of_ble_eq_true rfl) ?_
  intro p e s m below meth c ls hsz C0 V hl
  have hx := C0.1
  have hb := C0.2.1
  have btt0_1 := (q_bigW hI (n_b10 g q) hT0).2
  clear btt0_1
  obtain ⟨btt2_0, btt2_1⟩ := q_bigW hI (n_b24 g q) hT2
  replace btt2_0 : q_F (0 ≤ t2_0.toInt ∧ t2_0.toInt ≤ 220) := btt2_0
  replace btt2_1 : q_F (0 ≤ t2_1.toInt ∧ t2_1.toInt ≤ 1) := btt2_1
  have btt4_1 := (q_bigW hI hB2 hT4).2
  replace btt4_1 : q_F (0 ≤ t4_1.toInt ∧ t4_1.toInt ≤ 1) := btt4_1
  have hF : q_un ws ws [10, 11, 24, 25] := q_u0
  have hl : lv_has ls 4 [(0, .ref (q 9)), (1, .ref (q k2)), (2, .int x3)] := hl
  refine lv_aload_n hx hb d_8_10_0 rfl (lv_at hl 0 rfl) ?_
  have hO25 := n_o9 hI
  refine q_get (ci := 4) (j := 0) (v := .ref (q 10)) C0 V i_Mil rfl rfl hO25 (by decide) w_108 rfl d_8_10_1 ?_
  refine lv_aload_n hx hb d_8_10_4 rfl (lv_at hl 1 rfl) ?_
  refine q_gov V (q_runV (As := [.ref (q k2)]) (rest := []) (d := 2) (mc := 0) (ms := 0) (ci := 2) C0 V rfl LV_Mil_51 (X_Big_copy l D g q ws 10 220 (n_b10 g q) (by decide) k2 R hB2 zk2  (by have z := ne_k2_10; omega) hI t0_0 t0_1 hT0 t1_0 hT1 t4_0 t4_1 hT4 t5_0 hT5  _) rfl rfl hT0 rfl hl.1 rfl (Nat.le_of_ble_eq_true rfl) ⟨by decide, by decide⟩ ⟨Nat.le_of_ble_eq_true rfl, Nat.le_of_ble_eq_true rfl⟩ d_8_10_5) (fun u26 H locs hp27 V => ?_)
  obtain ⟨hI, hZ9⟩ := hp27
  obtain ⟨hu39, hZ9⟩ := hZ9
  obtain ⟨y29, hZ9⟩ := hZ9
  obtain ⟨y30, hZ9⟩ := hZ9
  obtain ⟨f31, hZ9⟩ := hZ9
  obtain ⟨hO28, hZ9⟩ := hZ9
  obtain ⟨hA32, hZ9⟩ := hZ9
  obtain ⟨b33, hZ9⟩ := hZ9
  obtain ⟨b34, hZ9⟩ := hZ9
  obtain ⟨b35, hZ9⟩ := hZ9
  obtain ⟨b36, hZ9⟩ := hZ9
  obtain ⟨b37, hE38⟩ := hZ9
  replace hO28 : u26[10]? = (some (q 10, .inr (2, [.ref (q 11), .int y29, .int y30])) : Option (Nat × va_E)) := hO28
  replace hA32 : u26[11]? = (some (q 11, .inl (g 0, (220 : Int32).toNatClampNeg, .inl f31)) : Option (Nat × va_E)) := hA32
  obtain ⟨p40, e41⟩ : ∃ z, z = (F_Big_copy (220 : Int32) R t0_0 t0_1 t1_0 t4_0 t4_1 t5_0) := ⟨_, rfl⟩
  have e42 : y29 = p40.1 := congrArg (fun z => z.1) (hE38.trans e41.symm)
  have e43 : y30 = p40.2.1 := congrArg (fun z => z.2.1) (hE38.trans e41.symm)
  have e44 : f31 = p40.2.2 := congrArg (fun z => z.2.2) (hE38.trans e41.symm)
  replace b33 : q_F (0 ≤ y29.toInt) := b33
  replace b34 : q_F (y29.toInt ≤ t4_0.toInt) := b34
  replace b35 : q_F (y29.toInt ≤ 220) := b35
  replace b36 : q_F (t4_1.toInt ≤ y30.toInt) := b36
  replace b37 : q_F (y30.toInt ≤ t4_1.toInt) := b37
  replace hT2 := (hu39 _ (by decide)).trans hT2
  replace hT3 := (hu39 _ (by decide)).trans hT3
  replace hT4 := (hu39 _ (by first | exact (q_nc ne_k2_10 (q_nc ne_k2_11 List.not_mem_nil)) | (have z0 := zk2; simp only [List.mem_cons, List.not_mem_nil, or_false, not_or]; omega))).trans hT4
  replace hO25 := (hu39 _ (by decide)).trans hO25
  replace hF := q_uc hF hu39 (by first | exact (q_sk (q_mi 0 rfl) (q_sk (q_mi 1 rfl) q_s0)) | simp)
  have hR45 := (show F_Mil_shifted_c5 R x3 t0_0 t0_1 t1_0 t2_0 t2_1 t3_0 t4_0 t4_1 t5_0 p40 = (F_Mil_shifted R x3 t0_0 t0_1 t1_0 t2_0 t2_1 t3_0 t4_0 t4_1 t5_0) from (by rw [e41, F_Mil_shifted.eq_1]))
  refine lv_iload_n hx hb d_8_10_8 rfl (lv_at hl 2 rfl) ?_
  refine lv_if_lt (tgt := 38) hx hb d_8_10_9 (by decide) (fun c50 => ?_) (fun c50 => ?_)
  ·
    have b51 : q_F (x3.toInt < 0) := (q_ltI c50)
    refine lv_iload_n hx hb d_8_10_38 rfl (lv_at hl 2 rfl) ?_
    refine lv_sipush (v := (-2048)) hx hb d_8_10_39 (by decide) ?_
    refine q_join (X := Int32) (fun z H locs ls _ => q_F (1 ≤ z.toInt) ∧ q_F (z.toInt ≤ 2048) ∧ q_Wd D g (va_A ws sz) s u26 H locs ∧ lv_has ls 4 [(0, .ref (q 9)), (1, .ref (q k2))] ∧ F_Mil_shifted_J53 R x3 t0_0 t0_1 t1_0 t2_0 t2_1 t3_0 t4_0 t4_1 t5_0 p40 y29 y30 f31 z = (F_Mil_shifted R x3 t0_0 t0_1 t1_0 t2_0 t2_1 t3_0 t4_0 t4_1 t5_0)) (fun z => [.int z]) 53 0 0 ?_ ?_
    ·
      rintro lx52 H locs ls _ ⟨i60, i61, V, hl, hR62⟩
      clear i60
      clear i61
      replace hl : lv_has ls 4 [(0, .ref (q 9)), (1, .ref (q k2))] := hl
      refine lv_istore_n (lv' := [(3, .int lx52), (0, .ref (q 9)), (1, .ref (q k2))]) hx hb d_8_10_53 rfl hl (by decide) rfl (fun ls hl => ?_)
      refine lv_aload_n hx hb d_8_10_54 rfl (lv_at hl 1 rfl) ?_
      refine q_get (ci := 4) (j := 0) (v := .ref (q 10)) C0 V i_Mil rfl rfl hO25 (by decide) w_108 rfl d_8_10_55 ?_
      refine lv_iload_n hx hb d_8_10_58 rfl (lv_at hl 0 rfl) ?_
      refine q_goi V (q_runV (As := [.int lx52]) (rest := []) (d := 3) (mc := 0) (ms := 0) (ci := 2) C0 V rfl LV_Mil_116 (X_Big_shiftRight l D g q u26 10 220 (n_b10 g q) (by decide) lx52 hI y29 y30 hO28 f31 hA32  _) rfl rfl hO28 rfl hl.1 rfl (Nat.le_of_ble_eq_true rfl) ⟨by decide, by decide⟩ ⟨Nat.le_of_ble_eq_true rfl, Nat.le_of_ble_eq_true rfl⟩ d_8_10_59) (fun a69 u67 H locs hp68 V => ?_)
      obtain ⟨hI, hZ9⟩ := hp68
      obtain ⟨hu83, hZ9⟩ := hZ9
      obtain ⟨y71, hZ9⟩ := hZ9
      obtain ⟨y72, hZ9⟩ := hZ9
      obtain ⟨f73, hZ9⟩ := hZ9
      obtain ⟨hO70, hZ9⟩ := hZ9
      obtain ⟨hA74, hZ9⟩ := hZ9
      obtain ⟨b75, hZ9⟩ := hZ9
      replace hZ9 := hZ9.2
      obtain ⟨b77, hZ9⟩ := hZ9
      obtain ⟨b78, hZ9⟩ := hZ9
      obtain ⟨b79, hZ9⟩ := hZ9
      obtain ⟨b80, hZ9⟩ := hZ9
      obtain ⟨b81, hE82⟩ := hZ9
      replace hO70 : u67[10]? = (some (q 10, .inr (2, [.ref (q 11), .int y71, .int y72])) : Option (Nat × va_E)) := hO70
      replace hA74 : u67[11]? = (some (q 11, .inl (g 0, (220 : Int32).toNatClampNeg, .inl f73)) : Option (Nat × va_E)) := hA74
      obtain ⟨p84, e85⟩ : ∃ z, z = (F_Big_shiftRight (220 : Int32) lx52 y29 y30 f31) := ⟨_, rfl⟩
      have e86 : a69 = p84.1 := congrArg (fun z => z.1) (hE82.trans e85.symm)
      have e87 : y71 = p84.2.1 := congrArg (fun z => z.2.1) (hE82.trans e85.symm)
      have e88 : y72 = p84.2.2.1 := congrArg (fun z => z.2.2.1) (hE82.trans e85.symm)
      have e89 : f73 = p84.2.2.2 := congrArg (fun z => z.2.2.2) (hE82.trans e85.symm)
      replace b75 : q_F (0 ≤ a69.toInt) := b75
      replace b77 : q_F (0 ≤ y71.toInt) := b77
      replace b78 : q_F (0 ≤ y72.toInt) := b78
      replace b79 : q_F (a69.toInt ≤ y29.toInt) := b79
      replace b80 : q_F (y71.toInt ≤ y29.toInt) := b80
      replace b81 : q_F (y72.toInt ≤ y30.toInt) := b81
      replace hT2 := (hu83 _ (by decide)).trans hT2
      replace hT3 := (hu83 _ (by decide)).trans hT3
      replace hT4 := (hu83 _ (by first | exact (q_nc ne_k2_10 (q_nc ne_k2_11 List.not_mem_nil)) | (have z0 := zk2; simp only [List.mem_cons, List.not_mem_nil, or_false, not_or]; omega))).trans hT4
      replace hO25 := (hu83 _ (by decide)).trans hO25
      replace hF := q_uc hF hu83 (by first | exact (q_sk (q_mi 0 rfl) (q_sk (q_mi 1 rfl) q_s0)) | simp)
      have hR90 := (show F_Mil_shifted_c59 R x3 t0_0 t0_1 t1_0 t2_0 t2_1 t3_0 t4_0 t4_1 t5_0 p40 y29 y30 f31 lx52 p84 = (F_Mil_shifted R x3 t0_0 t0_1 t1_0 t2_0 t2_1 t3_0 t4_0 t4_1 t5_0) from Eq.trans (by rw [e85, F_Mil_shifted_J53.eq_1]) hR62)
      refine lv_if_eq (tgt := 94) hx hb d_8_10_62 (by decide) (fun c95 => ?_) (fun c95 => ?_)
      ·
        refine lv_iconst (v := 1) hx hb d_8_10_94 (by decide) ?_
        exact q_retz C0 V (by decide) (⟨hI, hF, y71, y72, f73, t2_0, t2_1, t3_0, hO70, hA74, hT2, hT3, (show 0 ≤ (1 : Int32).toInt from (by have z11 : (1 : Int32).toInt = 1 := rfl; omega)), (show (1 : Int32).toInt ≤ 1 from (by have z11 : (1 : Int32).toInt = 1 := rfl; omega)), (show 0 ≤ y71.toInt from (by have z11 : (1 : Int32).toInt = 1 := rfl; have t1 : 0 ≤ y71.toInt := b77; omega)), (show y71.toInt ≤ 220 from (by have z11 : (1 : Int32).toInt = 1 := rfl; have t1 : y29.toInt ≤ 220 := b35; have t2 : y71.toInt ≤ y29.toInt := b80; omega)), (show 0 ≤ y72.toInt from (by have z11 : (1 : Int32).toInt = 1 := rfl; have t1 : 0 ≤ y72.toInt := b78; omega)), (show 0 ≤ t2_0.toInt from (by have z11 : (1 : Int32).toInt = 1 := rfl; have t1 : 0 ≤ t2_0.toInt ∧ t2_0.toInt ≤ 220 := btt2_0; omega)), (show t2_0.toInt ≤ 220 from (by have z11 : (1 : Int32).toInt = 1 := rfl; have t1 : 0 ≤ t2_0.toInt ∧ t2_0.toInt ≤ 220 := btt2_0; omega)), (show 0 ≤ t2_1.toInt from (by have z11 : (1 : Int32).toInt = 1 := rfl; have t1 : 0 ≤ t2_1.toInt ∧ t2_1.toInt ≤ 1 := btt2_1; omega)), (show t2_1.toInt ≤ 1 from (by have z11 : (1 : Int32).toInt = 1 := rfl; have t1 : 0 ≤ t2_1.toInt ∧ t2_1.toInt ≤ 1 := btt2_1; omega)), (show y71.toInt ≤ t4_0.toInt + 219 from (by have z11 : (1 : Int32).toInt = 1 := rfl; have t1 : y29.toInt ≤ t4_0.toInt := b34; have t2 : y71.toInt ≤ y29.toInt := b80; omega)), (show y72.toInt ≤ t4_1.toInt from (by have z11 : (1 : Int32).toInt = 1 := rfl; have t1 : y30.toInt ≤ t4_1.toInt := b37; have t2 : y72.toInt ≤ y30.toInt := b81; omega)), (show t2_0.toInt ≤ t2_0.toInt + 3 from (by have z11 : (1 : Int32).toInt = 1 := rfl; omega)), (show ((1 : Int32), y71, y72, f73, t2_0, t2_1, t3_0) = (F_Mil_shifted R x3 t0_0 t0_1 t1_0 t2_0 t2_1 t3_0 t4_0 t4_1 t5_0) from Eq.trans (by have c95x := c95; rw [e86] at c95x; rw [e89, e88, e87, F_Mil_shifted_c59.eq_1, if_pos c95x]) hR90)⟩) d_8_10_95
      ·
        have b97 : q_F (a69.toInt ≠ 0) := (q_neI c95)
        refine lv_aload_n hx hb d_8_10_65 rfl (lv_at hl 2 rfl) ?_
        refine q_get (ci := 2) (j := 2) (v := .int t4_1) C0 V i_Big rfl rfl hT4 (by decide) w_96 rfl d_8_10_66 ?_
        refine lv_if_eq (tgt := 94) hx hb d_8_10_69 (by decide) (fun c98 => ?_) (fun c98 => ?_)
        ·
          refine lv_iconst (v := 1) hx hb d_8_10_94 (by decide) ?_
          exact q_retz C0 V (by decide) (⟨hI, hF, y71, y72, f73, t2_0, t2_1, t3_0, hO70, hA74, hT2, hT3, (show 0 ≤ (1 : Int32).toInt from (by have z11 : (1 : Int32).toInt = 1 := rfl; omega)), (show (1 : Int32).toInt ≤ 1 from (by have z11 : (1 : Int32).toInt = 1 := rfl; omega)), (show 0 ≤ y71.toInt from (by have z11 : (1 : Int32).toInt = 1 := rfl; have t1 : 0 ≤ y71.toInt := b77; omega)), (show y71.toInt ≤ 220 from (by have z11 : (1 : Int32).toInt = 1 := rfl; have t1 : y29.toInt ≤ 220 := b35; have t2 : y71.toInt ≤ y29.toInt := b80; omega)), (show 0 ≤ y72.toInt from (by have z11 : (1 : Int32).toInt = 1 := rfl; have t1 : 0 ≤ y72.toInt := b78; omega)), (show 0 ≤ t2_0.toInt from (by have z11 : (1 : Int32).toInt = 1 := rfl; have t1 : 0 ≤ t2_0.toInt ∧ t2_0.toInt ≤ 220 := btt2_0; omega)), (show t2_0.toInt ≤ 220 from (by have z11 : (1 : Int32).toInt = 1 := rfl; have t1 : 0 ≤ t2_0.toInt ∧ t2_0.toInt ≤ 220 := btt2_0; omega)), (show 0 ≤ t2_1.toInt from (by have z11 : (1 : Int32).toInt = 1 := rfl; have t1 : 0 ≤ t2_1.toInt ∧ t2_1.toInt ≤ 1 := btt2_1; omega)), (show t2_1.toInt ≤ 1 from (by have z11 : (1 : Int32).toInt = 1 := rfl; have t1 : 0 ≤ t2_1.toInt ∧ t2_1.toInt ≤ 1 := btt2_1; omega)), (show y71.toInt ≤ t4_0.toInt + 219 from (by have z11 : (1 : Int32).toInt = 1 := rfl; have t1 : y29.toInt ≤ t4_0.toInt := b34; have t2 : y71.toInt ≤ y29.toInt := b80; omega)), (show y72.toInt ≤ t4_1.toInt from (by have z11 : (1 : Int32).toInt = 1 := rfl; have t1 : y30.toInt ≤ t4_1.toInt := b37; have t2 : y72.toInt ≤ y30.toInt := b81; omega)), (show t2_0.toInt ≤ t2_0.toInt + 3 from (by have z11 : (1 : Int32).toInt = 1 := rfl; omega)), (show ((1 : Int32), y71, y72, f73, t2_0, t2_1, t3_0) = (F_Mil_shifted R x3 t0_0 t0_1 t1_0 t2_0 t2_1 t3_0 t4_0 t4_1 t5_0) from Eq.trans (by have c95x := c95; rw [e86] at c95x; rw [e89, e88, e87, F_Mil_shifted_c59.eq_1, if_neg c95x, if_pos c98]) hR90)⟩) d_8_10_95
        ·
          have b100 : q_F (t4_1.toInt ≠ 0) := (q_neI c98)
          refine lv_aload_n hx hb d_8_10_72 rfl (lv_at hl 1 rfl) ?_
          refine q_get (ci := 4) (j := 7) (v := .ref (q 24)) C0 V i_Mil rfl rfl hO25 (by decide) w_128 rfl d_8_10_73 ?_
          refine q_ldc2 C0 rfl w_1346 d_8_10_76 ?_
          refine q_gov V (q_runV (As := [.long (-1)]) (rest := []) (d := 2) (mc := 0) (ms := 0) (ci := 2) C0 V rfl LV_Mil_77 (X_Big_setLong l D g q u67 24 220 (n_b24 g q) (by decide) (-1) hI t2_0 t2_1 hT2 t3_0 hT3  _) rfl rfl hT2 rfl hl.1 rfl (Nat.le_of_ble_eq_true rfl) ⟨by decide, by decide⟩ ⟨Nat.le_of_ble_eq_true rfl, Nat.le_of_ble_eq_true rfl⟩ d_8_10_79) (fun u101 H locs hp102 V => ?_)
          obtain ⟨hI, hZ9⟩ := hp102
          obtain ⟨hu114, hZ9⟩ := hZ9
          obtain ⟨y104, hZ9⟩ := hZ9
          obtain ⟨y105, hZ9⟩ := hZ9
          obtain ⟨f106, hZ9⟩ := hZ9
          obtain ⟨hO103, hZ9⟩ := hZ9
          obtain ⟨hA107, hZ9⟩ := hZ9
          obtain ⟨b108, hZ9⟩ := hZ9
          obtain ⟨b109, hZ9⟩ := hZ9
          obtain ⟨b110, hZ9⟩ := hZ9
          obtain ⟨b111, hZ9⟩ := hZ9
          obtain ⟨-, hE113⟩ := hZ9
          replace hO103 : u101[24]? = (some (q 24, .inr (2, [.ref (q 25), .int y104, .int y105])) : Option (Nat × va_E)) := hO103
          replace hA107 : u101[25]? = (some (q 25, .inl (g 0, (220 : Int32).toNatClampNeg, .inl f106)) : Option (Nat × va_E)) := hA107
          obtain ⟨p115, e116⟩ : ∃ z, z = (F_Big_setLong (220 : Int32) (-1 : Int64) t2_0 t2_1 t3_0) := ⟨_, rfl⟩
          have e117 : y104 = p115.1 := congrArg (fun z => z.1) (hE113.trans e116.symm)
          have e118 : y105 = p115.2.1 := congrArg (fun z => z.2.1) (hE113.trans e116.symm)
          have e119 : f106 = p115.2.2 := congrArg (fun z => z.2.2) (hE113.trans e116.symm)
          replace b108 : q_F (0 ≤ y104.toInt) := b108
          replace b109 : q_F (y104.toInt ≤ 3) := b109
          replace b110 : q_F (0 ≤ y105.toInt) := b110
          replace b111 : q_F (y105.toInt ≤ 1) := b111
          replace hO70 := (hu114 _ (by decide)).trans hO70
          replace hA74 := (hu114 _ (by decide)).trans hA74
          replace hO25 := (hu114 _ (by decide)).trans hO25
          replace hF := q_uc hF hu114 (by first | exact (q_sk (q_mi 2 rfl) (q_sk (q_mi 3 rfl) q_s0)) | simp)
          have hR120 := (show F_Mil_shifted_c79 R x3 t0_0 t0_1 t1_0 t2_0 t2_1 t3_0 t4_0 t4_1 t5_0 p40 y29 y30 f31 lx52 p84 y71 y72 f73 p115 = (F_Mil_shifted R x3 t0_0 t0_1 t1_0 t2_0 t2_1 t3_0 t4_0 t4_1 t5_0) from Eq.trans (by have c95x := c95; rw [e86] at c95x; rw [e116, e89, e88, e87, F_Mil_shifted_c59.eq_1, if_neg c95x, if_neg c98]) hR90)
          refine lv_aload_n hx hb d_8_10_82 rfl (lv_at hl 1 rfl) ?_
          refine q_get (ci := 4) (j := 0) (v := .ref (q 10)) C0 V i_Mil rfl rfl hO25 (by decide) w_108 rfl d_8_10_83 ?_
          refine lv_aload_n hx hb d_8_10_86 rfl (lv_at hl 1 rfl) ?_
          refine q_get (ci := 4) (j := 7) (v := .ref (q 24)) C0 V i_Mil rfl rfl hO25 (by decide) w_128 rfl d_8_10_87 ?_
          refine lv_iconst (v := 0) hx hb d_8_10_90 (by decide) ?_
          refine q_gov V (q_runV (As := [.ref (q 24), .int 0]) (rest := []) (d := 3) (mc := 0) (ms := 0) (ci := 2) C0 V rfl LV_Mil_55 (X_Big_addSigned l D g q u101 10 220 (n_b10 g q) (by decide) 24 220 (n_b24 g q) (by decide) 0 (by decide) hI y71 y72 hO70 f73 hA74 y104 y105 hO103 f106 hA107 ⟨(by have y0 : (220 : Int32).toInt = 220 := rfl; have y1 : (220 : Int32).toInt = 220 := rfl; have y2 : (0 : Int32).toInt = 0 := rfl; omega), (by have y0 : (220 : Int32).toInt = 220 := rfl; have y1 : (220 : Int32).toInt = 220 := rfl; have y2 : (0 : Int32).toInt = 0 := rfl; omega)⟩ _) rfl rfl hO70 rfl hl.1 rfl (Nat.le_of_ble_eq_true rfl) ⟨by decide, by decide⟩ ⟨Nat.le_of_ble_eq_true rfl, Nat.le_of_ble_eq_true rfl⟩ d_8_10_91) (fun u125 H locs hp126 V => ?_)
          obtain ⟨hI, hZ9⟩ := hp126
          obtain ⟨hu137, hZ9⟩ := hZ9
          obtain ⟨y128, hZ9⟩ := hZ9
          obtain ⟨y129, hZ9⟩ := hZ9
          obtain ⟨f130, hZ9⟩ := hZ9
          obtain ⟨hO127, hZ9⟩ := hZ9
          obtain ⟨hA131, hZ9⟩ := hZ9
          obtain ⟨b132, hZ9⟩ := hZ9
          obtain ⟨b133, hZ9⟩ := hZ9
          obtain ⟨b134, hZ9⟩ := hZ9
          obtain ⟨b135, hE136⟩ := hZ9
          replace hO127 : u125[10]? = (some (q 10, .inr (2, [.ref (q 11), .int y128, .int y129])) : Option (Nat × va_E)) := hO127
          replace hA131 : u125[11]? = (some (q 11, .inl (g 0, (220 : Int32).toNatClampNeg, .inl f130)) : Option (Nat × va_E)) := hA131
          obtain ⟨p138, e139⟩ : ∃ z, z = (F_Big_addSigned (220 : Int32) (220 : Int32) (0 : Int32) y71 y72 f73 y104 y105 f106) := ⟨_, rfl⟩
          have e140 : y128 = p138.1 := congrArg (fun z => z.1) (hE136.trans e139.symm)
          have e141 : y129 = p138.2.1 := congrArg (fun z => z.2.1) (hE136.trans e139.symm)
          have e142 : f130 = p138.2.2 := congrArg (fun z => z.2.2) (hE136.trans e139.symm)
          replace b132 : q_F (0 ≤ y128.toInt) := b132
          replace b133 : q_F (0 ≤ y129.toInt) := b133
          replace b134 : q_F (y129.toInt ≤ 1) := b134
          replace b135 : q_F (y128.toInt ≤ 220) := b135
          replace hO103 := (hu137 _ (by decide)).trans hO103
          replace hA107 := (hu137 _ (by decide)).trans hA107
          replace hF := q_uc hF hu137 (by first | exact (q_sk (q_mi 0 rfl) (q_sk (q_mi 1 rfl) q_s0)) | simp)
          have hR143 := (show F_Mil_shifted_c91 R x3 t0_0 t0_1 t1_0 t2_0 t2_1 t3_0 t4_0 t4_1 t5_0 p40 y29 y30 f31 lx52 p84 y71 y72 f73 p115 y104 y105 f106 p138 = (F_Mil_shifted R x3 t0_0 t0_1 t1_0 t2_0 t2_1 t3_0 t4_0 t4_1 t5_0) from Eq.trans (by rw [e139, e119, e118, e117, F_Mil_shifted_c79.eq_1]) hR120)
          refine lv_iconst (v := 1) hx hb d_8_10_94 (by decide) ?_
          exact q_retz C0 V (by decide) (⟨hI, hF, y128, y129, f130, y104, y105, f106, hO127, hA131, hO103, hA107, (show 0 ≤ (1 : Int32).toInt from (by have z11 : (1 : Int32).toInt = 1 := rfl; omega)), (show (1 : Int32).toInt ≤ 1 from (by have z11 : (1 : Int32).toInt = 1 := rfl; omega)), (show 0 ≤ y128.toInt from (by have z11 : (1 : Int32).toInt = 1 := rfl; have t1 : 0 ≤ y128.toInt := b132; omega)), (show y128.toInt ≤ 220 from (by have z11 : (1 : Int32).toInt = 1 := rfl; have t1 : y128.toInt ≤ 220 := b135; omega)), (show 0 ≤ y129.toInt from (by have z11 : (1 : Int32).toInt = 1 := rfl; have t1 : 0 ≤ y129.toInt := b133; omega)), (show 0 ≤ y104.toInt from (by have z11 : (1 : Int32).toInt = 1 := rfl; have t1 : 0 ≤ y104.toInt := b108; omega)), (show y104.toInt ≤ 220 from (by have z11 : (1 : Int32).toInt = 1 := rfl; have t1 : y104.toInt ≤ 3 := b109; omega)), (show 0 ≤ y105.toInt from (by have z11 : (1 : Int32).toInt = 1 := rfl; have t1 : 0 ≤ y105.toInt := b110; omega)), (show y105.toInt ≤ 1 from (by have z11 : (1 : Int32).toInt = 1 := rfl; have t1 : y105.toInt ≤ 1 := b111; omega)), (show y128.toInt ≤ t4_0.toInt + 219 from (by have z11 : (1 : Int32).toInt = 1 := rfl; have t1 : y29.toInt ≤ t4_0.toInt := b34; have t2 : 0 ≤ a69.toInt := b75; have t3 : a69.toInt ≤ y29.toInt := b79; have t4 : a69.toInt ≠ 0 := b97; have t5 : y128.toInt ≤ 220 := b135; omega)), (show y129.toInt ≤ t4_1.toInt from (by have z11 : (1 : Int32).toInt = 1 := rfl; have t1 : 0 ≤ t4_1.toInt ∧ t4_1.toInt ≤ 1 := btt4_1; have t2 : t4_1.toInt ≠ 0 := b100; have t3 : y129.toInt ≤ 1 := b134; omega)), (show y104.toInt ≤ t2_0.toInt + 3 from (by have z11 : (1 : Int32).toInt = 1 := rfl; have t1 : 0 ≤ t2_0.toInt ∧ t2_0.toInt ≤ 220 := btt2_0; have t2 : y104.toInt ≤ 3 := b109; omega)), (show ((1 : Int32), y128, y129, f130, y104, y105, f106) = (F_Mil_shifted R x3 t0_0 t0_1 t1_0 t2_0 t2_1 t3_0 t4_0 t4_1 t5_0) from Eq.trans (by rw [e142, e141, e140, F_Mil_shifted_c91.eq_1]) hR143)⟩) d_8_10_95
    ·
      intro J59
      refine lv_icmp_ge (tgt := 51) hx hb d_8_10_42 (by decide) (fun c148 => ?_) (fun c148 => ?_)
      ·
        have b149 : q_F ((-2048) ≤ x3.toInt) := (q_leI c148)
        refine lv_iload_n hx hb d_8_10_51 rfl (lv_at hl 2 rfl) ?_
        refine lv_ineg hx hb d_8_10_52 ?_
        obtain ⟨a150, e151⟩ := q_nm (-x3 : Int32)
        refine q_ti (v := a150) e151 ?_
        have b152 : q_F (a150.toInt = -x3.toInt) := (by rw [← e151]; show (-x3 : Int32).toInt = -x3.toInt; exact q_negI rfl (by first | with_reducible exact q_fe b149 | (have t1 : (-2048) ≤ x3.toInt := b149; omega)))
        exact J59 ((a150 : Int32)) _ _ _ u26 ⟨(show q_F (1 ≤ a150.toInt) from (show 1 ≤ a150.toInt from by have t1 : x3.toInt < 0 := b51; have t2 : a150.toInt = -x3.toInt := b152; omega)), (show q_F (a150.toInt ≤ 2048) from (show a150.toInt ≤ 2048 from by have t1 : (-2048) ≤ x3.toInt := b149; have t2 : a150.toInt = -x3.toInt := b152; omega)), V, q_lw hl (q_lw1 0 rfl (q_lw1 1 rfl q_lw0)), (show F_Mil_shifted_J53 R x3 t0_0 t0_1 t1_0 t2_0 t2_1 t3_0 t4_0 t4_1 t5_0 p40 y29 y30 f31 a150 = (F_Mil_shifted R x3 t0_0 t0_1 t1_0 t2_0 t2_1 t3_0 t4_0 t4_1 t5_0) from Eq.trans (by rw [← e151, e44, e43, e42, F_Mil_shifted_c5.eq_1, if_pos c50, if_pos c148]) hR45)⟩
      ·
        refine lv_sipush (v := 2048) hx hb d_8_10_45 (by decide) ?_
        refine lv_goto (tgt := 53) hx hb d_8_10_48 (by decide) ?_
        exact J59 ((2048 : Int32)) _ _ _ u26 ⟨(show q_F (1 ≤ 2048) from (show 1 ≤ 2048 from by omega)), (show q_F (2048 ≤ 2048) from (show 2048 ≤ 2048 from by omega)), V, q_lw hl (q_lw1 0 rfl (q_lw1 1 rfl q_lw0)), (show F_Mil_shifted_J53 R x3 t0_0 t0_1 t1_0 t2_0 t2_1 t3_0 t4_0 t4_1 t5_0 p40 y29 y30 f31 2048 = (F_Mil_shifted R x3 t0_0 t0_1 t1_0 t2_0 t2_1 t3_0 t4_0 t4_1 t5_0) from Eq.trans (by rw [e44, e43, e42, F_Mil_shifted_c5.eq_1, if_pos c50, if_neg c148]) hR45)⟩
  ·
    refine lv_aload_n hx hb d_8_10_12 rfl (lv_at hl 1 rfl) ?_
    refine q_get (ci := 2) (j := 1) (v := .int t4_0) C0 V i_Big rfl rfl hT4 (by decide) w_89 rfl d_8_10_13 ?_
    refine lv_if_le (tgt := 28) hx hb d_8_10_16 (by decide) (fun c155 => ?_) (fun c155 => ?_)
    ·
      refine lv_aload_n hx hb d_8_10_28 rfl (lv_at hl 0 rfl) ?_
      refine q_get (ci := 4) (j := 0) (v := .ref (q 10)) C0 V i_Mil rfl rfl hO25 (by decide) w_108 rfl d_8_10_29 ?_
      refine lv_iload_n hx hb d_8_10_32 rfl (lv_at hl 2 rfl) ?_
      refine q_gov V (q_runV (As := [.int x3]) (rest := []) (d := 3) (mc := 0) (ms := 0) (ci := 2) C0 V rfl LV_Mil_96 (X_Big_shiftLeft l D g q u26 10 220 (n_b10 g q) (by decide) x3 hI y29 y30 hO28 f31 hA32  _) rfl rfl hO28 rfl hl.1 rfl (Nat.le_of_ble_eq_true rfl) ⟨by decide, by decide⟩ ⟨Nat.le_of_ble_eq_true rfl, Nat.le_of_ble_eq_true rfl⟩ d_8_10_33) (fun u157 H locs hp158 V => ?_)
      obtain ⟨hI, hZ9⟩ := hp158
      obtain ⟨hu170, hZ9⟩ := hZ9
      obtain ⟨y160, hZ9⟩ := hZ9
      obtain ⟨y161, hZ9⟩ := hZ9
      obtain ⟨f162, hZ9⟩ := hZ9
      obtain ⟨hO159, hZ9⟩ := hZ9
      obtain ⟨hA163, hZ9⟩ := hZ9
      obtain ⟨b164, hZ9⟩ := hZ9
      obtain ⟨b165, hZ9⟩ := hZ9
      obtain ⟨b166, hZ9⟩ := hZ9
      obtain ⟨b167, hZ9⟩ := hZ9
      obtain ⟨b168, hE169⟩ := hZ9
      replace hO159 : u157[10]? = (some (q 10, .inr (2, [.ref (q 11), .int y160, .int y161])) : Option (Nat × va_E)) := hO159
      replace hA163 : u157[11]? = (some (q 11, .inl (g 0, (220 : Int32).toNatClampNeg, .inl f162)) : Option (Nat × va_E)) := hA163
      obtain ⟨p171, e172⟩ : ∃ z, z = (F_Big_shiftLeft (220 : Int32) x3 y29 y30 f31) := ⟨_, rfl⟩
      have e173 : y160 = p171.1 := congrArg (fun z => z.1) (hE169.trans e172.symm)
      have e174 : y161 = p171.2.1 := congrArg (fun z => z.2.1) (hE169.trans e172.symm)
      have e175 : f162 = p171.2.2 := congrArg (fun z => z.2.2) (hE169.trans e172.symm)
      replace b164 : q_F (0 ≤ y160.toInt) := b164
      replace b165 : q_F (0 ≤ y161.toInt) := b165
      replace b166 : q_F (y160.toInt ≤ y29.toInt + 219) := b166
      replace b167 : q_F (y160.toInt ≤ 220) := b167
      replace b168 : q_F (y161.toInt ≤ y30.toInt) := b168
      replace hT2 := (hu170 _ (by decide)).trans hT2
      replace hT3 := (hu170 _ (by decide)).trans hT3
      replace hF := q_uc hF hu170 (by first | exact (q_sk (q_mi 0 rfl) (q_sk (q_mi 1 rfl) q_s0)) | simp)
      have hR176 := (show F_Mil_shifted_c33 R x3 t0_0 t0_1 t1_0 t2_0 t2_1 t3_0 t4_0 t4_1 t5_0 p40 p171 = (F_Mil_shifted R x3 t0_0 t0_1 t1_0 t2_0 t2_1 t3_0 t4_0 t4_1 t5_0) from Eq.trans (by rw [e172, e44, e43, e42, F_Mil_shifted_c5.eq_1, if_neg c50, if_pos c155]) hR45)
      refine lv_iconst (v := 1) hx hb d_8_10_36 (by decide) ?_
      exact q_retz C0 V (by decide) (⟨hI, hF, y160, y161, f162, t2_0, t2_1, t3_0, hO159, hA163, hT2, hT3, (show 0 ≤ (1 : Int32).toInt from (by have z11 : (1 : Int32).toInt = 1 := rfl; omega)), (show (1 : Int32).toInt ≤ 1 from (by have z11 : (1 : Int32).toInt = 1 := rfl; omega)), (show 0 ≤ y160.toInt from (by have z11 : (1 : Int32).toInt = 1 := rfl; have t1 : 0 ≤ y160.toInt := b164; omega)), (show y160.toInt ≤ 220 from (by have z11 : (1 : Int32).toInt = 1 := rfl; have t1 : y160.toInt ≤ 220 := b167; omega)), (show 0 ≤ y161.toInt from (by have z11 : (1 : Int32).toInt = 1 := rfl; have t1 : 0 ≤ y161.toInt := b165; omega)), (show 0 ≤ t2_0.toInt from (by have z11 : (1 : Int32).toInt = 1 := rfl; have t1 : 0 ≤ t2_0.toInt ∧ t2_0.toInt ≤ 220 := btt2_0; omega)), (show t2_0.toInt ≤ 220 from (by have z11 : (1 : Int32).toInt = 1 := rfl; have t1 : 0 ≤ t2_0.toInt ∧ t2_0.toInt ≤ 220 := btt2_0; omega)), (show 0 ≤ t2_1.toInt from (by have z11 : (1 : Int32).toInt = 1 := rfl; have t1 : 0 ≤ t2_1.toInt ∧ t2_1.toInt ≤ 1 := btt2_1; omega)), (show t2_1.toInt ≤ 1 from (by have z11 : (1 : Int32).toInt = 1 := rfl; have t1 : 0 ≤ t2_1.toInt ∧ t2_1.toInt ≤ 1 := btt2_1; omega)), (show y160.toInt ≤ t4_0.toInt + 219 from (by have z11 : (1 : Int32).toInt = 1 := rfl; have t1 : y29.toInt ≤ t4_0.toInt := b34; have t2 : y160.toInt ≤ y29.toInt + 219 := b166; omega)), (show y161.toInt ≤ t4_1.toInt from (by have z11 : (1 : Int32).toInt = 1 := rfl; have t1 : y30.toInt ≤ t4_1.toInt := b37; have t2 : y161.toInt ≤ y30.toInt := b168; omega)), (show t2_0.toInt ≤ t2_0.toInt + 3 from (by have z11 : (1 : Int32).toInt = 1 := rfl; omega)), (show ((1 : Int32), y160, y161, f162, t2_0, t2_1, t3_0) = (F_Mil_shifted R x3 t0_0 t0_1 t1_0 t2_0 t2_1 t3_0 t4_0 t4_1 t5_0) from Eq.trans (by rw [e175, e174, e173, F_Mil_shifted_c33.eq_1]) hR176)⟩) d_8_10_37
    ·
      refine lv_iload_n hx hb d_8_10_19 rfl (lv_at hl 2 rfl) ?_
      refine lv_sipush (v := 2048) hx hb d_8_10_20 (by decide) ?_
      refine lv_icmp_le (tgt := 28) hx hb d_8_10_23 (by decide) (fun c182 => ?_) (fun c182 => ?_)
      ·
        refine lv_aload_n hx hb d_8_10_28 rfl (lv_at hl 0 rfl) ?_
        refine q_get (ci := 4) (j := 0) (v := .ref (q 10)) C0 V i_Mil rfl rfl hO25 (by decide) w_108 rfl d_8_10_29 ?_
        refine lv_iload_n hx hb d_8_10_32 rfl (lv_at hl 2 rfl) ?_
        refine q_gov V (q_runV (As := [.int x3]) (rest := []) (d := 3) (mc := 0) (ms := 0) (ci := 2) C0 V rfl LV_Mil_96 (X_Big_shiftLeft l D g q u26 10 220 (n_b10 g q) (by decide) x3 hI y29 y30 hO28 f31 hA32  _) rfl rfl hO28 rfl hl.1 rfl (Nat.le_of_ble_eq_true rfl) ⟨by decide, by decide⟩ ⟨Nat.le_of_ble_eq_true rfl, Nat.le_of_ble_eq_true rfl⟩ d_8_10_33) (fun u184 H locs hp185 V => ?_)
        obtain ⟨hI, hZ9⟩ := hp185
        obtain ⟨hu197, hZ9⟩ := hZ9
        obtain ⟨y187, hZ9⟩ := hZ9
        obtain ⟨y188, hZ9⟩ := hZ9
        obtain ⟨f189, hZ9⟩ := hZ9
        obtain ⟨hO186, hZ9⟩ := hZ9
        obtain ⟨hA190, hZ9⟩ := hZ9
        obtain ⟨b191, hZ9⟩ := hZ9
        obtain ⟨b192, hZ9⟩ := hZ9
        obtain ⟨b193, hZ9⟩ := hZ9
        obtain ⟨b194, hZ9⟩ := hZ9
        obtain ⟨b195, hE196⟩ := hZ9
        replace hO186 : u184[10]? = (some (q 10, .inr (2, [.ref (q 11), .int y187, .int y188])) : Option (Nat × va_E)) := hO186
        replace hA190 : u184[11]? = (some (q 11, .inl (g 0, (220 : Int32).toNatClampNeg, .inl f189)) : Option (Nat × va_E)) := hA190
        obtain ⟨p198, e199⟩ : ∃ z, z = (F_Big_shiftLeft (220 : Int32) x3 y29 y30 f31) := ⟨_, rfl⟩
        have e200 : y187 = p198.1 := congrArg (fun z => z.1) (hE196.trans e199.symm)
        have e201 : y188 = p198.2.1 := congrArg (fun z => z.2.1) (hE196.trans e199.symm)
        have e202 : f189 = p198.2.2 := congrArg (fun z => z.2.2) (hE196.trans e199.symm)
        replace b191 : q_F (0 ≤ y187.toInt) := b191
        replace b192 : q_F (0 ≤ y188.toInt) := b192
        replace b193 : q_F (y187.toInt ≤ y29.toInt + 219) := b193
        replace b194 : q_F (y187.toInt ≤ 220) := b194
        replace b195 : q_F (y188.toInt ≤ y30.toInt) := b195
        replace hT2 := (hu197 _ (by decide)).trans hT2
        replace hT3 := (hu197 _ (by decide)).trans hT3
        replace hF := q_uc hF hu197 (by first | exact (q_sk (q_mi 0 rfl) (q_sk (q_mi 1 rfl) q_s0)) | simp)
        have hR203 := (show F_Mil_shifted_c33_7 R x3 t0_0 t0_1 t1_0 t2_0 t2_1 t3_0 t4_0 t4_1 t5_0 p40 p198 = (F_Mil_shifted R x3 t0_0 t0_1 t1_0 t2_0 t2_1 t3_0 t4_0 t4_1 t5_0) from Eq.trans (by rw [e199, e44, e43, e42, F_Mil_shifted_c5.eq_1, if_neg c50, if_neg c155, if_pos c182]) hR45)
        refine lv_iconst (v := 1) hx hb d_8_10_36 (by decide) ?_
        exact q_retz C0 V (by decide) (⟨hI, hF, y187, y188, f189, t2_0, t2_1, t3_0, hO186, hA190, hT2, hT3, (show 0 ≤ (1 : Int32).toInt from (by have z11 : (1 : Int32).toInt = 1 := rfl; omega)), (show (1 : Int32).toInt ≤ 1 from (by have z11 : (1 : Int32).toInt = 1 := rfl; omega)), (show 0 ≤ y187.toInt from (by have z11 : (1 : Int32).toInt = 1 := rfl; have t1 : 0 ≤ y187.toInt := b191; omega)), (show y187.toInt ≤ 220 from (by have z11 : (1 : Int32).toInt = 1 := rfl; have t1 : y187.toInt ≤ 220 := b194; omega)), (show 0 ≤ y188.toInt from (by have z11 : (1 : Int32).toInt = 1 := rfl; have t1 : 0 ≤ y188.toInt := b192; omega)), (show 0 ≤ t2_0.toInt from (by have z11 : (1 : Int32).toInt = 1 := rfl; have t1 : 0 ≤ t2_0.toInt ∧ t2_0.toInt ≤ 220 := btt2_0; omega)), (show t2_0.toInt ≤ 220 from (by have z11 : (1 : Int32).toInt = 1 := rfl; have t1 : 0 ≤ t2_0.toInt ∧ t2_0.toInt ≤ 220 := btt2_0; omega)), (show 0 ≤ t2_1.toInt from (by have z11 : (1 : Int32).toInt = 1 := rfl; have t1 : 0 ≤ t2_1.toInt ∧ t2_1.toInt ≤ 1 := btt2_1; omega)), (show t2_1.toInt ≤ 1 from (by have z11 : (1 : Int32).toInt = 1 := rfl; have t1 : 0 ≤ t2_1.toInt ∧ t2_1.toInt ≤ 1 := btt2_1; omega)), (show y187.toInt ≤ t4_0.toInt + 219 from (by have z11 : (1 : Int32).toInt = 1 := rfl; have t1 : y29.toInt ≤ t4_0.toInt := b34; have t2 : y187.toInt ≤ y29.toInt + 219 := b193; omega)), (show y188.toInt ≤ t4_1.toInt from (by have z11 : (1 : Int32).toInt = 1 := rfl; have t1 : y30.toInt ≤ t4_1.toInt := b37; have t2 : y188.toInt ≤ y30.toInt := b195; omega)), (show t2_0.toInt ≤ t2_0.toInt + 3 from (by have z11 : (1 : Int32).toInt = 1 := rfl; omega)), (show ((1 : Int32), y187, y188, f189, t2_0, t2_1, t3_0) = (F_Mil_shifted R x3 t0_0 t0_1 t1_0 t2_0 t2_1 t3_0 t4_0 t4_1 t5_0) from Eq.trans (by rw [e202, e201, e200, F_Mil_shifted_c33_7.eq_1]) hR203)⟩) d_8_10_37
      ·
        refine lv_iconst (v := 0) hx hb d_8_10_26 (by decide) ?_
        exact q_retz C0 V (by decide) (⟨hI, hF, y29, y30, f31, t2_0, t2_1, t3_0, hO28, hA32, hT2, hT3, (show 0 ≤ (0 : Int32).toInt from (by have z11 : (0 : Int32).toInt = 0 := rfl; omega)), (show (0 : Int32).toInt ≤ 1 from (by have z11 : (0 : Int32).toInt = 0 := rfl; omega)), (show 0 ≤ y29.toInt from (by have z11 : (0 : Int32).toInt = 0 := rfl; have t1 : 0 ≤ y29.toInt := b33; omega)), (show y29.toInt ≤ 220 from (by have z11 : (0 : Int32).toInt = 0 := rfl; have t1 : y29.toInt ≤ 220 := b35; omega)), (show 0 ≤ y30.toInt from (by have z11 : (0 : Int32).toInt = 0 := rfl; have t1 : 0 ≤ t4_1.toInt ∧ t4_1.toInt ≤ 1 := btt4_1; have t2 : t4_1.toInt ≤ y30.toInt := b36; omega)), (show 0 ≤ t2_0.toInt from (by have z11 : (0 : Int32).toInt = 0 := rfl; have t1 : 0 ≤ t2_0.toInt ∧ t2_0.toInt ≤ 220 := btt2_0; omega)), (show t2_0.toInt ≤ 220 from (by have z11 : (0 : Int32).toInt = 0 := rfl; have t1 : 0 ≤ t2_0.toInt ∧ t2_0.toInt ≤ 220 := btt2_0; omega)), (show 0 ≤ t2_1.toInt from (by have z11 : (0 : Int32).toInt = 0 := rfl; have t1 : 0 ≤ t2_1.toInt ∧ t2_1.toInt ≤ 1 := btt2_1; omega)), (show t2_1.toInt ≤ 1 from (by have z11 : (0 : Int32).toInt = 0 := rfl; have t1 : 0 ≤ t2_1.toInt ∧ t2_1.toInt ≤ 1 := btt2_1; omega)), (show y29.toInt ≤ t4_0.toInt + 219 from (by have z11 : (0 : Int32).toInt = 0 := rfl; have t1 : y29.toInt ≤ t4_0.toInt := b34; omega)), (show y30.toInt ≤ t4_1.toInt from (by have z11 : (0 : Int32).toInt = 0 := rfl; have t1 : y30.toInt ≤ t4_1.toInt := b37; omega)), (show t2_0.toInt ≤ t2_0.toInt + 3 from (by have z11 : (0 : Int32).toInt = 0 := rfl; omega)), (show ((0 : Int32), y29, y30, f31, t2_0, t2_1, t3_0) = (F_Mil_shifted R x3 t0_0 t0_1 t1_0 t2_0 t2_1 t3_0 t4_0 t4_1 t5_0) from Eq.trans (by rw [e44, e43, e42, F_Mil_shifted_c5.eq_1, if_neg c50, if_neg c155, if_neg c182]) hR45)⟩) d_8_10_27
def F_Mil_mixed (x1 : Int32) (x2 : Int32) (x3 : Int32) : Int32 := if x1 = (8 : Int32) then ((x2 &&& x3 : Int32)) else (if x1 = (9 : Int32) then ((x2 ||| x3 : Int32)) else (if x1 = (10 : Int32) then ((x2 ^^^ x3 : Int32)) else ((x2 &&& (x3 ^^^ (-1) : Int32) : Int32))))
set_option maxRecDepth 100000 in
set_option maxHeartbeats 4000000 in
theorem X_Mil_mixed (l : Launch) (D : va_G) (g : Nat → ClassId) (q : Nat → Nat) (ws : va_W) (x1 : Int32) (x2 : Int32) (x3 : Int32) (hI : q_I (nsh g q) q ws) : q_mI l y_Mil_mixed prog_8_method_12_code 3 (.int) 1 0 0 D g [.int x1, .int x2, .int x3] ws (fun r u => ws = u ∧ r = (F_Mil_mixed x1 x2 x3)) := by
  intro sz
  refine q_into (by decide) (Nat.le_of_ble_eq_true rfl) ?_
  intro p e s m below meth c ls hsz C0 V hl
  have hx := C0.1
  have hb := C0.2.1
  have hl : lv_has ls 3 [(0, .int x1), (1, .int x2), (2, .int x3)] := hl
  refine lv_iload_n hx hb d_8_12_0 rfl (lv_at hl 0 rfl) ?_
  by_cases c1 : x1 = 8
  ·
    refine q_ti (v := 8) c1 ?_
    refine lv_tableIn (tgt := 28) (off := 27) hx hb d_8_12_1 (by decide) (by decide) (by decide) (by decide) ?_
    refine lv_iload_n hx hb d_8_12_28 rfl (lv_at hl 1 rfl) ?_
    refine lv_iload_n hx hb d_8_12_29 rfl (lv_at hl 2 rfl) ?_
    refine lv_iand hx hb d_8_12_30 ?_
    obtain ⟨a3, e4⟩ := q_nm (x2 &&& x3 : Int32)
    refine q_ti (v := a3) e4 ?_
    exact q_reti C0 V (⟨rfl, (show a3 = (F_Mil_mixed x1 x2 x3) from (by rw [← e4, F_Mil_mixed.eq_1, if_pos c1]))⟩) d_8_12_31
  by_cases c6 : x1 = 9
  ·
    refine q_ti (v := 9) c6 ?_
    refine lv_tableIn (tgt := 32) (off := 31) hx hb d_8_12_1 (by decide) (by decide) (by decide) (by decide) ?_
    refine lv_iload_n hx hb d_8_12_32 rfl (lv_at hl 1 rfl) ?_
    refine lv_iload_n hx hb d_8_12_33 rfl (lv_at hl 2 rfl) ?_
    refine lv_ior hx hb d_8_12_34 ?_
    obtain ⟨a8, e9⟩ := q_nm (x2 ||| x3 : Int32)
    refine q_ti (v := a8) e9 ?_
    exact q_reti C0 V (⟨rfl, (show a8 = (F_Mil_mixed x1 x2 x3) from (by rw [← e9, F_Mil_mixed.eq_1, if_neg c1, if_pos c6]))⟩) d_8_12_35
  by_cases c11 : x1 = 10
  ·
    refine q_ti (v := 10) c11 ?_
    refine lv_tableIn (tgt := 36) (off := 35) hx hb d_8_12_1 (by decide) (by decide) (by decide) (by decide) ?_
    refine lv_iload_n hx hb d_8_12_36 rfl (lv_at hl 1 rfl) ?_
    refine lv_iload_n hx hb d_8_12_37 rfl (lv_at hl 2 rfl) ?_
    refine lv_ixor hx hb d_8_12_38 ?_
    obtain ⟨a13, e14⟩ := q_nm (x2 ^^^ x3 : Int32)
    refine q_ti (v := a13) e14 ?_
    exact q_reti C0 V (⟨rfl, (show a13 = (F_Mil_mixed x1 x2 x3) from (by rw [← e14, F_Mil_mixed.eq_1, if_neg c1, if_neg c6, if_pos c11]))⟩) d_8_12_39
  refine lv_tableOut (tgt := 40) hx hb d_8_12_1 (by have z0 : x1.toInt ≠ 8 := q_neI c1; have z1 : x1.toInt ≠ 9 := q_neI c6; have z2 : x1.toInt ≠ 10 := q_neI c11; omega) (by decide) ?_
  refine lv_iload_n hx hb d_8_12_40 rfl (lv_at hl 1 rfl) ?_
  refine lv_iload_n hx hb d_8_12_41 rfl (lv_at hl 2 rfl) ?_
  refine lv_iconst (v := (-1)) hx hb d_8_12_42 (by decide) ?_
  refine lv_ixor hx hb d_8_12_43 ?_
  obtain ⟨a16, e17⟩ := q_nm (x3 ^^^ (-1) : Int32)
  refine q_ti (v := a16) e17 ?_
  refine lv_iand hx hb d_8_12_44 ?_
  obtain ⟨a18, e19⟩ := q_nm (x2 &&& a16 : Int32)
  refine q_ti (v := a18) e19 ?_
  exact q_reti C0 V (⟨rfl, (show a18 = (F_Mil_mixed x1 x2 x3) from (by rw [← e19, ← e17, F_Mil_mixed.eq_1, if_neg c1, if_neg c6, if_neg c11]))⟩) d_8_12_45
def F_Mil_mixBits_c168 (K_F_Mil_mixBits_L88 : Int32 → Int32 → Int32 → Int32 → (Nat → Int32) → (Int32 × Int32 × (Nat → Int32))) (x2 : Int32) (R : Int32) (R2 : Int32) (t0_0 : Int32) (t0_1 : Int32) (t1_0 : (Nat → Int32)) (t2_0 : Int32) (t2_1 : Int32) (t3_0 : (Nat → Int32)) (t4_0 : Int32) (t4_1 : Int32) (t5_0 : (Nat → Int32)) (a40 : Int32) (a33 : Int32) (a28 : Int32) (lx45 : Int32) (lx60 : Int32) (lx80 : Int32) (lx95 : Int32) (p122 : (Int32 × Int32)) (lx133 : Int32) (lx134 : Int32) (lx135 : Int32) (lx136 : Int32) (lx137 : (Nat → Int32)) (p174 : (Int32 × Int32)) : Int32 × Int32 × (Nat → Int32) := ((p174.1 : Int32), lx80, lx137)
def F_Mil_mixBits_c148 (K_F_Mil_mixBits_L88 : Int32 → Int32 → Int32 → Int32 → (Nat → Int32) → (Int32 × Int32 × (Nat → Int32))) (x2 : Int32) (R : Int32) (R2 : Int32) (t0_0 : Int32) (t0_1 : Int32) (t1_0 : (Nat → Int32)) (t2_0 : Int32) (t2_1 : Int32) (t3_0 : (Nat → Int32)) (t4_0 : Int32) (t4_1 : Int32) (t5_0 : (Nat → Int32)) (a40 : Int32) (a33 : Int32) (a28 : Int32) (lx45 : Int32) (lx60 : Int32) (lx80 : Int32) (lx95 : Int32) (p122 : (Int32 × Int32)) (lx133 : Int32) (lx134 : Int32) (lx135 : Int32) (lx136 : Int32) (lx137 : (Nat → Int32)) (lx201 : Int32) (a214 : Int32) (p235 : (Int32 × Int32 × (Nat → Int32))) : Int32 × Int32 × (Nat → Int32) := K_F_Mil_mixBits_L88 (lx133 + 1 : Int32) ((a214.toUInt32 >>> ((31 : Int32).toUInt32 &&& Int32.toUInt32 31)).toInt32 : Int32) (p235.1 : Int32) (p235.2.1 : Int32) (p235.2.2 : (Nat → Int32))
def F_Mil_mixBits_J134 (K_F_Mil_mixBits_L88 : Int32 → Int32 → Int32 → Int32 → (Nat → Int32) → (Int32 × Int32 × (Nat → Int32))) (x2 : Int32) (R : Int32) (R2 : Int32) (t0_0 : Int32) (t0_1 : Int32) (t1_0 : (Nat → Int32)) (t2_0 : Int32) (t2_1 : Int32) (t3_0 : (Nat → Int32)) (t4_0 : Int32) (t4_1 : Int32) (t5_0 : (Nat → Int32)) (a40 : Int32) (a33 : Int32) (a28 : Int32) (lx45 : Int32) (lx60 : Int32) (lx80 : Int32) (lx95 : Int32) (p122 : (Int32 × Int32)) (lx133 : Int32) (lx134 : Int32) (lx135 : Int32) (lx136 : Int32) (lx137 : (Nat → Int32)) (lx201 : Int32) : Int32 × Int32 × (Nat → Int32) := F_Mil_mixBits_c148 K_F_Mil_mixBits_L88 x2 R R2 t0_0 t0_1 t1_0 t2_0 t2_1 t3_0 t4_0 t4_1 t5_0 a40 a33 a28 lx45 lx60 lx80 lx95 p122 lx133 lx134 lx135 lx136 lx137 lx201 (lx201 + lx134 : Int32) ((F_Big_push (220 : Int32) ((lx201 + lx134 : Int32) &&& 2147483647 : Int32) lx135 lx136 lx137) : (Int32 × Int32 × (Nat → Int32)))
def F_Mil_mixBits_L88 (x2 : Int32) (R : Int32) (R2 : Int32) (t0_0 : Int32) (t0_1 : Int32) (t1_0 : (Nat → Int32)) (t2_0 : Int32) (t2_1 : Int32) (t3_0 : (Nat → Int32)) (t4_0 : Int32) (t4_1 : Int32) (t5_0 : (Nat → Int32)) (a40 : Int32) (a33 : Int32) (a28 : Int32) (lx45 : Int32) (lx60 : Int32) (lx80 : Int32) (lx95 : Int32) (p122 : (Int32 × Int32)) : Nat → Int32 → Int32 → Int32 → Int32 → (Nat → Int32) → (Int32 × Int32 × (Nat → Int32))
  | 0, _, _, _, _, _ => default
  | fm + 1, lx133, lx134, lx135, lx136, lx137 => if a28 ≤ lx133 then (F_Mil_mixBits_c168 (F_Mil_mixBits_L88 x2 R R2 t0_0 t0_1 t1_0 t2_0 t2_1 t3_0 t4_0 t4_1 t5_0 a40 a33 a28 lx45 lx60 lx80 lx95 p122 fm) x2 R R2 t0_0 t0_1 t1_0 t2_0 t2_1 t3_0 t4_0 t4_1 t5_0 a40 a33 a28 lx45 lx60 lx80 lx95 p122 lx133 lx134 lx135 lx136 lx137 ((F_Big_trim (220 : Int32) lx135 lx136 lx137) : (Int32 × Int32))) else (if lx80 = (0 : Int32) then (F_Mil_mixBits_J134 (F_Mil_mixBits_L88 x2 R R2 t0_0 t0_1 t1_0 t2_0 t2_1 t3_0 t4_0 t4_1 t5_0 a40 a33 a28 lx45 lx60 lx80 lx95 p122 fm) x2 R R2 t0_0 t0_1 t1_0 t2_0 t2_1 t3_0 t4_0 t4_1 t5_0 a40 a33 a28 lx45 lx60 lx80 lx95 p122 lx133 lx134 lx135 lx136 lx137 ((F_Mil_mixed x2 ((F_Big_endlessLimb R lx133 a33 t2_0 t2_1 t3_0) : Int32) ((F_Big_endlessLimb R2 lx133 a40 t4_0 t4_1 t5_0) : Int32)) : Int32)) else (F_Mil_mixBits_J134 (F_Mil_mixBits_L88 x2 R R2 t0_0 t0_1 t1_0 t2_0 t2_1 t3_0 t4_0 t4_1 t5_0 a40 a33 a28 lx45 lx60 lx80 lx95 p122 fm) x2 R R2 t0_0 t0_1 t1_0 t2_0 t2_1 t3_0 t4_0 t4_1 t5_0 a40 a33 a28 lx45 lx60 lx80 lx95 p122 lx133 lx134 lx135 lx136 lx137 ((((F_Mil_mixed x2 ((F_Big_endlessLimb R lx133 a33 t2_0 t2_1 t3_0) : Int32) ((F_Big_endlessLimb R2 lx133 a40 t4_0 t4_1 t5_0) : Int32)) : Int32) ^^^ (-1) : Int32) &&& 2147483647 : Int32)))
def F_Mil_mixBits_c82 (x2 : Int32) (R : Int32) (R2 : Int32) (t0_0 : Int32) (t0_1 : Int32) (t1_0 : (Nat → Int32)) (t2_0 : Int32) (t2_1 : Int32) (t3_0 : (Nat → Int32)) (t4_0 : Int32) (t4_1 : Int32) (t5_0 : (Nat → Int32)) (a40 : Int32) (a33 : Int32) (a28 : Int32) (lx45 : Int32) (lx60 : Int32) (lx80 : Int32) (lx95 : Int32) (p122 : (Int32 × Int32)) : Int32 × Int32 × (Nat → Int32) := F_Mil_mixBits_L88 x2 R R2 t0_0 t0_1 t1_0 t2_0 t2_1 t3_0 t4_0 t4_1 t5_0 a40 a33 a28 lx45 lx60 lx80 lx95 p122 ((221 - (0 : Int32).toInt).toNat + 1) 0 lx95 (p122.1 : Int32) (p122.2 : Int32) t1_0
def F_Mil_mixBits_J76 (x2 : Int32) (R : Int32) (R2 : Int32) (t0_0 : Int32) (t0_1 : Int32) (t1_0 : (Nat → Int32)) (t2_0 : Int32) (t2_1 : Int32) (t3_0 : (Nat → Int32)) (t4_0 : Int32) (t4_1 : Int32) (t5_0 : (Nat → Int32)) (a40 : Int32) (a33 : Int32) (a28 : Int32) (lx45 : Int32) (lx60 : Int32) (lx80 : Int32) (lx95 : Int32) : Int32 × Int32 × (Nat → Int32) := F_Mil_mixBits_c82 x2 R R2 t0_0 t0_1 t1_0 t2_0 t2_1 t3_0 t4_0 t4_1 t5_0 a40 a33 a28 lx45 lx60 lx80 lx95 ((F_Big_clear (220 : Int32) t0_0 t0_1) : (Int32 × Int32))
def F_Mil_mixBits_J64 (x2 : Int32) (R : Int32) (R2 : Int32) (t0_0 : Int32) (t0_1 : Int32) (t1_0 : (Nat → Int32)) (t2_0 : Int32) (t2_1 : Int32) (t3_0 : (Nat → Int32)) (t4_0 : Int32) (t4_1 : Int32) (t5_0 : (Nat → Int32)) (a40 : Int32) (a33 : Int32) (a28 : Int32) (lx45 : Int32) (lx60 : Int32) (lx80 : Int32) : Int32 × Int32 × (Nat → Int32) := if lx80 = (0 : Int32) then (F_Mil_mixBits_J76 x2 R R2 t0_0 t0_1 t1_0 t2_0 t2_1 t3_0 t4_0 t4_1 t5_0 a40 a33 a28 lx45 lx60 lx80 0) else (F_Mil_mixBits_J76 x2 R R2 t0_0 t0_1 t1_0 t2_0 t2_1 t3_0 t4_0 t4_1 t5_0 a40 a33 a28 lx45 lx60 lx80 1)
def F_Mil_mixBits_J52 (x2 : Int32) (R : Int32) (R2 : Int32) (t0_0 : Int32) (t0_1 : Int32) (t1_0 : (Nat → Int32)) (t2_0 : Int32) (t2_1 : Int32) (t3_0 : (Nat → Int32)) (t4_0 : Int32) (t4_1 : Int32) (t5_0 : (Nat → Int32)) (a40 : Int32) (a33 : Int32) (a28 : Int32) (lx45 : Int32) (lx60 : Int32) : Int32 × Int32 × (Nat → Int32) := if ((F_Mil_mixed x2 lx45 lx60) : Int32) = (1 : Int32) then (F_Mil_mixBits_J64 x2 R R2 t0_0 t0_1 t1_0 t2_0 t2_1 t3_0 t4_0 t4_1 t5_0 a40 a33 a28 lx45 lx60 1) else (F_Mil_mixBits_J64 x2 R R2 t0_0 t0_1 t1_0 t2_0 t2_1 t3_0 t4_0 t4_1 t5_0 a40 a33 a28 lx45 lx60 0)
def F_Mil_mixBits_J40 (x2 : Int32) (R : Int32) (R2 : Int32) (t0_0 : Int32) (t0_1 : Int32) (t1_0 : (Nat → Int32)) (t2_0 : Int32) (t2_1 : Int32) (t3_0 : (Nat → Int32)) (t4_0 : Int32) (t4_1 : Int32) (t5_0 : (Nat → Int32)) (a40 : Int32) (a33 : Int32) (a28 : Int32) (lx45 : Int32) : Int32 × Int32 × (Nat → Int32) := if t4_1 = (0 : Int32) then (F_Mil_mixBits_J52 x2 R R2 t0_0 t0_1 t1_0 t2_0 t2_1 t3_0 t4_0 t4_1 t5_0 a40 a33 a28 lx45 0) else (F_Mil_mixBits_J52 x2 R R2 t0_0 t0_1 t1_0 t2_0 t2_1 t3_0 t4_0 t4_1 t5_0 a40 a33 a28 lx45 1)
def F_Mil_mixBits (x2 : Int32) (R : Int32) (R2 : Int32) (t0_0 : Int32) (t0_1 : Int32) (t1_0 : (Nat → Int32)) (t2_0 : Int32) (t2_1 : Int32) (t3_0 : (Nat → Int32)) (t4_0 : Int32) (t4_1 : Int32) (t5_0 : (Nat → Int32)) : Int32 × Int32 × (Nat → Int32) := if t2_1 = (0 : Int32) then (F_Mil_mixBits_J40 x2 R R2 t0_0 t0_1 t1_0 t2_0 t2_1 t3_0 t4_0 t4_1 t5_0 ((F_Big_lowestLimb R2 t4_0 t4_1 t5_0) : Int32) ((F_Big_lowestLimb R t2_0 t2_1 t3_0) : Int32) ((if t2_0 < t4_0 then t4_0 else t2_0 : Int32) + 1 : Int32) 0) else (F_Mil_mixBits_J40 x2 R R2 t0_0 t0_1 t1_0 t2_0 t2_1 t3_0 t4_0 t4_1 t5_0 ((F_Big_lowestLimb R2 t4_0 t4_1 t5_0) : Int32) ((F_Big_lowestLimb R t2_0 t2_1 t3_0) : Int32) ((if t2_0 < t4_0 then t4_0 else t2_0 : Int32) + 1 : Int32) 1)
set_option maxRecDepth 100000 in
set_option maxHeartbeats 4000000 in
theorem X_Mil_mixBits (l : Launch) (D : va_G) (g : Nat → ClassId) (q : Nat → Nat) (ws : va_W) (k3 : Nat) (R : Int32) (hB3 : q_isBig (nsh g q) g q k3 R) (zk3 : (10 ≤ k3 ∧ k3 ≤ 32) ∨ 66 ≤ k3) (k4 : Nat) (R2 : Int32) (hB4 : q_isBig (nsh g q) g q k4 R2) (zk4 : (10 ≤ k4 ∧ k4 ≤ 32) ∨ 66 ≤ k4) (x2 : Int32) (ne_k3_10 : k3 ≠ 10) (ne_k3_11 : k3 ≠ 11) (ne_k3_9 : k3 ≠ 9) (ne_k4_10 : k4 ≠ 10) (ne_k4_11 : k4 ≠ 11) (ne_k4_9 : k4 ≠ 9) (hI : q_I (nsh g q) q ws) (t0_0 : Int32) (t0_1 : Int32) (hT0 : ws[10]? = (some (q 10, .inr (2, [.ref (q 11), .int t0_0, .int t0_1])) : Option (Nat × va_E))) (t1_0 : (Nat → Int32)) (hT1 : ws[11]? = (some (q 11, .inl (g 0, (220 : Int32).toNatClampNeg, .inl t1_0)) : Option (Nat × va_E))) (t2_0 : Int32) (t2_1 : Int32) (hT2 : ws[k3]? = (some (q k3, .inr (2, [.ref (q (k3 + 1)), .int t2_0, .int t2_1])) : Option (Nat × va_E))) (t3_0 : (Nat → Int32)) (hT3 : ws[k3 + 1]? = (some (q (k3 + 1), .inl (g 0, R.toNatClampNeg, .inl t3_0)) : Option (Nat × va_E))) (t4_0 : Int32) (t4_1 : Int32) (hT4 : ws[k4]? = (some (q k4, .inr (2, [.ref (q (k4 + 1)), .int t4_0, .int t4_1])) : Option (Nat × va_E))) (t5_0 : (Nat → Int32)) (hT5 : ws[k4 + 1]? = (some (q (k4 + 1), .inl (g 0, R2.toNatClampNeg, .inl t5_0)) : Option (Nat × va_E))) : q_mV l y_Mil_mixBits prog_8_method_11_code 12 3 0 0 D g [.ref (q 9), .int x2, .ref (q k3), .ref (q k4)] ws (fun u => q_I (nsh g q) q u ∧ q_un ws u [10, 11] ∧ ∃ (u0_0 : Int32) (u0_1 : Int32) (u1_0 : (Nat → Int32)), u[10]? = (some (q 10, .inr (2, [.ref (q 11), .int u0_0, .int u0_1])) : Option (Nat × va_E)) ∧ u[11]? = (some (q 11, .inl (g 0, (220 : Int32).toNatClampNeg, .inl u1_0)) : Option (Nat × va_E)) ∧ (0 ≤ u0_0.toInt) ∧ (u0_0.toInt ≤ 220) ∧ (0 ≤ u0_1.toInt) ∧ (u0_1.toInt ≤ 1) ∧ (u0_0, u0_1, u1_0) = (F_Mil_mixBits x2 R R2 t0_0 t0_1 t1_0 t2_0 t2_1 t3_0 t4_0 t4_1 t5_0)) := by
  intro sz
  refine q_into (by decide) (Nat.le_of_ble_eq_true rfl) ?_
  intro p e s m below meth c ls hsz C0 V hl
  have hx := C0.1
  have hb := C0.2.1
  have hfk30 : q_F (0 ≤ R.toInt ∧ R.toInt ≤ 220) := hB3.2.2
  have hfk40 : q_F (0 ≤ R2.toInt ∧ R2.toInt ≤ 220) := hB4.2.2
  have btt0_1 := (q_bigW hI (n_b10 g q) hT0).2
  clear btt0_1
  obtain ⟨btt2_0, btt2_1⟩ := q_bigW hI hB3 hT2
  replace btt2_0 : q_F (0 ≤ t2_0.toInt ∧ t2_0.toInt ≤ R.toInt) := btt2_0
  replace btt2_1 : q_F (0 ≤ t2_1.toInt ∧ t2_1.toInt ≤ 1) := btt2_1
  obtain ⟨btt4_0, btt4_1⟩ := q_bigW hI hB4 hT4
  replace btt4_0 : q_F (0 ≤ t4_0.toInt ∧ t4_0.toInt ≤ R2.toInt) := btt4_0
  replace btt4_1 : q_F (0 ≤ t4_1.toInt ∧ t4_1.toInt ≤ 1) := btt4_1
  have hF : q_un ws ws [10, 11] := q_u0
  have hl : lv_has ls 12 [(0, .ref (q 9)), (1, .int x2), (2, .ref (q k3)), (3, .ref (q k4))] := hl
  refine lv_aload_n hx hb d_8_11_0 rfl (lv_at hl 2 rfl) ?_
  refine q_get (ci := 2) (j := 1) (v := .int t2_0) C0 V i_Big rfl rfl hT2 (by decide) w_89 rfl d_8_11_1 ?_
  refine lv_aload_n hx hb d_8_11_4 rfl (lv_at hl 3 rfl) ?_
  refine q_get (ci := 2) (j := 1) (v := .int t4_0) C0 V i_Big rfl rfl hT4 (by decide) w_89 rfl d_8_11_5 ?_
  refine q_max C0 hl.1 rfl w_1301 w_803 w_7 w_804 ⟨Nat.le_of_ble_eq_true rfl, Nat.le_of_ble_eq_true rfl⟩ ⟨Nat.le_of_ble_eq_true rfl, Nat.le_of_ble_eq_true rfl⟩ d_8_11_8 ?_
  obtain ⟨a25, e26⟩ := q_nm (if t2_0 < t4_0 then t4_0 else t2_0 : Int32)
  refine q_ti (v := a25) e26 ?_
  have b27 : q_F (t2_0.toInt ≤ a25.toInt ∧ t4_0.toInt ≤ a25.toInt ∧ (a25.toInt = t2_0.toInt ∨ a25.toInt = t4_0.toInt)) := (by rw [← e26]; show t2_0.toInt ≤ (if t2_0 < t4_0 then t4_0 else t2_0 : Int32).toInt ∧ t4_0.toInt ≤ (if t2_0 < t4_0 then t4_0 else t2_0 : Int32).toInt ∧ ((if t2_0 < t4_0 then t4_0 else t2_0 : Int32).toInt = t2_0.toInt ∨ (if t2_0 < t4_0 then t4_0 else t2_0 : Int32).toInt = t4_0.toInt); exact s_max (a := t2_0) (b := t4_0))
  refine lv_iconst (v := 1) hx hb d_8_11_11 (by decide) ?_
  refine lv_iadd hx hb d_8_11_12 ?_
  obtain ⟨a28, e29⟩ := q_nm (a25 + 1 : Int32)
  refine q_ti (v := a28) e29 ?_
  have b30 : q_F (a28.toInt = a25.toInt + 1) := (by rw [← e29]; show (a25 + 1 : Int32).toInt = a25.toInt + 1; exact q_addI (x := a25.toInt) (y := 1) rfl (by decide) (by have _ := q_lo32 (x := a25); have _ := q_hi32 (x := a25); have t1 : 0 ≤ R.toInt ∧ R.toInt ≤ 220 := hfk30; have t2 : 0 ≤ R2.toInt ∧ R2.toInt ≤ 220 := hfk40; have t3 : 0 ≤ t2_0.toInt ∧ t2_0.toInt ≤ R.toInt := btt2_0; have t4 : 0 ≤ t4_0.toInt ∧ t4_0.toInt ≤ R2.toInt := btt4_0; have t5 : t2_0.toInt ≤ a25.toInt ∧ t4_0.toInt ≤ a25.toInt ∧ (a25.toInt = t2_0.toInt ∨ a25.toInt = t4_0.toInt) := b27; omega) (by have _ := q_lo32 (x := a25); have _ := q_hi32 (x := a25); have t1 : 0 ≤ R.toInt ∧ R.toInt ≤ 220 := hfk30; have t2 : 0 ≤ R2.toInt ∧ R2.toInt ≤ 220 := hfk40; have t3 : 0 ≤ t2_0.toInt ∧ t2_0.toInt ≤ R.toInt := btt2_0; have t4 : 0 ≤ t4_0.toInt ∧ t4_0.toInt ≤ R2.toInt := btt4_0; have t5 : t2_0.toInt ≤ a25.toInt ∧ t4_0.toInt ≤ a25.toInt ∧ (a25.toInt = t2_0.toInt ∨ a25.toInt = t4_0.toInt) := b27; omega))
  refine lv_istore (lv' := [(4, .int a28), (0, .ref (q 9)), (1, .int x2), (2, .ref (q k3)), (3, .ref (q k4))]) hx hb d_8_11_13 hl (by decide) rfl (fun ls hl => ?_)
  refine lv_aload_n hx hb d_8_11_15 rfl (lv_at hl 3 rfl) ?_
  refine q_goi V (q_runV (As := []) (rest := []) (d := 1) (mc := 0) (ms := 0) (ci := 2) C0 V rfl LV_Mil_128 (X_Big_lowestLimb l D g q ws k3 R hB3 zk3  hI t2_0 t2_1 hT2 t3_0 hT3  _) rfl rfl hT2 rfl hl.1 rfl (Nat.le_of_ble_eq_true rfl) ⟨by decide, by decide⟩ ⟨Nat.le_of_ble_eq_true rfl, Nat.le_of_ble_eq_true rfl⟩ d_8_11_16) (fun a33 u31 H locs hp32 V => ?_)
  obtain ⟨rfl, b34, b35, hE36⟩ := hp32
  have e37 : a33 = (F_Big_lowestLimb R t2_0 t2_1 t3_0) := hE36
  clear b34
  clear b35
  refine lv_istore (lv' := [(5, .int a33), (4, .int a28), (0, .ref (q 9)), (1, .int x2), (2, .ref (q k3)), (3, .ref (q k4))]) hx hb d_8_11_19 hl (by decide) rfl (fun ls hl => ?_)
  refine lv_aload_n hx hb d_8_11_21 rfl (lv_at hl 5 rfl) ?_
  refine q_goi V (q_runV (As := []) (rest := []) (d := 1) (mc := 0) (ms := 0) (ci := 2) C0 V rfl LV_Mil_128 (X_Big_lowestLimb l D g q ws k4 R2 hB4 zk4  hI t4_0 t4_1 hT4 t5_0 hT5  _) rfl rfl hT4 rfl hl.1 rfl (Nat.le_of_ble_eq_true rfl) ⟨by decide, by decide⟩ ⟨Nat.le_of_ble_eq_true rfl, Nat.le_of_ble_eq_true rfl⟩ d_8_11_22) (fun a40 u38 H locs hp39 V => ?_)
  obtain ⟨rfl, b41, b42, hE43⟩ := hp39
  have e44 : a40 = (F_Big_lowestLimb R2 t4_0 t4_1 t5_0) := hE43
  clear b41
  clear b42
  refine lv_istore (lv' := [(6, .int a40), (5, .int a33), (4, .int a28), (0, .ref (q 9)), (1, .int x2), (2, .ref (q k3)), (3, .ref (q k4))]) hx hb d_8_11_25 hl (by decide) rfl (fun ls hl => ?_)
  refine lv_iload_n hx hb d_8_11_27 rfl (lv_at hl 4 rfl) ?_
  refine lv_aload_n hx hb d_8_11_28 rfl (lv_at hl 5 rfl) ?_
  refine q_get (ci := 2) (j := 2) (v := .int t2_1) C0 V i_Big rfl rfl hT2 (by decide) w_96 rfl d_8_11_29 ?_
  refine q_join (X := Int32) (fun z H locs ls _ => q_F (t2_1.toInt ≤ z.toInt) ∧ q_F (z.toInt ≤ t2_1.toInt) ∧ q_Wd D g (va_A ws sz) s ws H locs ∧ lv_has ls 12 [(6, .int a40), (5, .int a33), (4, .int a28), (0, .ref (q 9)), (1, .int x2), (2, .ref (q k3)), (3, .ref (q k4))] ∧ F_Mil_mixBits_J40 x2 R R2 t0_0 t0_1 t1_0 t2_0 t2_1 t3_0 t4_0 t4_1 t5_0 a40 a33 a28 z = (F_Mil_mixBits x2 R R2 t0_0 t0_1 t1_0 t2_0 t2_1 t3_0 t4_0 t4_1 t5_0)) (fun z => [.int z, .int x2]) 40 0 0 ?_ ?_
  ·
    rintro lx45 H locs ls _ ⟨i53, i54, V, hl, hR55⟩
    clear i53
    clear i54
    replace hl : lv_has ls 12 [(6, .int a40), (5, .int a33), (4, .int a28), (0, .ref (q 9)), (1, .int x2), (2, .ref (q k3)), (3, .ref (q k4))] := hl
    refine lv_aload_n hx hb d_8_11_40 rfl (lv_at hl 6 rfl) ?_
    refine q_get (ci := 2) (j := 2) (v := .int t4_1) C0 V i_Big rfl rfl hT4 (by decide) w_96 rfl d_8_11_41 ?_
    refine q_join (X := Int32) (fun z H locs ls _ => q_F (t4_1.toInt ≤ z.toInt) ∧ q_F (z.toInt ≤ t4_1.toInt) ∧ q_Wd D g (va_A ws sz) s ws H locs ∧ lv_has ls 12 [(6, .int a40), (5, .int a33), (4, .int a28), (0, .ref (q 9)), (1, .int x2), (2, .ref (q k3)), (3, .ref (q k4))] ∧ F_Mil_mixBits_J52 x2 R R2 t0_0 t0_1 t1_0 t2_0 t2_1 t3_0 t4_0 t4_1 t5_0 a40 a33 a28 lx45 z = (F_Mil_mixBits x2 R R2 t0_0 t0_1 t1_0 t2_0 t2_1 t3_0 t4_0 t4_1 t5_0)) (fun z => [.int z, .int lx45, .int x2]) 52 0 0 ?_ ?_
    ·
      rintro lx60 H locs ls _ ⟨i68, i69, V, hl, hR70⟩
      clear i68
      clear i69
      replace hl : lv_has ls 12 [(6, .int a40), (5, .int a33), (4, .int a28), (0, .ref (q 9)), (1, .int x2), (2, .ref (q k3)), (3, .ref (q k4))] := hl
      refine q_goi V (q_runS (As := [.int x2, .int lx45, .int lx60]) (rest := []) (d := 1) (mc := 0) (ms := 0) C0 V rfl LS_Mil_131 (X_Mil_mixed l D g q ws  x2 lx45 lx60 hI   _) rfl hl.1 rfl (Nat.le_of_ble_eq_true rfl) ⟨by decide, by decide⟩ ⟨Nat.le_of_ble_eq_true rfl, Nat.le_of_ble_eq_true rfl⟩ d_8_11_52) (fun a77 u75 H locs hp76 V => ?_)
      obtain ⟨rfl, hE78⟩ := hp76
      have e79 : a77 = (F_Mil_mixed x2 lx45 lx60) := hE78
      refine lv_iconst (v := 1) hx hb d_8_11_55 (by decide) ?_
      refine q_join (X := Int32) (fun z H locs ls _ => q_F (0 ≤ z.toInt) ∧ q_F (z.toInt ≤ 1) ∧ q_Wd D g (va_A ws sz) s ws H locs ∧ lv_has ls 12 [(6, .int a40), (5, .int a33), (4, .int a28), (0, .ref (q 9)), (1, .int x2), (2, .ref (q k3)), (3, .ref (q k4))] ∧ F_Mil_mixBits_J64 x2 R R2 t0_0 t0_1 t1_0 t2_0 t2_1 t3_0 t4_0 t4_1 t5_0 a40 a33 a28 lx45 lx60 z = (F_Mil_mixBits x2 R R2 t0_0 t0_1 t1_0 t2_0 t2_1 t3_0 t4_0 t4_1 t5_0)) (fun z => [.int z]) 64 0 0 ?_ ?_
      ·
        rintro lx80 H locs ls _ ⟨i88, i89, V, hl, hR90⟩
        replace i88 : q_F (0 ≤ lx80.toInt) := i88
        replace i89 : q_F (lx80.toInt ≤ 1) := i89
        replace hl : lv_has ls 12 [(6, .int a40), (5, .int a33), (4, .int a28), (0, .ref (q 9)), (1, .int x2), (2, .ref (q k3)), (3, .ref (q k4))] := hl
        refine lv_istore (lv' := [(7, .int lx80), (6, .int a40), (5, .int a33), (4, .int a28), (0, .ref (q 9)), (1, .int x2), (2, .ref (q k3)), (3, .ref (q k4))]) hx hb d_8_11_64 hl (by decide) rfl (fun ls hl => ?_)
        refine lv_iload hx hb d_8_11_66 (lv_at hl 0 rfl) ?_
        refine q_join (X := Int32) (fun z H locs ls _ => q_F (lx80.toInt ≤ z.toInt) ∧ q_F (z.toInt ≤ lx80.toInt) ∧ q_Wd D g (va_A ws sz) s ws H locs ∧ lv_has ls 12 [(7, .int lx80), (6, .int a40), (5, .int a33), (4, .int a28), (0, .ref (q 9)), (1, .int x2), (2, .ref (q k3)), (3, .ref (q k4))] ∧ F_Mil_mixBits_J76 x2 R R2 t0_0 t0_1 t1_0 t2_0 t2_1 t3_0 t4_0 t4_1 t5_0 a40 a33 a28 lx45 lx60 lx80 z = (F_Mil_mixBits x2 R R2 t0_0 t0_1 t1_0 t2_0 t2_1 t3_0 t4_0 t4_1 t5_0)) (fun z => [.int z]) 76 0 0 ?_ ?_
        ·
          rintro lx95 H locs ls _ ⟨i103, i104, V, hl, hR105⟩
          replace i103 : q_F (lx80.toInt ≤ lx95.toInt) := i103
          replace i104 : q_F (lx95.toInt ≤ lx80.toInt) := i104
          replace hl : lv_has ls 12 [(7, .int lx80), (6, .int a40), (5, .int a33), (4, .int a28), (0, .ref (q 9)), (1, .int x2), (2, .ref (q k3)), (3, .ref (q k4))] := hl
          refine lv_istore (lv' := [(8, .int lx95), (7, .int lx80), (6, .int a40), (5, .int a33), (4, .int a28), (0, .ref (q 9)), (1, .int x2), (2, .ref (q k3)), (3, .ref (q k4))]) hx hb d_8_11_76 hl (by decide) rfl (fun ls hl => ?_)
          refine lv_aload_n hx hb d_8_11_78 rfl (lv_at hl 5 rfl) ?_
          have hO110 := n_o9 hI
          refine q_get (ci := 4) (j := 0) (v := .ref (q 10)) C0 V i_Mil rfl rfl hO110 (by decide) w_108 rfl d_8_11_79 ?_
          refine q_gov V (q_runV (As := []) (rest := []) (d := 1) (mc := 0) (ms := 0) (ci := 2) C0 V rfl LV_Mil_74 (X_Big_clear l D g q ws 10 220 (n_b10 g q) (by decide)  hI t0_0 t0_1 hT0  _) rfl rfl hT0 rfl hl.1 rfl (Nat.le_of_ble_eq_true rfl) ⟨by decide, by decide⟩ ⟨Nat.le_of_ble_eq_true rfl, Nat.le_of_ble_eq_true rfl⟩ d_8_11_82) (fun u111 H locs hp112 V => ?_)
          obtain ⟨hI, hZ9⟩ := hp112
          obtain ⟨hu121, hZ9⟩ := hZ9
          obtain ⟨y114, hZ9⟩ := hZ9
          obtain ⟨y115, hZ9⟩ := hZ9
          obtain ⟨hO113, hZ9⟩ := hZ9
          obtain ⟨b116, hZ9⟩ := hZ9
          obtain ⟨b117, hZ9⟩ := hZ9
          replace hZ9 := hZ9.2
          obtain ⟨b119, hE120⟩ := hZ9
          replace hO113 : u111[10]? = (some (q 10, .inr (2, [.ref (q 11), .int y114, .int y115])) : Option (Nat × va_E)) := hO113
          obtain ⟨p122, e123⟩ : ∃ z, z = (F_Big_clear (220 : Int32) t0_0 t0_1) := ⟨_, rfl⟩
          have e124 : y114 = p122.1 := congrArg (fun z => z.1) (hE120.trans e123.symm)
          have e125 : y115 = p122.2 := congrArg (fun z => z.2) (hE120.trans e123.symm)
          replace b116 : q_F (0 ≤ y115.toInt) := b116
          replace b117 : q_F (y115.toInt ≤ 0) := b117
          replace b119 : q_F (y114.toInt ≤ y115.toInt) := b119
          replace hT1 := (hu121 _ (by decide)).trans hT1
          replace hT2 := (hu121 _ (by first | exact (q_nc ne_k3_10 List.not_mem_nil) | (have z0 := zk3; simp only [List.mem_cons, List.not_mem_nil, or_false, not_or]; omega))).trans hT2
          replace hT3 := (hu121 _ (by first | exact (q_nc (q_nt1 ne_k3_9) List.not_mem_nil) | (have z0 := zk3; simp only [List.mem_cons, List.not_mem_nil, or_false, not_or]; omega))).trans hT3
          replace hT4 := (hu121 _ (by first | exact (q_nc ne_k4_10 List.not_mem_nil) | (have z0 := zk4; simp only [List.mem_cons, List.not_mem_nil, or_false, not_or]; omega))).trans hT4
          replace hT5 := (hu121 _ (by first | exact (q_nc (q_nt1 ne_k4_9) List.not_mem_nil) | (have z0 := zk4; simp only [List.mem_cons, List.not_mem_nil, or_false, not_or]; omega))).trans hT5
          replace hF := q_uc hF hu121 (by first | exact (q_sk (q_mi 0 rfl) q_s0) | simp)
          have hR126 := (show F_Mil_mixBits_c82 x2 R R2 t0_0 t0_1 t1_0 t2_0 t2_1 t3_0 t4_0 t4_1 t5_0 a40 a33 a28 lx45 lx60 lx80 lx95 p122 = (F_Mil_mixBits x2 R R2 t0_0 t0_1 t1_0 t2_0 t2_1 t3_0 t4_0 t4_1 t5_0) from Eq.trans (by rw [e123, F_Mil_mixBits_J76.eq_1]) hR105)
          refine lv_iconst (v := 0) hx hb d_8_11_85 (by decide) ?_
          refine lv_istore (lv' := [(9, .int 0), (8, .int lx95), (7, .int lx80), (6, .int a40), (5, .int a33), (4, .int a28), (0, .ref (q 9)), (1, .int x2), (2, .ref (q k3)), (3, .ref (q k4))]) hx hb d_8_11_86 hl (by decide) rfl (fun ls hl => ?_)
          refine q_loop (X := Int32 × Int32 × Int32 × Int32 × (Nat → Int32)) (fun z H locs ls w148 => q_F (z.1.toInt ≤ 221) ∧ q_F (z.2.2.1.toInt ≤ 220) ∧ q_F (z.2.2.2.1.toInt ≤ z.2.1.toInt) ∧ q_F (z.2.1.toInt ≤ z.2.2.2.1.toInt + 1) ∧ q_F (0 ≤ z.2.1.toInt + z.2.2.2.1.toInt) ∧ q_F (z.2.1.toInt + z.2.2.2.1.toInt ≤ 1) ∧ q_F (z.2.2.1.toInt ≤ z.1.toInt + y114.toInt) ∧ q_F (lx95.toInt + y114.toInt ≤ z.2.1.toInt + z.2.2.1.toInt) ∧ q_F (z.2.1.toInt + y114.toInt ≤ z.2.2.1.toInt + lx95.toInt) ∧ q_Wd D g (va_A ws sz) s w148 H locs ∧ lv_has ls 12 [(9, .int z.1), (8, .int z.2.1), (7, .int lx80), (6, .int a40), (5, .int a33), (4, .int a28), (0, .ref (q 9)), (1, .int x2), (2, .ref (q k3)), (3, .ref (q k4))] ∧ q_I (nsh g q) q w148 ∧ q_un ws w148 [10, 11] ∧ w148[10]? = (some (q 10, .inr (2, [.ref (q 11), .int z.2.2.1, .int z.2.2.2.1])) : Option (Nat × va_E)) ∧ w148[11]? = (some (q 11, .inl (g 0, (220 : Int32).toNatClampNeg, .inl z.2.2.2.2)) : Option (Nat × va_E)) ∧ w148[k3]? = (some (q k3, .inr (2, [.ref (q (k3 + 1)), .int t2_0, .int t2_1])) : Option (Nat × va_E)) ∧ w148[k3 + 1]? = (some (q (k3 + 1), .inl (g 0, R.toNatClampNeg, .inl t3_0)) : Option (Nat × va_E)) ∧ w148[k4]? = (some (q k4, .inr (2, [.ref (q (k4 + 1)), .int t4_0, .int t4_1])) : Option (Nat × va_E)) ∧ w148[k4 + 1]? = (some (q (k4 + 1), .inl (g 0, R2.toNatClampNeg, .inl t5_0)) : Option (Nat × va_E)) ∧ (∃ n, (221 - z.1.toInt).toNat < n ∧ F_Mil_mixBits_L88 x2 R R2 t0_0 t0_1 t1_0 t2_0 t2_1 t3_0 t4_0 t4_1 t5_0 a40 a33 a28 lx45 lx60 lx80 lx95 p122 n z.1 z.2.1 z.2.2.1 z.2.2.2.1 z.2.2.2.2 = (F_Mil_mixBits x2 R R2 t0_0 t0_1 t1_0 t2_0 t2_1 t3_0 t4_0 t4_1 t5_0))) (fun z => (221 - z.1.toInt).toNat) ?_ ((0 : Int32), (lx95 : Int32), (y114 : Int32), (y115 : Int32), (t1_0 : (Nat → Int32))) _ _ _ u111 ⟨(show q_F (0 ≤ 221) from (show 0 ≤ 221 from by omega)), (show q_F (y114.toInt ≤ 220) from (show y114.toInt ≤ 220 from by have t1 : y115.toInt ≤ 0 := b117; have t2 : y114.toInt ≤ y115.toInt := b119; omega)), (show q_F (y115.toInt ≤ lx95.toInt) from (show y115.toInt ≤ lx95.toInt from by have t1 : 0 ≤ lx80.toInt := i88; have t2 : lx80.toInt ≤ lx95.toInt := i103; have t3 : y115.toInt ≤ 0 := b117; omega)), (show q_F (lx95.toInt ≤ y115.toInt + 1) from (show lx95.toInt ≤ y115.toInt + 1 from by have t1 : lx80.toInt ≤ 1 := i89; have t2 : lx95.toInt ≤ lx80.toInt := i104; have t3 : 0 ≤ y115.toInt := b116; omega)), (show q_F (0 ≤ lx95.toInt + y115.toInt) from (show 0 ≤ lx95.toInt + y115.toInt from by have t1 : 0 ≤ lx80.toInt := i88; have t2 : lx80.toInt ≤ lx95.toInt := i103; have t3 : 0 ≤ y115.toInt := b116; omega)), (show q_F (lx95.toInt + y115.toInt ≤ 1) from (show lx95.toInt + y115.toInt ≤ 1 from by have t1 : lx80.toInt ≤ 1 := i89; have t2 : lx95.toInt ≤ lx80.toInt := i104; have t3 : y115.toInt ≤ 0 := b117; omega)), (show q_F (y114.toInt ≤ 0 + y114.toInt) from (show y114.toInt ≤ 0 + y114.toInt from by omega)), (show q_F (lx95.toInt + y114.toInt ≤ lx95.toInt + y114.toInt) from (show lx95.toInt + y114.toInt ≤ lx95.toInt + y114.toInt from by omega)), (show q_F (lx95.toInt + y114.toInt ≤ y114.toInt + lx95.toInt) from (show lx95.toInt + y114.toInt ≤ y114.toInt + lx95.toInt from by omega)), V, q_lw hl (q_lw1 0 rfl (q_lw1 1 rfl (q_lw1 2 rfl (q_lw1 3 rfl (q_lw1 4 rfl (q_lw1 5 rfl (q_lw1 6 rfl (q_lw1 7 rfl (q_lw1 8 rfl (q_lw1 9 rfl q_lw0)))))))))), hI, hF, hO113, hT1, hT2, hT3, hT4, hT5, ⟨((221 - (0 : Int32).toInt).toNat + 1), Nat.lt_succ_self _, (show F_Mil_mixBits_L88 x2 R R2 t0_0 t0_1 t1_0 t2_0 t2_1 t3_0 t4_0 t4_1 t5_0 a40 a33 a28 lx45 lx60 lx80 lx95 p122 ((221 - (0 : Int32).toInt).toNat + 1) 0 lx95 y114 y115 t1_0 = (F_Mil_mixBits x2 R R2 t0_0 t0_1 t1_0 t2_0 t2_1 t3_0 t4_0 t4_1 t5_0) from Eq.trans (by rw [e125, e124, F_Mil_mixBits_c82.eq_1]) hR126)⟩⟩
          rintro ⟨lx133, lx134, lx135, lx136, lx137⟩ H locs ls w148 ⟨i138, i139, i140, i141, i142, i143, i144, i145, i146, V, hl, hI, hF, hO149, hO150, hO151, hO152, hO153, hO154, ⟨fu157, hf158, hR155⟩⟩ ih147
          obtain ⟨fm159, rfl⟩ : ∃ m, fu157 = m + 1 := ⟨fu157 - 1, by omega⟩
          replace i138 : q_F (lx133.toInt ≤ 221) := i138
          replace i139 : q_F (lx135.toInt ≤ 220) := i139
          replace i140 : q_F (lx136.toInt ≤ lx134.toInt) := i140
          replace i141 : q_F (lx134.toInt ≤ lx136.toInt + 1) := i141
          replace i142 : q_F (0 ≤ lx134.toInt + lx136.toInt) := i142
          replace i143 : q_F (lx134.toInt + lx136.toInt ≤ 1) := i143
          replace i144 : q_F (lx135.toInt ≤ lx133.toInt + y114.toInt) := i144
          clear i145
          clear i146
          replace hl : lv_has ls 12 [(9, .int lx133), (8, .int lx134), (7, .int lx80), (6, .int a40), (5, .int a33), (4, .int a28), (0, .ref (q 9)), (1, .int x2), (2, .ref (q k3)), (3, .ref (q k4))] := hl
          replace hO149 : w148[10]? = (some (q 10, .inr (2, [.ref (q 11), .int lx135, .int lx136])) : Option (Nat × va_E)) := hO149
          replace hO150 : w148[11]? = (some (q 11, .inl (g 0, (220 : Int32).toNatClampNeg, .inl lx137)) : Option (Nat × va_E)) := hO150
          replace hO151 : w148[k3]? = (some (q k3, .inr (2, [.ref (q (k3 + 1)), .int t2_0, .int t2_1])) : Option (Nat × va_E)) := hO151
          replace hO152 : w148[k3 + 1]? = (some (q (k3 + 1), .inl (g 0, R.toNatClampNeg, .inl t3_0)) : Option (Nat × va_E)) := hO152
          replace hO153 : w148[k4]? = (some (q k4, .inr (2, [.ref (q (k4 + 1)), .int t4_0, .int t4_1])) : Option (Nat × va_E)) := hO153
          replace hO154 : w148[k4 + 1]? = (some (q (k4 + 1), .inl (g 0, R2.toNatClampNeg, .inl t5_0)) : Option (Nat × va_E)) := hO154
          refine lv_iload hx hb d_8_11_88 (lv_at hl 0 rfl) ?_
          refine lv_iload hx hb d_8_11_90 (lv_at hl 5 rfl) ?_
          refine lv_icmp_ge (tgt := 164) hx hb d_8_11_92 (by decide) (fun c160 => ?_) (fun c160 => ?_)
          ·
            refine lv_aload_n hx hb d_8_11_164 rfl (lv_at hl 6 rfl) ?_
            have hO162 := n_o9 hI
            refine q_get (ci := 4) (j := 0) (v := .ref (q 10)) C0 V i_Mil rfl rfl hO162 (by decide) w_108 rfl d_8_11_165 ?_
            refine q_gov V (q_runV (As := []) (rest := []) (d := 1) (mc := 0) (ms := 0) (ci := 2) C0 V rfl LV_Mil_142 (X_Big_trim l D g q w148 10 220 (n_b10 g q) (by decide)  hI lx135 lx136 hO149 lx137 hO150  _) rfl rfl hO149 rfl hl.1 rfl (Nat.le_of_ble_eq_true rfl) ⟨by decide, by decide⟩ ⟨Nat.le_of_ble_eq_true rfl, Nat.le_of_ble_eq_true rfl⟩ d_8_11_168) (fun u163 H locs hp164 V => ?_)
            obtain ⟨hI, hZ9⟩ := hp164
            obtain ⟨hu173, hZ9⟩ := hZ9
            obtain ⟨y166, hZ9⟩ := hZ9
            obtain ⟨y167, hZ9⟩ := hZ9
            obtain ⟨hO165, hZ9⟩ := hZ9
            obtain ⟨b168, hZ9⟩ := hZ9
            obtain ⟨b169, hZ9⟩ := hZ9
            replace hZ9 := hZ9.2
            obtain ⟨b171, hE172⟩ := hZ9
            replace hO165 : u163[10]? = (some (q 10, .inr (2, [.ref (q 11), .int y166, .int y167])) : Option (Nat × va_E)) := hO165
            obtain ⟨p174, e175⟩ : ∃ z, z = (F_Big_trim (220 : Int32) lx135 lx136 lx137) := ⟨_, rfl⟩
            have e176 : y166 = p174.1 := congrArg (fun z => z.1) (hE172.trans e175.symm)
            have e177 : y167 = p174.2 := congrArg (fun z => z.2) (hE172.trans e175.symm)
            replace b168 : q_F (0 ≤ y167.toInt) := b168
            replace b169 : q_F (y166.toInt ≤ lx135.toInt) := b169
            replace b171 : q_F (y167.toInt ≤ y166.toInt) := b171
            replace hO150 := (hu173 _ (by decide)).trans hO150
            replace hO162 := (hu173 _ (by decide)).trans hO162
            replace hF := q_uc hF hu173 (by first | exact (q_sk (q_mi 0 rfl) q_s0) | simp)
            have hR178 := (show F_Mil_mixBits_c168 (F_Mil_mixBits_L88 x2 R R2 t0_0 t0_1 t1_0 t2_0 t2_1 t3_0 t4_0 t4_1 t5_0 a40 a33 a28 lx45 lx60 lx80 lx95 p122 fm159) x2 R R2 t0_0 t0_1 t1_0 t2_0 t2_1 t3_0 t4_0 t4_1 t5_0 a40 a33 a28 lx45 lx60 lx80 lx95 p122 lx133 lx134 lx135 lx136 lx137 p174 = (F_Mil_mixBits x2 R R2 t0_0 t0_1 t1_0 t2_0 t2_1 t3_0 t4_0 t4_1 t5_0) from Eq.trans (by rw [e175, F_Mil_mixBits_L88.eq_2, if_pos c160]) hR155)
            refine lv_aload_n hx hb d_8_11_171 rfl (lv_at hl 6 rfl) ?_
            refine q_get (ci := 4) (j := 0) (v := .ref (q 10)) C0 V i_Mil rfl rfl hO162 (by decide) w_108 rfl d_8_11_172 ?_
            refine lv_iload hx hb d_8_11_175 (lv_at hl 2 rfl) ?_
            refine q_put (ci := 2) (j := 2) (v := .int lx80) (ty := .boolean) C0 V i_Big o_Big n_Big rfl rfl hO165 (by decide) w_96 rfl rfl (q_nz01 (q_Ile (x := 0) (y := lx80.toInt) (by decide) rfl (by first | with_reducible exact q_fe i88 | (have t1 : 0 ≤ lx80.toInt := i88; omega))) (q_Ile (x := lx80.toInt) (y := 1) rfl (by decide) (by first | with_reducible exact q_fe i89 | (have t1 : lx80.toInt ≤ 1 := i89; omega)))) (q_fz01 (q_Ile (x := 0) (y := lx80.toInt) (by decide) rfl (by first | with_reducible exact q_fe i88 | (have t1 : 0 ≤ lx80.toInt := i88; omega))) (q_Ile (x := lx80.toInt) (y := 1) rfl (by decide) (by first | with_reducible exact q_fe i89 | (have t1 : lx80.toInt ≤ 1 := i89; omega)))) (Nat.le_of_ble_eq_true rfl) d_8_11_177 (fun H locs w183 hu184 hO165 V => ?_)
            replace hO165 : w183[10]? = (some (q 10, .inr (2, [.ref (q 11), .int y166, .int lx80])) : Option (Nat × va_E)) := hO165
            replace hI := q_bigO' hI (n_b10 g q) hu184 hO165 ⟨(by have zR : (220 : Int32).toInt = 220 := rfl; have t1 : 0 ≤ y167.toInt := b168; have t2 : y167.toInt ≤ y166.toInt := b171; omega), (by have zR : (220 : Int32).toInt = 220 := rfl; have t1 : lx135.toInt ≤ 220 := i139; have t2 : y166.toInt ≤ lx135.toInt := b169; omega)⟩ ⟨(by first | with_reducible exact q_fe i88 | (have t1 : 0 ≤ lx80.toInt := i88; omega)), (by first | with_reducible exact q_fe i89 | (have t1 : lx80.toInt ≤ 1 := i89; omega))⟩
            replace hO150 := (hu184 _ (by decide)).trans hO150
            replace hF := q_us hF hu184 (by simp)
            exact q_retv C0 V (⟨hI, hF, y166, lx80, lx137, hO165, hO150, (show 0 ≤ y166.toInt from (by have t1 : 0 ≤ y167.toInt := b168; have t2 : y167.toInt ≤ y166.toInt := b171; omega)), (show y166.toInt ≤ 220 from (by have t1 : lx135.toInt ≤ 220 := i139; have t2 : y166.toInt ≤ lx135.toInt := b169; omega)), (show 0 ≤ lx80.toInt from (by first | with_reducible exact q_fe i88 | (have t1 : 0 ≤ lx80.toInt := i88; omega))), (show lx80.toInt ≤ 1 from (by first | with_reducible exact q_fe i89 | (have t1 : lx80.toInt ≤ 1 := i89; omega))), (show (y166, lx80, lx137) = (F_Mil_mixBits x2 R R2 t0_0 t0_1 t1_0 t2_0 t2_1 t3_0 t4_0 t4_1 t5_0) from Eq.trans (by rw [e176, F_Mil_mixBits_c168.eq_1]) hR178)⟩) d_8_11_180
          ·
            have b185 : q_F (lx133.toInt < a28.toInt) := (q_nleI c160)
            refine lv_iload_n hx hb d_8_11_95 rfl (lv_at hl 7 rfl) ?_
            refine lv_aload_n hx hb d_8_11_96 rfl (lv_at hl 8 rfl) ?_
            refine lv_iload hx hb d_8_11_97 (lv_at hl 0 rfl) ?_
            refine lv_iload hx hb d_8_11_99 (lv_at hl 4 rfl) ?_
            refine q_goi V (q_runV (As := [.int lx133, .int a33]) (rest := [.int x2]) (d := 2) (mc := 0) (ms := 0) (ci := 2) C0 V rfl LV_Mil_135 (X_Big_endlessLimb l D g q w148 k3 R hB3 zk3 lx133 a33 hI t2_0 t2_1 hO151 t3_0 hO152  _) rfl rfl hO151 rfl hl.1 rfl (Nat.le_of_ble_eq_true rfl) ⟨by decide, by decide⟩ ⟨Nat.le_of_ble_eq_true rfl, Nat.le_of_ble_eq_true rfl⟩ d_8_11_101) (fun a188 u186 H locs hp187 V => ?_)
            obtain ⟨rfl, hE189⟩ := hp187
            have e190 : a188 = (F_Big_endlessLimb R lx133 a33 t2_0 t2_1 t3_0) := hE189
            refine lv_aload_n hx hb d_8_11_104 rfl (lv_at hl 9 rfl) ?_
            refine lv_iload hx hb d_8_11_105 (lv_at hl 0 rfl) ?_
            refine lv_iload hx hb d_8_11_107 (lv_at hl 3 rfl) ?_
            refine q_goi V (q_runV (As := [.int lx133, .int a40]) (rest := [.int a188, .int x2]) (d := 2) (mc := 0) (ms := 0) (ci := 2) C0 V rfl LV_Mil_135 (X_Big_endlessLimb l D g q w148 k4 R2 hB4 zk4 lx133 a40 hI t4_0 t4_1 hO153 t5_0 hO154  _) rfl rfl hO153 rfl hl.1 rfl (Nat.le_of_ble_eq_true rfl) ⟨by decide, by decide⟩ ⟨Nat.le_of_ble_eq_true rfl, Nat.le_of_ble_eq_true rfl⟩ d_8_11_109) (fun a193 u191 H locs hp192 V => ?_)
            obtain ⟨rfl, hE194⟩ := hp192
            have e195 : a193 = (F_Big_endlessLimb R2 lx133 a40 t4_0 t4_1 t5_0) := hE194
            refine q_goi V (q_runS (As := [.int x2, .int a188, .int a193]) (rest := []) (d := 1) (mc := 0) (ms := 0) C0 V rfl LS_Mil_131 (X_Mil_mixed l D g q w148  x2 a188 a193 hI   _) rfl hl.1 rfl (Nat.le_of_ble_eq_true rfl) ⟨by decide, by decide⟩ ⟨Nat.le_of_ble_eq_true rfl, Nat.le_of_ble_eq_true rfl⟩ d_8_11_112) (fun a198 u196 H locs hp197 V => ?_)
            obtain ⟨rfl, hE199⟩ := hp197
            have e200 : a198 = (F_Mil_mixed x2 a188 a193) := hE199
            refine lv_istore (lv' := [(10, .int a198), (9, .int lx133), (8, .int lx134), (7, .int lx80), (6, .int a40), (5, .int a33), (4, .int a28), (0, .ref (q 9)), (1, .int x2), (2, .ref (q k3)), (3, .ref (q k4))]) hx hb d_8_11_115 hl (by decide) rfl (fun ls hl => ?_)
            refine lv_iload hx hb d_8_11_117 (lv_at hl 3 rfl) ?_
            refine q_join (X := Int32) (fun z H locs ls _ => q_Wd D g (va_A ws sz) s w148 H locs ∧ lv_has ls 12 [(9, .int lx133), (8, .int lx134), (7, .int lx80), (6, .int a40), (5, .int a33), (4, .int a28), (0, .ref (q 9)), (1, .int x2), (2, .ref (q k3)), (3, .ref (q k4))] ∧ F_Mil_mixBits_J134 (F_Mil_mixBits_L88 x2 R R2 t0_0 t0_1 t1_0 t2_0 t2_1 t3_0 t4_0 t4_1 t5_0 a40 a33 a28 lx45 lx60 lx80 lx95 p122 fm159) x2 R R2 t0_0 t0_1 t1_0 t2_0 t2_1 t3_0 t4_0 t4_1 t5_0 a40 a33 a28 lx45 lx60 lx80 lx95 p122 lx133 lx134 lx135 lx136 lx137 z = (F_Mil_mixBits x2 R R2 t0_0 t0_1 t1_0 t2_0 t2_1 t3_0 t4_0 t4_1 t5_0)) (fun z => [.int z]) 134 0 0 ?_ ?_
            ·
              rintro lx201 H locs ls _ ⟨V, hl, hR209⟩
              replace hl : lv_has ls 12 [(9, .int lx133), (8, .int lx134), (7, .int lx80), (6, .int a40), (5, .int a33), (4, .int a28), (0, .ref (q 9)), (1, .int x2), (2, .ref (q k3)), (3, .ref (q k4))] := hl
              refine lv_iload hx hb d_8_11_134 (lv_at hl 1 rfl) ?_
              refine lv_iadd hx hb d_8_11_136 ?_
              obtain ⟨a214, e215⟩ := q_nm (lx201 + lx134 : Int32)
              refine q_ti (v := a214) e215 ?_
              refine lv_istore (lv' := [(11, .int a214), (9, .int lx133), (8, .int lx134), (7, .int lx80), (6, .int a40), (5, .int a33), (4, .int a28), (0, .ref (q 9)), (1, .int x2), (2, .ref (q k3)), (3, .ref (q k4))]) hx hb d_8_11_137 hl (by decide) rfl (fun ls hl => ?_)
              refine lv_aload_n hx hb d_8_11_139 rfl (lv_at hl 7 rfl) ?_
              have hO216 := n_o9 hI
              refine q_get (ci := 4) (j := 0) (v := .ref (q 10)) C0 V i_Mil rfl rfl hO216 (by decide) w_108 rfl d_8_11_140 ?_
              refine lv_iload hx hb d_8_11_143 (lv_at hl 0 rfl) ?_
              refine q_ldc C0 rfl w_1313 d_8_11_145 ?_
              refine lv_iand hx hb d_8_11_147 ?_
              obtain ⟨a217, e218⟩ := q_nm (a214 &&& 2147483647 : Int32)
              refine q_ti (v := a217) e218 ?_
              refine q_gov V (q_runV (As := [.int a217]) (rest := []) (d := 1) (mc := 0) (ms := 0) (ci := 2) C0 V rfl LV_Mil_139 (X_Big_push l D g q w148 10 220 (n_b10 g q) (by decide) a217 hI lx135 lx136 hO149 lx137 hO150  _) rfl rfl hO149 rfl hl.1 rfl (Nat.le_of_ble_eq_true rfl) ⟨by decide, by decide⟩ ⟨Nat.le_of_ble_eq_true rfl, Nat.le_of_ble_eq_true rfl⟩ d_8_11_148) (fun u220 H locs hp221 V => ?_)
              obtain ⟨hI, hZ9⟩ := hp221
              obtain ⟨hu234, hZ9⟩ := hZ9
              obtain ⟨y223, hZ9⟩ := hZ9
              obtain ⟨y224, hZ9⟩ := hZ9
              obtain ⟨f225, hZ9⟩ := hZ9
              obtain ⟨hO222, hZ9⟩ := hZ9
              obtain ⟨hA226, hZ9⟩ := hZ9
              replace hZ9 := hZ9.2
              obtain ⟨b228, hZ9⟩ := hZ9
              obtain ⟨b229, hZ9⟩ := hZ9
              obtain ⟨b230, hZ9⟩ := hZ9
              obtain ⟨b231, hZ9⟩ := hZ9
              obtain ⟨b232, hE233⟩ := hZ9
              replace hO222 : u220[10]? = (some (q 10, .inr (2, [.ref (q 11), .int y223, .int y224])) : Option (Nat × va_E)) := hO222
              replace hA226 : u220[11]? = (some (q 11, .inl (g 0, (220 : Int32).toNatClampNeg, .inl f225)) : Option (Nat × va_E)) := hA226
              obtain ⟨p235, e236⟩ : ∃ z, z = (F_Big_push (220 : Int32) a217 lx135 lx136 lx137) := ⟨_, rfl⟩
              have e237 : y223 = p235.1 := congrArg (fun z => z.1) (hE233.trans e236.symm)
              have e238 : y224 = p235.2.1 := congrArg (fun z => z.2.1) (hE233.trans e236.symm)
              have e239 : f225 = p235.2.2 := congrArg (fun z => z.2.2) (hE233.trans e236.symm)
              replace b228 : q_F (y223.toInt ≤ lx135.toInt + 1) := b228
              replace b229 : q_F (220 ≤ y223.toInt + 219) := b229
              replace b230 : q_F (y223.toInt ≤ 220) := b230
              replace b231 : q_F (lx136.toInt ≤ y224.toInt) := b231
              replace b232 : q_F (y224.toInt ≤ lx136.toInt) := b232
              replace hO151 := (hu234 _ (by first | exact (q_nc ne_k3_10 (q_nc ne_k3_11 List.not_mem_nil)) | (have z0 := zk3; simp only [List.mem_cons, List.not_mem_nil, or_false, not_or]; omega))).trans hO151
              replace hO152 := (hu234 _ (by first | exact (q_nc (q_nt1 ne_k3_9) (q_nc (q_nt1 ne_k3_10) List.not_mem_nil)) | (have z0 := zk3; simp only [List.mem_cons, List.not_mem_nil, or_false, not_or]; omega))).trans hO152
              replace hO153 := (hu234 _ (by first | exact (q_nc ne_k4_10 (q_nc ne_k4_11 List.not_mem_nil)) | (have z0 := zk4; simp only [List.mem_cons, List.not_mem_nil, or_false, not_or]; omega))).trans hO153
              replace hO154 := (hu234 _ (by first | exact (q_nc (q_nt1 ne_k4_9) (q_nc (q_nt1 ne_k4_10) List.not_mem_nil)) | (have z0 := zk4; simp only [List.mem_cons, List.not_mem_nil, or_false, not_or]; omega))).trans hO154
              replace hF := q_uc hF hu234 (by first | exact (q_sk (q_mi 0 rfl) (q_sk (q_mi 1 rfl) q_s0)) | simp)
              have hR240 := (show F_Mil_mixBits_c148 (F_Mil_mixBits_L88 x2 R R2 t0_0 t0_1 t1_0 t2_0 t2_1 t3_0 t4_0 t4_1 t5_0 a40 a33 a28 lx45 lx60 lx80 lx95 p122 fm159) x2 R R2 t0_0 t0_1 t1_0 t2_0 t2_1 t3_0 t4_0 t4_1 t5_0 a40 a33 a28 lx45 lx60 lx80 lx95 p122 lx133 lx134 lx135 lx136 lx137 lx201 a214 p235 = (F_Mil_mixBits x2 R R2 t0_0 t0_1 t1_0 t2_0 t2_1 t3_0 t4_0 t4_1 t5_0) from Eq.trans (by rw [e236, ← e218, ← e215, F_Mil_mixBits_J134.eq_1]) hR209)
              refine lv_iload hx hb d_8_11_151 (lv_at hl 0 rfl) ?_
              refine lv_bipush (v := 31) hx hb d_8_11_153 (by decide) ?_
              refine lv_iushr hx hb d_8_11_155 rfl ?_
              obtain ⟨a245, e246⟩ := q_nm ((a214.toUInt32 >>> ((31 : Int32).toUInt32 &&& Int32.toUInt32 31)).toInt32 : Int32)
              refine q_ti (v := a245) e246 ?_
              have b247 : q_F (0 ≤ a245.toInt ∧ a245.toInt ≤ 1) := (by rw [← e246]; show 0 ≤ ((a214.toUInt32 >>> ((31 : Int32).toUInt32 &&& Int32.toUInt32 31)).toInt32 : Int32).toInt ∧ ((a214.toUInt32 >>> ((31 : Int32).toUInt32 &&& Int32.toUInt32 31)).toInt32 : Int32).toInt ≤ 1; exact (by have z := s_ushr (x := a214) (c := 31) 31 (by decide) (by decide); omega))
              refine lv_istore (lv' := [(8, .int a245), (11, .int a214), (9, .int lx133), (7, .int lx80), (6, .int a40), (5, .int a33), (4, .int a28), (0, .ref (q 9)), (1, .int x2), (2, .ref (q k3)), (3, .ref (q k4))]) hx hb d_8_11_156 hl (by decide) rfl (fun ls hl => ?_)
              obtain ⟨a248, e249⟩ := q_nm (lx133 + 1 : Int32)
              have b250 : q_F (a248.toInt = lx133.toInt + 1) := (by rw [← e249]; exact q_addI (y := 1) rfl (by decide) (by have _ := q_lo32 (x := lx133); have _ := q_hi32 (x := lx133); have t1 : lx133.toInt ≤ 221 := i138; omega) (by have _ := q_lo32 (x := lx133); have _ := q_hi32 (x := lx133); have t1 : lx133.toInt ≤ 221 := i138; omega))
              refine lv_iinc (v := a248) (lv' := [(9, .int a248), (8, .int a245), (11, .int a214), (7, .int lx80), (6, .int a40), (5, .int a33), (4, .int a28), (0, .ref (q 9)), (1, .int x2), (2, .ref (q k3)), (3, .ref (q k4))]) hx hb d_8_11_158 hl (k := 2) rfl (e249) (by decide) rfl (fun ls hl => ?_)
              refine lv_goto (tgt := 88) hx hb d_8_11_161 (by decide) ?_
              exact ih147 ((a248 : Int32), (a245 : Int32), (y223 : Int32), (y224 : Int32), (f225 : (Nat → Int32))) _ _ _ _ (show (221 - a248.toInt).toNat < (221 - lx133.toInt).toNat from by have t1 : a248.toInt = lx133.toInt + 1 := b250; have t2 : lx133.toInt ≤ 221 := i138; have t3 : 0 ≤ R.toInt ∧ R.toInt ≤ 220 := hfk30; have t4 : 0 ≤ R2.toInt ∧ R2.toInt ≤ 220 := hfk40; have t5 : 0 ≤ t2_0.toInt ∧ t2_0.toInt ≤ R.toInt := btt2_0; have t6 : 0 ≤ t4_0.toInt ∧ t4_0.toInt ≤ R2.toInt := btt4_0; have t7 : t2_0.toInt ≤ a25.toInt ∧ t4_0.toInt ≤ a25.toInt ∧ (a25.toInt = t2_0.toInt ∨ a25.toInt = t4_0.toInt) := b27; have t8 : a28.toInt = a25.toInt + 1 := b30; have t9 : lx133.toInt < a28.toInt := b185; omega) ⟨(show q_F (a248.toInt ≤ 221) from (show a248.toInt ≤ 221 from by have t1 : 0 ≤ R.toInt ∧ R.toInt ≤ 220 := hfk30; have t2 : 0 ≤ R2.toInt ∧ R2.toInt ≤ 220 := hfk40; have t3 : 0 ≤ t2_0.toInt ∧ t2_0.toInt ≤ R.toInt := btt2_0; have t4 : 0 ≤ t4_0.toInt ∧ t4_0.toInt ≤ R2.toInt := btt4_0; have t5 : t2_0.toInt ≤ a25.toInt ∧ t4_0.toInt ≤ a25.toInt ∧ (a25.toInt = t2_0.toInt ∨ a25.toInt = t4_0.toInt) := b27; have t6 : a28.toInt = a25.toInt + 1 := b30; have t7 : lx133.toInt < a28.toInt := b185; have t8 : a248.toInt = lx133.toInt + 1 := b250; omega)), (show q_F (y223.toInt ≤ 220) from (show y223.toInt ≤ 220 from by have t1 : y223.toInt ≤ 220 := b230; omega)), (show q_F (y224.toInt ≤ a245.toInt) from (show y224.toInt ≤ a245.toInt from by have t1 : lx136.toInt ≤ lx134.toInt := i140; have t2 : lx134.toInt + lx136.toInt ≤ 1 := i143; have t3 : y224.toInt ≤ lx136.toInt := b232; have t4 : 0 ≤ a245.toInt ∧ a245.toInt ≤ 1 := b247; omega)), (show q_F (a245.toInt ≤ y224.toInt + 1) from (show a245.toInt ≤ y224.toInt + 1 from by have t1 : lx134.toInt ≤ lx136.toInt + 1 := i141; have t2 : 0 ≤ lx134.toInt + lx136.toInt := i142; have t3 : lx136.toInt ≤ y224.toInt := b231; have t4 : 0 ≤ a245.toInt ∧ a245.toInt ≤ 1 := b247; omega)), (show q_F (0 ≤ a245.toInt + y224.toInt) from (show 0 ≤ a245.toInt + y224.toInt from by have t1 : lx134.toInt ≤ lx136.toInt + 1 := i141; have t2 : 0 ≤ lx134.toInt + lx136.toInt := i142; have t3 : lx136.toInt ≤ y224.toInt := b231; have t4 : 0 ≤ a245.toInt ∧ a245.toInt ≤ 1 := b247; omega)), (show q_F (a245.toInt + y224.toInt ≤ 1) from (show a245.toInt + y224.toInt ≤ 1 from by have t1 : lx136.toInt ≤ lx134.toInt := i140; have t2 : lx134.toInt + lx136.toInt ≤ 1 := i143; have t3 : y224.toInt ≤ lx136.toInt := b232; have t4 : 0 ≤ a245.toInt ∧ a245.toInt ≤ 1 := b247; omega)), (show q_F (y223.toInt ≤ a248.toInt + y114.toInt) from (show y223.toInt ≤ a248.toInt + y114.toInt from by have t1 : lx135.toInt ≤ lx133.toInt + y114.toInt := i144; have t2 : y223.toInt ≤ lx135.toInt + 1 := b228; have t3 : a248.toInt = lx133.toInt + 1 := b250; omega)), (show q_F (lx95.toInt + y114.toInt ≤ a245.toInt + y223.toInt) from (show lx95.toInt + y114.toInt ≤ a245.toInt + y223.toInt from by have t1 : lx80.toInt ≤ 1 := i89; have t2 : lx95.toInt ≤ lx80.toInt := i104; have t3 : y115.toInt ≤ 0 := b117; have t4 : y114.toInt ≤ y115.toInt := b119; have t5 : 220 ≤ y223.toInt + 219 := b229; have t6 : 0 ≤ a245.toInt ∧ a245.toInt ≤ 1 := b247; omega)), (show q_F (a245.toInt + y114.toInt ≤ y223.toInt + lx95.toInt) from (show a245.toInt + y114.toInt ≤ y223.toInt + lx95.toInt from by have t1 : 0 ≤ lx80.toInt := i88; have t2 : lx80.toInt ≤ lx95.toInt := i103; have t3 : y115.toInt ≤ 0 := b117; have t4 : y114.toInt ≤ y115.toInt := b119; have t5 : 220 ≤ y223.toInt + 219 := b229; have t6 : 0 ≤ a245.toInt ∧ a245.toInt ≤ 1 := b247; omega)), V, q_lw hl (q_lw1 0 rfl (q_lw1 1 rfl (q_lw1 3 rfl (q_lw1 4 rfl (q_lw1 5 rfl (q_lw1 6 rfl (q_lw1 7 rfl (q_lw1 8 rfl (q_lw1 9 rfl (q_lw1 10 rfl q_lw0)))))))))), hI, hF, hO222, hA226, hO151, hO152, hO153, hO154, ⟨fm159, Nat.lt_of_lt_of_le (show (221 - a248.toInt).toNat < (221 - lx133.toInt).toNat from by have t1 : a248.toInt = lx133.toInt + 1 := b250; have t2 : lx133.toInt ≤ 221 := i138; have t3 : 0 ≤ R.toInt ∧ R.toInt ≤ 220 := hfk30; have t4 : 0 ≤ R2.toInt ∧ R2.toInt ≤ 220 := hfk40; have t5 : 0 ≤ t2_0.toInt ∧ t2_0.toInt ≤ R.toInt := btt2_0; have t6 : 0 ≤ t4_0.toInt ∧ t4_0.toInt ≤ R2.toInt := btt4_0; have t7 : t2_0.toInt ≤ a25.toInt ∧ t4_0.toInt ≤ a25.toInt ∧ (a25.toInt = t2_0.toInt ∨ a25.toInt = t4_0.toInt) := b27; have t8 : a28.toInt = a25.toInt + 1 := b30; have t9 : lx133.toInt < a28.toInt := b185; omega) (Nat.le_of_lt_succ hf158), (show F_Mil_mixBits_L88 x2 R R2 t0_0 t0_1 t1_0 t2_0 t2_1 t3_0 t4_0 t4_1 t5_0 a40 a33 a28 lx45 lx60 lx80 lx95 p122 fm159 a248 a245 y223 y224 f225 = (F_Mil_mixBits x2 R R2 t0_0 t0_1 t1_0 t2_0 t2_1 t3_0 t4_0 t4_1 t5_0) from Eq.trans (by rw [← e249, ← e246, e239, e238, e237, F_Mil_mixBits_c148.eq_1]) hR240)⟩⟩
            ·
              intro J208
              refine lv_if_eq (tgt := 132) hx hb d_8_11_119 (by decide) (fun c251 => ?_) (fun c251 => ?_)
              ·
                refine lv_iload hx hb d_8_11_132 (lv_at hl 0 rfl) ?_
                exact J208 ((a198 : Int32)) _ _ _ w148 ⟨V, q_lw hl (q_lw1 1 rfl (q_lw1 2 rfl (q_lw1 3 rfl (q_lw1 4 rfl (q_lw1 5 rfl (q_lw1 6 rfl (q_lw1 7 rfl (q_lw1 8 rfl (q_lw1 9 rfl (q_lw1 10 rfl q_lw0)))))))))), (show F_Mil_mixBits_J134 (F_Mil_mixBits_L88 x2 R R2 t0_0 t0_1 t1_0 t2_0 t2_1 t3_0 t4_0 t4_1 t5_0 a40 a33 a28 lx45 lx60 lx80 lx95 p122 fm159) x2 R R2 t0_0 t0_1 t1_0 t2_0 t2_1 t3_0 t4_0 t4_1 t5_0 a40 a33 a28 lx45 lx60 lx80 lx95 p122 lx133 lx134 lx135 lx136 lx137 a198 = (F_Mil_mixBits x2 R R2 t0_0 t0_1 t1_0 t2_0 t2_1 t3_0 t4_0 t4_1 t5_0) from Eq.trans (by rw [e200, e195, e190, F_Mil_mixBits_L88.eq_2, if_neg c160, if_pos c251]) hR155)⟩
              ·
                refine lv_iload hx hb d_8_11_122 (lv_at hl 0 rfl) ?_
                refine lv_iconst (v := (-1)) hx hb d_8_11_124 (by decide) ?_
                refine lv_ixor hx hb d_8_11_125 ?_
                obtain ⟨a254, e255⟩ := q_nm (a198 ^^^ (-1) : Int32)
                refine q_ti (v := a254) e255 ?_
                refine q_ldc C0 rfl w_1313 d_8_11_126 ?_
                refine lv_iand hx hb d_8_11_128 ?_
                obtain ⟨a256, e257⟩ := q_nm (a254 &&& 2147483647 : Int32)
                refine q_ti (v := a256) e257 ?_
                refine lv_goto (tgt := 134) hx hb d_8_11_129 (by decide) ?_
                exact J208 ((a256 : Int32)) _ _ _ w148 ⟨V, q_lw hl (q_lw1 1 rfl (q_lw1 2 rfl (q_lw1 3 rfl (q_lw1 4 rfl (q_lw1 5 rfl (q_lw1 6 rfl (q_lw1 7 rfl (q_lw1 8 rfl (q_lw1 9 rfl (q_lw1 10 rfl q_lw0)))))))))), (show F_Mil_mixBits_J134 (F_Mil_mixBits_L88 x2 R R2 t0_0 t0_1 t1_0 t2_0 t2_1 t3_0 t4_0 t4_1 t5_0 a40 a33 a28 lx45 lx60 lx80 lx95 p122 fm159) x2 R R2 t0_0 t0_1 t1_0 t2_0 t2_1 t3_0 t4_0 t4_1 t5_0 a40 a33 a28 lx45 lx60 lx80 lx95 p122 lx133 lx134 lx135 lx136 lx137 a256 = (F_Mil_mixBits x2 R R2 t0_0 t0_1 t1_0 t2_0 t2_1 t3_0 t4_0 t4_1 t5_0) from Eq.trans (by rw [← e257, ← e255, e200, e195, e190, F_Mil_mixBits_L88.eq_2, if_neg c160, if_neg c251]) hR155)⟩
        ·
          intro J102
          refine lv_if_eq (tgt := 75) hx hb d_8_11_68 (by decide) (fun c259 => ?_) (fun c259 => ?_)
          ·
            have b260 : q_F (lx80.toInt = 0) := (q_eqI c259)
            refine lv_iconst (v := 0) hx hb d_8_11_75 (by decide) ?_
            exact J102 ((0 : Int32)) _ _ _ ws ⟨(show q_F (lx80.toInt ≤ 0) from (show lx80.toInt ≤ 0 from by have t1 : lx80.toInt = 0 := b260; omega)), (show q_F (0 ≤ lx80.toInt) from (show 0 ≤ lx80.toInt from by have t1 : 0 ≤ lx80.toInt := i88; omega)), V, q_lw hl (q_lw1 0 rfl (q_lw1 1 rfl (q_lw1 2 rfl (q_lw1 3 rfl (q_lw1 4 rfl (q_lw1 5 rfl (q_lw1 6 rfl (q_lw1 7 rfl q_lw0)))))))), (show F_Mil_mixBits_J76 x2 R R2 t0_0 t0_1 t1_0 t2_0 t2_1 t3_0 t4_0 t4_1 t5_0 a40 a33 a28 lx45 lx60 lx80 0 = (F_Mil_mixBits x2 R R2 t0_0 t0_1 t1_0 t2_0 t2_1 t3_0 t4_0 t4_1 t5_0) from Eq.trans (by rw [F_Mil_mixBits_J64.eq_1, if_pos c259]) hR90)⟩
          ·
            have b261 : q_F (lx80.toInt ≠ 0) := (q_neI c259)
            refine lv_iconst (v := 1) hx hb d_8_11_71 (by decide) ?_
            refine lv_goto (tgt := 76) hx hb d_8_11_72 (by decide) ?_
            exact J102 ((1 : Int32)) _ _ _ ws ⟨(show q_F (lx80.toInt ≤ 1) from (show lx80.toInt ≤ 1 from by have t1 : lx80.toInt ≤ 1 := i89; omega)), (show q_F (1 ≤ lx80.toInt) from (show 1 ≤ lx80.toInt from by have t1 : 0 ≤ lx80.toInt := i88; have t2 : lx80.toInt ≠ 0 := b261; omega)), V, q_lw hl (q_lw1 0 rfl (q_lw1 1 rfl (q_lw1 2 rfl (q_lw1 3 rfl (q_lw1 4 rfl (q_lw1 5 rfl (q_lw1 6 rfl (q_lw1 7 rfl q_lw0)))))))), (show F_Mil_mixBits_J76 x2 R R2 t0_0 t0_1 t1_0 t2_0 t2_1 t3_0 t4_0 t4_1 t5_0 a40 a33 a28 lx45 lx60 lx80 1 = (F_Mil_mixBits x2 R R2 t0_0 t0_1 t1_0 t2_0 t2_1 t3_0 t4_0 t4_1 t5_0) from Eq.trans (by rw [F_Mil_mixBits_J64.eq_1, if_neg c259]) hR90)⟩
      ·
        intro J87
        refine lv_icmp_ne (tgt := 63) hx hb d_8_11_56 (by decide) (fun c262 => ?_) (fun c262 => ?_)
        ·
          refine lv_iconst (v := 0) hx hb d_8_11_63 (by decide) ?_
          exact J87 ((0 : Int32)) _ _ _ ws ⟨(show q_F (0 ≤ 0) from (show 0 ≤ 0 from by omega)), (show q_F (0 ≤ 1) from (show 0 ≤ 1 from by omega)), V, q_lw hl (q_lw1 0 rfl (q_lw1 1 rfl (q_lw1 2 rfl (q_lw1 3 rfl (q_lw1 4 rfl (q_lw1 5 rfl (q_lw1 6 rfl q_lw0))))))), (show F_Mil_mixBits_J64 x2 R R2 t0_0 t0_1 t1_0 t2_0 t2_1 t3_0 t4_0 t4_1 t5_0 a40 a33 a28 lx45 lx60 0 = (F_Mil_mixBits x2 R R2 t0_0 t0_1 t1_0 t2_0 t2_1 t3_0 t4_0 t4_1 t5_0) from Eq.trans (by have c262x := c262; rw [e79] at c262x; rw [F_Mil_mixBits_J52.eq_1, if_neg c262x]) hR70)⟩
        ·
          refine lv_iconst (v := 1) hx hb d_8_11_59 (by decide) ?_
          refine lv_goto (tgt := 64) hx hb d_8_11_60 (by decide) ?_
          exact J87 ((1 : Int32)) _ _ _ ws ⟨(show q_F (0 ≤ 1) from (show 0 ≤ 1 from by omega)), (show q_F (1 ≤ 1) from (show 1 ≤ 1 from by omega)), V, q_lw hl (q_lw1 0 rfl (q_lw1 1 rfl (q_lw1 2 rfl (q_lw1 3 rfl (q_lw1 4 rfl (q_lw1 5 rfl (q_lw1 6 rfl q_lw0))))))), (show F_Mil_mixBits_J64 x2 R R2 t0_0 t0_1 t1_0 t2_0 t2_1 t3_0 t4_0 t4_1 t5_0 a40 a33 a28 lx45 lx60 1 = (F_Mil_mixBits x2 R R2 t0_0 t0_1 t1_0 t2_0 t2_1 t3_0 t4_0 t4_1 t5_0) from Eq.trans (by have c262x := c262; rw [e79] at c262x; rw [F_Mil_mixBits_J52.eq_1, if_pos c262x]) hR70)⟩
    ·
      intro J67
      refine lv_if_eq (tgt := 51) hx hb d_8_11_44 (by decide) (fun c265 => ?_) (fun c265 => ?_)
      ·
        have b266 : q_F (t4_1.toInt = 0) := (q_eqI c265)
        refine lv_iconst (v := 0) hx hb d_8_11_51 (by decide) ?_
        exact J67 ((0 : Int32)) _ _ _ ws ⟨(show q_F (t4_1.toInt ≤ 0) from (show t4_1.toInt ≤ 0 from by have t1 : t4_1.toInt = 0 := b266; omega)), (show q_F (0 ≤ t4_1.toInt) from (show 0 ≤ t4_1.toInt from by have t1 : 0 ≤ t4_1.toInt ∧ t4_1.toInt ≤ 1 := btt4_1; omega)), V, q_lw hl (q_lw1 0 rfl (q_lw1 1 rfl (q_lw1 2 rfl (q_lw1 3 rfl (q_lw1 4 rfl (q_lw1 5 rfl (q_lw1 6 rfl q_lw0))))))), (show F_Mil_mixBits_J52 x2 R R2 t0_0 t0_1 t1_0 t2_0 t2_1 t3_0 t4_0 t4_1 t5_0 a40 a33 a28 lx45 0 = (F_Mil_mixBits x2 R R2 t0_0 t0_1 t1_0 t2_0 t2_1 t3_0 t4_0 t4_1 t5_0) from Eq.trans (by rw [F_Mil_mixBits_J40.eq_1, if_pos c265]) hR55)⟩
      ·
        have b267 : q_F (t4_1.toInt ≠ 0) := (q_neI c265)
        refine lv_iconst (v := 1) hx hb d_8_11_47 (by decide) ?_
        refine lv_goto (tgt := 52) hx hb d_8_11_48 (by decide) ?_
        exact J67 ((1 : Int32)) _ _ _ ws ⟨(show q_F (t4_1.toInt ≤ 1) from (show t4_1.toInt ≤ 1 from by have t1 : 0 ≤ t4_1.toInt ∧ t4_1.toInt ≤ 1 := btt4_1; omega)), (show q_F (1 ≤ t4_1.toInt) from (show 1 ≤ t4_1.toInt from by have t1 : 0 ≤ t4_1.toInt ∧ t4_1.toInt ≤ 1 := btt4_1; have t2 : t4_1.toInt ≠ 0 := b267; omega)), V, q_lw hl (q_lw1 0 rfl (q_lw1 1 rfl (q_lw1 2 rfl (q_lw1 3 rfl (q_lw1 4 rfl (q_lw1 5 rfl (q_lw1 6 rfl q_lw0))))))), (show F_Mil_mixBits_J52 x2 R R2 t0_0 t0_1 t1_0 t2_0 t2_1 t3_0 t4_0 t4_1 t5_0 a40 a33 a28 lx45 1 = (F_Mil_mixBits x2 R R2 t0_0 t0_1 t1_0 t2_0 t2_1 t3_0 t4_0 t4_1 t5_0) from Eq.trans (by rw [F_Mil_mixBits_J40.eq_1, if_neg c265]) hR55)⟩
  ·
    intro J52
    refine lv_if_eq (tgt := 39) hx hb d_8_11_32 (by decide) (fun c268 => ?_) (fun c268 => ?_)
    ·
      have b269 : q_F (t2_1.toInt = 0) := (q_eqI c268)
      refine lv_iconst (v := 0) hx hb d_8_11_39 (by decide) ?_
      exact J52 ((0 : Int32)) _ _ _ ws ⟨(show q_F (t2_1.toInt ≤ 0) from (show t2_1.toInt ≤ 0 from by have t1 : t2_1.toInt = 0 := b269; omega)), (show q_F (0 ≤ t2_1.toInt) from (show 0 ≤ t2_1.toInt from by have t1 : 0 ≤ t2_1.toInt ∧ t2_1.toInt ≤ 1 := btt2_1; omega)), V, q_lw hl (q_lw1 0 rfl (q_lw1 1 rfl (q_lw1 2 rfl (q_lw1 3 rfl (q_lw1 4 rfl (q_lw1 5 rfl (q_lw1 6 rfl q_lw0))))))), (show F_Mil_mixBits_J40 x2 R R2 t0_0 t0_1 t1_0 t2_0 t2_1 t3_0 t4_0 t4_1 t5_0 a40 a33 a28 0 = (F_Mil_mixBits x2 R R2 t0_0 t0_1 t1_0 t2_0 t2_1 t3_0 t4_0 t4_1 t5_0) from (by rw [e44, e37, ← e29, ← e26, F_Mil_mixBits.eq_1, if_pos c268]))⟩
    ·
      have b270 : q_F (t2_1.toInt ≠ 0) := (q_neI c268)
      refine lv_iconst (v := 1) hx hb d_8_11_35 (by decide) ?_
      refine lv_goto (tgt := 40) hx hb d_8_11_36 (by decide) ?_
      exact J52 ((1 : Int32)) _ _ _ ws ⟨(show q_F (t2_1.toInt ≤ 1) from (show t2_1.toInt ≤ 1 from by have t1 : 0 ≤ t2_1.toInt ∧ t2_1.toInt ≤ 1 := btt2_1; omega)), (show q_F (1 ≤ t2_1.toInt) from (show 1 ≤ t2_1.toInt from by have t1 : 0 ≤ t2_1.toInt ∧ t2_1.toInt ≤ 1 := btt2_1; have t2 : t2_1.toInt ≠ 0 := b270; omega)), V, q_lw hl (q_lw1 0 rfl (q_lw1 1 rfl (q_lw1 2 rfl (q_lw1 3 rfl (q_lw1 4 rfl (q_lw1 5 rfl (q_lw1 6 rfl q_lw0))))))), (show F_Mil_mixBits_J40 x2 R R2 t0_0 t0_1 t1_0 t2_0 t2_1 t3_0 t4_0 t4_1 t5_0 a40 a33 a28 1 = (F_Mil_mixBits x2 R R2 t0_0 t0_1 t1_0 t2_0 t2_1 t3_0 t4_0 t4_1 t5_0) from (by rw [e44, e37, ← e29, ← e26, F_Mil_mixBits.eq_1, if_neg c268]))⟩
def F_Mil_countFigures_c69 (K_F_Mil_countFigures_L46 : Int32 → Int32 → Int32 → Int32 → (Nat → Int32) → (Int32 × Int32 × Int32 × (Nat → Int32))) (R : Int32) (t0_0 : Int32) (t0_1 : Int32) (t1_0 : (Nat → Int32)) (t2_0 : Int32) (t2_1 : Int32) (t3_0 : (Nat → Int32)) (a40 : Int32) (p57 : (Int32 × Int32 × (Nat → Int32))) (p80 : (Int32 × Int32 × (Nat → Int32))) (lx92 : Int32) (lx93 : Int32) (lx94 : Int32) (lx95 : Int32) (lx96 : (Nat → Int32)) (p143 : (Int32 × Int32 × (Nat → Int32))) : Int32 × Int32 × Int32 × (Nat → Int32) := K_F_Mil_countFigures_L46 (lx92 + 1 : Int32) (lx93 + 1 : Int32) (p143.1 : Int32) (p143.2.1 : Int32) (p143.2.2 : (Nat → Int32))
def F_Mil_countFigures_L46 (R : Int32) (t0_0 : Int32) (t0_1 : Int32) (t1_0 : (Nat → Int32)) (t2_0 : Int32) (t2_1 : Int32) (t3_0 : (Nat → Int32)) (a40 : Int32) (p57 : (Int32 × Int32 × (Nat → Int32))) (p80 : (Int32 × Int32 × (Nat → Int32))) : Nat → Int32 → Int32 → Int32 → Int32 → (Nat → Int32) → (Int32 × Int32 × Int32 × (Nat → Int32))
  | 0, _, _, _, _, _ => default
  | fm + 1, lx92, lx93, lx94, lx95, lx96 => if (3 : Int32) ≤ lx92 then ((lx93, lx94, lx95, lx96)) else (if ((F_Big_compareSize R (220 : Int32) t2_0 t2_1 t3_0 lx94 lx95 lx96) : Int32) < (0 : Int32) then ((lx93, lx94, lx95, lx96)) else (F_Mil_countFigures_c69 (F_Mil_countFigures_L46 R t0_0 t0_1 t1_0 t2_0 t2_1 t3_0 a40 p57 p80 fm) R t0_0 t0_1 t1_0 t2_0 t2_1 t3_0 a40 p57 p80 lx92 lx93 lx94 lx95 lx96 ((F_Big_multiplySmall (220 : Int32) (10 : Int32) (0 : Int32) lx94 lx95 lx96) : (Int32 × Int32 × (Nat → Int32)))))
def F_Mil_countFigures_c41 (R : Int32) (t0_0 : Int32) (t0_1 : Int32) (t1_0 : (Nat → Int32)) (t2_0 : Int32) (t2_1 : Int32) (t3_0 : (Nat → Int32)) (a40 : Int32) (p57 : (Int32 × Int32 × (Nat → Int32))) (p80 : (Int32 × Int32 × (Nat → Int32))) : Int32 × Int32 × Int32 × (Nat → Int32) := F_Mil_countFigures_L46 R t0_0 t0_1 t1_0 t2_0 t2_1 t3_0 a40 p57 p80 ((3 - (0 : Int32).toInt).toNat + 1) 0 a40 (p80.1 : Int32) (p80.2.1 : Int32) (p80.2.2 : (Nat → Int32))
def F_Mil_countFigures_c33 (R : Int32) (t0_0 : Int32) (t0_1 : Int32) (t1_0 : (Nat → Int32)) (t2_0 : Int32) (t2_1 : Int32) (t3_0 : (Nat → Int32)) (a40 : Int32) (p57 : (Int32 × Int32 × (Nat → Int32))) : Int32 × Int32 × Int32 × (Nat → Int32) := F_Mil_countFigures_c41 R t0_0 t0_1 t1_0 t2_0 t2_1 t3_0 a40 p57 ((F_Big_timesTen (220 : Int32) a40 (p57.1 : Int32) (p57.2.1 : Int32) (p57.2.2 : (Nat → Int32))) : (Int32 × Int32 × (Nat → Int32)))
def F_Mil_countFigures (R : Int32) (t0_0 : Int32) (t0_1 : Int32) (t1_0 : (Nat → Int32)) (t2_0 : Int32) (t2_1 : Int32) (t3_0 : (Nat → Int32)) : Int32 × Int32 × Int32 × (Nat → Int32) := if t2_0 = (0 : Int32) then (((1 : Int32), t0_0, t0_1, t1_0)) else (F_Mil_countFigures_c33 R t0_0 t0_1 t1_0 t2_0 t2_1 t3_0 ((((((((F_Big_bitLength R t2_0 t2_1 t3_0) : Int32) - 1 : Int32).toInt64 : Int64) * 301029995 : Int64) / 1000000000 : Int64).toInt32 : Int32) + 1 : Int32) ((F_Big_setLong (220 : Int32) (1 : Int64) t0_0 t0_1 t1_0) : (Int32 × Int32 × (Nat → Int32))))
set_option maxRecDepth 100000 in
set_option maxHeartbeats 4000000 in
theorem X_Mil_countFigures (l : Launch) (D : va_G) (g : Nat → ClassId) (q : Nat → Nat) (ws : va_W) (k2 : Nat) (R : Int32) (hB2 : q_isBig (nsh g q) g q k2 R) (zk2 : (10 ≤ k2 ∧ k2 ≤ 32) ∨ 66 ≤ k2) (ne_k2_20 : k2 ≠ 20) (ne_k2_21 : k2 ≠ 21) (ne_k2_19 : k2 ≠ 19) (hI : q_I (nsh g q) q ws) (t0_0 : Int32) (t0_1 : Int32) (hT0 : ws[20]? = (some (q 20, .inr (2, [.ref (q 21), .int t0_0, .int t0_1])) : Option (Nat × va_E))) (t1_0 : (Nat → Int32)) (hT1 : ws[21]? = (some (q 21, .inl (g 0, (220 : Int32).toNatClampNeg, .inl t1_0)) : Option (Nat × va_E))) (t2_0 : Int32) (t2_1 : Int32) (hT2 : ws[k2]? = (some (q k2, .inr (2, [.ref (q (k2 + 1)), .int t2_0, .int t2_1])) : Option (Nat × va_E))) (t3_0 : (Nat → Int32)) (hT3 : ws[k2 + 1]? = (some (q (k2 + 1), .inl (g 0, R.toNatClampNeg, .inl t3_0)) : Option (Nat × va_E))) : q_mI l y_Mil_countFigures prog_8_method_13_code 4 (.int) 4 0 0 D g [.ref (q 9), .ref (q k2)] ws (fun r u => q_I (nsh g q) q u ∧ q_un ws u [20, 21] ∧ ∃ (u0_0 : Int32) (u0_1 : Int32) (u1_0 : (Nat → Int32)), u[20]? = (some (q 20, .inr (2, [.ref (q 21), .int u0_0, .int u0_1])) : Option (Nat × va_E)) ∧ u[21]? = (some (q 21, .inl (g 0, (220 : Int32).toNatClampNeg, .inl u1_0)) : Option (Nat × va_E)) ∧ (0 ≤ u0_0.toInt) ∧ (u0_0.toInt ≤ 220) ∧ (0 ≤ u0_1.toInt) ∧ (u0_1.toInt ≤ 1) ∧ (r, u0_0, u0_1, u1_0) = (F_Mil_countFigures R t0_0 t0_1 t1_0 t2_0 t2_1 t3_0)) := by
  intro sz
  refine q_into (by decide) (Nat.le_of_ble_eq_true rfl) ?_
  intro p e s m below meth c ls hsz C0 V hl
  have hx := C0.1
  have hb := C0.2.1
  obtain ⟨btt0_0, btt0_1⟩ := q_bigW hI (n_b20 g q) hT0
  replace btt0_0 : q_F (0 ≤ t0_0.toInt ∧ t0_0.toInt ≤ 220) := btt0_0
  replace btt0_1 : q_F (0 ≤ t0_1.toInt ∧ t0_1.toInt ≤ 1) := btt0_1
  have btt2_1 := (q_bigW hI hB2 hT2).2
  clear btt2_1
  have hF : q_un ws ws [20, 21] := q_u0
  have hl : lv_has ls 4 [(0, .ref (q 9)), (1, .ref (q k2))] := hl
  refine lv_aload_n hx hb d_8_13_0 rfl (lv_at hl 1 rfl) ?_
  refine q_get (ci := 2) (j := 1) (v := .int t2_0) C0 V i_Big rfl rfl hT2 (by decide) w_89 rfl d_8_13_1 ?_
  refine lv_if_ne (tgt := 9) hx hb d_8_13_4 (by decide) (fun c17 => ?_) (fun c17 => ?_)
  ·
    refine lv_aload_n hx hb d_8_13_9 rfl (lv_at hl 1 rfl) ?_
    refine q_goi V (q_runV (As := []) (rest := []) (d := 3) (mc := 0) (ms := 0) (ci := 2) C0 V rfl LV_Mil_85 (X_Big_bitLength l D g q ws k2 R hB2 zk2  hI t2_0 t2_1 hT2 t3_0 hT3  _) rfl rfl hT2 rfl hl.1 rfl (Nat.le_of_ble_eq_true rfl) ⟨by decide, by decide⟩ ⟨Nat.le_of_ble_eq_true rfl, Nat.le_of_ble_eq_true rfl⟩ d_8_13_10) (fun a21 u19 H locs hp20 V => ?_)
    obtain ⟨rfl, b22, b23, b24, hE25⟩ := hp20
    have e26 : a21 = (F_Big_bitLength R t2_0 t2_1 t3_0) := hE25
    clear b22
    clear b23
    clear b24
    refine lv_iconst (v := 1) hx hb d_8_13_13 (by decide) ?_
    refine lv_isub hx hb d_8_13_14 ?_
    obtain ⟨a27, e28⟩ := q_nm (a21 - 1 : Int32)
    refine q_ti (v := a27) e28 ?_
    refine lv_i2l hx hb d_8_13_15 rfl ?_
    obtain ⟨j30, e31⟩ := q_nm (a27.toInt64 : Int64)
    refine q_tl (v := j30) e31 ?_
    refine q_ldc2 C0 rfl w_764 d_8_13_16 ?_
    refine lv_lmul hx hb d_8_13_19 ?_
    obtain ⟨j33, e34⟩ := q_nm (j30 * 301029995 : Int64)
    refine q_tl (v := j33) e34 ?_
    refine q_ldc2 C0 rfl w_765 d_8_13_20 ?_
    refine lv_ldiv hx hb d_8_13_23 (by decide) ?_
    obtain ⟨j36, e37⟩ := q_nm (j33 / 1000000000 : Int64)
    refine q_tl (v := j36) e37 ?_
    refine lv_l2i hx hb d_8_13_24 rfl ?_
    obtain ⟨a38, e39⟩ := q_nm (j36.toInt32 : Int32)
    refine q_ti (v := a38) e39 ?_
    refine lv_iconst (v := 1) hx hb d_8_13_25 (by decide) ?_
    refine lv_iadd hx hb d_8_13_26 ?_
    obtain ⟨a40, e41⟩ := q_nm (a38 + 1 : Int32)
    refine q_ti (v := a40) e41 ?_
    refine lv_istore_n (lv' := [(2, .int a40), (0, .ref (q 9)), (1, .ref (q k2))]) hx hb d_8_13_27 rfl hl (by decide) rfl (fun ls hl => ?_)
    refine lv_aload_n hx hb d_8_13_28 rfl (lv_at hl 1 rfl) ?_
    have hO42 := n_o9 hI
    refine q_get (ci := 4) (j := 5) (v := .ref (q 20)) C0 V i_Mil rfl rfl hO42 (by decide) w_124 rfl d_8_13_29 ?_
    refine lv_lconst (v := 1) hx hb d_8_13_32 (by decide) ?_
    refine q_gov V (q_runV (As := [.long 1]) (rest := []) (d := 2) (mc := 0) (ms := 0) (ci := 2) C0 V rfl LV_Mil_77 (X_Big_setLong l D g q ws 20 220 (n_b20 g q) (by decide) 1 hI t0_0 t0_1 hT0 t1_0 hT1  _) rfl rfl hT0 rfl hl.1 rfl (Nat.le_of_ble_eq_true rfl) ⟨by decide, by decide⟩ ⟨Nat.le_of_ble_eq_true rfl, Nat.le_of_ble_eq_true rfl⟩ d_8_13_33) (fun u43 H locs hp44 V => ?_)
    obtain ⟨hI, hZ9⟩ := hp44
    obtain ⟨hu56, hZ9⟩ := hZ9
    obtain ⟨y46, hZ9⟩ := hZ9
    obtain ⟨y47, hZ9⟩ := hZ9
    obtain ⟨f48, hZ9⟩ := hZ9
    obtain ⟨hO45, hZ9⟩ := hZ9
    obtain ⟨hA49, hZ9⟩ := hZ9
    obtain ⟨b50, hZ9⟩ := hZ9
    replace hZ9 := hZ9.2
    obtain ⟨b52, hZ9⟩ := hZ9
    obtain ⟨b53, hZ9⟩ := hZ9
    obtain ⟨-, hE55⟩ := hZ9
    replace hO45 : u43[20]? = (some (q 20, .inr (2, [.ref (q 21), .int y46, .int y47])) : Option (Nat × va_E)) := hO45
    replace hA49 : u43[21]? = (some (q 21, .inl (g 0, (220 : Int32).toNatClampNeg, .inl f48)) : Option (Nat × va_E)) := hA49
    obtain ⟨p57, e58⟩ : ∃ z, z = (F_Big_setLong (220 : Int32) (1 : Int64) t0_0 t0_1 t1_0) := ⟨_, rfl⟩
    have e59 : y46 = p57.1 := congrArg (fun z => z.1) (hE55.trans e58.symm)
    have e60 : y47 = p57.2.1 := congrArg (fun z => z.2.1) (hE55.trans e58.symm)
    have e61 : f48 = p57.2.2 := congrArg (fun z => z.2.2) (hE55.trans e58.symm)
    replace b50 : q_F (0 ≤ y46.toInt) := b50
    replace b52 : q_F (0 ≤ y47.toInt) := b52
    replace b53 : q_F (y47.toInt ≤ 1) := b53
    replace hT2 := (hu56 _ (by first | exact (q_nc ne_k2_20 (q_nc ne_k2_21 List.not_mem_nil)) | (have z0 := zk2; simp only [List.mem_cons, List.not_mem_nil, or_false, not_or]; omega))).trans hT2
    replace hT3 := (hu56 _ (by first | exact (q_nc (q_nt1 ne_k2_19) (q_nc (q_nt1 ne_k2_20) List.not_mem_nil)) | (have z0 := zk2; simp only [List.mem_cons, List.not_mem_nil, or_false, not_or]; omega))).trans hT3
    replace hO42 := (hu56 _ (by decide)).trans hO42
    replace hF := q_uc hF hu56 (by first | exact (q_sk (q_mi 0 rfl) (q_sk (q_mi 1 rfl) q_s0)) | simp)
    have hR62 := (show F_Mil_countFigures_c33 R t0_0 t0_1 t1_0 t2_0 t2_1 t3_0 a40 p57 = (F_Mil_countFigures R t0_0 t0_1 t1_0 t2_0 t2_1 t3_0) from (by rw [e58, ← e41, ← e39, ← e37, ← e34, ← e31, ← e28, e26, F_Mil_countFigures.eq_1, if_neg c17]))
    refine lv_aload_n hx hb d_8_13_36 rfl (lv_at hl 1 rfl) ?_
    refine q_get (ci := 4) (j := 5) (v := .ref (q 20)) C0 V i_Mil rfl rfl hO42 (by decide) w_124 rfl d_8_13_37 ?_
    refine lv_iload_n hx hb d_8_13_40 rfl (lv_at hl 0 rfl) ?_
    refine q_gov V (q_runV (As := [.int a40]) (rest := []) (d := 2) (mc := 0) (ms := 0) (ci := 2) C0 V rfl LV_Mil_149 (X_Big_timesTen l D g q u43 20 220 (n_b20 g q) (by decide) a40 hI y46 y47 hO45 f48 hA49  _) rfl rfl hO45 rfl hl.1 rfl (Nat.le_of_ble_eq_true rfl) ⟨by decide, by decide⟩ ⟨Nat.le_of_ble_eq_true rfl, Nat.le_of_ble_eq_true rfl⟩ d_8_13_41) (fun u67 H locs hp68 V => ?_)
    obtain ⟨hI, hZ9⟩ := hp68
    obtain ⟨hu79, hZ9⟩ := hZ9
    obtain ⟨y70, hZ9⟩ := hZ9
    obtain ⟨y71, hZ9⟩ := hZ9
    obtain ⟨f72, hZ9⟩ := hZ9
    obtain ⟨hO69, hZ9⟩ := hZ9
    obtain ⟨hA73, hZ9⟩ := hZ9
    obtain ⟨b74, hZ9⟩ := hZ9
    obtain ⟨b75, hZ9⟩ := hZ9
    obtain ⟨b76, hZ9⟩ := hZ9
    obtain ⟨b77, hE78⟩ := hZ9
    replace hO69 : u67[20]? = (some (q 20, .inr (2, [.ref (q 21), .int y70, .int y71])) : Option (Nat × va_E)) := hO69
    replace hA73 : u67[21]? = (some (q 21, .inl (g 0, (220 : Int32).toNatClampNeg, .inl f72)) : Option (Nat × va_E)) := hA73
    obtain ⟨p80, e81⟩ : ∃ z, z = (F_Big_timesTen (220 : Int32) a40 y46 y47 f48) := ⟨_, rfl⟩
    have e82 : y70 = p80.1 := congrArg (fun z => z.1) (hE78.trans e81.symm)
    have e83 : y71 = p80.2.1 := congrArg (fun z => z.2.1) (hE78.trans e81.symm)
    have e84 : f72 = p80.2.2 := congrArg (fun z => z.2.2) (hE78.trans e81.symm)
    replace b74 : q_F (y46.toInt ≤ y70.toInt) := b74
    replace b75 : q_F (y70.toInt ≤ 220) := b75
    replace b76 : q_F (y47.toInt ≤ y71.toInt) := b76
    replace b77 : q_F (y71.toInt ≤ y47.toInt) := b77
    replace hT2 := (hu79 _ (by first | exact (q_nc ne_k2_20 (q_nc ne_k2_21 List.not_mem_nil)) | (have z0 := zk2; simp only [List.mem_cons, List.not_mem_nil, or_false, not_or]; omega))).trans hT2
    replace hT3 := (hu79 _ (by first | exact (q_nc (q_nt1 ne_k2_19) (q_nc (q_nt1 ne_k2_20) List.not_mem_nil)) | (have z0 := zk2; simp only [List.mem_cons, List.not_mem_nil, or_false, not_or]; omega))).trans hT3
    replace hF := q_uc hF hu79 (by first | exact (q_sk (q_mi 0 rfl) (q_sk (q_mi 1 rfl) q_s0)) | simp)
    have hR85 := (show F_Mil_countFigures_c41 R t0_0 t0_1 t1_0 t2_0 t2_1 t3_0 a40 p57 p80 = (F_Mil_countFigures R t0_0 t0_1 t1_0 t2_0 t2_1 t3_0) from Eq.trans (by rw [e81, e61, e60, e59, F_Mil_countFigures_c33.eq_1]) hR62)
    refine lv_iconst (v := 0) hx hb d_8_13_44 (by decide) ?_
    refine lv_istore_n (lv' := [(3, .int 0), (2, .int a40), (0, .ref (q 9)), (1, .ref (q k2))]) hx hb d_8_13_45 rfl hl (by decide) rfl (fun ls hl => ?_)
    refine q_loop (X := Int32 × Int32 × Int32 × Int32 × (Nat → Int32)) (fun z H locs ls w105 => q_F (z.1.toInt ≤ 3) ∧ q_F (y71.toInt ≤ z.2.2.2.1.toInt) ∧ q_F (z.2.2.2.1.toInt ≤ y71.toInt) ∧ q_F (z.2.2.1.toInt ≤ z.2.2.2.1.toInt + 220) ∧ q_F (z.2.2.1.toInt + z.2.2.2.1.toInt ≤ 221) ∧ q_F (z.2.2.1.toInt ≤ z.1.toInt + y70.toInt) ∧ q_F (z.2.2.2.1.toInt + y70.toInt ≤ z.2.2.1.toInt + y71.toInt) ∧ q_Wd D g (va_A ws sz) s w105 H locs ∧ lv_has ls 4 [(3, .int z.1), (2, .int z.2.1), (0, .ref (q 9)), (1, .ref (q k2))] ∧ q_I (nsh g q) q w105 ∧ q_un ws w105 [20, 21] ∧ w105[20]? = (some (q 20, .inr (2, [.ref (q 21), .int z.2.2.1, .int z.2.2.2.1])) : Option (Nat × va_E)) ∧ w105[21]? = (some (q 21, .inl (g 0, (220 : Int32).toNatClampNeg, .inl z.2.2.2.2)) : Option (Nat × va_E)) ∧ w105[k2]? = (some (q k2, .inr (2, [.ref (q (k2 + 1)), .int t2_0, .int t2_1])) : Option (Nat × va_E)) ∧ w105[k2 + 1]? = (some (q (k2 + 1), .inl (g 0, R.toNatClampNeg, .inl t3_0)) : Option (Nat × va_E)) ∧ (∃ n, (3 - z.1.toInt).toNat < n ∧ F_Mil_countFigures_L46 R t0_0 t0_1 t1_0 t2_0 t2_1 t3_0 a40 p57 p80 n z.1 z.2.1 z.2.2.1 z.2.2.2.1 z.2.2.2.2 = (F_Mil_countFigures R t0_0 t0_1 t1_0 t2_0 t2_1 t3_0))) (fun z => (3 - z.1.toInt).toNat) ?_ ((0 : Int32), (a40 : Int32), (y70 : Int32), (y71 : Int32), (f72 : (Nat → Int32))) _ _ _ u67 ⟨(show q_F (0 ≤ 3) from (show 0 ≤ 3 from by omega)), (show q_F (y71.toInt ≤ y71.toInt) from (show y71.toInt ≤ y71.toInt from by omega)), (show q_F (y71.toInt ≤ y71.toInt) from (show y71.toInt ≤ y71.toInt from by omega)), (show q_F (y70.toInt ≤ y71.toInt + 220) from (show y70.toInt ≤ y71.toInt + 220 from by have t1 : 0 ≤ y47.toInt := b52; have t2 : y70.toInt ≤ 220 := b75; have t3 : y47.toInt ≤ y71.toInt := b76; omega)), (show q_F (y70.toInt + y71.toInt ≤ 221) from (show y70.toInt + y71.toInt ≤ 221 from by have t1 : y47.toInt ≤ 1 := b53; have t2 : y70.toInt ≤ 220 := b75; have t3 : y71.toInt ≤ y47.toInt := b77; omega)), (show q_F (y70.toInt ≤ 0 + y70.toInt) from (show y70.toInt ≤ 0 + y70.toInt from by omega)), (show q_F (y71.toInt + y70.toInt ≤ y70.toInt + y71.toInt) from (show y71.toInt + y70.toInt ≤ y70.toInt + y71.toInt from by omega)), V, q_lw hl (q_lw1 0 rfl (q_lw1 1 rfl (q_lw1 2 rfl (q_lw1 3 rfl q_lw0)))), hI, hF, hO69, hA73, hT2, hT3, ⟨((3 - (0 : Int32).toInt).toNat + 1), Nat.lt_succ_self _, (show F_Mil_countFigures_L46 R t0_0 t0_1 t1_0 t2_0 t2_1 t3_0 a40 p57 p80 ((3 - (0 : Int32).toInt).toNat + 1) 0 a40 y70 y71 f72 = (F_Mil_countFigures R t0_0 t0_1 t1_0 t2_0 t2_1 t3_0) from Eq.trans (by rw [e84, e83, e82, F_Mil_countFigures_c41.eq_1]) hR85)⟩⟩
    rintro ⟨lx92, lx93, lx94, lx95, lx96⟩ H locs ls w105 ⟨i97, i98, i99, i100, i101, i102, i103, V, hl, hI, hF, hO106, hO107, hO108, hO109, ⟨fu112, hf113, hR110⟩⟩ ih104
    obtain ⟨fm114, rfl⟩ : ∃ m, fu112 = m + 1 := ⟨fu112 - 1, by omega⟩
    replace i97 : q_F (lx92.toInt ≤ 3) := i97
    replace i98 : q_F (y71.toInt ≤ lx95.toInt) := i98
    replace i99 : q_F (lx95.toInt ≤ y71.toInt) := i99
    replace i100 : q_F (lx94.toInt ≤ lx95.toInt + 220) := i100
    replace i101 : q_F (lx94.toInt + lx95.toInt ≤ 221) := i101
    replace i102 : q_F (lx94.toInt ≤ lx92.toInt + y70.toInt) := i102
    replace i103 : q_F (lx95.toInt + y70.toInt ≤ lx94.toInt + y71.toInt) := i103
    replace hl : lv_has ls 4 [(3, .int lx92), (2, .int lx93), (0, .ref (q 9)), (1, .ref (q k2))] := hl
    replace hO106 : w105[20]? = (some (q 20, .inr (2, [.ref (q 21), .int lx94, .int lx95])) : Option (Nat × va_E)) := hO106
    replace hO107 : w105[21]? = (some (q 21, .inl (g 0, (220 : Int32).toNatClampNeg, .inl lx96)) : Option (Nat × va_E)) := hO107
    replace hO108 : w105[k2]? = (some (q k2, .inr (2, [.ref (q (k2 + 1)), .int t2_0, .int t2_1])) : Option (Nat × va_E)) := hO108
    replace hO109 : w105[k2 + 1]? = (some (q (k2 + 1), .inl (g 0, R.toNatClampNeg, .inl t3_0)) : Option (Nat × va_E)) := hO109
    refine lv_iload_n hx hb d_8_13_46 rfl (lv_at hl 0 rfl) ?_
    refine lv_iconst (v := 3) hx hb d_8_13_47 (by decide) ?_
    refine lv_icmp_ge (tgt := 81) hx hb d_8_13_48 (by decide) (fun c115 => ?_) (fun c115 => ?_)
    ·
      refine lv_iload_n hx hb d_8_13_81 rfl (lv_at hl 1 rfl) ?_
      exact q_reti C0 V (⟨hI, hF, lx94, lx95, lx96, hO106, hO107, (show 0 ≤ lx94.toInt from (by have t1 : 0 ≤ y46.toInt := b50; have t2 : y46.toInt ≤ y70.toInt := b74; have t3 : y71.toInt ≤ lx95.toInt := i98; have t4 : lx95.toInt + y70.toInt ≤ lx94.toInt + y71.toInt := i103; omega)), (show lx94.toInt ≤ 220 from (by have t1 : lx94.toInt ≤ lx95.toInt + 220 := i100; have t2 : lx94.toInt + lx95.toInt ≤ 221 := i101; omega)), (show 0 ≤ lx95.toInt from (by have t1 : 0 ≤ y47.toInt := b52; have t2 : y47.toInt ≤ y71.toInt := b76; have t3 : y71.toInt ≤ lx95.toInt := i98; omega)), (show lx95.toInt ≤ 1 from (by have t1 : y47.toInt ≤ 1 := b53; have t2 : y71.toInt ≤ y47.toInt := b77; have t3 : lx95.toInt ≤ y71.toInt := i99; omega)), (show (lx93, lx94, lx95, lx96) = (F_Mil_countFigures R t0_0 t0_1 t1_0 t2_0 t2_1 t3_0) from Eq.trans (by rw [F_Mil_countFigures_L46.eq_2, if_pos c115]) hR110)⟩) d_8_13_82
    ·
      have b117 : q_F (lx92.toInt < 3) := (q_nleI c115)
      refine lv_aload_n hx hb d_8_13_51 rfl (lv_at hl 3 rfl) ?_
      refine lv_aload_n hx hb d_8_13_52 rfl (lv_at hl 2 rfl) ?_
      have hO118 := n_o9 hI
      refine q_get (ci := 4) (j := 5) (v := .ref (q 20)) C0 V i_Mil rfl rfl hO118 (by decide) w_124 rfl d_8_13_53 ?_
      refine q_goi V (q_runV (As := [.ref (q 20)]) (rest := []) (d := 2) (mc := 0) (ms := 0) (ci := 2) C0 V rfl LV_Mil_112 (X_Big_compareSize l D g q w105 k2 R hB2 zk2 20 220 (n_b20 g q) (by decide)  hI t2_0 t2_1 hO108 t3_0 hO109 lx94 lx95 hO106 lx96 hO107  _) rfl rfl hO108 rfl hl.1 rfl (Nat.le_of_ble_eq_true rfl) ⟨by decide, by decide⟩ ⟨Nat.le_of_ble_eq_true rfl, Nat.le_of_ble_eq_true rfl⟩ d_8_13_56) (fun a121 u119 H locs hp120 V => ?_)
      obtain ⟨rfl, b122, b123, hE124⟩ := hp120
      have e125 : a121 = (F_Big_compareSize R (220 : Int32) t2_0 t2_1 t3_0 lx94 lx95 lx96) := hE124
      clear b122
      clear b123
      refine lv_if_lt (tgt := 81) hx hb d_8_13_59 (by decide) (fun c126 => ?_) (fun c126 => ?_)
      ·
        refine lv_iload_n hx hb d_8_13_81 rfl (lv_at hl 1 rfl) ?_
        exact q_reti C0 V (⟨hI, hF, lx94, lx95, lx96, hO106, hO107, (show 0 ≤ lx94.toInt from (by have t1 : 0 ≤ y46.toInt := b50; have t2 : y46.toInt ≤ y70.toInt := b74; have t3 : y71.toInt ≤ lx95.toInt := i98; have t4 : lx95.toInt + y70.toInt ≤ lx94.toInt + y71.toInt := i103; omega)), (show lx94.toInt ≤ 220 from (by have t1 : lx94.toInt ≤ lx95.toInt + 220 := i100; have t2 : lx94.toInt + lx95.toInt ≤ 221 := i101; omega)), (show 0 ≤ lx95.toInt from (by have t1 : 0 ≤ y47.toInt := b52; have t2 : y47.toInt ≤ y71.toInt := b76; have t3 : y71.toInt ≤ lx95.toInt := i98; omega)), (show lx95.toInt ≤ 1 from (by have t1 : y47.toInt ≤ 1 := b53; have t2 : y71.toInt ≤ y47.toInt := b77; have t3 : lx95.toInt ≤ y71.toInt := i99; omega)), (show (lx93, lx94, lx95, lx96) = (F_Mil_countFigures R t0_0 t0_1 t1_0 t2_0 t2_1 t3_0) from Eq.trans (by have c126x := c126; rw [e125] at c126x; rw [F_Mil_countFigures_L46.eq_2, if_neg c115, if_pos c126x]) hR110)⟩) d_8_13_82
      ·
        refine lv_aload_n hx hb d_8_13_62 rfl (lv_at hl 2 rfl) ?_
        refine q_get (ci := 4) (j := 5) (v := .ref (q 20)) C0 V i_Mil rfl rfl hO118 (by decide) w_124 rfl d_8_13_63 ?_
        refine lv_bipush (v := 10) hx hb d_8_13_66 (by decide) ?_
        refine lv_iconst (v := 0) hx hb d_8_13_68 (by decide) ?_
        refine q_gov V (q_runV (As := [.int 10, .int 0]) (rest := []) (d := 1) (mc := 0) (ms := 0) (ci := 2) C0 V rfl LV_Mil_102 (X_Big_multiplySmall l D g q w105 20 220 (n_b20 g q) (by decide) 10 0 hI lx94 lx95 hO106 lx96 hO107  _) rfl rfl hO106 rfl hl.1 rfl (Nat.le_of_ble_eq_true rfl) ⟨by decide, by decide⟩ ⟨Nat.le_of_ble_eq_true rfl, Nat.le_of_ble_eq_true rfl⟩ d_8_13_69) (fun u129 H locs hp130 V => ?_)
        obtain ⟨hI, hZ9⟩ := hp130
        obtain ⟨hu142, hZ9⟩ := hZ9
        obtain ⟨y132, hZ9⟩ := hZ9
        obtain ⟨y133, hZ9⟩ := hZ9
        obtain ⟨f134, hZ9⟩ := hZ9
        obtain ⟨hO131, hZ9⟩ := hZ9
        obtain ⟨hA135, hZ9⟩ := hZ9
        obtain ⟨b136, hZ9⟩ := hZ9
        obtain ⟨b137, hZ9⟩ := hZ9
        obtain ⟨b138, hZ9⟩ := hZ9
        obtain ⟨b139, hZ9⟩ := hZ9
        obtain ⟨b140, hE141⟩ := hZ9
        replace hO131 : u129[20]? = (some (q 20, .inr (2, [.ref (q 21), .int y132, .int y133])) : Option (Nat × va_E)) := hO131
        replace hA135 : u129[21]? = (some (q 21, .inl (g 0, (220 : Int32).toNatClampNeg, .inl f134)) : Option (Nat × va_E)) := hA135
        obtain ⟨p143, e144⟩ : ∃ z, z = (F_Big_multiplySmall (220 : Int32) (10 : Int32) (0 : Int32) lx94 lx95 lx96) := ⟨_, rfl⟩
        have e145 : y132 = p143.1 := congrArg (fun z => z.1) (hE141.trans e144.symm)
        have e146 : y133 = p143.2.1 := congrArg (fun z => z.2.1) (hE141.trans e144.symm)
        have e147 : f134 = p143.2.2 := congrArg (fun z => z.2.2) (hE141.trans e144.symm)
        replace b136 : q_F (lx94.toInt ≤ y132.toInt) := b136
        replace b137 : q_F (y132.toInt ≤ lx94.toInt + 1) := b137
        replace b138 : q_F (y132.toInt ≤ 220) := b138
        replace b139 : q_F (lx95.toInt ≤ y133.toInt) := b139
        replace b140 : q_F (y133.toInt ≤ lx95.toInt) := b140
        replace hO108 := (hu142 _ (by first | exact (q_nc ne_k2_20 (q_nc ne_k2_21 List.not_mem_nil)) | (have z0 := zk2; simp only [List.mem_cons, List.not_mem_nil, or_false, not_or]; omega))).trans hO108
        replace hO109 := (hu142 _ (by first | exact (q_nc (q_nt1 ne_k2_19) (q_nc (q_nt1 ne_k2_20) List.not_mem_nil)) | (have z0 := zk2; simp only [List.mem_cons, List.not_mem_nil, or_false, not_or]; omega))).trans hO109
        replace hF := q_uc hF hu142 (by first | exact (q_sk (q_mi 0 rfl) (q_sk (q_mi 1 rfl) q_s0)) | simp)
        have hR148 := (show F_Mil_countFigures_c69 (F_Mil_countFigures_L46 R t0_0 t0_1 t1_0 t2_0 t2_1 t3_0 a40 p57 p80 fm114) R t0_0 t0_1 t1_0 t2_0 t2_1 t3_0 a40 p57 p80 lx92 lx93 lx94 lx95 lx96 p143 = (F_Mil_countFigures R t0_0 t0_1 t1_0 t2_0 t2_1 t3_0) from Eq.trans (by have c126x := c126; rw [e125] at c126x; rw [e144, F_Mil_countFigures_L46.eq_2, if_neg c115, if_neg c126x]) hR110)
        obtain ⟨a153, e154⟩ := q_nm (lx93 + 1 : Int32)
        refine lv_iinc (v := a153) (lv' := [(2, .int a153), (3, .int lx92), (0, .ref (q 9)), (1, .ref (q k2))]) hx hb d_8_13_72 hl (k := 1) rfl (e154) (by decide) rfl (fun ls hl => ?_)
        obtain ⟨a155, e156⟩ := q_nm (lx92 + 1 : Int32)
        have b157 : q_F (a155.toInt = lx92.toInt + 1) := (by rw [← e156]; exact q_addI (y := 1) rfl (by decide) (by have _ := q_lo32 (x := lx92); have _ := q_hi32 (x := lx92); have t1 : lx92.toInt ≤ 3 := i97; omega) (by have _ := q_lo32 (x := lx92); have _ := q_hi32 (x := lx92); have t1 : lx92.toInt ≤ 3 := i97; omega))
        refine lv_iinc (v := a155) (lv' := [(3, .int a155), (2, .int a153), (0, .ref (q 9)), (1, .ref (q k2))]) hx hb d_8_13_75 hl (k := 1) rfl (e156) (by decide) rfl (fun ls hl => ?_)
        refine lv_goto (tgt := 46) hx hb d_8_13_78 (by decide) ?_
        exact ih104 ((a155 : Int32), (a153 : Int32), (y132 : Int32), (y133 : Int32), (f134 : (Nat → Int32))) _ _ _ _ (show (3 - a155.toInt).toNat < (3 - lx92.toInt).toNat from by have t1 : a155.toInt = lx92.toInt + 1 := b157; have t2 : lx92.toInt ≤ 3 := i97; have t3 : lx92.toInt < 3 := b117; omega) ⟨(show q_F (a155.toInt ≤ 3) from (show a155.toInt ≤ 3 from by have t1 : lx92.toInt < 3 := b117; have t2 : a155.toInt = lx92.toInt + 1 := b157; omega)), (show q_F (y71.toInt ≤ y133.toInt) from (show y71.toInt ≤ y133.toInt from by have t1 : y71.toInt ≤ lx95.toInt := i98; have t2 : lx95.toInt ≤ y133.toInt := b139; omega)), (show q_F (y133.toInt ≤ y71.toInt) from (show y133.toInt ≤ y71.toInt from by have t1 : lx95.toInt ≤ y71.toInt := i99; have t2 : y133.toInt ≤ lx95.toInt := b140; omega)), (show q_F (y132.toInt ≤ y133.toInt + 220) from (show y132.toInt ≤ y133.toInt + 220 from by have t1 : 0 ≤ y47.toInt := b52; have t2 : y47.toInt ≤ y71.toInt := b76; have t3 : y71.toInt ≤ lx95.toInt := i98; have t4 : y132.toInt ≤ 220 := b138; have t5 : lx95.toInt ≤ y133.toInt := b139; omega)), (show q_F (y132.toInt + y133.toInt ≤ 221) from (show y132.toInt + y133.toInt ≤ 221 from by have t1 : y47.toInt ≤ 1 := b53; have t2 : y71.toInt ≤ y47.toInt := b77; have t3 : lx95.toInt ≤ y71.toInt := i99; have t4 : y132.toInt ≤ 220 := b138; have t5 : y133.toInt ≤ lx95.toInt := b140; omega)), (show q_F (y132.toInt ≤ a155.toInt + y70.toInt) from (show y132.toInt ≤ a155.toInt + y70.toInt from by have t1 : lx94.toInt ≤ lx92.toInt + y70.toInt := i102; have t2 : y132.toInt ≤ lx94.toInt + 1 := b137; have t3 : a155.toInt = lx92.toInt + 1 := b157; omega)), (show q_F (y133.toInt + y70.toInt ≤ y132.toInt + y71.toInt) from (show y133.toInt + y70.toInt ≤ y132.toInt + y71.toInt from by have t1 : lx95.toInt + y70.toInt ≤ lx94.toInt + y71.toInt := i103; have t2 : lx94.toInt ≤ y132.toInt := b136; have t3 : y133.toInt ≤ lx95.toInt := b140; omega)), V, q_lw hl (q_lw1 0 rfl (q_lw1 1 rfl (q_lw1 2 rfl (q_lw1 3 rfl q_lw0)))), hI, hF, hO131, hA135, hO108, hO109, ⟨fm114, Nat.lt_of_lt_of_le (show (3 - a155.toInt).toNat < (3 - lx92.toInt).toNat from by have t1 : a155.toInt = lx92.toInt + 1 := b157; have t2 : lx92.toInt ≤ 3 := i97; have t3 : lx92.toInt < 3 := b117; omega) (Nat.le_of_lt_succ hf113), (show F_Mil_countFigures_L46 R t0_0 t0_1 t1_0 t2_0 t2_1 t3_0 a40 p57 p80 fm114 a155 a153 y132 y133 f134 = (F_Mil_countFigures R t0_0 t0_1 t1_0 t2_0 t2_1 t3_0) from Eq.trans (by rw [← e156, ← e154, e147, e146, e145, F_Mil_countFigures_c69.eq_1]) hR148)⟩⟩
  ·
    refine lv_iconst (v := 1) hx hb d_8_13_7 (by decide) ?_
    exact q_reti C0 V (⟨hI, hF, t0_0, t0_1, t1_0, hT0, hT1, (show 0 ≤ t0_0.toInt from (by have z7 : (1 : Int32).toInt = 1 := rfl; have t1 : 0 ≤ t0_0.toInt ∧ t0_0.toInt ≤ 220 := btt0_0; omega)), (show t0_0.toInt ≤ 220 from (by have z7 : (1 : Int32).toInt = 1 := rfl; have t1 : 0 ≤ t0_0.toInt ∧ t0_0.toInt ≤ 220 := btt0_0; omega)), (show 0 ≤ t0_1.toInt from (by have z7 : (1 : Int32).toInt = 1 := rfl; have t1 : 0 ≤ t0_1.toInt ∧ t0_1.toInt ≤ 1 := btt0_1; omega)), (show t0_1.toInt ≤ 1 from (by have z7 : (1 : Int32).toInt = 1 := rfl; have t1 : 0 ≤ t0_1.toInt ∧ t0_1.toInt ≤ 1 := btt0_1; omega)), (show ((1 : Int32), t0_0, t0_1, t1_0) = (F_Mil_countFigures R t0_0 t0_1 t1_0 t2_0 t2_1 t3_0) from (by rw [F_Mil_countFigures.eq_1, if_pos c17]))⟩) d_8_13_8

def F_Mil_dropZeros_c54 (K_F_Mil_dropZeros_L3 : Int32 → Int32 → Int32 → (Nat → Int32) → Int32 → Int32 → (Nat → Int32) → (Int32 × Int32 × Int32 × (Nat → Int32) × Int32 × Int32 × (Nat → Int32))) (R : Int32) (x3 : Int64) (t0_0 : Int32) (t0_1 : Int32) (t1_0 : (Nat → Int32)) (t2_0 : Int32) (t2_1 : Int32) (t3_0 : (Nat → Int32)) (lx18 : Int32) (lx19 : Int32) (lx20 : Int32) (lx21 : (Nat → Int32)) (lx22 : Int32) (lx23 : Int32) (lx24 : (Nat → Int32)) (p81 : (Int32 × Int32 × (Nat → Int32))) (p105 : (Int32 × Int32 × Int32 × (Nat → Int32))) (y95 : Int32) (y96 : Int32) (f97 : (Nat → Int32)) (p132 : (Int32 × Int32 × (Nat → Int32))) : Int32 × Int32 × Int32 × (Nat → Int32) × Int32 × Int32 × (Nat → Int32) := K_F_Mil_dropZeros_L3 (lx18 + 1 : Int32) y95 y96 f97 (p132.1 : Int32) (p132.2.1 : Int32) (p132.2.2 : (Nat → Int32))
def F_Mil_dropZeros_c40 (K_F_Mil_dropZeros_L3 : Int32 → Int32 → Int32 → (Nat → Int32) → Int32 → Int32 → (Nat → Int32) → (Int32 × Int32 × Int32 × (Nat → Int32) × Int32 × Int32 × (Nat → Int32))) (R : Int32) (x3 : Int64) (t0_0 : Int32) (t0_1 : Int32) (t1_0 : (Nat → Int32)) (t2_0 : Int32) (t2_1 : Int32) (t3_0 : (Nat → Int32)) (lx18 : Int32) (lx19 : Int32) (lx20 : Int32) (lx21 : (Nat → Int32)) (lx22 : Int32) (lx23 : Int32) (lx24 : (Nat → Int32)) (p81 : (Int32 × Int32 × (Nat → Int32))) (p105 : (Int32 × Int32 × Int32 × (Nat → Int32))) : Int32 × Int32 × Int32 × (Nat → Int32) × Int32 × Int32 × (Nat → Int32) := if (p105.1 : Int32) = (0 : Int32) then (F_Mil_dropZeros_c54 K_F_Mil_dropZeros_L3 R x3 t0_0 t0_1 t1_0 t2_0 t2_1 t3_0 lx18 lx19 lx20 lx21 lx22 lx23 lx24 p81 p105 (p105.2.1 : Int32) (p105.2.2.1 : Int32) (p105.2.2.2 : (Nat → Int32)) ((F_Big_copy R (220 : Int32) lx22 lx23 lx24 (p105.2.1 : Int32) (p105.2.2.1 : Int32) (p105.2.2.2 : (Nat → Int32))) : (Int32 × Int32 × (Nat → Int32)))) else ((lx18, (p105.2.1 : Int32), (p105.2.2.1 : Int32), (p105.2.2.2 : (Nat → Int32)), lx22, lx23, lx24))
def F_Mil_dropZeros_c31 (K_F_Mil_dropZeros_L3 : Int32 → Int32 → Int32 → (Nat → Int32) → Int32 → Int32 → (Nat → Int32) → (Int32 × Int32 × Int32 × (Nat → Int32) × Int32 × Int32 × (Nat → Int32))) (R : Int32) (x3 : Int64) (t0_0 : Int32) (t0_1 : Int32) (t1_0 : (Nat → Int32)) (t2_0 : Int32) (t2_1 : Int32) (t3_0 : (Nat → Int32)) (lx18 : Int32) (lx19 : Int32) (lx20 : Int32) (lx21 : (Nat → Int32)) (lx22 : Int32) (lx23 : Int32) (lx24 : (Nat → Int32)) (p81 : (Int32 × Int32 × (Nat → Int32))) : Int32 × Int32 × Int32 × (Nat → Int32) × Int32 × Int32 × (Nat → Int32) := F_Mil_dropZeros_c40 K_F_Mil_dropZeros_L3 R x3 t0_0 t0_1 t1_0 t2_0 t2_1 t3_0 lx18 lx19 lx20 lx21 lx22 lx23 lx24 p81 ((F_Big_divideSmall (220 : Int32) (10 : Int32) (p81.1 : Int32) (p81.2.1 : Int32) (p81.2.2 : (Nat → Int32))) : (Int32 × Int32 × Int32 × (Nat → Int32)))
def F_Mil_dropZeros_L3 (R : Int32) (x3 : Int64) (t0_0 : Int32) (t0_1 : Int32) (t1_0 : (Nat → Int32)) (t2_0 : Int32) (t2_1 : Int32) (t3_0 : (Nat → Int32)) : Nat → Int32 → Int32 → Int32 → (Nat → Int32) → Int32 → Int32 → (Nat → Int32) → (Int32 × Int32 × Int32 × (Nat → Int32) × Int32 × Int32 × (Nat → Int32))
  | 0, _, _, _, _, _, _, _ => default
  | fm + 1, lx18, lx19, lx20, lx21, lx22, lx23, lx24 => if (0 : Int32) ≤ (lg_cmp (lx18.toInt64 : Int64) x3 : Int32) then ((lx18, lx19, lx20, lx21, lx22, lx23, lx24)) else (if lx22 ≤ (0 : Int32) then ((lx18, lx19, lx20, lx21, lx22, lx23, lx24)) else (if (10000 : Int32) ≤ lx18 then ((lx18, lx19, lx20, lx21, lx22, lx23, lx24)) else (F_Mil_dropZeros_c31 (F_Mil_dropZeros_L3 R x3 t0_0 t0_1 t1_0 t2_0 t2_1 t3_0 fm) R x3 t0_0 t0_1 t1_0 t2_0 t2_1 t3_0 lx18 lx19 lx20 lx21 lx22 lx23 lx24 ((F_Big_copy (220 : Int32) R lx19 lx20 lx21 lx22 lx23 lx24) : (Int32 × Int32 × (Nat → Int32))))))
def F_Mil_dropZeros (R : Int32) (x3 : Int64) (t0_0 : Int32) (t0_1 : Int32) (t1_0 : (Nat → Int32)) (t2_0 : Int32) (t2_1 : Int32) (t3_0 : (Nat → Int32)) : Int32 × Int32 × Int32 × (Nat → Int32) × Int32 × Int32 × (Nat → Int32) := F_Mil_dropZeros_L3 R x3 t0_0 t0_1 t1_0 t2_0 t2_1 t3_0 ((10000 - (0 : Int32).toInt).toNat + 1) 0 t0_0 t0_1 t1_0 t2_0 t2_1 t3_0
set_option maxRecDepth 100000 in
set_option maxHeartbeats 4000000 in
theorem X_Mil_dropZeros (l : Launch) (D : va_G) (g : Nat → ClassId) (q : Nat → Nat) (ws : va_W) (k2 : Nat) (R : Int32) (hB2 : q_isBig (nsh g q) g q k2 R) (zk2 : (10 ≤ k2 ∧ k2 ≤ 32) ∨ 66 ≤ k2) (x3 : Int64) (ne_k2_20 : k2 ≠ 20) (ne_k2_21 : k2 ≠ 21) (ne_k2_19 : k2 ≠ 19) (hI : q_I (nsh g q) q ws) (t0_0 : Int32) (t0_1 : Int32) (hT0 : ws[20]? = (some (q 20, .inr (2, [.ref (q 21), .int t0_0, .int t0_1])) : Option (Nat × va_E))) (t1_0 : (Nat → Int32)) (hT1 : ws[21]? = (some (q 21, .inl (g 0, (220 : Int32).toNatClampNeg, .inl t1_0)) : Option (Nat × va_E))) (t2_0 : Int32) (t2_1 : Int32) (hT2 : ws[k2]? = (some (q k2, .inr (2, [.ref (q (k2 + 1)), .int t2_0, .int t2_1])) : Option (Nat × va_E))) (t3_0 : (Nat → Int32)) (hT3 : ws[k2 + 1]? = (some (q (k2 + 1), .inl (g 0, R.toNatClampNeg, .inl t3_0)) : Option (Nat × va_E))) : q_mI l y_Mil_dropZeros prog_8_method_14_code 5 (.int) 3 0 0 D g [.ref (q 9), .ref (q k2), .long x3] ws (fun r u => q_I (nsh g q) q u ∧ q_un ws u [20, 21, k2, k2 + 1] ∧ ∃ (u0_0 : Int32) (u0_1 : Int32) (u1_0 : (Nat → Int32)) (u2_0 : Int32) (u2_1 : Int32) (u3_0 : (Nat → Int32)), u[20]? = (some (q 20, .inr (2, [.ref (q 21), .int u0_0, .int u0_1])) : Option (Nat × va_E)) ∧ u[21]? = (some (q 21, .inl (g 0, (220 : Int32).toNatClampNeg, .inl u1_0)) : Option (Nat × va_E)) ∧ u[k2]? = (some (q k2, .inr (2, [.ref (q (k2 + 1)), .int u2_0, .int u2_1])) : Option (Nat × va_E)) ∧ u[k2 + 1]? = (some (q (k2 + 1), .inl (g 0, R.toNatClampNeg, .inl u3_0)) : Option (Nat × va_E)) ∧ (0 ≤ r.toInt) ∧ (r.toInt ≤ 10000) ∧ (0 ≤ u0_0.toInt) ∧ (u0_0.toInt ≤ 220) ∧ (0 ≤ u0_1.toInt) ∧ (u0_1.toInt ≤ 1) ∧ (0 ≤ u2_0.toInt) ∧ (0 ≤ u2_1.toInt) ∧ (u2_0.toInt ≤ t2_0.toInt) ∧ (u2_1.toInt ≤ t2_1.toInt) ∧ (r, u0_0, u0_1, u1_0, u2_0, u2_1, u3_0) = (F_Mil_dropZeros R x3 t0_0 t0_1 t1_0 t2_0 t2_1 t3_0)) := by
  intro sz
  refine q_into (by decide) (Nat.le_of_ble_eq_true rfl) ?_
  intro p e s m below meth c ls hsz C0 V hl
  have hx := C0.1
  have hb := C0.2.1
  have hfk20 : q_F (0 ≤ R.toInt ∧ R.toInt ≤ 220) := hB2.2.2
  obtain ⟨btt0_0, btt0_1⟩ := q_bigW hI (n_b20 g q) hT0
  replace btt0_0 : q_F (0 ≤ t0_0.toInt ∧ t0_0.toInt ≤ 220) := btt0_0
  replace btt0_1 : q_F (0 ≤ t0_1.toInt ∧ t0_1.toInt ≤ 1) := btt0_1
  obtain ⟨btt2_0, btt2_1⟩ := q_bigW hI hB2 hT2
  replace btt2_0 : q_F (0 ≤ t2_0.toInt ∧ t2_0.toInt ≤ R.toInt) := btt2_0
  replace btt2_1 : q_F (0 ≤ t2_1.toInt ∧ t2_1.toInt ≤ 1) := btt2_1
  have hF : q_un ws ws [20, 21, k2, k2 + 1] := q_u0
  have hl : lv_has ls 5 [(0, .ref (q 9)), (1, .ref (q k2)), (2, .long x3)] := hl
  refine lv_iconst (v := 0) hx hb d_8_14_0 (by decide) ?_
  refine lv_istore (lv' := [(4, .int 0), (0, .ref (q 9)), (1, .ref (q k2)), (2, .long x3)]) hx hb d_8_14_1 hl (by decide) rfl (fun ls hl => ?_)
  refine q_loop (X := Int32 × Int32 × Int32 × (Nat → Int32) × Int32 × Int32 × (Nat → Int32)) (fun z H locs ls w41 => q_F (z.1.toInt ≤ 10000) ∧ q_F (z.2.2.2.2.1.toInt ≤ t2_0.toInt) ∧ q_F (t2_1.toInt ≤ z.2.2.2.2.1.toInt + 1) ∧ q_F (z.2.2.2.2.2.1.toInt ≤ t2_1.toInt) ∧ q_F (z.2.2.2.2.2.1.toInt ≤ z.2.1.toInt + 1) ∧ q_F (z.2.1.toInt ≤ z.2.2.2.2.2.1.toInt + 220) ∧ q_F (0 ≤ z.2.1.toInt + z.2.2.2.2.2.1.toInt) ∧ q_F (z.2.1.toInt + z.2.2.2.2.2.1.toInt ≤ 221) ∧ q_F (z.2.2.2.2.2.1.toInt ≤ z.2.2.1.toInt + 1) ∧ q_F (z.2.2.1.toInt ≤ z.2.2.2.2.2.1.toInt + 1) ∧ q_F (0 ≤ z.2.2.1.toInt + z.2.2.2.2.2.1.toInt) ∧ q_F (z.2.2.1.toInt + z.2.2.2.2.2.1.toInt ≤ 2) ∧ q_F (0 ≤ z.2.2.2.2.1.toInt + z.2.2.2.2.2.1.toInt) ∧ q_F (t0_1.toInt ≤ z.1.toInt + z.2.2.1.toInt) ∧ q_F (t2_1.toInt ≤ z.1.toInt + z.2.2.2.2.2.1.toInt) ∧ q_Wd D g (va_A ws sz) s w41 H locs ∧ lv_has ls 5 [(4, .int z.1), (0, .ref (q 9)), (1, .ref (q k2)), (2, .long x3)] ∧ q_I (nsh g q) q w41 ∧ q_un ws w41 [20, 21, k2, k2 + 1] ∧ w41[20]? = (some (q 20, .inr (2, [.ref (q 21), .int z.2.1, .int z.2.2.1])) : Option (Nat × va_E)) ∧ w41[21]? = (some (q 21, .inl (g 0, (220 : Int32).toNatClampNeg, .inl z.2.2.2.1)) : Option (Nat × va_E)) ∧ w41[k2]? = (some (q k2, .inr (2, [.ref (q (k2 + 1)), .int z.2.2.2.2.1, .int z.2.2.2.2.2.1])) : Option (Nat × va_E)) ∧ w41[k2 + 1]? = (some (q (k2 + 1), .inl (g 0, R.toNatClampNeg, .inl z.2.2.2.2.2.2)) : Option (Nat × va_E)) ∧ (∃ n, (10000 - z.1.toInt).toNat < n ∧ F_Mil_dropZeros_L3 R x3 t0_0 t0_1 t1_0 t2_0 t2_1 t3_0 n z.1 z.2.1 z.2.2.1 z.2.2.2.1 z.2.2.2.2.1 z.2.2.2.2.2.1 z.2.2.2.2.2.2 = (F_Mil_dropZeros R x3 t0_0 t0_1 t1_0 t2_0 t2_1 t3_0))) (fun z => (10000 - z.1.toInt).toNat) ?_ ((0 : Int32), (t0_0 : Int32), (t0_1 : Int32), (t1_0 : (Nat → Int32)), (t2_0 : Int32), (t2_1 : Int32), (t3_0 : (Nat → Int32))) _ _ _ ws ⟨(show q_F (0 ≤ 10000) from (show 0 ≤ 10000 from by omega)), (show q_F (t2_0.toInt ≤ t2_0.toInt) from (show t2_0.toInt ≤ t2_0.toInt from by omega)), (show q_F (t2_1.toInt ≤ t2_0.toInt + 1) from (show t2_1.toInt ≤ t2_0.toInt + 1 from by have t1 : 0 ≤ t2_0.toInt ∧ t2_0.toInt ≤ R.toInt := btt2_0; have t2 : 0 ≤ t2_1.toInt ∧ t2_1.toInt ≤ 1 := btt2_1; omega)), (show q_F (t2_1.toInt ≤ t2_1.toInt) from (show t2_1.toInt ≤ t2_1.toInt from by omega)), (show q_F (t2_1.toInt ≤ t0_0.toInt + 1) from (show t2_1.toInt ≤ t0_0.toInt + 1 from by have t1 : 0 ≤ t0_0.toInt ∧ t0_0.toInt ≤ 220 := btt0_0; have t2 : 0 ≤ t2_1.toInt ∧ t2_1.toInt ≤ 1 := btt2_1; omega)), (show q_F (t0_0.toInt ≤ t2_1.toInt + 220) from (show t0_0.toInt ≤ t2_1.toInt + 220 from by have t1 : 0 ≤ t0_0.toInt ∧ t0_0.toInt ≤ 220 := btt0_0; have t2 : 0 ≤ t2_1.toInt ∧ t2_1.toInt ≤ 1 := btt2_1; omega)), (show q_F (0 ≤ t0_0.toInt + t2_1.toInt) from (show 0 ≤ t0_0.toInt + t2_1.toInt from by have t1 : 0 ≤ t0_0.toInt ∧ t0_0.toInt ≤ 220 := btt0_0; have t2 : 0 ≤ t2_1.toInt ∧ t2_1.toInt ≤ 1 := btt2_1; omega)), (show q_F (t0_0.toInt + t2_1.toInt ≤ 221) from (show t0_0.toInt + t2_1.toInt ≤ 221 from by have t1 : 0 ≤ t0_0.toInt ∧ t0_0.toInt ≤ 220 := btt0_0; have t2 : 0 ≤ t2_1.toInt ∧ t2_1.toInt ≤ 1 := btt2_1; omega)), (show q_F (t2_1.toInt ≤ t0_1.toInt + 1) from (show t2_1.toInt ≤ t0_1.toInt + 1 from by have t1 : 0 ≤ t0_1.toInt ∧ t0_1.toInt ≤ 1 := btt0_1; have t2 : 0 ≤ t2_1.toInt ∧ t2_1.toInt ≤ 1 := btt2_1; omega)), (show q_F (t0_1.toInt ≤ t2_1.toInt + 1) from (show t0_1.toInt ≤ t2_1.toInt + 1 from by have t1 : 0 ≤ t0_1.toInt ∧ t0_1.toInt ≤ 1 := btt0_1; have t2 : 0 ≤ t2_1.toInt ∧ t2_1.toInt ≤ 1 := btt2_1; omega)), (show q_F (0 ≤ t0_1.toInt + t2_1.toInt) from (show 0 ≤ t0_1.toInt + t2_1.toInt from by have t1 : 0 ≤ t0_1.toInt ∧ t0_1.toInt ≤ 1 := btt0_1; have t2 : 0 ≤ t2_1.toInt ∧ t2_1.toInt ≤ 1 := btt2_1; omega)), (show q_F (t0_1.toInt + t2_1.toInt ≤ 2) from (show t0_1.toInt + t2_1.toInt ≤ 2 from by have t1 : 0 ≤ t0_1.toInt ∧ t0_1.toInt ≤ 1 := btt0_1; have t2 : 0 ≤ t2_1.toInt ∧ t2_1.toInt ≤ 1 := btt2_1; omega)), (show q_F (0 ≤ t2_0.toInt + t2_1.toInt) from (show 0 ≤ t2_0.toInt + t2_1.toInt from by have t1 : 0 ≤ t2_0.toInt ∧ t2_0.toInt ≤ R.toInt := btt2_0; have t2 : 0 ≤ t2_1.toInt ∧ t2_1.toInt ≤ 1 := btt2_1; omega)), (show q_F (t0_1.toInt ≤ 0 + t0_1.toInt) from (show t0_1.toInt ≤ 0 + t0_1.toInt from by omega)), (show q_F (t2_1.toInt ≤ 0 + t2_1.toInt) from (show t2_1.toInt ≤ 0 + t2_1.toInt from by omega)), V, q_lw hl (q_lw1 0 rfl (q_lw1 1 rfl (q_lw1 2 rfl (q_lw1 3 rfl q_lw0)))), hI, hF, hT0, hT1, hT2, hT3, ⟨((10000 - (0 : Int32).toInt).toNat + 1), Nat.lt_succ_self _, (show F_Mil_dropZeros_L3 R x3 t0_0 t0_1 t1_0 t2_0 t2_1 t3_0 ((10000 - (0 : Int32).toInt).toNat + 1) 0 t0_0 t0_1 t1_0 t2_0 t2_1 t3_0 = (F_Mil_dropZeros R x3 t0_0 t0_1 t1_0 t2_0 t2_1 t3_0) from (by rw [F_Mil_dropZeros.eq_1]))⟩⟩
  rintro ⟨lx18, lx19, lx20, lx21, lx22, lx23, lx24⟩ H locs ls w41 ⟨i25, i26, i27, i28, i29, i30, i31, i32, i33, i34, i35, i36, i37, i38, i39, V, hl, hI, hF, hO42, hO43, hO44, hO45, ⟨fu48, hf49, hR46⟩⟩ ih40
  obtain ⟨fm50, rfl⟩ : ∃ m, fu48 = m + 1 := ⟨fu48 - 1, by omega⟩
  replace i25 : q_F (lx18.toInt ≤ 10000) := i25
  replace i26 : q_F (lx22.toInt ≤ t2_0.toInt) := i26
  replace i27 : q_F (t2_1.toInt ≤ lx22.toInt + 1) := i27
  replace i28 : q_F (lx23.toInt ≤ t2_1.toInt) := i28
  replace i29 : q_F (lx23.toInt ≤ lx19.toInt + 1) := i29
  replace i30 : q_F (lx19.toInt ≤ lx23.toInt + 220) := i30
  replace i31 : q_F (0 ≤ lx19.toInt + lx23.toInt) := i31
  replace i32 : q_F (lx19.toInt + lx23.toInt ≤ 221) := i32
  replace i33 : q_F (lx23.toInt ≤ lx20.toInt + 1) := i33
  replace i34 : q_F (lx20.toInt ≤ lx23.toInt + 1) := i34
  replace i35 : q_F (0 ≤ lx20.toInt + lx23.toInt) := i35
  replace i36 : q_F (lx20.toInt + lx23.toInt ≤ 2) := i36
  replace i37 : q_F (0 ≤ lx22.toInt + lx23.toInt) := i37
  replace i38 : q_F (t0_1.toInt ≤ lx18.toInt + lx20.toInt) := i38
  replace i39 : q_F (t2_1.toInt ≤ lx18.toInt + lx23.toInt) := i39
  replace hl : lv_has ls 5 [(4, .int lx18), (0, .ref (q 9)), (1, .ref (q k2)), (2, .long x3)] := hl
  replace hO42 : w41[20]? = (some (q 20, .inr (2, [.ref (q 21), .int lx19, .int lx20])) : Option (Nat × va_E)) := hO42
  replace hO43 : w41[21]? = (some (q 21, .inl (g 0, (220 : Int32).toNatClampNeg, .inl lx21)) : Option (Nat × va_E)) := hO43
  replace hO44 : w41[k2]? = (some (q k2, .inr (2, [.ref (q (k2 + 1)), .int lx22, .int lx23])) : Option (Nat × va_E)) := hO44
  replace hO45 : w41[k2 + 1]? = (some (q (k2 + 1), .inl (g 0, R.toNatClampNeg, .inl lx24)) : Option (Nat × va_E)) := hO45
  refine lv_iload hx hb d_8_14_3 (lv_at hl 0 rfl) ?_
  refine lv_i2l hx hb d_8_14_5 rfl ?_
  obtain ⟨j51, e52⟩ := q_nm (lx18.toInt64 : Int64)
  refine q_tl (v := j51) e52 ?_
  refine lv_lload_n hx hb d_8_14_6 rfl (lv_at hl 3 rfl) ?_
  refine W.lcmp hx hb d_8_14_7 ?_
  obtain ⟨a54, e55⟩ := q_nm (lg_cmp j51 x3 : Int32)
  refine q_ti (v := a54) e55 ?_
  refine lv_if_ge (tgt := 63) hx hb d_8_14_8 (by decide) (fun c57 => ?_) (fun c57 => ?_)
  ·
    refine lv_iload hx hb d_8_14_63 (lv_at hl 0 rfl) ?_
    exact q_reti C0 V (⟨hI, hF, lx19, lx20, lx21, lx22, lx23, lx24, hO42, hO43, hO44, hO45, (show 0 ≤ lx18.toInt from (by have t1 : lx23.toInt ≤ t2_1.toInt := i28; have t2 : t2_1.toInt ≤ lx18.toInt + lx23.toInt := i39; omega)), (show lx18.toInt ≤ 10000 from (by first | with_reducible exact q_fe i25 | (have t1 : lx18.toInt ≤ 10000 := i25; omega))), (show 0 ≤ lx19.toInt from (by have t1 : lx23.toInt ≤ lx19.toInt + 1 := i29; have t2 : 0 ≤ lx19.toInt + lx23.toInt := i31; omega)), (show lx19.toInt ≤ 220 from (by have t1 : lx19.toInt ≤ lx23.toInt + 220 := i30; have t2 : lx19.toInt + lx23.toInt ≤ 221 := i32; omega)), (show 0 ≤ lx20.toInt from (by have t1 : lx23.toInt ≤ lx20.toInt + 1 := i33; have t2 : 0 ≤ lx20.toInt + lx23.toInt := i35; omega)), (show lx20.toInt ≤ 1 from (by have t1 : lx20.toInt ≤ lx23.toInt + 1 := i34; have t2 : lx20.toInt + lx23.toInt ≤ 2 := i36; omega)), (show 0 ≤ lx22.toInt from (by have t1 : t2_1.toInt ≤ lx22.toInt + 1 := i27; have t2 : lx23.toInt ≤ t2_1.toInt := i28; have t3 : 0 ≤ lx22.toInt + lx23.toInt := i37; omega)), (show 0 ≤ lx23.toInt from (by have t1 : lx20.toInt ≤ lx23.toInt + 1 := i34; have t2 : 0 ≤ lx20.toInt + lx23.toInt := i35; omega)), (show lx22.toInt ≤ t2_0.toInt from (by first | with_reducible exact q_fe i26 | (have t1 : lx22.toInt ≤ t2_0.toInt := i26; omega))), (show lx23.toInt ≤ t2_1.toInt from (by first | with_reducible exact q_fe i28 | (have t1 : lx23.toInt ≤ t2_1.toInt := i28; omega))), (show (lx18, lx19, lx20, lx21, lx22, lx23, lx24) = (F_Mil_dropZeros R x3 t0_0 t0_1 t1_0 t2_0 t2_1 t3_0) from Eq.trans (by have c57x := c57; rw [← e55, ← e52] at c57x; rw [F_Mil_dropZeros_L3.eq_2, if_pos c57x]) hR46)⟩) d_8_14_65
  ·
    refine lv_aload_n hx hb d_8_14_11 rfl (lv_at hl 2 rfl) ?_
    refine q_get (ci := 2) (j := 1) (v := .int lx22) C0 V i_Big rfl rfl hO44 (by decide) w_89 rfl d_8_14_12 ?_
    refine lv_if_le (tgt := 63) hx hb d_8_14_15 (by decide) (fun c60 => ?_) (fun c60 => ?_)
    ·
      refine lv_iload hx hb d_8_14_63 (lv_at hl 0 rfl) ?_
      exact q_reti C0 V (⟨hI, hF, lx19, lx20, lx21, lx22, lx23, lx24, hO42, hO43, hO44, hO45, (show 0 ≤ lx18.toInt from (by have t1 : lx23.toInt ≤ t2_1.toInt := i28; have t2 : t2_1.toInt ≤ lx18.toInt + lx23.toInt := i39; omega)), (show lx18.toInt ≤ 10000 from (by first | with_reducible exact q_fe i25 | (have t1 : lx18.toInt ≤ 10000 := i25; omega))), (show 0 ≤ lx19.toInt from (by have t1 : lx23.toInt ≤ lx19.toInt + 1 := i29; have t2 : 0 ≤ lx19.toInt + lx23.toInt := i31; omega)), (show lx19.toInt ≤ 220 from (by have t1 : lx19.toInt ≤ lx23.toInt + 220 := i30; have t2 : lx19.toInt + lx23.toInt ≤ 221 := i32; omega)), (show 0 ≤ lx20.toInt from (by have t1 : lx23.toInt ≤ lx20.toInt + 1 := i33; have t2 : 0 ≤ lx20.toInt + lx23.toInt := i35; omega)), (show lx20.toInt ≤ 1 from (by have t1 : lx20.toInt ≤ lx23.toInt + 1 := i34; have t2 : lx20.toInt + lx23.toInt ≤ 2 := i36; omega)), (show 0 ≤ lx22.toInt from (by have t1 : t2_1.toInt ≤ lx22.toInt + 1 := i27; have t2 : lx23.toInt ≤ t2_1.toInt := i28; have t3 : 0 ≤ lx22.toInt + lx23.toInt := i37; omega)), (show 0 ≤ lx23.toInt from (by have t1 : lx20.toInt ≤ lx23.toInt + 1 := i34; have t2 : 0 ≤ lx20.toInt + lx23.toInt := i35; omega)), (show lx22.toInt ≤ t2_0.toInt from (by first | with_reducible exact q_fe i26 | (have t1 : lx22.toInt ≤ t2_0.toInt := i26; omega))), (show lx23.toInt ≤ t2_1.toInt from (by first | with_reducible exact q_fe i28 | (have t1 : lx23.toInt ≤ t2_1.toInt := i28; omega))), (show (lx18, lx19, lx20, lx21, lx22, lx23, lx24) = (F_Mil_dropZeros R x3 t0_0 t0_1 t1_0 t2_0 t2_1 t3_0) from Eq.trans (by have c57x := c57; rw [← e55, ← e52] at c57x; rw [F_Mil_dropZeros_L3.eq_2, if_neg c57x, if_pos c60]) hR46)⟩) d_8_14_65
    ·
      have b62 : q_F (0 < lx22.toInt) := (q_nleI c60)
      refine lv_iload hx hb d_8_14_18 (lv_at hl 0 rfl) ?_
      refine lv_sipush (v := 10000) hx hb d_8_14_20 (by decide) ?_
      refine lv_icmp_ge (tgt := 63) hx hb d_8_14_23 (by decide) (fun c63 => ?_) (fun c63 => ?_)
      ·
        have b64 : q_F (10000 ≤ lx18.toInt) := (q_leI c63)
        refine lv_iload hx hb d_8_14_63 (lv_at hl 0 rfl) ?_
        exact q_reti C0 V (⟨hI, hF, lx19, lx20, lx21, lx22, lx23, lx24, hO42, hO43, hO44, hO45, (show 0 ≤ lx18.toInt from (by first | with_reducible exact q_fe b64 | (have t1 : 10000 ≤ lx18.toInt := b64; omega))), (show lx18.toInt ≤ 10000 from (by first | with_reducible exact q_fe i25 | (have t1 : lx18.toInt ≤ 10000 := i25; omega))), (show 0 ≤ lx19.toInt from (by have t1 : lx23.toInt ≤ lx19.toInt + 1 := i29; have t2 : 0 ≤ lx19.toInt + lx23.toInt := i31; omega)), (show lx19.toInt ≤ 220 from (by have t1 : lx19.toInt ≤ lx23.toInt + 220 := i30; have t2 : lx19.toInt + lx23.toInt ≤ 221 := i32; omega)), (show 0 ≤ lx20.toInt from (by have t1 : lx23.toInt ≤ lx20.toInt + 1 := i33; have t2 : 0 ≤ lx20.toInt + lx23.toInt := i35; omega)), (show lx20.toInt ≤ 1 from (by have t1 : lx20.toInt ≤ lx23.toInt + 1 := i34; have t2 : lx20.toInt + lx23.toInt ≤ 2 := i36; omega)), (show 0 ≤ lx22.toInt from (by first | with_reducible exact q_fe b62 | (have t1 : 0 < lx22.toInt := b62; omega))), (show 0 ≤ lx23.toInt from (by have t1 : lx20.toInt ≤ lx23.toInt + 1 := i34; have t2 : 0 ≤ lx20.toInt + lx23.toInt := i35; omega)), (show lx22.toInt ≤ t2_0.toInt from (by first | with_reducible exact q_fe i26 | (have t1 : lx22.toInt ≤ t2_0.toInt := i26; omega))), (show lx23.toInt ≤ t2_1.toInt from (by first | with_reducible exact q_fe i28 | (have t1 : lx23.toInt ≤ t2_1.toInt := i28; omega))), (show (lx18, lx19, lx20, lx21, lx22, lx23, lx24) = (F_Mil_dropZeros R x3 t0_0 t0_1 t1_0 t2_0 t2_1 t3_0) from Eq.trans (by have c57x := c57; rw [← e55, ← e52] at c57x; rw [F_Mil_dropZeros_L3.eq_2, if_neg c57x, if_neg c60, if_pos c63]) hR46)⟩) d_8_14_65
      ·
        have b65 : q_F (lx18.toInt < 10000) := (q_nleI c63)
        refine lv_aload_n hx hb d_8_14_26 rfl (lv_at hl 1 rfl) ?_
        have hO66 := n_o9 hI
        refine q_get (ci := 4) (j := 5) (v := .ref (q 20)) C0 V i_Mil rfl rfl hO66 (by decide) w_124 rfl d_8_14_27 ?_
        refine lv_aload_n hx hb d_8_14_30 rfl (lv_at hl 2 rfl) ?_
        refine q_gov V (q_runV (As := [.ref (q k2)]) (rest := []) (d := 2) (mc := 0) (ms := 0) (ci := 2) C0 V rfl LV_Mil_51 (X_Big_copy l D g q w41 20 220 (n_b20 g q) (by decide) k2 R hB2 zk2  (by have z := ne_k2_20; omega) hI lx19 lx20 hO42 lx21 hO43 lx22 lx23 hO44 lx24 hO45  _) rfl rfl hO42 rfl hl.1 rfl (Nat.le_of_ble_eq_true rfl) ⟨by decide, by decide⟩ ⟨Nat.le_of_ble_eq_true rfl, Nat.le_of_ble_eq_true rfl⟩ d_8_14_31) (fun u67 H locs hp68 V => ?_)
        obtain ⟨hI, hZ9⟩ := hp68
        obtain ⟨hu80, hZ9⟩ := hZ9
        obtain ⟨y70, hZ9⟩ := hZ9
        obtain ⟨y71, hZ9⟩ := hZ9
        obtain ⟨f72, hZ9⟩ := hZ9
        obtain ⟨hO69, hZ9⟩ := hZ9
        obtain ⟨hA73, hZ9⟩ := hZ9
        replace hZ9 := hZ9.2
        obtain ⟨b75, hZ9⟩ := hZ9
        obtain ⟨b76, hZ9⟩ := hZ9
        replace hZ9 := hZ9.2
        obtain ⟨b78, hE79⟩ := hZ9
        replace hO69 : u67[20]? = (some (q 20, .inr (2, [.ref (q 21), .int y70, .int y71])) : Option (Nat × va_E)) := hO69
        replace hA73 : u67[21]? = (some (q 21, .inl (g 0, (220 : Int32).toNatClampNeg, .inl f72)) : Option (Nat × va_E)) := hA73
        obtain ⟨p81, e82⟩ : ∃ z, z = (F_Big_copy (220 : Int32) R lx19 lx20 lx21 lx22 lx23 lx24) := ⟨_, rfl⟩
        have e83 : y70 = p81.1 := congrArg (fun z => z.1) (hE79.trans e82.symm)
        have e84 : y71 = p81.2.1 := congrArg (fun z => z.2.1) (hE79.trans e82.symm)
        have e85 : f72 = p81.2.2 := congrArg (fun z => z.2.2) (hE79.trans e82.symm)
        replace b75 : q_F (y70.toInt ≤ lx22.toInt) := b75
        replace b76 : q_F (y70.toInt ≤ 220) := b76
        replace b78 : q_F (y71.toInt ≤ lx23.toInt) := b78
        replace hO44 := (hu80 _ (by first | exact (q_nc ne_k2_20 (q_nc ne_k2_21 List.not_mem_nil)) | (have z0 := zk2; simp only [List.mem_cons, List.not_mem_nil, or_false, not_or]; omega))).trans hO44
        replace hO45 := (hu80 _ (by first | exact (q_nc (q_nt1 ne_k2_19) (q_nc (q_nt1 ne_k2_20) List.not_mem_nil)) | (have z0 := zk2; simp only [List.mem_cons, List.not_mem_nil, or_false, not_or]; omega))).trans hO45
        replace hO66 := (hu80 _ (by decide)).trans hO66
        replace hF := q_uc hF hu80 (by first | exact (q_sk (q_mi 0 rfl) (q_sk (q_mi 1 rfl) q_s0)) | simp)
        have hR86 := (show F_Mil_dropZeros_c31 (F_Mil_dropZeros_L3 R x3 t0_0 t0_1 t1_0 t2_0 t2_1 t3_0 fm50) R x3 t0_0 t0_1 t1_0 t2_0 t2_1 t3_0 lx18 lx19 lx20 lx21 lx22 lx23 lx24 p81 = (F_Mil_dropZeros R x3 t0_0 t0_1 t1_0 t2_0 t2_1 t3_0) from Eq.trans (by have c57x := c57; rw [← e55, ← e52] at c57x; rw [e82, F_Mil_dropZeros_L3.eq_2, if_neg c57x, if_neg c60, if_neg c63]) hR46)
        refine lv_aload_n hx hb d_8_14_34 rfl (lv_at hl 1 rfl) ?_
        refine q_get (ci := 4) (j := 5) (v := .ref (q 20)) C0 V i_Mil rfl rfl hO66 (by decide) w_124 rfl d_8_14_35 ?_
        refine lv_bipush (v := 10) hx hb d_8_14_38 (by decide) ?_
        refine q_goi V (q_runV (As := [.int 10]) (rest := []) (d := 2) (mc := 0) (ms := 0) (ci := 2) C0 V rfl LV_Mil_109 (X_Big_divideSmall l D g q u67 20 220 (n_b20 g q) (by decide) 10 hI y70 y71 hO69 f72 hA73  _) rfl rfl hO69 rfl hl.1 rfl (Nat.le_of_ble_eq_true rfl) ⟨by decide, by decide⟩ ⟨Nat.le_of_ble_eq_true rfl, Nat.le_of_ble_eq_true rfl⟩ d_8_14_40) (fun a93 u91 H locs hp92 V => ?_)
        obtain ⟨hI, hZ9⟩ := hp92
        obtain ⟨hu104, hZ9⟩ := hZ9
        obtain ⟨y95, hZ9⟩ := hZ9
        obtain ⟨y96, hZ9⟩ := hZ9
        obtain ⟨f97, hZ9⟩ := hZ9
        obtain ⟨hO94, hZ9⟩ := hZ9
        obtain ⟨hA98, hZ9⟩ := hZ9
        obtain ⟨b99, hZ9⟩ := hZ9
        obtain ⟨b100, hZ9⟩ := hZ9
        obtain ⟨b101, hZ9⟩ := hZ9
        obtain ⟨b102, hE103⟩ := hZ9
        replace hO94 : u91[20]? = (some (q 20, .inr (2, [.ref (q 21), .int y95, .int y96])) : Option (Nat × va_E)) := hO94
        replace hA98 : u91[21]? = (some (q 21, .inl (g 0, (220 : Int32).toNatClampNeg, .inl f97)) : Option (Nat × va_E)) := hA98
        obtain ⟨p105, e106⟩ : ∃ z, z = (F_Big_divideSmall (220 : Int32) (10 : Int32) y70 y71 f72) := ⟨_, rfl⟩
        have e107 : a93 = p105.1 := congrArg (fun z => z.1) (hE103.trans e106.symm)
        have e108 : y95 = p105.2.1 := congrArg (fun z => z.2.1) (hE103.trans e106.symm)
        have e109 : y96 = p105.2.2.1 := congrArg (fun z => z.2.2.1) (hE103.trans e106.symm)
        have e110 : f97 = p105.2.2.2 := congrArg (fun z => z.2.2.2) (hE103.trans e106.symm)
        replace b99 : q_F (0 ≤ y96.toInt) := b99
        replace b100 : q_F (y95.toInt ≤ y70.toInt) := b100
        replace b101 : q_F (y96.toInt ≤ y71.toInt) := b101
        replace b102 : q_F (y96.toInt ≤ y95.toInt) := b102
        replace hO44 := (hu104 _ (by first | exact (q_nc ne_k2_20 (q_nc ne_k2_21 List.not_mem_nil)) | (have z0 := zk2; simp only [List.mem_cons, List.not_mem_nil, or_false, not_or]; omega))).trans hO44
        replace hO45 := (hu104 _ (by first | exact (q_nc (q_nt1 ne_k2_19) (q_nc (q_nt1 ne_k2_20) List.not_mem_nil)) | (have z0 := zk2; simp only [List.mem_cons, List.not_mem_nil, or_false, not_or]; omega))).trans hO45
        replace hO66 := (hu104 _ (by decide)).trans hO66
        replace hF := q_uc hF hu104 (by first | exact (q_sk (q_mi 0 rfl) (q_sk (q_mi 1 rfl) q_s0)) | simp)
        have hR111 := (show F_Mil_dropZeros_c40 (F_Mil_dropZeros_L3 R x3 t0_0 t0_1 t1_0 t2_0 t2_1 t3_0 fm50) R x3 t0_0 t0_1 t1_0 t2_0 t2_1 t3_0 lx18 lx19 lx20 lx21 lx22 lx23 lx24 p81 p105 = (F_Mil_dropZeros R x3 t0_0 t0_1 t1_0 t2_0 t2_1 t3_0) from Eq.trans (by rw [e106, e85, e84, e83, F_Mil_dropZeros_c31.eq_1]) hR86)
        refine lv_if_eq (tgt := 49) hx hb d_8_14_43 (by decide) (fun c116 => ?_) (fun c116 => ?_)
        ·
          refine lv_aload_n hx hb d_8_14_49 rfl (lv_at hl 2 rfl) ?_
          refine lv_aload_n hx hb d_8_14_50 rfl (lv_at hl 1 rfl) ?_
          refine q_get (ci := 4) (j := 5) (v := .ref (q 20)) C0 V i_Mil rfl rfl hO66 (by decide) w_124 rfl d_8_14_51 ?_
          refine q_gov V (q_runV (As := [.ref (q 20)]) (rest := []) (d := 2) (mc := 0) (ms := 0) (ci := 2) C0 V rfl LV_Mil_51 (X_Big_copy l D g q u91 k2 R hB2 zk2 20 220 (n_b20 g q) (by decide)  (by have z := ne_k2_20; omega) hI lx22 lx23 hO44 lx24 hO45 y95 y96 hO94 f97 hA98  _) rfl rfl hO44 rfl hl.1 rfl (Nat.le_of_ble_eq_true rfl) ⟨by decide, by decide⟩ ⟨Nat.le_of_ble_eq_true rfl, Nat.le_of_ble_eq_true rfl⟩ d_8_14_54) (fun u118 H locs hp119 V => ?_)
          obtain ⟨hI, hZ9⟩ := hp119
          obtain ⟨hu131, hZ9⟩ := hZ9
          obtain ⟨y121, hZ9⟩ := hZ9
          obtain ⟨y122, hZ9⟩ := hZ9
          obtain ⟨f123, hZ9⟩ := hZ9
          obtain ⟨hO120, hZ9⟩ := hZ9
          obtain ⟨hA124, hZ9⟩ := hZ9
          obtain ⟨b125, hZ9⟩ := hZ9
          obtain ⟨b126, hZ9⟩ := hZ9
          replace hZ9 := hZ9.2
          obtain ⟨b128, hZ9⟩ := hZ9
          obtain ⟨b129, hE130⟩ := hZ9
          replace hO120 : u118[k2]? = (some (q k2, .inr (2, [.ref (q (k2 + 1)), .int y121, .int y122])) : Option (Nat × va_E)) := hO120
          replace hA124 : u118[k2 + 1]? = (some (q (k2 + 1), .inl (g 0, R.toNatClampNeg, .inl f123)) : Option (Nat × va_E)) := hA124
          obtain ⟨p132, e133⟩ : ∃ z, z = (F_Big_copy R (220 : Int32) lx22 lx23 lx24 y95 y96 f97) := ⟨_, rfl⟩
          have e134 : y121 = p132.1 := congrArg (fun z => z.1) (hE130.trans e133.symm)
          have e135 : y122 = p132.2.1 := congrArg (fun z => z.2.1) (hE130.trans e133.symm)
          have e136 : f123 = p132.2.2 := congrArg (fun z => z.2.2) (hE130.trans e133.symm)
          replace b125 : q_F (0 ≤ y121.toInt) := b125
          replace b126 : q_F (y121.toInt ≤ y95.toInt) := b126
          replace b128 : q_F (y96.toInt ≤ y122.toInt) := b128
          replace b129 : q_F (y122.toInt ≤ y96.toInt) := b129
          replace hO94 := (hu131 _ (by first | exact (q_nc (Ne.symm ne_k2_20) (q_nc (q_ns1 ne_k2_19) List.not_mem_nil)) | (have z0 := zk2; simp only [List.mem_cons, List.not_mem_nil, or_false, not_or]; omega))).trans hO94
          replace hA98 := (hu131 _ (by first | exact (q_nc (Ne.symm ne_k2_21) (q_nc (q_ns1 ne_k2_20) List.not_mem_nil)) | (have z0 := zk2; simp only [List.mem_cons, List.not_mem_nil, or_false, not_or]; omega))).trans hA98
          replace hF := q_uc hF hu131 (by first | exact (q_sk (q_mi 2 rfl) (q_sk (q_mi 3 rfl) q_s0)) | simp)
          have hR137 := (show F_Mil_dropZeros_c54 (F_Mil_dropZeros_L3 R x3 t0_0 t0_1 t1_0 t2_0 t2_1 t3_0 fm50) R x3 t0_0 t0_1 t1_0 t2_0 t2_1 t3_0 lx18 lx19 lx20 lx21 lx22 lx23 lx24 p81 p105 y95 y96 f97 p132 = (F_Mil_dropZeros R x3 t0_0 t0_1 t1_0 t2_0 t2_1 t3_0) from Eq.trans (by have c116x := c116; rw [e107] at c116x; rw [e133, e110, e109, e108, F_Mil_dropZeros_c40.eq_1, if_pos c116x]) hR111)
          obtain ⟨a142, e143⟩ := q_nm (lx18 + 1 : Int32)
          have b144 : q_F (a142.toInt = lx18.toInt + 1) := (by rw [← e143]; exact q_addI (y := 1) rfl (by decide) (by have _ := q_lo32 (x := lx18); have _ := q_hi32 (x := lx18); have t1 : lx18.toInt ≤ 10000 := i25; omega) (by have _ := q_lo32 (x := lx18); have _ := q_hi32 (x := lx18); have t1 : lx18.toInt ≤ 10000 := i25; omega))
          refine lv_iinc (v := a142) (lv' := [(4, .int a142), (0, .ref (q 9)), (1, .ref (q k2)), (2, .long x3)]) hx hb d_8_14_57 hl (k := 0) rfl (e143) (by decide) rfl (fun ls hl => ?_)
          refine lv_goto (tgt := 3) hx hb d_8_14_60 (by decide) ?_
          exact ih40 ((a142 : Int32), (y95 : Int32), (y96 : Int32), (f97 : (Nat → Int32)), (y121 : Int32), (y122 : Int32), (f123 : (Nat → Int32))) _ _ _ _ (show (10000 - a142.toInt).toNat < (10000 - lx18.toInt).toNat from by have t1 : a142.toInt = lx18.toInt + 1 := b144; have t2 : lx18.toInt ≤ 10000 := i25; have t3 : lx18.toInt < 10000 := b65; omega) ⟨(show q_F (a142.toInt ≤ 10000) from (show a142.toInt ≤ 10000 from by have t1 : lx18.toInt < 10000 := b65; have t2 : a142.toInt = lx18.toInt + 1 := b144; omega)), (show q_F (y121.toInt ≤ t2_0.toInt) from (show y121.toInt ≤ t2_0.toInt from by have t1 : lx22.toInt ≤ t2_0.toInt := i26; have t2 : y70.toInt ≤ lx22.toInt := b75; have t3 : y95.toInt ≤ y70.toInt := b100; have t4 : y121.toInt ≤ y95.toInt := b126; omega)), (show q_F (t2_1.toInt ≤ y121.toInt + 1) from (show t2_1.toInt ≤ y121.toInt + 1 from by have t1 : 0 ≤ t2_1.toInt ∧ t2_1.toInt ≤ 1 := btt2_1; have t2 : 0 ≤ y121.toInt := b125; omega)), (show q_F (y122.toInt ≤ t2_1.toInt) from (show y122.toInt ≤ t2_1.toInt from by have t1 : lx23.toInt ≤ t2_1.toInt := i28; have t2 : y71.toInt ≤ lx23.toInt := b78; have t3 : y96.toInt ≤ y71.toInt := b101; have t4 : y122.toInt ≤ y96.toInt := b129; omega)), (show q_F (y122.toInt ≤ y95.toInt + 1) from (show y122.toInt ≤ y95.toInt + 1 from by have t1 : y96.toInt ≤ y95.toInt := b102; have t2 : y122.toInt ≤ y96.toInt := b129; omega)), (show q_F (y95.toInt ≤ y122.toInt + 220) from (show y95.toInt ≤ y122.toInt + 220 from by have t1 : y70.toInt ≤ 220 := b76; have t2 : 0 ≤ y96.toInt := b99; have t3 : y95.toInt ≤ y70.toInt := b100; have t4 : y96.toInt ≤ y122.toInt := b128; omega)), (show q_F (0 ≤ y95.toInt + y122.toInt) from (show 0 ≤ y95.toInt + y122.toInt from by have t1 : 0 ≤ y96.toInt := b99; have t2 : y96.toInt ≤ y95.toInt := b102; have t3 : y96.toInt ≤ y122.toInt := b128; omega)), (show q_F (y95.toInt + y122.toInt ≤ 221) from (show y95.toInt + y122.toInt ≤ 221 from by have t1 : 0 ≤ R.toInt ∧ R.toInt ≤ 220 := hfk20; have t2 : 0 ≤ t2_0.toInt ∧ t2_0.toInt ≤ R.toInt := btt2_0; have t3 : 0 ≤ t2_1.toInt ∧ t2_1.toInt ≤ 1 := btt2_1; have t4 : lx22.toInt ≤ t2_0.toInt := i26; have t5 : lx23.toInt ≤ t2_1.toInt := i28; have t6 : y70.toInt ≤ lx22.toInt := b75; have t7 : y71.toInt ≤ lx23.toInt := b78; have t8 : y95.toInt ≤ y70.toInt := b100; have t9 : y96.toInt ≤ y71.toInt := b101; have t10 : y122.toInt ≤ y96.toInt := b129; omega)), (show q_F (y122.toInt ≤ y96.toInt + 1) from (show y122.toInt ≤ y96.toInt + 1 from by have t1 : y122.toInt ≤ y96.toInt := b129; omega)), (show q_F (y96.toInt ≤ y122.toInt + 1) from (show y96.toInt ≤ y122.toInt + 1 from by have t1 : y96.toInt ≤ y122.toInt := b128; omega)), (show q_F (0 ≤ y96.toInt + y122.toInt) from (show 0 ≤ y96.toInt + y122.toInt from by have t1 : 0 ≤ y96.toInt := b99; have t2 : y96.toInt ≤ y122.toInt := b128; omega)), (show q_F (y96.toInt + y122.toInt ≤ 2) from (show y96.toInt + y122.toInt ≤ 2 from by have t1 : lx23.toInt ≤ lx20.toInt + 1 := i33; have t2 : lx20.toInt + lx23.toInt ≤ 2 := i36; have t3 : y71.toInt ≤ lx23.toInt := b78; have t4 : y96.toInt ≤ y71.toInt := b101; have t5 : y122.toInt ≤ y96.toInt := b129; omega)), (show q_F (0 ≤ y121.toInt + y122.toInt) from (show 0 ≤ y121.toInt + y122.toInt from by have t1 : 0 ≤ y96.toInt := b99; have t2 : 0 ≤ y121.toInt := b125; have t3 : y96.toInt ≤ y122.toInt := b128; omega)), (show q_F (t0_1.toInt ≤ a142.toInt + y96.toInt) from (show t0_1.toInt ≤ a142.toInt + y96.toInt from by have t1 : lx20.toInt ≤ lx23.toInt + 1 := i34; have t2 : lx20.toInt + lx23.toInt ≤ 2 := i36; have t3 : t0_1.toInt ≤ lx18.toInt + lx20.toInt := i38; have t4 : 0 ≤ y96.toInt := b99; have t5 : a142.toInt = lx18.toInt + 1 := b144; omega)), (show q_F (t2_1.toInt ≤ a142.toInt + y122.toInt) from (show t2_1.toInt ≤ a142.toInt + y122.toInt from by have t1 : 0 ≤ t2_1.toInt ∧ t2_1.toInt ≤ 1 := btt2_1; have t2 : lx23.toInt ≤ t2_1.toInt := i28; have t3 : t2_1.toInt ≤ lx18.toInt + lx23.toInt := i39; have t4 : 0 ≤ y96.toInt := b99; have t5 : y96.toInt ≤ y122.toInt := b128; have t6 : a142.toInt = lx18.toInt + 1 := b144; omega)), V, q_lw hl (q_lw1 0 rfl (q_lw1 1 rfl (q_lw1 2 rfl (q_lw1 3 rfl q_lw0)))), hI, hF, hO94, hA98, hO120, hA124, ⟨fm50, Nat.lt_of_lt_of_le (show (10000 - a142.toInt).toNat < (10000 - lx18.toInt).toNat from by have t1 : a142.toInt = lx18.toInt + 1 := b144; have t2 : lx18.toInt ≤ 10000 := i25; have t3 : lx18.toInt < 10000 := b65; omega) (Nat.le_of_lt_succ hf49), (show F_Mil_dropZeros_L3 R x3 t0_0 t0_1 t1_0 t2_0 t2_1 t3_0 fm50 a142 y95 y96 f97 y121 y122 f123 = (F_Mil_dropZeros R x3 t0_0 t0_1 t1_0 t2_0 t2_1 t3_0) from Eq.trans (by rw [← e143, e136, e135, e134, F_Mil_dropZeros_c54.eq_1]) hR137)⟩⟩
        ·
          refine lv_goto (tgt := 63) hx hb d_8_14_46 (by decide) ?_
          refine lv_iload hx hb d_8_14_63 (lv_at hl 0 rfl) ?_
          exact q_reti C0 V (⟨hI, hF, y95, y96, f97, lx22, lx23, lx24, hO94, hA98, hO44, hO45, (show 0 ≤ lx18.toInt from (by have t1 : lx23.toInt ≤ t2_1.toInt := i28; have t2 : t2_1.toInt ≤ lx18.toInt + lx23.toInt := i39; omega)), (show lx18.toInt ≤ 10000 from (by first | with_reducible exact q_fe i25 | (have t1 : lx18.toInt ≤ 10000 := i25; omega))), (show 0 ≤ y95.toInt from (by have t1 : 0 ≤ y96.toInt := b99; have t2 : y96.toInt ≤ y95.toInt := b102; omega)), (show y95.toInt ≤ 220 from (by have t1 : y70.toInt ≤ 220 := b76; have t2 : y95.toInt ≤ y70.toInt := b100; omega)), (show 0 ≤ y96.toInt from (by first | with_reducible exact q_fe b99 | (have t1 : 0 ≤ y96.toInt := b99; omega))), (show y96.toInt ≤ 1 from (by have t1 : lx23.toInt ≤ lx20.toInt + 1 := i33; have t2 : lx20.toInt + lx23.toInt ≤ 2 := i36; have t3 : y71.toInt ≤ lx23.toInt := b78; have t4 : y96.toInt ≤ y71.toInt := b101; omega)), (show 0 ≤ lx22.toInt from (by first | with_reducible exact q_fe b62 | (have t1 : 0 < lx22.toInt := b62; omega))), (show 0 ≤ lx23.toInt from (by have t1 : lx20.toInt ≤ lx23.toInt + 1 := i34; have t2 : 0 ≤ lx20.toInt + lx23.toInt := i35; omega)), (show lx22.toInt ≤ t2_0.toInt from (by first | with_reducible exact q_fe i26 | (have t1 : lx22.toInt ≤ t2_0.toInt := i26; omega))), (show lx23.toInt ≤ t2_1.toInt from (by first | with_reducible exact q_fe i28 | (have t1 : lx23.toInt ≤ t2_1.toInt := i28; omega))), (show (lx18, y95, y96, f97, lx22, lx23, lx24) = (F_Mil_dropZeros R x3 t0_0 t0_1 t1_0 t2_0 t2_1 t3_0) from Eq.trans (by have c116x := c116; rw [e107] at c116x; rw [e110, e109, e108, F_Mil_dropZeros_c40.eq_1, if_neg c116x]) hR111)⟩) d_8_14_65

/-! Mill, exactly: Euclid -/
theorem d_8_5_0 : decode prog_8_method_5_code 0 = .ok (.aload_n 0, 1) := by decide +kernel
theorem d_8_5_1 : decode prog_8_method_5_code 1 = .ok (.getfield 35, 3) := by decide +kernel
theorem d_8_5_4 : decode prog_8_method_5_code 4 = .ok (.astore_n 3, 1) := by decide +kernel
theorem d_8_5_5 : decode prog_8_method_5_code 5 = .ok (.aload_n 0, 1) := by decide +kernel
theorem d_8_5_6 : decode prog_8_method_5_code 6 = .ok (.getfield 38, 3) := by decide +kernel
theorem d_8_5_9 : decode prog_8_method_5_code 9 = .ok (.astore 4, 2) := by decide +kernel
theorem d_8_5_11 : decode prog_8_method_5_code 11 = .ok (.aload_n 3, 1) := by decide +kernel
theorem d_8_5_12 : decode prog_8_method_5_code 12 = .ok (.aload_n 1, 1) := by decide +kernel
theorem d_8_5_13 : decode prog_8_method_5_code 13 = .ok (.invokevirtual 51, 3) := by decide +kernel
theorem d_8_5_16 : decode prog_8_method_5_code 16 = .ok (.aload 4, 2) := by decide +kernel
theorem d_8_5_18 : decode prog_8_method_5_code 18 = .ok (.aload_n 2, 1) := by decide +kernel
theorem d_8_5_19 : decode prog_8_method_5_code 19 = .ok (.invokevirtual 51, 3) := by decide +kernel
theorem d_8_5_22 : decode prog_8_method_5_code 22 = .ok (.iconst 0, 1) := by decide +kernel
theorem d_8_5_23 : decode prog_8_method_5_code 23 = .ok (.istore 5, 2) := by decide +kernel
theorem d_8_5_25 : decode prog_8_method_5_code 25 = .ok (.iload 5, 2) := by decide +kernel
theorem d_8_5_27 : decode prog_8_method_5_code 27 = .ok (.sipush 10000, 3) := by decide +kernel
theorem d_8_5_30 : decode prog_8_method_5_code 30 = .ok (.if_icmp .ge 37, 3) := by decide +kernel
theorem d_8_5_67 : decode prog_8_method_5_code 67 = .ok (.aload_n 0, 1) := by decide +kernel
theorem d_8_5_68 : decode prog_8_method_5_code 68 = .ok (.getfield 16, 3) := by decide +kernel
theorem d_8_5_71 : decode prog_8_method_5_code 71 = .ok (.aload_n 3, 1) := by decide +kernel
theorem d_8_5_72 : decode prog_8_method_5_code 72 = .ok (.invokevirtual 51, 3) := by decide +kernel
theorem d_8_5_75 : decode prog_8_method_5_code 75 = .ok (.aload_n 0, 1) := by decide +kernel
theorem d_8_5_76 : decode prog_8_method_5_code 76 = .ok (.getfield 16, 3) := by decide +kernel
theorem d_8_5_79 : decode prog_8_method_5_code 79 = .ok (.iconst 0, 1) := by decide +kernel
theorem d_8_5_80 : decode prog_8_method_5_code 80 = .ok (.putfield 66, 3) := by decide +kernel
theorem d_8_5_83 : decode prog_8_method_5_code 83 = .ok (.return_, 1) := by decide +kernel
theorem d_8_5_33 : decode prog_8_method_5_code 33 = .ok (.aload 4, 2) := by decide +kernel
theorem d_8_5_35 : decode prog_8_method_5_code 35 = .ok (.getfield 62, 3) := by decide +kernel
theorem d_8_5_38 : decode prog_8_method_5_code 38 = .ok (.ifCond .le 29, 3) := by decide +kernel
theorem d_8_5_41 : decode prog_8_method_5_code 41 = .ok (.aload_n 3, 1) := by decide +kernel
theorem d_8_5_42 : decode prog_8_method_5_code 42 = .ok (.aload 4, 2) := by decide +kernel
theorem d_8_5_44 : decode prog_8_method_5_code 44 = .ok (.aload_n 0, 1) := by decide +kernel
theorem d_8_5_45 : decode prog_8_method_5_code 45 = .ok (.getfield 20, 3) := by decide +kernel
theorem d_8_5_48 : decode prog_8_method_5_code 48 = .ok (.invokevirtual 59, 3) := by decide +kernel
theorem d_8_5_51 : decode prog_8_method_5_code 51 = .ok (.aload_n 3, 1) := by decide +kernel
theorem d_8_5_52 : decode prog_8_method_5_code 52 = .ok (.astore 6, 2) := by decide +kernel
theorem d_8_5_54 : decode prog_8_method_5_code 54 = .ok (.aload 4, 2) := by decide +kernel
theorem d_8_5_56 : decode prog_8_method_5_code 56 = .ok (.astore_n 3, 1) := by decide +kernel
theorem d_8_5_57 : decode prog_8_method_5_code 57 = .ok (.aload 6, 2) := by decide +kernel
theorem d_8_5_59 : decode prog_8_method_5_code 59 = .ok (.astore 4, 2) := by decide +kernel
theorem d_8_5_61 : decode prog_8_method_5_code 61 = .ok (.iinc 5 1, 3) := by decide +kernel
theorem d_8_5_64 : decode prog_8_method_5_code 64 = .ok (.goto (-39), 3) := by decide +kernel
def y_Mil_commonDivisor : MethodName := ⟨"NumberHouse$Mill", "commonDivisor", "(LNumberHouse$Big;LNumberHouse$Big;)V"⟩
def F_Mil_commonDivisor_c72 (K_F_Mil_commonDivisor_L25 : Int32 → Int32 → Int32 → (Nat → Int32) → Int32 → Int32 → (Nat → Int32) → Int32 → Int32 → (Nat → Int32) → (Int32 × Int32 × (Nat → Int32) × Int32 × Int32 × (Nat → Int32) × Int32 × Int32 × (Nat → Int32) × Int32 × Int32 × (Nat → Int32))) (R : Int32) (R2 : Int32) (t0_0 : Int32) (t0_1 : Int32) (t1_0 : (Nat → Int32)) (t2_0 : Int32) (t2_1 : Int32) (t3_0 : (Nat → Int32)) (t4_0 : Int32) (t4_1 : Int32) (t5_0 : (Nat → Int32)) (t6_0 : Int32) (t6_1 : Int32) (t7_0 : (Nat → Int32)) (t8_0 : Int32) (t8_1 : Int32) (t9_0 : (Nat → Int32)) (t10_0 : Int32) (t10_1 : Int32) (t11_0 : (Nat → Int32)) (p64 : (Int32 × Int32 × (Nat → Int32))) (y53 : Int32) (y54 : Int32) (f55 : (Nat → Int32)) (p88 : (Int32 × Int32 × (Nat → Int32))) (lx109 : Int32) (lx110 : Int32) (lx111 : Int32) (lx112 : (Nat → Int32)) (lx113 : Int32) (lx114 : Int32) (lx115 : (Nat → Int32)) (lx116 : Int32) (lx117 : Int32) (lx118 : (Nat → Int32)) (p171 : (Int32 × Int32 × (Nat → Int32))) : Int32 × Int32 × (Nat → Int32) × Int32 × Int32 × (Nat → Int32) × Int32 × Int32 × (Nat → Int32) × Int32 × Int32 × (Nat → Int32) := ((p171.1 : Int32), (0 : Int32), (p171.2.2 : (Nat → Int32)), lx110, lx111, lx112, lx113, lx114, lx115, lx116, lx117, lx118)
def F_Mil_commonDivisor_c72_5 (K_F_Mil_commonDivisor_L25 : Int32 → Int32 → Int32 → (Nat → Int32) → Int32 → Int32 → (Nat → Int32) → Int32 → Int32 → (Nat → Int32) → (Int32 × Int32 × (Nat → Int32) × Int32 × Int32 × (Nat → Int32) × Int32 × Int32 × (Nat → Int32) × Int32 × Int32 × (Nat → Int32))) (R : Int32) (R2 : Int32) (t0_0 : Int32) (t0_1 : Int32) (t1_0 : (Nat → Int32)) (t2_0 : Int32) (t2_1 : Int32) (t3_0 : (Nat → Int32)) (t4_0 : Int32) (t4_1 : Int32) (t5_0 : (Nat → Int32)) (t6_0 : Int32) (t6_1 : Int32) (t7_0 : (Nat → Int32)) (t8_0 : Int32) (t8_1 : Int32) (t9_0 : (Nat → Int32)) (t10_0 : Int32) (t10_1 : Int32) (t11_0 : (Nat → Int32)) (p64 : (Int32 × Int32 × (Nat → Int32))) (y53 : Int32) (y54 : Int32) (f55 : (Nat → Int32)) (p88 : (Int32 × Int32 × (Nat → Int32))) (lx109 : Int32) (lx110 : Int32) (lx111 : Int32) (lx112 : (Nat → Int32)) (lx113 : Int32) (lx114 : Int32) (lx115 : (Nat → Int32)) (lx116 : Int32) (lx117 : Int32) (lx118 : (Nat → Int32)) (p201 : (Int32 × Int32 × (Nat → Int32))) : Int32 × Int32 × (Nat → Int32) × Int32 × Int32 × (Nat → Int32) × Int32 × Int32 × (Nat → Int32) × Int32 × Int32 × (Nat → Int32) := ((p201.1 : Int32), (0 : Int32), (p201.2.2 : (Nat → Int32)), lx110, lx111, lx112, lx113, lx114, lx115, lx116, lx117, lx118)
def F_Mil_commonDivisor_c72_7 (K_F_Mil_commonDivisor_L25 : Int32 → Int32 → Int32 → (Nat → Int32) → Int32 → Int32 → (Nat → Int32) → Int32 → Int32 → (Nat → Int32) → (Int32 × Int32 × (Nat → Int32) × Int32 × Int32 × (Nat → Int32) × Int32 × Int32 × (Nat → Int32) × Int32 × Int32 × (Nat → Int32))) (R : Int32) (R2 : Int32) (t0_0 : Int32) (t0_1 : Int32) (t1_0 : (Nat → Int32)) (t2_0 : Int32) (t2_1 : Int32) (t3_0 : (Nat → Int32)) (t4_0 : Int32) (t4_1 : Int32) (t5_0 : (Nat → Int32)) (t6_0 : Int32) (t6_1 : Int32) (t7_0 : (Nat → Int32)) (t8_0 : Int32) (t8_1 : Int32) (t9_0 : (Nat → Int32)) (t10_0 : Int32) (t10_1 : Int32) (t11_0 : (Nat → Int32)) (p64 : (Int32 × Int32 × (Nat → Int32))) (y53 : Int32) (y54 : Int32) (f55 : (Nat → Int32)) (p88 : (Int32 × Int32 × (Nat → Int32))) (lx109 : Int32) (lx110 : Int32) (lx111 : Int32) (lx112 : (Nat → Int32)) (lx113 : Int32) (lx114 : Int32) (lx115 : (Nat → Int32)) (lx116 : Int32) (lx117 : Int32) (lx118 : (Nat → Int32)) (p250 : (Int32 × Int32 × (Nat → Int32) × Int32 × Int32 × (Nat → Int32) × Int32 × Int32 × (Nat → Int32))) (a266 : Int32) (y229 : Int32) (y230 : Int32) (f231 : (Nat → Int32)) (y219 : Int32) (y220 : Int32) (f221 : (Nat → Int32)) (y224 : Int32) (y225 : Int32) (f226 : (Nat → Int32)) (p285 : (Int32 × Int32 × (Nat → Int32))) : Int32 × Int32 × (Nat → Int32) × Int32 × Int32 × (Nat → Int32) × Int32 × Int32 × (Nat → Int32) × Int32 × Int32 × (Nat → Int32) := ((p285.1 : Int32), (0 : Int32), (p285.2.2 : (Nat → Int32)), y229, y230, f231, y219, y220, f221, y224, y225, f226)
def F_Mil_commonDivisor_c72_8 (K_F_Mil_commonDivisor_L25 : Int32 → Int32 → Int32 → (Nat → Int32) → Int32 → Int32 → (Nat → Int32) → Int32 → Int32 → (Nat → Int32) → (Int32 × Int32 × (Nat → Int32) × Int32 × Int32 × (Nat → Int32) × Int32 × Int32 × (Nat → Int32) × Int32 × Int32 × (Nat → Int32))) (R : Int32) (R2 : Int32) (t0_0 : Int32) (t0_1 : Int32) (t1_0 : (Nat → Int32)) (t2_0 : Int32) (t2_1 : Int32) (t3_0 : (Nat → Int32)) (t4_0 : Int32) (t4_1 : Int32) (t5_0 : (Nat → Int32)) (t6_0 : Int32) (t6_1 : Int32) (t7_0 : (Nat → Int32)) (t8_0 : Int32) (t8_1 : Int32) (t9_0 : (Nat → Int32)) (t10_0 : Int32) (t10_1 : Int32) (t11_0 : (Nat → Int32)) (p64 : (Int32 × Int32 × (Nat → Int32))) (y53 : Int32) (y54 : Int32) (f55 : (Nat → Int32)) (p88 : (Int32 × Int32 × (Nat → Int32))) (lx109 : Int32) (lx110 : Int32) (lx111 : Int32) (lx112 : (Nat → Int32)) (lx113 : Int32) (lx114 : Int32) (lx115 : (Nat → Int32)) (lx116 : Int32) (lx117 : Int32) (lx118 : (Nat → Int32)) (p250 : (Int32 × Int32 × (Nat → Int32) × Int32 × Int32 × (Nat → Int32) × Int32 × Int32 × (Nat → Int32))) (a266 : Int32) (y229 : Int32) (y230 : Int32) (f231 : (Nat → Int32)) (y219 : Int32) (y220 : Int32) (f221 : (Nat → Int32)) (y224 : Int32) (y225 : Int32) (f226 : (Nat → Int32)) (p314 : (Int32 × Int32 × (Nat → Int32))) : Int32 × Int32 × (Nat → Int32) × Int32 × Int32 × (Nat → Int32) × Int32 × Int32 × (Nat → Int32) × Int32 × Int32 × (Nat → Int32) := ((p314.1 : Int32), (0 : Int32), (p314.2.2 : (Nat → Int32)), y229, y230, f231, y219, y220, f221, y224, y225, f226)
def F_Mil_commonDivisor_c48_9 (K_F_Mil_commonDivisor_L25 : Int32 → Int32 → Int32 → (Nat → Int32) → Int32 → Int32 → (Nat → Int32) → Int32 → Int32 → (Nat → Int32) → (Int32 × Int32 × (Nat → Int32) × Int32 × Int32 × (Nat → Int32) × Int32 × Int32 × (Nat → Int32) × Int32 × Int32 × (Nat → Int32))) (R : Int32) (R2 : Int32) (t0_0 : Int32) (t0_1 : Int32) (t1_0 : (Nat → Int32)) (t2_0 : Int32) (t2_1 : Int32) (t3_0 : (Nat → Int32)) (t4_0 : Int32) (t4_1 : Int32) (t5_0 : (Nat → Int32)) (t6_0 : Int32) (t6_1 : Int32) (t7_0 : (Nat → Int32)) (t8_0 : Int32) (t8_1 : Int32) (t9_0 : (Nat → Int32)) (t10_0 : Int32) (t10_1 : Int32) (t11_0 : (Nat → Int32)) (p64 : (Int32 × Int32 × (Nat → Int32))) (y53 : Int32) (y54 : Int32) (f55 : (Nat → Int32)) (p88 : (Int32 × Int32 × (Nat → Int32))) (lx109 : Int32) (lx110 : Int32) (lx111 : Int32) (lx112 : (Nat → Int32)) (lx113 : Int32) (lx114 : Int32) (lx115 : (Nat → Int32)) (lx116 : Int32) (lx117 : Int32) (lx118 : (Nat → Int32)) (p250 : (Int32 × Int32 × (Nat → Int32) × Int32 × Int32 × (Nat → Int32) × Int32 × Int32 × (Nat → Int32))) (a266 : Int32) (p362 : (Int32 × Int32 × (Nat → Int32) × Int32 × Int32 × (Nat → Int32) × Int32 × Int32 × (Nat → Int32))) : Int32 × Int32 × (Nat → Int32) × Int32 × Int32 × (Nat → Int32) × Int32 × Int32 × (Nat → Int32) × Int32 × Int32 × (Nat → Int32) := K_F_Mil_commonDivisor_L25 (a266 + 1 : Int32) (p362.2.2.2.2.2.2.1 : Int32) (p362.2.2.2.2.2.2.2.1 : Int32) (p362.2.2.2.2.2.2.2.2 : (Nat → Int32)) (p362.2.2.2.1 : Int32) (p362.2.2.2.2.1 : Int32) (p362.2.2.2.2.2.1 : (Nat → Int32)) (p362.1 : Int32) (p362.2.1 : Int32) (p362.2.2.1 : (Nat → Int32))
def F_Mil_commonDivisor_c48 (K_F_Mil_commonDivisor_L25 : Int32 → Int32 → Int32 → (Nat → Int32) → Int32 → Int32 → (Nat → Int32) → Int32 → Int32 → (Nat → Int32) → (Int32 × Int32 × (Nat → Int32) × Int32 × Int32 × (Nat → Int32) × Int32 × Int32 × (Nat → Int32) × Int32 × Int32 × (Nat → Int32))) (R : Int32) (R2 : Int32) (t0_0 : Int32) (t0_1 : Int32) (t1_0 : (Nat → Int32)) (t2_0 : Int32) (t2_1 : Int32) (t3_0 : (Nat → Int32)) (t4_0 : Int32) (t4_1 : Int32) (t5_0 : (Nat → Int32)) (t6_0 : Int32) (t6_1 : Int32) (t7_0 : (Nat → Int32)) (t8_0 : Int32) (t8_1 : Int32) (t9_0 : (Nat → Int32)) (t10_0 : Int32) (t10_1 : Int32) (t11_0 : (Nat → Int32)) (p64 : (Int32 × Int32 × (Nat → Int32))) (y53 : Int32) (y54 : Int32) (f55 : (Nat → Int32)) (p88 : (Int32 × Int32 × (Nat → Int32))) (lx109 : Int32) (lx110 : Int32) (lx111 : Int32) (lx112 : (Nat → Int32)) (lx113 : Int32) (lx114 : Int32) (lx115 : (Nat → Int32)) (lx116 : Int32) (lx117 : Int32) (lx118 : (Nat → Int32)) (p250 : (Int32 × Int32 × (Nat → Int32) × Int32 × Int32 × (Nat → Int32) × Int32 × Int32 × (Nat → Int32))) : Int32 × Int32 × (Nat → Int32) × Int32 × Int32 × (Nat → Int32) × Int32 × Int32 × (Nat → Int32) × Int32 × Int32 × (Nat → Int32) := if (10000 : Int32) ≤ (lx109 + 1 : Int32) then (F_Mil_commonDivisor_c72_7 K_F_Mil_commonDivisor_L25 R R2 t0_0 t0_1 t1_0 t2_0 t2_1 t3_0 t4_0 t4_1 t5_0 t6_0 t6_1 t7_0 t8_0 t8_1 t9_0 t10_0 t10_1 t11_0 p64 y53 y54 f55 p88 lx109 lx110 lx111 lx112 lx113 lx114 lx115 lx116 lx117 lx118 p250 (lx109 + 1 : Int32) (p250.2.2.2.2.2.2.1 : Int32) (p250.2.2.2.2.2.2.2.1 : Int32) (p250.2.2.2.2.2.2.2.2 : (Nat → Int32)) (p250.1 : Int32) (p250.2.1 : Int32) (p250.2.2.1 : (Nat → Int32)) (p250.2.2.2.1 : Int32) (p250.2.2.2.2.1 : Int32) (p250.2.2.2.2.2.1 : (Nat → Int32)) ((F_Big_copy (220 : Int32) (220 : Int32) t0_0 t0_1 t1_0 (p250.2.2.2.1 : Int32) (p250.2.2.2.2.1 : Int32) (p250.2.2.2.2.2.1 : (Nat → Int32))) : (Int32 × Int32 × (Nat → Int32)))) else (if (p250.1 : Int32) ≤ (0 : Int32) then (F_Mil_commonDivisor_c72_8 K_F_Mil_commonDivisor_L25 R R2 t0_0 t0_1 t1_0 t2_0 t2_1 t3_0 t4_0 t4_1 t5_0 t6_0 t6_1 t7_0 t8_0 t8_1 t9_0 t10_0 t10_1 t11_0 p64 y53 y54 f55 p88 lx109 lx110 lx111 lx112 lx113 lx114 lx115 lx116 lx117 lx118 p250 (lx109 + 1 : Int32) (p250.2.2.2.2.2.2.1 : Int32) (p250.2.2.2.2.2.2.2.1 : Int32) (p250.2.2.2.2.2.2.2.2 : (Nat → Int32)) (p250.1 : Int32) (p250.2.1 : Int32) (p250.2.2.1 : (Nat → Int32)) (p250.2.2.2.1 : Int32) (p250.2.2.2.2.1 : Int32) (p250.2.2.2.2.2.1 : (Nat → Int32)) ((F_Big_copy (220 : Int32) (220 : Int32) t0_0 t0_1 t1_0 (p250.2.2.2.1 : Int32) (p250.2.2.2.2.1 : Int32) (p250.2.2.2.2.2.1 : (Nat → Int32))) : (Int32 × Int32 × (Nat → Int32)))) else (F_Mil_commonDivisor_c48_9 K_F_Mil_commonDivisor_L25 R R2 t0_0 t0_1 t1_0 t2_0 t2_1 t3_0 t4_0 t4_1 t5_0 t6_0 t6_1 t7_0 t8_0 t8_1 t9_0 t10_0 t10_1 t11_0 p64 y53 y54 f55 p88 lx109 lx110 lx111 lx112 lx113 lx114 lx115 lx116 lx117 lx118 p250 (lx109 + 1 : Int32) ((F_Big_divideBy (220 : Int32) (220 : Int32) (220 : Int32) (p250.2.2.2.1 : Int32) (p250.2.2.2.2.1 : Int32) (p250.2.2.2.2.2.1 : (Nat → Int32)) (p250.1 : Int32) (p250.2.1 : Int32) (p250.2.2.1 : (Nat → Int32)) (p250.2.2.2.2.2.2.1 : Int32) (p250.2.2.2.2.2.2.2.1 : Int32) (p250.2.2.2.2.2.2.2.2 : (Nat → Int32))) : (Int32 × Int32 × (Nat → Int32) × Int32 × Int32 × (Nat → Int32) × Int32 × Int32 × (Nat → Int32)))))
def F_Mil_commonDivisor_L25 (R : Int32) (R2 : Int32) (t0_0 : Int32) (t0_1 : Int32) (t1_0 : (Nat → Int32)) (t2_0 : Int32) (t2_1 : Int32) (t3_0 : (Nat → Int32)) (t4_0 : Int32) (t4_1 : Int32) (t5_0 : (Nat → Int32)) (t6_0 : Int32) (t6_1 : Int32) (t7_0 : (Nat → Int32)) (t8_0 : Int32) (t8_1 : Int32) (t9_0 : (Nat → Int32)) (t10_0 : Int32) (t10_1 : Int32) (t11_0 : (Nat → Int32)) (p64 : (Int32 × Int32 × (Nat → Int32))) (y53 : Int32) (y54 : Int32) (f55 : (Nat → Int32)) (p88 : (Int32 × Int32 × (Nat → Int32))) : Nat → Int32 → Int32 → Int32 → (Nat → Int32) → Int32 → Int32 → (Nat → Int32) → Int32 → Int32 → (Nat → Int32) → (Int32 × Int32 × (Nat → Int32) × Int32 × Int32 × (Nat → Int32) × Int32 × Int32 × (Nat → Int32) × Int32 × Int32 × (Nat → Int32))
  | 0, _, _, _, _, _, _, _, _, _, _ => default
  | fm + 1, lx109, lx110, lx111, lx112, lx113, lx114, lx115, lx116, lx117, lx118 => if (10000 : Int32) ≤ lx109 then (F_Mil_commonDivisor_c72 (F_Mil_commonDivisor_L25 R R2 t0_0 t0_1 t1_0 t2_0 t2_1 t3_0 t4_0 t4_1 t5_0 t6_0 t6_1 t7_0 t8_0 t8_1 t9_0 t10_0 t10_1 t11_0 p64 y53 y54 f55 p88 fm) R R2 t0_0 t0_1 t1_0 t2_0 t2_1 t3_0 t4_0 t4_1 t5_0 t6_0 t6_1 t7_0 t8_0 t8_1 t9_0 t10_0 t10_1 t11_0 p64 y53 y54 f55 p88 lx109 lx110 lx111 lx112 lx113 lx114 lx115 lx116 lx117 lx118 ((F_Big_copy (220 : Int32) (220 : Int32) t0_0 t0_1 t1_0 lx113 lx114 lx115) : (Int32 × Int32 × (Nat → Int32)))) else (if lx116 ≤ (0 : Int32) then (F_Mil_commonDivisor_c72_5 (F_Mil_commonDivisor_L25 R R2 t0_0 t0_1 t1_0 t2_0 t2_1 t3_0 t4_0 t4_1 t5_0 t6_0 t6_1 t7_0 t8_0 t8_1 t9_0 t10_0 t10_1 t11_0 p64 y53 y54 f55 p88 fm) R R2 t0_0 t0_1 t1_0 t2_0 t2_1 t3_0 t4_0 t4_1 t5_0 t6_0 t6_1 t7_0 t8_0 t8_1 t9_0 t10_0 t10_1 t11_0 p64 y53 y54 f55 p88 lx109 lx110 lx111 lx112 lx113 lx114 lx115 lx116 lx117 lx118 ((F_Big_copy (220 : Int32) (220 : Int32) t0_0 t0_1 t1_0 lx113 lx114 lx115) : (Int32 × Int32 × (Nat → Int32)))) else (F_Mil_commonDivisor_c48 (F_Mil_commonDivisor_L25 R R2 t0_0 t0_1 t1_0 t2_0 t2_1 t3_0 t4_0 t4_1 t5_0 t6_0 t6_1 t7_0 t8_0 t8_1 t9_0 t10_0 t10_1 t11_0 p64 y53 y54 f55 p88 fm) R R2 t0_0 t0_1 t1_0 t2_0 t2_1 t3_0 t4_0 t4_1 t5_0 t6_0 t6_1 t7_0 t8_0 t8_1 t9_0 t10_0 t10_1 t11_0 p64 y53 y54 f55 p88 lx109 lx110 lx111 lx112 lx113 lx114 lx115 lx116 lx117 lx118 ((F_Big_divideBy (220 : Int32) (220 : Int32) (220 : Int32) lx113 lx114 lx115 lx116 lx117 lx118 lx110 lx111 lx112) : (Int32 × Int32 × (Nat → Int32) × Int32 × Int32 × (Nat → Int32) × Int32 × Int32 × (Nat → Int32)))))
def F_Mil_commonDivisor_c19 (R : Int32) (R2 : Int32) (t0_0 : Int32) (t0_1 : Int32) (t1_0 : (Nat → Int32)) (t2_0 : Int32) (t2_1 : Int32) (t3_0 : (Nat → Int32)) (t4_0 : Int32) (t4_1 : Int32) (t5_0 : (Nat → Int32)) (t6_0 : Int32) (t6_1 : Int32) (t7_0 : (Nat → Int32)) (t8_0 : Int32) (t8_1 : Int32) (t9_0 : (Nat → Int32)) (t10_0 : Int32) (t10_1 : Int32) (t11_0 : (Nat → Int32)) (p64 : (Int32 × Int32 × (Nat → Int32))) (y53 : Int32) (y54 : Int32) (f55 : (Nat → Int32)) (p88 : (Int32 × Int32 × (Nat → Int32))) : Int32 × Int32 × (Nat → Int32) × Int32 × Int32 × (Nat → Int32) × Int32 × Int32 × (Nat → Int32) × Int32 × Int32 × (Nat → Int32) := F_Mil_commonDivisor_L25 R R2 t0_0 t0_1 t1_0 t2_0 t2_1 t3_0 t4_0 t4_1 t5_0 t6_0 t6_1 t7_0 t8_0 t8_1 t9_0 t10_0 t10_1 t11_0 p64 y53 y54 f55 p88 ((10000 - (0 : Int32).toInt).toNat + 1) 0 t2_0 t2_1 t3_0 y53 y54 f55 (p88.1 : Int32) (p88.2.1 : Int32) (p88.2.2 : (Nat → Int32))
def F_Mil_commonDivisor_c13 (R : Int32) (R2 : Int32) (t0_0 : Int32) (t0_1 : Int32) (t1_0 : (Nat → Int32)) (t2_0 : Int32) (t2_1 : Int32) (t3_0 : (Nat → Int32)) (t4_0 : Int32) (t4_1 : Int32) (t5_0 : (Nat → Int32)) (t6_0 : Int32) (t6_1 : Int32) (t7_0 : (Nat → Int32)) (t8_0 : Int32) (t8_1 : Int32) (t9_0 : (Nat → Int32)) (t10_0 : Int32) (t10_1 : Int32) (t11_0 : (Nat → Int32)) (p64 : (Int32 × Int32 × (Nat → Int32))) : Int32 × Int32 × (Nat → Int32) × Int32 × Int32 × (Nat → Int32) × Int32 × Int32 × (Nat → Int32) × Int32 × Int32 × (Nat → Int32) := F_Mil_commonDivisor_c19 R R2 t0_0 t0_1 t1_0 t2_0 t2_1 t3_0 t4_0 t4_1 t5_0 t6_0 t6_1 t7_0 t8_0 t8_1 t9_0 t10_0 t10_1 t11_0 p64 (p64.1 : Int32) (p64.2.1 : Int32) (p64.2.2 : (Nat → Int32)) ((F_Big_copy (220 : Int32) R2 t6_0 t6_1 t7_0 t10_0 t10_1 t11_0) : (Int32 × Int32 × (Nat → Int32)))
def F_Mil_commonDivisor (R : Int32) (R2 : Int32) (t0_0 : Int32) (t0_1 : Int32) (t1_0 : (Nat → Int32)) (t2_0 : Int32) (t2_1 : Int32) (t3_0 : (Nat → Int32)) (t4_0 : Int32) (t4_1 : Int32) (t5_0 : (Nat → Int32)) (t6_0 : Int32) (t6_1 : Int32) (t7_0 : (Nat → Int32)) (t8_0 : Int32) (t8_1 : Int32) (t9_0 : (Nat → Int32)) (t10_0 : Int32) (t10_1 : Int32) (t11_0 : (Nat → Int32)) : Int32 × Int32 × (Nat → Int32) × Int32 × Int32 × (Nat → Int32) × Int32 × Int32 × (Nat → Int32) × Int32 × Int32 × (Nat → Int32) := F_Mil_commonDivisor_c13 R R2 t0_0 t0_1 t1_0 t2_0 t2_1 t3_0 t4_0 t4_1 t5_0 t6_0 t6_1 t7_0 t8_0 t8_1 t9_0 t10_0 t10_1 t11_0 ((F_Big_copy (220 : Int32) R t4_0 t4_1 t5_0 t8_0 t8_1 t9_0) : (Int32 × Int32 × (Nat → Int32)))
def S_Mil_commonDivisor_c72 (K_S_Mil_commonDivisor_L25 : Int32 → Int32 → Int32 → (Nat → Int32) → Int32 → Int32 → (Nat → Int32) → Int32 → Int32 → (Nat → Int32) → Prop) (R : Int32) (R2 : Int32) (t0_0 : Int32) (t0_1 : Int32) (t1_0 : (Nat → Int32)) (t2_0 : Int32) (t2_1 : Int32) (t3_0 : (Nat → Int32)) (t4_0 : Int32) (t4_1 : Int32) (t5_0 : (Nat → Int32)) (t6_0 : Int32) (t6_1 : Int32) (t7_0 : (Nat → Int32)) (t8_0 : Int32) (t8_1 : Int32) (t9_0 : (Nat → Int32)) (t10_0 : Int32) (t10_1 : Int32) (t11_0 : (Nat → Int32)) (p64 : (Int32 × Int32 × (Nat → Int32))) (y53 : Int32) (y54 : Int32) (f55 : (Nat → Int32)) (p88 : (Int32 × Int32 × (Nat → Int32))) (lx109 : Int32) (lx110 : Int32) (lx111 : Int32) (lx112 : (Nat → Int32)) (lx113 : Int32) (lx114 : Int32) (lx115 : (Nat → Int32)) (lx116 : Int32) (lx117 : Int32) (lx118 : (Nat → Int32)) (p171 : (Int32 × Int32 × (Nat → Int32))) : Prop := True
def S_Mil_commonDivisor_c72_5 (K_S_Mil_commonDivisor_L25 : Int32 → Int32 → Int32 → (Nat → Int32) → Int32 → Int32 → (Nat → Int32) → Int32 → Int32 → (Nat → Int32) → Prop) (R : Int32) (R2 : Int32) (t0_0 : Int32) (t0_1 : Int32) (t1_0 : (Nat → Int32)) (t2_0 : Int32) (t2_1 : Int32) (t3_0 : (Nat → Int32)) (t4_0 : Int32) (t4_1 : Int32) (t5_0 : (Nat → Int32)) (t6_0 : Int32) (t6_1 : Int32) (t7_0 : (Nat → Int32)) (t8_0 : Int32) (t8_1 : Int32) (t9_0 : (Nat → Int32)) (t10_0 : Int32) (t10_1 : Int32) (t11_0 : (Nat → Int32)) (p64 : (Int32 × Int32 × (Nat → Int32))) (y53 : Int32) (y54 : Int32) (f55 : (Nat → Int32)) (p88 : (Int32 × Int32 × (Nat → Int32))) (lx109 : Int32) (lx110 : Int32) (lx111 : Int32) (lx112 : (Nat → Int32)) (lx113 : Int32) (lx114 : Int32) (lx115 : (Nat → Int32)) (lx116 : Int32) (lx117 : Int32) (lx118 : (Nat → Int32)) (p201 : (Int32 × Int32 × (Nat → Int32))) : Prop := True
def S_Mil_commonDivisor_c72_7 (K_S_Mil_commonDivisor_L25 : Int32 → Int32 → Int32 → (Nat → Int32) → Int32 → Int32 → (Nat → Int32) → Int32 → Int32 → (Nat → Int32) → Prop) (R : Int32) (R2 : Int32) (t0_0 : Int32) (t0_1 : Int32) (t1_0 : (Nat → Int32)) (t2_0 : Int32) (t2_1 : Int32) (t3_0 : (Nat → Int32)) (t4_0 : Int32) (t4_1 : Int32) (t5_0 : (Nat → Int32)) (t6_0 : Int32) (t6_1 : Int32) (t7_0 : (Nat → Int32)) (t8_0 : Int32) (t8_1 : Int32) (t9_0 : (Nat → Int32)) (t10_0 : Int32) (t10_1 : Int32) (t11_0 : (Nat → Int32)) (p64 : (Int32 × Int32 × (Nat → Int32))) (y53 : Int32) (y54 : Int32) (f55 : (Nat → Int32)) (p88 : (Int32 × Int32 × (Nat → Int32))) (lx109 : Int32) (lx110 : Int32) (lx111 : Int32) (lx112 : (Nat → Int32)) (lx113 : Int32) (lx114 : Int32) (lx115 : (Nat → Int32)) (lx116 : Int32) (lx117 : Int32) (lx118 : (Nat → Int32)) (p250 : (Int32 × Int32 × (Nat → Int32) × Int32 × Int32 × (Nat → Int32) × Int32 × Int32 × (Nat → Int32))) (a266 : Int32) (y229 : Int32) (y230 : Int32) (f231 : (Nat → Int32)) (y219 : Int32) (y220 : Int32) (f221 : (Nat → Int32)) (y224 : Int32) (y225 : Int32) (f226 : (Nat → Int32)) (p285 : (Int32 × Int32 × (Nat → Int32))) : Prop := True
def S_Mil_commonDivisor_c72_8 (K_S_Mil_commonDivisor_L25 : Int32 → Int32 → Int32 → (Nat → Int32) → Int32 → Int32 → (Nat → Int32) → Int32 → Int32 → (Nat → Int32) → Prop) (R : Int32) (R2 : Int32) (t0_0 : Int32) (t0_1 : Int32) (t1_0 : (Nat → Int32)) (t2_0 : Int32) (t2_1 : Int32) (t3_0 : (Nat → Int32)) (t4_0 : Int32) (t4_1 : Int32) (t5_0 : (Nat → Int32)) (t6_0 : Int32) (t6_1 : Int32) (t7_0 : (Nat → Int32)) (t8_0 : Int32) (t8_1 : Int32) (t9_0 : (Nat → Int32)) (t10_0 : Int32) (t10_1 : Int32) (t11_0 : (Nat → Int32)) (p64 : (Int32 × Int32 × (Nat → Int32))) (y53 : Int32) (y54 : Int32) (f55 : (Nat → Int32)) (p88 : (Int32 × Int32 × (Nat → Int32))) (lx109 : Int32) (lx110 : Int32) (lx111 : Int32) (lx112 : (Nat → Int32)) (lx113 : Int32) (lx114 : Int32) (lx115 : (Nat → Int32)) (lx116 : Int32) (lx117 : Int32) (lx118 : (Nat → Int32)) (p250 : (Int32 × Int32 × (Nat → Int32) × Int32 × Int32 × (Nat → Int32) × Int32 × Int32 × (Nat → Int32))) (a266 : Int32) (y229 : Int32) (y230 : Int32) (f231 : (Nat → Int32)) (y219 : Int32) (y220 : Int32) (f221 : (Nat → Int32)) (y224 : Int32) (y225 : Int32) (f226 : (Nat → Int32)) (p314 : (Int32 × Int32 × (Nat → Int32))) : Prop := True
def S_Mil_commonDivisor_c48_9 (K_S_Mil_commonDivisor_L25 : Int32 → Int32 → Int32 → (Nat → Int32) → Int32 → Int32 → (Nat → Int32) → Int32 → Int32 → (Nat → Int32) → Prop) (R : Int32) (R2 : Int32) (t0_0 : Int32) (t0_1 : Int32) (t1_0 : (Nat → Int32)) (t2_0 : Int32) (t2_1 : Int32) (t3_0 : (Nat → Int32)) (t4_0 : Int32) (t4_1 : Int32) (t5_0 : (Nat → Int32)) (t6_0 : Int32) (t6_1 : Int32) (t7_0 : (Nat → Int32)) (t8_0 : Int32) (t8_1 : Int32) (t9_0 : (Nat → Int32)) (t10_0 : Int32) (t10_1 : Int32) (t11_0 : (Nat → Int32)) (p64 : (Int32 × Int32 × (Nat → Int32))) (y53 : Int32) (y54 : Int32) (f55 : (Nat → Int32)) (p88 : (Int32 × Int32 × (Nat → Int32))) (lx109 : Int32) (lx110 : Int32) (lx111 : Int32) (lx112 : (Nat → Int32)) (lx113 : Int32) (lx114 : Int32) (lx115 : (Nat → Int32)) (lx116 : Int32) (lx117 : Int32) (lx118 : (Nat → Int32)) (p250 : (Int32 × Int32 × (Nat → Int32) × Int32 × Int32 × (Nat → Int32) × Int32 × Int32 × (Nat → Int32))) (a266 : Int32) (p362 : (Int32 × Int32 × (Nat → Int32) × Int32 × Int32 × (Nat → Int32) × Int32 × Int32 × (Nat → Int32))) : Prop := K_S_Mil_commonDivisor_L25 (a266 + 1 : Int32) (p362.2.2.2.2.2.2.1 : Int32) (p362.2.2.2.2.2.2.2.1 : Int32) (p362.2.2.2.2.2.2.2.2 : (Nat → Int32)) (p362.2.2.2.1 : Int32) (p362.2.2.2.2.1 : Int32) (p362.2.2.2.2.2.1 : (Nat → Int32)) (p362.1 : Int32) (p362.2.1 : Int32) (p362.2.2.1 : (Nat → Int32))
def S_Mil_commonDivisor_c48 (K_S_Mil_commonDivisor_L25 : Int32 → Int32 → Int32 → (Nat → Int32) → Int32 → Int32 → (Nat → Int32) → Int32 → Int32 → (Nat → Int32) → Prop) (R : Int32) (R2 : Int32) (t0_0 : Int32) (t0_1 : Int32) (t1_0 : (Nat → Int32)) (t2_0 : Int32) (t2_1 : Int32) (t3_0 : (Nat → Int32)) (t4_0 : Int32) (t4_1 : Int32) (t5_0 : (Nat → Int32)) (t6_0 : Int32) (t6_1 : Int32) (t7_0 : (Nat → Int32)) (t8_0 : Int32) (t8_1 : Int32) (t9_0 : (Nat → Int32)) (t10_0 : Int32) (t10_1 : Int32) (t11_0 : (Nat → Int32)) (p64 : (Int32 × Int32 × (Nat → Int32))) (y53 : Int32) (y54 : Int32) (f55 : (Nat → Int32)) (p88 : (Int32 × Int32 × (Nat → Int32))) (lx109 : Int32) (lx110 : Int32) (lx111 : Int32) (lx112 : (Nat → Int32)) (lx113 : Int32) (lx114 : Int32) (lx115 : (Nat → Int32)) (lx116 : Int32) (lx117 : Int32) (lx118 : (Nat → Int32)) (p250 : (Int32 × Int32 × (Nat → Int32) × Int32 × Int32 × (Nat → Int32) × Int32 × Int32 × (Nat → Int32))) : Prop := if (10000 : Int32) ≤ (lx109 + 1 : Int32) then (S_Mil_commonDivisor_c72_7 K_S_Mil_commonDivisor_L25 R R2 t0_0 t0_1 t1_0 t2_0 t2_1 t3_0 t4_0 t4_1 t5_0 t6_0 t6_1 t7_0 t8_0 t8_1 t9_0 t10_0 t10_1 t11_0 p64 y53 y54 f55 p88 lx109 lx110 lx111 lx112 lx113 lx114 lx115 lx116 lx117 lx118 p250 (lx109 + 1 : Int32) (p250.2.2.2.2.2.2.1 : Int32) (p250.2.2.2.2.2.2.2.1 : Int32) (p250.2.2.2.2.2.2.2.2 : (Nat → Int32)) (p250.1 : Int32) (p250.2.1 : Int32) (p250.2.2.1 : (Nat → Int32)) (p250.2.2.2.1 : Int32) (p250.2.2.2.2.1 : Int32) (p250.2.2.2.2.2.1 : (Nat → Int32)) ((F_Big_copy (220 : Int32) (220 : Int32) t0_0 t0_1 t1_0 (p250.2.2.2.1 : Int32) (p250.2.2.2.2.1 : Int32) (p250.2.2.2.2.2.1 : (Nat → Int32))) : (Int32 × Int32 × (Nat → Int32)))) else (if (p250.1 : Int32) ≤ (0 : Int32) then (S_Mil_commonDivisor_c72_8 K_S_Mil_commonDivisor_L25 R R2 t0_0 t0_1 t1_0 t2_0 t2_1 t3_0 t4_0 t4_1 t5_0 t6_0 t6_1 t7_0 t8_0 t8_1 t9_0 t10_0 t10_1 t11_0 p64 y53 y54 f55 p88 lx109 lx110 lx111 lx112 lx113 lx114 lx115 lx116 lx117 lx118 p250 (lx109 + 1 : Int32) (p250.2.2.2.2.2.2.1 : Int32) (p250.2.2.2.2.2.2.2.1 : Int32) (p250.2.2.2.2.2.2.2.2 : (Nat → Int32)) (p250.1 : Int32) (p250.2.1 : Int32) (p250.2.2.1 : (Nat → Int32)) (p250.2.2.2.1 : Int32) (p250.2.2.2.2.1 : Int32) (p250.2.2.2.2.2.1 : (Nat → Int32)) ((F_Big_copy (220 : Int32) (220 : Int32) t0_0 t0_1 t1_0 (p250.2.2.2.1 : Int32) (p250.2.2.2.2.1 : Int32) (p250.2.2.2.2.2.1 : (Nat → Int32))) : (Int32 × Int32 × (Nat → Int32)))) else ((True ∧ S_Big_divideBy (220 : Int32) (220 : Int32) (220 : Int32) (p250.2.2.2.1 : Int32) (p250.2.2.2.2.1 : Int32) (p250.2.2.2.2.2.1 : (Nat → Int32)) (p250.1 : Int32) (p250.2.1 : Int32) (p250.2.2.1 : (Nat → Int32)) (p250.2.2.2.2.2.2.1 : Int32) (p250.2.2.2.2.2.2.2.1 : Int32) (p250.2.2.2.2.2.2.2.2 : (Nat → Int32))) ∧ (S_Mil_commonDivisor_c48_9 K_S_Mil_commonDivisor_L25 R R2 t0_0 t0_1 t1_0 t2_0 t2_1 t3_0 t4_0 t4_1 t5_0 t6_0 t6_1 t7_0 t8_0 t8_1 t9_0 t10_0 t10_1 t11_0 p64 y53 y54 f55 p88 lx109 lx110 lx111 lx112 lx113 lx114 lx115 lx116 lx117 lx118 p250 (lx109 + 1 : Int32) ((F_Big_divideBy (220 : Int32) (220 : Int32) (220 : Int32) (p250.2.2.2.1 : Int32) (p250.2.2.2.2.1 : Int32) (p250.2.2.2.2.2.1 : (Nat → Int32)) (p250.1 : Int32) (p250.2.1 : Int32) (p250.2.2.1 : (Nat → Int32)) (p250.2.2.2.2.2.2.1 : Int32) (p250.2.2.2.2.2.2.2.1 : Int32) (p250.2.2.2.2.2.2.2.2 : (Nat → Int32))) : (Int32 × Int32 × (Nat → Int32) × Int32 × Int32 × (Nat → Int32) × Int32 × Int32 × (Nat → Int32))))))
def S_Mil_commonDivisor_L25 (R : Int32) (R2 : Int32) (t0_0 : Int32) (t0_1 : Int32) (t1_0 : (Nat → Int32)) (t2_0 : Int32) (t2_1 : Int32) (t3_0 : (Nat → Int32)) (t4_0 : Int32) (t4_1 : Int32) (t5_0 : (Nat → Int32)) (t6_0 : Int32) (t6_1 : Int32) (t7_0 : (Nat → Int32)) (t8_0 : Int32) (t8_1 : Int32) (t9_0 : (Nat → Int32)) (t10_0 : Int32) (t10_1 : Int32) (t11_0 : (Nat → Int32)) (p64 : (Int32 × Int32 × (Nat → Int32))) (y53 : Int32) (y54 : Int32) (f55 : (Nat → Int32)) (p88 : (Int32 × Int32 × (Nat → Int32))) : Nat → Int32 → Int32 → Int32 → (Nat → Int32) → Int32 → Int32 → (Nat → Int32) → Int32 → Int32 → (Nat → Int32) → Prop
  | 0, _, _, _, _, _, _, _, _, _, _ => False
  | fm + 1, lx109, lx110, lx111, lx112, lx113, lx114, lx115, lx116, lx117, lx118 => if (10000 : Int32) ≤ lx109 then (S_Mil_commonDivisor_c72 (S_Mil_commonDivisor_L25 R R2 t0_0 t0_1 t1_0 t2_0 t2_1 t3_0 t4_0 t4_1 t5_0 t6_0 t6_1 t7_0 t8_0 t8_1 t9_0 t10_0 t10_1 t11_0 p64 y53 y54 f55 p88 fm) R R2 t0_0 t0_1 t1_0 t2_0 t2_1 t3_0 t4_0 t4_1 t5_0 t6_0 t6_1 t7_0 t8_0 t8_1 t9_0 t10_0 t10_1 t11_0 p64 y53 y54 f55 p88 lx109 lx110 lx111 lx112 lx113 lx114 lx115 lx116 lx117 lx118 ((F_Big_copy (220 : Int32) (220 : Int32) t0_0 t0_1 t1_0 lx113 lx114 lx115) : (Int32 × Int32 × (Nat → Int32)))) else (if lx116 ≤ (0 : Int32) then (S_Mil_commonDivisor_c72_5 (S_Mil_commonDivisor_L25 R R2 t0_0 t0_1 t1_0 t2_0 t2_1 t3_0 t4_0 t4_1 t5_0 t6_0 t6_1 t7_0 t8_0 t8_1 t9_0 t10_0 t10_1 t11_0 p64 y53 y54 f55 p88 fm) R R2 t0_0 t0_1 t1_0 t2_0 t2_1 t3_0 t4_0 t4_1 t5_0 t6_0 t6_1 t7_0 t8_0 t8_1 t9_0 t10_0 t10_1 t11_0 p64 y53 y54 f55 p88 lx109 lx110 lx111 lx112 lx113 lx114 lx115 lx116 lx117 lx118 ((F_Big_copy (220 : Int32) (220 : Int32) t0_0 t0_1 t1_0 lx113 lx114 lx115) : (Int32 × Int32 × (Nat → Int32)))) else ((True ∧ S_Big_divideBy (220 : Int32) (220 : Int32) (220 : Int32) lx113 lx114 lx115 lx116 lx117 lx118 lx110 lx111 lx112) ∧ (S_Mil_commonDivisor_c48 (S_Mil_commonDivisor_L25 R R2 t0_0 t0_1 t1_0 t2_0 t2_1 t3_0 t4_0 t4_1 t5_0 t6_0 t6_1 t7_0 t8_0 t8_1 t9_0 t10_0 t10_1 t11_0 p64 y53 y54 f55 p88 fm) R R2 t0_0 t0_1 t1_0 t2_0 t2_1 t3_0 t4_0 t4_1 t5_0 t6_0 t6_1 t7_0 t8_0 t8_1 t9_0 t10_0 t10_1 t11_0 p64 y53 y54 f55 p88 lx109 lx110 lx111 lx112 lx113 lx114 lx115 lx116 lx117 lx118 ((F_Big_divideBy (220 : Int32) (220 : Int32) (220 : Int32) lx113 lx114 lx115 lx116 lx117 lx118 lx110 lx111 lx112) : (Int32 × Int32 × (Nat → Int32) × Int32 × Int32 × (Nat → Int32) × Int32 × Int32 × (Nat → Int32))))))
def S_Mil_commonDivisor_c19 (R : Int32) (R2 : Int32) (t0_0 : Int32) (t0_1 : Int32) (t1_0 : (Nat → Int32)) (t2_0 : Int32) (t2_1 : Int32) (t3_0 : (Nat → Int32)) (t4_0 : Int32) (t4_1 : Int32) (t5_0 : (Nat → Int32)) (t6_0 : Int32) (t6_1 : Int32) (t7_0 : (Nat → Int32)) (t8_0 : Int32) (t8_1 : Int32) (t9_0 : (Nat → Int32)) (t10_0 : Int32) (t10_1 : Int32) (t11_0 : (Nat → Int32)) (p64 : (Int32 × Int32 × (Nat → Int32))) (y53 : Int32) (y54 : Int32) (f55 : (Nat → Int32)) (p88 : (Int32 × Int32 × (Nat → Int32))) : Prop := S_Mil_commonDivisor_L25 R R2 t0_0 t0_1 t1_0 t2_0 t2_1 t3_0 t4_0 t4_1 t5_0 t6_0 t6_1 t7_0 t8_0 t8_1 t9_0 t10_0 t10_1 t11_0 p64 y53 y54 f55 p88 ((10000 - (0 : Int32).toInt).toNat + 1) 0 t2_0 t2_1 t3_0 y53 y54 f55 (p88.1 : Int32) (p88.2.1 : Int32) (p88.2.2 : (Nat → Int32))
def S_Mil_commonDivisor_c13 (R : Int32) (R2 : Int32) (t0_0 : Int32) (t0_1 : Int32) (t1_0 : (Nat → Int32)) (t2_0 : Int32) (t2_1 : Int32) (t3_0 : (Nat → Int32)) (t4_0 : Int32) (t4_1 : Int32) (t5_0 : (Nat → Int32)) (t6_0 : Int32) (t6_1 : Int32) (t7_0 : (Nat → Int32)) (t8_0 : Int32) (t8_1 : Int32) (t9_0 : (Nat → Int32)) (t10_0 : Int32) (t10_1 : Int32) (t11_0 : (Nat → Int32)) (p64 : (Int32 × Int32 × (Nat → Int32))) : Prop := S_Mil_commonDivisor_c19 R R2 t0_0 t0_1 t1_0 t2_0 t2_1 t3_0 t4_0 t4_1 t5_0 t6_0 t6_1 t7_0 t8_0 t8_1 t9_0 t10_0 t10_1 t11_0 p64 (p64.1 : Int32) (p64.2.1 : Int32) (p64.2.2 : (Nat → Int32)) ((F_Big_copy (220 : Int32) R2 t6_0 t6_1 t7_0 t10_0 t10_1 t11_0) : (Int32 × Int32 × (Nat → Int32)))
def S_Mil_commonDivisor (R : Int32) (R2 : Int32) (t0_0 : Int32) (t0_1 : Int32) (t1_0 : (Nat → Int32)) (t2_0 : Int32) (t2_1 : Int32) (t3_0 : (Nat → Int32)) (t4_0 : Int32) (t4_1 : Int32) (t5_0 : (Nat → Int32)) (t6_0 : Int32) (t6_1 : Int32) (t7_0 : (Nat → Int32)) (t8_0 : Int32) (t8_1 : Int32) (t9_0 : (Nat → Int32)) (t10_0 : Int32) (t10_1 : Int32) (t11_0 : (Nat → Int32)) : Prop := S_Mil_commonDivisor_c13 R R2 t0_0 t0_1 t1_0 t2_0 t2_1 t3_0 t4_0 t4_1 t5_0 t6_0 t6_1 t7_0 t8_0 t8_1 t9_0 t10_0 t10_1 t11_0 ((F_Big_copy (220 : Int32) R t4_0 t4_1 t5_0 t8_0 t8_1 t9_0) : (Int32 × Int32 × (Nat → Int32)))
set_option maxRecDepth 100000 in
set_option maxHeartbeats 4000000 in
theorem X_Mil_commonDivisor (l : Launch) (D : va_G) (g : Nat → ClassId) (q : Nat → Nat) (ws : va_W) (k2 : Nat) (R : Int32) (hB2 : q_isBig (nsh g q) g q k2 R) (zk2 : (10 ≤ k2 ∧ k2 ≤ 32) ∨ 66 ≤ k2) (k3 : Nat) (R2 : Int32) (hB3 : q_isBig (nsh g q) g q k3 R2) (zk3 : (10 ≤ k3 ∧ k3 ≤ 32) ∨ 66 ≤ k3) (ne_k2_10 : k2 ≠ 10) (ne_k2_11 : k2 ≠ 11) (ne_k2_9 : k2 ≠ 9) (ne_k2_12 : k2 ≠ 12) (ne_k2_13 : k2 ≠ 13) (ne_k2_11 : k2 ≠ 11) (ne_k2_22 : k2 ≠ 22) (ne_k2_23 : k2 ≠ 23) (ne_k2_21 : k2 ≠ 21) (ne_k2_24 : k2 ≠ 24) (ne_k2_25 : k2 ≠ 25) (ne_k2_23 : k2 ≠ 23) (ne_k3_10 : k3 ≠ 10) (ne_k3_11 : k3 ≠ 11) (ne_k3_9 : k3 ≠ 9) (ne_k3_12 : k3 ≠ 12) (ne_k3_13 : k3 ≠ 13) (ne_k3_11 : k3 ≠ 11) (ne_k3_22 : k3 ≠ 22) (ne_k3_23 : k3 ≠ 23) (ne_k3_21 : k3 ≠ 21) (ne_k3_24 : k3 ≠ 24) (ne_k3_25 : k3 ≠ 25) (ne_k3_23 : k3 ≠ 23) (hI : q_I (nsh g q) q ws) (t0_0 : Int32) (t0_1 : Int32) (hT0 : ws[10]? = (some (q 10, .inr (2, [.ref (q 11), .int t0_0, .int t0_1])) : Option (Nat × va_E))) (t1_0 : (Nat → Int32)) (hT1 : ws[11]? = (some (q 11, .inl (g 0, (220 : Int32).toNatClampNeg, .inl t1_0)) : Option (Nat × va_E))) (t2_0 : Int32) (t2_1 : Int32) (hT2 : ws[12]? = (some (q 12, .inr (2, [.ref (q 13), .int t2_0, .int t2_1])) : Option (Nat × va_E))) (t3_0 : (Nat → Int32)) (hT3 : ws[13]? = (some (q 13, .inl (g 0, (220 : Int32).toNatClampNeg, .inl t3_0)) : Option (Nat × va_E))) (t4_0 : Int32) (t4_1 : Int32) (hT4 : ws[22]? = (some (q 22, .inr (2, [.ref (q 23), .int t4_0, .int t4_1])) : Option (Nat × va_E))) (t5_0 : (Nat → Int32)) (hT5 : ws[23]? = (some (q 23, .inl (g 0, (220 : Int32).toNatClampNeg, .inl t5_0)) : Option (Nat × va_E))) (t6_0 : Int32) (t6_1 : Int32) (hT6 : ws[24]? = (some (q 24, .inr (2, [.ref (q 25), .int t6_0, .int t6_1])) : Option (Nat × va_E))) (t7_0 : (Nat → Int32)) (hT7 : ws[25]? = (some (q 25, .inl (g 0, (220 : Int32).toNatClampNeg, .inl t7_0)) : Option (Nat × va_E))) (t8_0 : Int32) (t8_1 : Int32) (hT8 : ws[k2]? = (some (q k2, .inr (2, [.ref (q (k2 + 1)), .int t8_0, .int t8_1])) : Option (Nat × va_E))) (t9_0 : (Nat → Int32)) (hT9 : ws[k2 + 1]? = (some (q (k2 + 1), .inl (g 0, R.toNatClampNeg, .inl t9_0)) : Option (Nat × va_E))) (t10_0 : Int32) (t10_1 : Int32) (hT10 : ws[k3]? = (some (q k3, .inr (2, [.ref (q (k3 + 1)), .int t10_0, .int t10_1])) : Option (Nat × va_E))) (t11_0 : (Nat → Int32)) (hT11 : ws[k3 + 1]? = (some (q (k3 + 1), .inl (g 0, R2.toNatClampNeg, .inl t11_0)) : Option (Nat × va_E))) (hS : True ∧ S_Mil_commonDivisor R R2 t0_0 t0_1 t1_0 t2_0 t2_1 t3_0 t4_0 t4_1 t5_0 t6_0 t6_1 t7_0 t8_0 t8_1 t9_0 t10_0 t10_1 t11_0) : q_mV l y_Mil_commonDivisor prog_8_method_5_code 7 5 0 0 D g [.ref (q 9), .ref (q k2), .ref (q k3)] ws (fun u => q_I (nsh g q) q u ∧ q_un ws u [10, 11, 12, 13, 22, 23, 24, 25] ∧ ∃ (u0_0 : Int32) (u0_1 : Int32) (u1_0 : (Nat → Int32)) (u2_0 : Int32) (u2_1 : Int32) (u3_0 : (Nat → Int32)) (u4_0 : Int32) (u4_1 : Int32) (u5_0 : (Nat → Int32)) (u6_0 : Int32) (u6_1 : Int32) (u7_0 : (Nat → Int32)), u[10]? = (some (q 10, .inr (2, [.ref (q 11), .int u0_0, .int u0_1])) : Option (Nat × va_E)) ∧ u[11]? = (some (q 11, .inl (g 0, (220 : Int32).toNatClampNeg, .inl u1_0)) : Option (Nat × va_E)) ∧ u[12]? = (some (q 12, .inr (2, [.ref (q 13), .int u2_0, .int u2_1])) : Option (Nat × va_E)) ∧ u[13]? = (some (q 13, .inl (g 0, (220 : Int32).toNatClampNeg, .inl u3_0)) : Option (Nat × va_E)) ∧ u[22]? = (some (q 22, .inr (2, [.ref (q 23), .int u4_0, .int u4_1])) : Option (Nat × va_E)) ∧ u[23]? = (some (q 23, .inl (g 0, (220 : Int32).toNatClampNeg, .inl u5_0)) : Option (Nat × va_E)) ∧ u[24]? = (some (q 24, .inr (2, [.ref (q 25), .int u6_0, .int u6_1])) : Option (Nat × va_E)) ∧ u[25]? = (some (q 25, .inl (g 0, (220 : Int32).toNatClampNeg, .inl u7_0)) : Option (Nat × va_E)) ∧ (0 ≤ u0_1.toInt) ∧ (u0_1.toInt ≤ 0) ∧ (u2_1.toInt ≤ t2_1.toInt) ∧ (u4_1.toInt ≤ t8_1.toInt) ∧ (u6_1.toInt ≤ t10_1.toInt) ∧ (u0_1.toInt ≤ u0_0.toInt) ∧ (u0_0.toInt ≤ u0_1.toInt + 220) ∧ (u2_0.toInt ≤ u0_1.toInt + 220) ∧ (u0_1.toInt ≤ u2_0.toInt) ∧ (u0_1.toInt ≤ u2_1.toInt) ∧ (u4_0.toInt ≤ u0_1.toInt + 220) ∧ (u0_1.toInt ≤ u4_0.toInt) ∧ (u0_1.toInt ≤ u4_1.toInt) ∧ (u6_0.toInt ≤ u0_1.toInt + 220) ∧ (u0_1.toInt ≤ u6_0.toInt) ∧ (u0_1.toInt ≤ u6_1.toInt) ∧ (u0_0, u0_1, u1_0, u2_0, u2_1, u3_0, u4_0, u4_1, u5_0, u6_0, u6_1, u7_0) = (F_Mil_commonDivisor R R2 t0_0 t0_1 t1_0 t2_0 t2_1 t3_0 t4_0 t4_1 t5_0 t6_0 t6_1 t7_0 t8_0 t8_1 t9_0 t10_0 t10_1 t11_0)) := by
  intro sz
  refine q_into (by decide) (Nat.le_of_ble_eq_true rfl) ?_
  intro p e s m below meth c ls hsz C0 V hl
  have hx := C0.1
  have hb := C0.2.1
  have btt0_1 := (q_bigW hI (n_b10 g q) hT0).2
  clear btt0_1
  obtain ⟨btt2_0, btt2_1⟩ := q_bigW hI (n_b12 g q) hT2
  replace btt2_0 : q_F (0 ≤ t2_0.toInt ∧ t2_0.toInt ≤ 220) := btt2_0
  replace btt2_1 : q_F (0 ≤ t2_1.toInt ∧ t2_1.toInt ≤ 1) := btt2_1
  have btt4_1 := (q_bigW hI (n_b22 g q) hT4).2
  clear btt4_1
  have btt6_1 := (q_bigW hI (n_b24 g q) hT6).2
  clear btt6_1
  have btt8_1 := (q_bigW hI hB2 hT8).2
  replace btt8_1 : q_F (0 ≤ t8_1.toInt ∧ t8_1.toInt ≤ 1) := btt8_1
  have btt10_1 := (q_bigW hI hB3 hT10).2
  replace btt10_1 : q_F (0 ≤ t10_1.toInt ∧ t10_1.toInt ≤ 1) := btt10_1
  have hF : q_un ws ws [10, 11, 12, 13, 22, 23, 24, 25] := q_u0
  have hl : lv_has ls 7 [(0, .ref (q 9)), (1, .ref (q k2)), (2, .ref (q k3))] := hl
  refine lv_aload_n hx hb d_8_5_0 rfl (lv_at hl 0 rfl) ?_
  have hO49 := n_o9 hI
  refine q_get (ci := 4) (j := 6) (v := .ref (q 22)) C0 V i_Mil rfl rfl hO49 (by decide) w_125 rfl d_8_5_1 ?_
  refine lv_astore_n (lv' := [(3, .ref (q 22)), (0, .ref (q 9)), (1, .ref (q k2)), (2, .ref (q k3))]) hx hb d_8_5_4 rfl hl (by decide) rfl (fun ls hl => ?_)
  refine lv_aload_n hx hb d_8_5_5 rfl (lv_at hl 1 rfl) ?_
  refine q_get (ci := 4) (j := 7) (v := .ref (q 24)) C0 V i_Mil rfl rfl hO49 (by decide) w_128 rfl d_8_5_6 ?_
  refine lv_astore (lv' := [(4, .ref (q 24)), (3, .ref (q 22)), (0, .ref (q 9)), (1, .ref (q k2)), (2, .ref (q k3))]) hx hb d_8_5_9 hl (by decide) rfl (fun ls hl => ?_)
  refine lv_aload_n hx hb d_8_5_11 rfl (lv_at hl 1 rfl) ?_
  refine lv_aload_n hx hb d_8_5_12 rfl (lv_at hl 3 rfl) ?_
  refine q_gov V (q_runV (As := [.ref (q k2)]) (rest := []) (d := 2) (mc := 0) (ms := 0) (ci := 2) C0 V rfl LV_Mil_51 (X_Big_copy l D g q ws 22 220 (n_b22 g q) (by decide) k2 R hB2 zk2  (by have z := ne_k2_22; omega) hI t4_0 t4_1 hT4 t5_0 hT5 t8_0 t8_1 hT8 t9_0 hT9  _) rfl rfl hT4 rfl hl.1 rfl (Nat.le_of_ble_eq_true rfl) ⟨by decide, by decide⟩ ⟨Nat.le_of_ble_eq_true rfl, Nat.le_of_ble_eq_true rfl⟩ d_8_5_13) (fun u50 H locs hp51 V => ?_)
  obtain ⟨hI, hZ9⟩ := hp51
  obtain ⟨hu63, hZ9⟩ := hZ9
  obtain ⟨y53, hZ9⟩ := hZ9
  obtain ⟨y54, hZ9⟩ := hZ9
  obtain ⟨f55, hZ9⟩ := hZ9
  obtain ⟨hO52, hZ9⟩ := hZ9
  obtain ⟨hA56, hZ9⟩ := hZ9
  obtain ⟨b57, hZ9⟩ := hZ9
  replace hZ9 := hZ9.2
  obtain ⟨b59, hZ9⟩ := hZ9
  obtain ⟨b60, hZ9⟩ := hZ9
  obtain ⟨b61, hE62⟩ := hZ9
  replace hO52 : u50[22]? = (some (q 22, .inr (2, [.ref (q 23), .int y53, .int y54])) : Option (Nat × va_E)) := hO52
  replace hA56 : u50[23]? = (some (q 23, .inl (g 0, (220 : Int32).toNatClampNeg, .inl f55)) : Option (Nat × va_E)) := hA56
  obtain ⟨p64, e65⟩ : ∃ z, z = (F_Big_copy (220 : Int32) R t4_0 t4_1 t5_0 t8_0 t8_1 t9_0) := ⟨_, rfl⟩
  have e66 : y53 = p64.1 := congrArg (fun z => z.1) (hE62.trans e65.symm)
  have e67 : y54 = p64.2.1 := congrArg (fun z => z.2.1) (hE62.trans e65.symm)
  have e68 : f55 = p64.2.2 := congrArg (fun z => z.2.2) (hE62.trans e65.symm)
  replace b57 : q_F (0 ≤ y53.toInt) := b57
  replace b59 : q_F (y53.toInt ≤ 220) := b59
  replace b60 : q_F (t8_1.toInt ≤ y54.toInt) := b60
  replace b61 : q_F (y54.toInt ≤ t8_1.toInt) := b61
  replace hT0 := (hu63 _ (by decide)).trans hT0
  replace hT1 := (hu63 _ (by decide)).trans hT1
  replace hT2 := (hu63 _ (by decide)).trans hT2
  replace hT3 := (hu63 _ (by decide)).trans hT3
  replace hT6 := (hu63 _ (by decide)).trans hT6
  replace hT7 := (hu63 _ (by decide)).trans hT7
  replace hT8 := (hu63 _ (by first | exact (q_nc ne_k2_22 (q_nc ne_k2_23 List.not_mem_nil)) | (have z0 := zk2; simp only [List.mem_cons, List.not_mem_nil, or_false, not_or]; omega))).trans hT8
  replace hT9 := (hu63 _ (by first | exact (q_nc (q_nt1 ne_k2_21) (q_nc (q_nt1 ne_k2_22) List.not_mem_nil)) | (have z0 := zk2; simp only [List.mem_cons, List.not_mem_nil, or_false, not_or]; omega))).trans hT9
  replace hT10 := (hu63 _ (by first | exact (q_nc ne_k3_22 (q_nc ne_k3_23 List.not_mem_nil)) | (have z0 := zk3; simp only [List.mem_cons, List.not_mem_nil, or_false, not_or]; omega))).trans hT10
  replace hT11 := (hu63 _ (by first | exact (q_nc (q_nt1 ne_k3_21) (q_nc (q_nt1 ne_k3_22) List.not_mem_nil)) | (have z0 := zk3; simp only [List.mem_cons, List.not_mem_nil, or_false, not_or]; omega))).trans hT11
  replace hF := q_uc hF hu63 (by first | exact (q_sk (q_mi 4 rfl) (q_sk (q_mi 5 rfl) q_s0)) | simp)
  have hR69 := (show F_Mil_commonDivisor_c13 R R2 t0_0 t0_1 t1_0 t2_0 t2_1 t3_0 t4_0 t4_1 t5_0 t6_0 t6_1 t7_0 t8_0 t8_1 t9_0 t10_0 t10_1 t11_0 p64 = (F_Mil_commonDivisor R R2 t0_0 t0_1 t1_0 t2_0 t2_1 t3_0 t4_0 t4_1 t5_0 t6_0 t6_1 t7_0 t8_0 t8_1 t9_0 t10_0 t10_1 t11_0) from (by rw [e65, F_Mil_commonDivisor.eq_1]))
  have hS70 := (show True ∧ S_Mil_commonDivisor_c13 R R2 t0_0 t0_1 t1_0 t2_0 t2_1 t3_0 t4_0 t4_1 t5_0 t6_0 t6_1 t7_0 t8_0 t8_1 t9_0 t10_0 t10_1 t11_0 p64 from (by rw [e65]; have h := hS; rw [S_Mil_commonDivisor.eq_1] at h; with_reducible exact h))
  refine lv_aload hx hb d_8_5_16 (lv_at hl 0 rfl) ?_
  refine lv_aload_n hx hb d_8_5_18 rfl (lv_at hl 4 rfl) ?_
  refine q_gov V (q_runV (As := [.ref (q k3)]) (rest := []) (d := 2) (mc := 0) (ms := 0) (ci := 2) C0 V rfl LV_Mil_51 (X_Big_copy l D g q u50 24 220 (n_b24 g q) (by decide) k3 R2 hB3 zk3  (by have z := ne_k3_24; omega) hI t6_0 t6_1 hT6 t7_0 hT7 t10_0 t10_1 hT10 t11_0 hT11  _) rfl rfl hT6 rfl hl.1 rfl (Nat.le_of_ble_eq_true rfl) ⟨by decide, by decide⟩ ⟨Nat.le_of_ble_eq_true rfl, Nat.le_of_ble_eq_true rfl⟩ d_8_5_19) (fun u74 H locs hp75 V => ?_)
  obtain ⟨hI, hZ9⟩ := hp75
  obtain ⟨hu87, hZ9⟩ := hZ9
  obtain ⟨y77, hZ9⟩ := hZ9
  obtain ⟨y78, hZ9⟩ := hZ9
  obtain ⟨f79, hZ9⟩ := hZ9
  obtain ⟨hO76, hZ9⟩ := hZ9
  obtain ⟨hA80, hZ9⟩ := hZ9
  obtain ⟨b81, hZ9⟩ := hZ9
  replace hZ9 := hZ9.2
  obtain ⟨b83, hZ9⟩ := hZ9
  obtain ⟨b84, hZ9⟩ := hZ9
  obtain ⟨b85, hE86⟩ := hZ9
  replace hO76 : u74[24]? = (some (q 24, .inr (2, [.ref (q 25), .int y77, .int y78])) : Option (Nat × va_E)) := hO76
  replace hA80 : u74[25]? = (some (q 25, .inl (g 0, (220 : Int32).toNatClampNeg, .inl f79)) : Option (Nat × va_E)) := hA80
  obtain ⟨p88, e89⟩ : ∃ z, z = (F_Big_copy (220 : Int32) R2 t6_0 t6_1 t7_0 t10_0 t10_1 t11_0) := ⟨_, rfl⟩
  have e90 : y77 = p88.1 := congrArg (fun z => z.1) (hE86.trans e89.symm)
  have e91 : y78 = p88.2.1 := congrArg (fun z => z.2.1) (hE86.trans e89.symm)
  have e92 : f79 = p88.2.2 := congrArg (fun z => z.2.2) (hE86.trans e89.symm)
  replace b81 : q_F (0 ≤ y77.toInt) := b81
  replace b83 : q_F (y77.toInt ≤ 220) := b83
  replace b84 : q_F (t10_1.toInt ≤ y78.toInt) := b84
  replace b85 : q_F (y78.toInt ≤ t10_1.toInt) := b85
  replace hT0 := (hu87 _ (by decide)).trans hT0
  replace hT1 := (hu87 _ (by decide)).trans hT1
  replace hT2 := (hu87 _ (by decide)).trans hT2
  replace hT3 := (hu87 _ (by decide)).trans hT3
  replace hO52 := (hu87 _ (by decide)).trans hO52
  replace hA56 := (hu87 _ (by decide)).trans hA56
  replace hT8 := (hu87 _ (by first | exact (q_nc ne_k2_24 (q_nc ne_k2_25 List.not_mem_nil)) | (have z0 := zk2; simp only [List.mem_cons, List.not_mem_nil, or_false, not_or]; omega))).trans hT8
  replace hT9 := (hu87 _ (by first | exact (q_nc (q_nt1 ne_k2_23) (q_nc (q_nt1 ne_k2_24) List.not_mem_nil)) | (have z0 := zk2; simp only [List.mem_cons, List.not_mem_nil, or_false, not_or]; omega))).trans hT9
  replace hT10 := (hu87 _ (by first | exact (q_nc ne_k3_24 (q_nc ne_k3_25 List.not_mem_nil)) | (have z0 := zk3; simp only [List.mem_cons, List.not_mem_nil, or_false, not_or]; omega))).trans hT10
  replace hT11 := (hu87 _ (by first | exact (q_nc (q_nt1 ne_k3_23) (q_nc (q_nt1 ne_k3_24) List.not_mem_nil)) | (have z0 := zk3; simp only [List.mem_cons, List.not_mem_nil, or_false, not_or]; omega))).trans hT11
  replace hF := q_uc hF hu87 (by first | exact (q_sk (q_mi 6 rfl) (q_sk (q_mi 7 rfl) q_s0)) | simp)
  have hR93 := (show F_Mil_commonDivisor_c19 R R2 t0_0 t0_1 t1_0 t2_0 t2_1 t3_0 t4_0 t4_1 t5_0 t6_0 t6_1 t7_0 t8_0 t8_1 t9_0 t10_0 t10_1 t11_0 p64 y53 y54 f55 p88 = (F_Mil_commonDivisor R R2 t0_0 t0_1 t1_0 t2_0 t2_1 t3_0 t4_0 t4_1 t5_0 t6_0 t6_1 t7_0 t8_0 t8_1 t9_0 t10_0 t10_1 t11_0) from Eq.trans (by rw [e89, e68, e67, e66, F_Mil_commonDivisor_c13.eq_1]) hR69)
  have hS94 := (show True ∧ S_Mil_commonDivisor_c19 R R2 t0_0 t0_1 t1_0 t2_0 t2_1 t3_0 t4_0 t4_1 t5_0 t6_0 t6_1 t7_0 t8_0 t8_1 t9_0 t10_0 t10_1 t11_0 p64 y53 y54 f55 p88 from (by rw [e89, e68, e67, e66]; have h := hS70; rw [S_Mil_commonDivisor_c13.eq_1] at h; with_reducible exact h))
  refine lv_iconst (v := 0) hx hb d_8_5_22 (by decide) ?_
  refine lv_istore (lv' := [(5, .int 0), (4, .ref (q 24)), (3, .ref (q 22)), (0, .ref (q 9)), (1, .ref (q k2)), (2, .ref (q k3))]) hx hb d_8_5_23 hl (by decide) rfl (fun ls hl => ?_)
  refine q_loop (X := Int32 × Int32 × Int32 × (Nat → Int32) × Int32 × Int32 × (Nat → Int32) × Int32 × Int32 × (Nat → Int32)) (fun z H locs ls w136 => q_F (z.1.toInt ≤ 10000) ∧ q_F (0 ≤ z.2.1.toInt) ∧ q_F (z.2.1.toInt ≤ 220) ∧ q_F (0 ≤ z.2.2.1.toInt) ∧ q_F (0 ≤ z.2.2.2.2.1.toInt) ∧ q_F (z.2.2.2.2.1.toInt ≤ 220) ∧ q_F (0 ≤ z.2.2.2.2.2.1.toInt) ∧ q_F (0 ≤ z.2.2.2.2.2.2.2.1.toInt) ∧ q_F (z.2.2.2.2.2.2.2.1.toInt ≤ 220) ∧ q_F (0 ≤ z.2.2.2.2.2.2.2.2.1.toInt) ∧ q_F (z.2.2.1.toInt ≤ t2_1.toInt) ∧ q_F (z.2.2.2.2.2.1.toInt ≤ y54.toInt) ∧ q_F (z.2.2.2.2.2.2.2.2.1.toInt ≤ y78.toInt) ∧ q_F (2 * t2_1.toInt ≤ 2 * z.2.2.1.toInt + z.1.toInt) ∧ q_F (2 * y54.toInt ≤ 2 * z.2.2.2.2.2.1.toInt + z.1.toInt) ∧ q_F (2 * y78.toInt ≤ 2 * z.2.2.2.2.2.2.2.2.1.toInt + z.1.toInt) ∧ q_Wd D g (va_A ws sz) s w136 H locs ∧ lv_has ls 7 [(5, .int z.1), (4, .ref (q 24)), (3, .ref (q 22)), (0, .ref (q 9))] ∧ q_I (nsh g q) q w136 ∧ q_un ws w136 [10, 11, 12, 13, 22, 23, 24, 25] ∧ w136[10]? = (some (q 10, .inr (2, [.ref (q 11), .int t0_0, .int t0_1])) : Option (Nat × va_E)) ∧ w136[11]? = (some (q 11, .inl (g 0, (220 : Int32).toNatClampNeg, .inl t1_0)) : Option (Nat × va_E)) ∧ w136[12]? = (some (q 12, .inr (2, [.ref (q 13), .int z.2.1, .int z.2.2.1])) : Option (Nat × va_E)) ∧ w136[13]? = (some (q 13, .inl (g 0, (220 : Int32).toNatClampNeg, .inl z.2.2.2.1)) : Option (Nat × va_E)) ∧ w136[22]? = (some (q 22, .inr (2, [.ref (q 23), .int z.2.2.2.2.1, .int z.2.2.2.2.2.1])) : Option (Nat × va_E)) ∧ w136[23]? = (some (q 23, .inl (g 0, (220 : Int32).toNatClampNeg, .inl z.2.2.2.2.2.2.1)) : Option (Nat × va_E)) ∧ w136[24]? = (some (q 24, .inr (2, [.ref (q 25), .int z.2.2.2.2.2.2.2.1, .int z.2.2.2.2.2.2.2.2.1])) : Option (Nat × va_E)) ∧ w136[25]? = (some (q 25, .inl (g 0, (220 : Int32).toNatClampNeg, .inl z.2.2.2.2.2.2.2.2.2)) : Option (Nat × va_E)) ∧ w136[k2]? = (some (q k2, .inr (2, [.ref (q (k2 + 1)), .int t8_0, .int t8_1])) : Option (Nat × va_E)) ∧ w136[k2 + 1]? = (some (q (k2 + 1), .inl (g 0, R.toNatClampNeg, .inl t9_0)) : Option (Nat × va_E)) ∧ w136[k3]? = (some (q k3, .inr (2, [.ref (q (k3 + 1)), .int t10_0, .int t10_1])) : Option (Nat × va_E)) ∧ w136[k3 + 1]? = (some (q (k3 + 1), .inl (g 0, R2.toNatClampNeg, .inl t11_0)) : Option (Nat × va_E)) ∧ (∃ n, (10000 - z.1.toInt).toNat < n ∧ F_Mil_commonDivisor_L25 R R2 t0_0 t0_1 t1_0 t2_0 t2_1 t3_0 t4_0 t4_1 t5_0 t6_0 t6_1 t7_0 t8_0 t8_1 t9_0 t10_0 t10_1 t11_0 p64 y53 y54 f55 p88 n z.1 z.2.1 z.2.2.1 z.2.2.2.1 z.2.2.2.2.1 z.2.2.2.2.2.1 z.2.2.2.2.2.2.1 z.2.2.2.2.2.2.2.1 z.2.2.2.2.2.2.2.2.1 z.2.2.2.2.2.2.2.2.2 = (F_Mil_commonDivisor R R2 t0_0 t0_1 t1_0 t2_0 t2_1 t3_0 t4_0 t4_1 t5_0 t6_0 t6_1 t7_0 t8_0 t8_1 t9_0 t10_0 t10_1 t11_0) ∧ True ∧ S_Mil_commonDivisor_L25 R R2 t0_0 t0_1 t1_0 t2_0 t2_1 t3_0 t4_0 t4_1 t5_0 t6_0 t6_1 t7_0 t8_0 t8_1 t9_0 t10_0 t10_1 t11_0 p64 y53 y54 f55 p88 n z.1 z.2.1 z.2.2.1 z.2.2.2.1 z.2.2.2.2.1 z.2.2.2.2.2.1 z.2.2.2.2.2.2.1 z.2.2.2.2.2.2.2.1 z.2.2.2.2.2.2.2.2.1 z.2.2.2.2.2.2.2.2.2)) (fun z => (10000 - z.1.toInt).toNat) ?_ ((0 : Int32), (t2_0 : Int32), (t2_1 : Int32), (t3_0 : (Nat → Int32)), (y53 : Int32), (y54 : Int32), (f55 : (Nat → Int32)), (y77 : Int32), (y78 : Int32), (f79 : (Nat → Int32))) _ _ _ u74 ⟨(show q_F (0 ≤ 10000) from (show 0 ≤ 10000 from by omega)), (show q_F (0 ≤ t2_0.toInt) from (show 0 ≤ t2_0.toInt from by have t1 : 0 ≤ t2_0.toInt ∧ t2_0.toInt ≤ 220 := btt2_0; omega)), (show q_F (t2_0.toInt ≤ 220) from (show t2_0.toInt ≤ 220 from by have t1 : 0 ≤ t2_0.toInt ∧ t2_0.toInt ≤ 220 := btt2_0; omega)), (show q_F (0 ≤ t2_1.toInt) from (show 0 ≤ t2_1.toInt from by have t1 : 0 ≤ t2_1.toInt ∧ t2_1.toInt ≤ 1 := btt2_1; omega)), (show q_F (0 ≤ y53.toInt) from (show 0 ≤ y53.toInt from by have t1 : 0 ≤ y53.toInt := b57; omega)), (show q_F (y53.toInt ≤ 220) from (show y53.toInt ≤ 220 from by have t1 : y53.toInt ≤ 220 := b59; omega)), (show q_F (0 ≤ y54.toInt) from (show 0 ≤ y54.toInt from by have t1 : 0 ≤ t8_1.toInt ∧ t8_1.toInt ≤ 1 := btt8_1; have t2 : t8_1.toInt ≤ y54.toInt := b60; omega)), (show q_F (0 ≤ y77.toInt) from (show 0 ≤ y77.toInt from by have t1 : 0 ≤ y77.toInt := b81; omega)), (show q_F (y77.toInt ≤ 220) from (show y77.toInt ≤ 220 from by have t1 : y77.toInt ≤ 220 := b83; omega)), (show q_F (0 ≤ y78.toInt) from (show 0 ≤ y78.toInt from by have t1 : 0 ≤ t10_1.toInt ∧ t10_1.toInt ≤ 1 := btt10_1; have t2 : t10_1.toInt ≤ y78.toInt := b84; omega)), (show q_F (t2_1.toInt ≤ t2_1.toInt) from (show t2_1.toInt ≤ t2_1.toInt from by omega)), (show q_F (y54.toInt ≤ y54.toInt) from (show y54.toInt ≤ y54.toInt from by omega)), (show q_F (y78.toInt ≤ y78.toInt) from (show y78.toInt ≤ y78.toInt from by omega)), (show q_F (2 * t2_1.toInt ≤ 2 * t2_1.toInt + 0) from (show 2 * t2_1.toInt ≤ 2 * t2_1.toInt + 0 from by omega)), (show q_F (2 * y54.toInt ≤ 2 * y54.toInt + 0) from (show 2 * y54.toInt ≤ 2 * y54.toInt + 0 from by omega)), (show q_F (2 * y78.toInt ≤ 2 * y78.toInt + 0) from (show 2 * y78.toInt ≤ 2 * y78.toInt + 0 from by omega)), V, q_lw hl (q_lw1 0 rfl (q_lw1 1 rfl (q_lw1 2 rfl (q_lw1 3 rfl q_lw0)))), hI, hF, hT0, hT1, hT2, hT3, hO52, hA56, hO76, hA80, hT8, hT9, hT10, hT11, ⟨((10000 - (0 : Int32).toInt).toNat + 1), Nat.lt_succ_self _, (show F_Mil_commonDivisor_L25 R R2 t0_0 t0_1 t1_0 t2_0 t2_1 t3_0 t4_0 t4_1 t5_0 t6_0 t6_1 t7_0 t8_0 t8_1 t9_0 t10_0 t10_1 t11_0 p64 y53 y54 f55 p88 ((10000 - (0 : Int32).toInt).toNat + 1) 0 t2_0 t2_1 t3_0 y53 y54 f55 y77 y78 f79 = (F_Mil_commonDivisor R R2 t0_0 t0_1 t1_0 t2_0 t2_1 t3_0 t4_0 t4_1 t5_0 t6_0 t6_1 t7_0 t8_0 t8_1 t9_0 t10_0 t10_1 t11_0) from Eq.trans (by rw [e92, e91, e90, F_Mil_commonDivisor_c19.eq_1]) hR93), (show True ∧ S_Mil_commonDivisor_L25 R R2 t0_0 t0_1 t1_0 t2_0 t2_1 t3_0 t4_0 t4_1 t5_0 t6_0 t6_1 t7_0 t8_0 t8_1 t9_0 t10_0 t10_1 t11_0 p64 y53 y54 f55 p88 ((10000 - (0 : Int32).toInt).toNat + 1) 0 t2_0 t2_1 t3_0 y53 y54 f55 y77 y78 f79 from (by rw [e92, e91, e90]; have h := hS94; rw [S_Mil_commonDivisor_c19.eq_1] at h; with_reducible exact h))⟩⟩
  rintro ⟨lx109, lx110, lx111, lx112, lx113, lx114, lx115, lx116, lx117, lx118⟩ H locs ls w136 ⟨i119, i120, i121, i122, i123, i124, i125, i126, i127, i128, i129, i130, i131, i132, i133, i134, V, hl, hI, hF, hO137, hO138, hO139, hO140, hO141, hO142, hO143, hO144, hO145, hO146, hO147, hO148, ⟨fu151, hf152, hR149, hS150⟩⟩ ih135
  obtain ⟨fm153, rfl⟩ : ∃ m, fu151 = m + 1 := ⟨fu151 - 1, by omega⟩
  replace i119 : q_F (lx109.toInt ≤ 10000) := i119
  replace i120 : q_F (0 ≤ lx110.toInt) := i120
  replace i121 : q_F (lx110.toInt ≤ 220) := i121
  replace i122 : q_F (0 ≤ lx111.toInt) := i122
  replace i123 : q_F (0 ≤ lx113.toInt) := i123
  replace i124 : q_F (lx113.toInt ≤ 220) := i124
  replace i125 : q_F (0 ≤ lx114.toInt) := i125
  replace i126 : q_F (0 ≤ lx116.toInt) := i126
  replace i127 : q_F (lx116.toInt ≤ 220) := i127
  replace i128 : q_F (0 ≤ lx117.toInt) := i128
  replace i129 : q_F (lx111.toInt ≤ t2_1.toInt) := i129
  replace i130 : q_F (lx114.toInt ≤ y54.toInt) := i130
  replace i131 : q_F (lx117.toInt ≤ y78.toInt) := i131
  replace i132 : q_F (2 * t2_1.toInt ≤ 2 * lx111.toInt + lx109.toInt) := i132
  replace i133 : q_F (2 * y54.toInt ≤ 2 * lx114.toInt + lx109.toInt) := i133
  replace i134 : q_F (2 * y78.toInt ≤ 2 * lx117.toInt + lx109.toInt) := i134
  replace hl : lv_has ls 7 [(5, .int lx109), (4, .ref (q 24)), (3, .ref (q 22)), (0, .ref (q 9))] := hl
  replace hO137 : w136[10]? = (some (q 10, .inr (2, [.ref (q 11), .int t0_0, .int t0_1])) : Option (Nat × va_E)) := hO137
  replace hO138 : w136[11]? = (some (q 11, .inl (g 0, (220 : Int32).toNatClampNeg, .inl t1_0)) : Option (Nat × va_E)) := hO138
  replace hO139 : w136[12]? = (some (q 12, .inr (2, [.ref (q 13), .int lx110, .int lx111])) : Option (Nat × va_E)) := hO139
  replace hO140 : w136[13]? = (some (q 13, .inl (g 0, (220 : Int32).toNatClampNeg, .inl lx112)) : Option (Nat × va_E)) := hO140
  replace hO141 : w136[22]? = (some (q 22, .inr (2, [.ref (q 23), .int lx113, .int lx114])) : Option (Nat × va_E)) := hO141
  replace hO142 : w136[23]? = (some (q 23, .inl (g 0, (220 : Int32).toNatClampNeg, .inl lx115)) : Option (Nat × va_E)) := hO142
  replace hO143 : w136[24]? = (some (q 24, .inr (2, [.ref (q 25), .int lx116, .int lx117])) : Option (Nat × va_E)) := hO143
  replace hO144 : w136[25]? = (some (q 25, .inl (g 0, (220 : Int32).toNatClampNeg, .inl lx118)) : Option (Nat × va_E)) := hO144
  replace hO145 : w136[k2]? = (some (q k2, .inr (2, [.ref (q (k2 + 1)), .int t8_0, .int t8_1])) : Option (Nat × va_E)) := hO145
  replace hO146 : w136[k2 + 1]? = (some (q (k2 + 1), .inl (g 0, R.toNatClampNeg, .inl t9_0)) : Option (Nat × va_E)) := hO146
  replace hO147 : w136[k3]? = (some (q k3, .inr (2, [.ref (q (k3 + 1)), .int t10_0, .int t10_1])) : Option (Nat × va_E)) := hO147
  replace hO148 : w136[k3 + 1]? = (some (q (k3 + 1), .inl (g 0, R2.toNatClampNeg, .inl t11_0)) : Option (Nat × va_E)) := hO148
  refine lv_iload hx hb d_8_5_25 (lv_at hl 0 rfl) ?_
  refine lv_sipush (v := 10000) hx hb d_8_5_27 (by decide) ?_
  refine lv_icmp_ge (tgt := 67) hx hb d_8_5_30 (by decide) (fun c154 => ?_) (fun c154 => ?_)
  ·
    refine lv_aload_n hx hb d_8_5_67 rfl (lv_at hl 3 rfl) ?_
    have hO156 := n_o9 hI
    refine q_get (ci := 4) (j := 0) (v := .ref (q 10)) C0 V i_Mil rfl rfl hO156 (by decide) w_108 rfl d_8_5_68 ?_
    refine lv_aload_n hx hb d_8_5_71 rfl (lv_at hl 2 rfl) ?_
    refine q_gov V (q_runV (As := [.ref (q 22)]) (rest := []) (d := 2) (mc := 0) (ms := 0) (ci := 2) C0 V rfl LV_Mil_51 (X_Big_copy l D g q w136 10 220 (n_b10 g q) (by decide) 22 220 (n_b22 g q) (by decide)  (by decide) hI t0_0 t0_1 hO137 t1_0 hO138 lx113 lx114 hO141 lx115 hO142  _) rfl rfl hO137 rfl hl.1 rfl (Nat.le_of_ble_eq_true rfl) ⟨by decide, by decide⟩ ⟨Nat.le_of_ble_eq_true rfl, Nat.le_of_ble_eq_true rfl⟩ d_8_5_72) (fun u157 H locs hp158 V => ?_)
    obtain ⟨hI, hZ9⟩ := hp158
    obtain ⟨hu170, hZ9⟩ := hZ9
    obtain ⟨y160, hZ9⟩ := hZ9
    obtain ⟨y161, hZ9⟩ := hZ9
    obtain ⟨f162, hZ9⟩ := hZ9
    obtain ⟨hO159, hZ9⟩ := hZ9
    obtain ⟨hA163, hZ9⟩ := hZ9
    obtain ⟨b164, hZ9⟩ := hZ9
    replace hZ9 := hZ9.2
    obtain ⟨b166, hZ9⟩ := hZ9
    replace hZ9 := hZ9.2
    obtain ⟨-, hE169⟩ := hZ9
    replace hO159 : u157[10]? = (some (q 10, .inr (2, [.ref (q 11), .int y160, .int y161])) : Option (Nat × va_E)) := hO159
    replace hA163 : u157[11]? = (some (q 11, .inl (g 0, (220 : Int32).toNatClampNeg, .inl f162)) : Option (Nat × va_E)) := hA163
    obtain ⟨p171, e172⟩ : ∃ z, z = (F_Big_copy (220 : Int32) (220 : Int32) t0_0 t0_1 t1_0 lx113 lx114 lx115) := ⟨_, rfl⟩
    have e173 : y160 = p171.1 := congrArg (fun z => z.1) (hE169.trans e172.symm)
    have e174 : y161 = p171.2.1 := congrArg (fun z => z.2.1) (hE169.trans e172.symm)
    have e175 : f162 = p171.2.2 := congrArg (fun z => z.2.2) (hE169.trans e172.symm)
    replace b164 : q_F (0 ≤ y160.toInt) := b164
    replace b166 : q_F (y160.toInt ≤ 220) := b166
    replace hO139 := (hu170 _ (by decide)).trans hO139
    replace hO140 := (hu170 _ (by decide)).trans hO140
    replace hO141 := (hu170 _ (by decide)).trans hO141
    replace hO142 := (hu170 _ (by decide)).trans hO142
    replace hO143 := (hu170 _ (by decide)).trans hO143
    replace hO144 := (hu170 _ (by decide)).trans hO144
    replace hO156 := (hu170 _ (by decide)).trans hO156
    replace hF := q_uc hF hu170 (by first | exact (q_sk (q_mi 0 rfl) (q_sk (q_mi 1 rfl) q_s0)) | simp)
    have hR176 := (show F_Mil_commonDivisor_c72 (F_Mil_commonDivisor_L25 R R2 t0_0 t0_1 t1_0 t2_0 t2_1 t3_0 t4_0 t4_1 t5_0 t6_0 t6_1 t7_0 t8_0 t8_1 t9_0 t10_0 t10_1 t11_0 p64 y53 y54 f55 p88 fm153) R R2 t0_0 t0_1 t1_0 t2_0 t2_1 t3_0 t4_0 t4_1 t5_0 t6_0 t6_1 t7_0 t8_0 t8_1 t9_0 t10_0 t10_1 t11_0 p64 y53 y54 f55 p88 lx109 lx110 lx111 lx112 lx113 lx114 lx115 lx116 lx117 lx118 p171 = (F_Mil_commonDivisor R R2 t0_0 t0_1 t1_0 t2_0 t2_1 t3_0 t4_0 t4_1 t5_0 t6_0 t6_1 t7_0 t8_0 t8_1 t9_0 t10_0 t10_1 t11_0) from Eq.trans (by rw [e172, F_Mil_commonDivisor_L25.eq_2, if_pos c154]) hR149)
    have hS177 := (show True ∧ S_Mil_commonDivisor_c72 (S_Mil_commonDivisor_L25 R R2 t0_0 t0_1 t1_0 t2_0 t2_1 t3_0 t4_0 t4_1 t5_0 t6_0 t6_1 t7_0 t8_0 t8_1 t9_0 t10_0 t10_1 t11_0 p64 y53 y54 f55 p88 fm153) R R2 t0_0 t0_1 t1_0 t2_0 t2_1 t3_0 t4_0 t4_1 t5_0 t6_0 t6_1 t7_0 t8_0 t8_1 t9_0 t10_0 t10_1 t11_0 p64 y53 y54 f55 p88 lx109 lx110 lx111 lx112 lx113 lx114 lx115 lx116 lx117 lx118 p171 from (by rw [e172]; have h := hS150; rw [S_Mil_commonDivisor_L25.eq_2] at h; rw [if_pos c154] at h; with_reducible exact h))
    refine lv_aload_n hx hb d_8_5_75 rfl (lv_at hl 3 rfl) ?_
    refine q_get (ci := 4) (j := 0) (v := .ref (q 10)) C0 V i_Mil rfl rfl hO156 (by decide) w_108 rfl d_8_5_76 ?_
    refine lv_iconst (v := 0) hx hb d_8_5_79 (by decide) ?_
    refine q_put (ci := 2) (j := 2) (v := .int 0) (ty := .boolean) C0 V i_Big o_Big n_Big rfl rfl hO159 (by decide) w_96 rfl rfl rfl rfl (Nat.le_of_ble_eq_true rfl) d_8_5_80 (fun H locs w181 hu182 hO159 V => ?_)
    replace hO159 : w181[10]? = (some (q 10, .inr (2, [.ref (q 11), .int y160, .int 0])) : Option (Nat × va_E)) := hO159
    replace hI := q_bigO' hI (n_b10 g q) hu182 hO159 ⟨(by have zR : (220 : Int32).toInt = 220 := rfl; have t1 : 0 ≤ y160.toInt := b164; omega), (by have zR : (220 : Int32).toInt = 220 := rfl; have t1 : y160.toInt ≤ 220 := b166; omega)⟩ ⟨(by have z9 : (0 : Int32).toInt = 0 := rfl; omega), (by have z9 : (0 : Int32).toInt = 0 := rfl; omega)⟩
    replace hA163 := (hu182 _ (by decide)).trans hA163
    replace hO139 := (hu182 _ (by decide)).trans hO139
    replace hO140 := (hu182 _ (by decide)).trans hO140
    replace hO141 := (hu182 _ (by decide)).trans hO141
    replace hO142 := (hu182 _ (by decide)).trans hO142
    replace hO143 := (hu182 _ (by decide)).trans hO143
    replace hO144 := (hu182 _ (by decide)).trans hO144
    replace hF := q_us hF hu182 (by simp)
    exact q_retv C0 V (⟨hI, hF, y160, 0, f162, lx110, lx111, lx112, lx113, lx114, lx115, lx116, lx117, lx118, hO159, hA163, hO139, hO140, hO141, hO142, hO143, hO144, (show 0 ≤ (0 : Int32).toInt from (by have z21 : (0 : Int32).toInt = 0 := rfl; omega)), (show (0 : Int32).toInt ≤ 0 from (by have z21 : (0 : Int32).toInt = 0 := rfl; omega)), (show lx111.toInt ≤ t2_1.toInt from (by have z21 : (0 : Int32).toInt = 0 := rfl; have t1 : lx111.toInt ≤ t2_1.toInt := i129; omega)), (show lx114.toInt ≤ t8_1.toInt from (by have z21 : (0 : Int32).toInt = 0 := rfl; have t1 : y54.toInt ≤ t8_1.toInt := b61; have t2 : lx114.toInt ≤ y54.toInt := i130; omega)), (show lx117.toInt ≤ t10_1.toInt from (by have z21 : (0 : Int32).toInt = 0 := rfl; have t1 : y78.toInt ≤ t10_1.toInt := b85; have t2 : lx117.toInt ≤ y78.toInt := i131; omega)), (show (0 : Int32).toInt ≤ y160.toInt from (by have z21 : (0 : Int32).toInt = 0 := rfl; have t1 : 0 ≤ y160.toInt := b164; omega)), (show y160.toInt ≤ (0 : Int32).toInt + 220 from (by have z21 : (0 : Int32).toInt = 0 := rfl; have t1 : y160.toInt ≤ 220 := b166; omega)), (show lx110.toInt ≤ (0 : Int32).toInt + 220 from (by have z21 : (0 : Int32).toInt = 0 := rfl; have t1 : lx110.toInt ≤ 220 := i121; omega)), (show (0 : Int32).toInt ≤ lx110.toInt from (by have z21 : (0 : Int32).toInt = 0 := rfl; have t1 : 0 ≤ lx110.toInt := i120; omega)), (show (0 : Int32).toInt ≤ lx111.toInt from (by have z21 : (0 : Int32).toInt = 0 := rfl; have t1 : 0 ≤ lx111.toInt := i122; omega)), (show lx113.toInt ≤ (0 : Int32).toInt + 220 from (by have z21 : (0 : Int32).toInt = 0 := rfl; have t1 : lx113.toInt ≤ 220 := i124; omega)), (show (0 : Int32).toInt ≤ lx113.toInt from (by have z21 : (0 : Int32).toInt = 0 := rfl; have t1 : 0 ≤ lx113.toInt := i123; omega)), (show (0 : Int32).toInt ≤ lx114.toInt from (by have z21 : (0 : Int32).toInt = 0 := rfl; have t1 : 0 ≤ lx114.toInt := i125; omega)), (show lx116.toInt ≤ (0 : Int32).toInt + 220 from (by have z21 : (0 : Int32).toInt = 0 := rfl; have t1 : lx116.toInt ≤ 220 := i127; omega)), (show (0 : Int32).toInt ≤ lx116.toInt from (by have z21 : (0 : Int32).toInt = 0 := rfl; have t1 : 0 ≤ lx116.toInt := i126; omega)), (show (0 : Int32).toInt ≤ lx117.toInt from (by have z21 : (0 : Int32).toInt = 0 := rfl; have t1 : 0 ≤ lx117.toInt := i128; omega)), (show (y160, (0 : Int32), f162, lx110, lx111, lx112, lx113, lx114, lx115, lx116, lx117, lx118) = (F_Mil_commonDivisor R R2 t0_0 t0_1 t1_0 t2_0 t2_1 t3_0 t4_0 t4_1 t5_0 t6_0 t6_1 t7_0 t8_0 t8_1 t9_0 t10_0 t10_1 t11_0) from Eq.trans (by rw [e175, e173, F_Mil_commonDivisor_c72.eq_1]) hR176)⟩) d_8_5_83
  ·
    have b183 : q_F (lx109.toInt < 10000) := (q_nleI c154)
    refine lv_aload hx hb d_8_5_33 (lv_at hl 1 rfl) ?_
    refine q_get (ci := 2) (j := 1) (v := .int lx116) C0 V i_Big rfl rfl hO143 (by decide) w_89 rfl d_8_5_35 ?_
    refine lv_if_le (tgt := 67) hx hb d_8_5_38 (by decide) (fun c184 => ?_) (fun c184 => ?_)
    ·
      refine lv_aload_n hx hb d_8_5_67 rfl (lv_at hl 3 rfl) ?_
      have hO186 := n_o9 hI
      refine q_get (ci := 4) (j := 0) (v := .ref (q 10)) C0 V i_Mil rfl rfl hO186 (by decide) w_108 rfl d_8_5_68 ?_
      refine lv_aload_n hx hb d_8_5_71 rfl (lv_at hl 2 rfl) ?_
      refine q_gov V (q_runV (As := [.ref (q 22)]) (rest := []) (d := 2) (mc := 0) (ms := 0) (ci := 2) C0 V rfl LV_Mil_51 (X_Big_copy l D g q w136 10 220 (n_b10 g q) (by decide) 22 220 (n_b22 g q) (by decide)  (by decide) hI t0_0 t0_1 hO137 t1_0 hO138 lx113 lx114 hO141 lx115 hO142  _) rfl rfl hO137 rfl hl.1 rfl (Nat.le_of_ble_eq_true rfl) ⟨by decide, by decide⟩ ⟨Nat.le_of_ble_eq_true rfl, Nat.le_of_ble_eq_true rfl⟩ d_8_5_72) (fun u187 H locs hp188 V => ?_)
      obtain ⟨hI, hZ9⟩ := hp188
      obtain ⟨hu200, hZ9⟩ := hZ9
      obtain ⟨y190, hZ9⟩ := hZ9
      obtain ⟨y191, hZ9⟩ := hZ9
      obtain ⟨f192, hZ9⟩ := hZ9
      obtain ⟨hO189, hZ9⟩ := hZ9
      obtain ⟨hA193, hZ9⟩ := hZ9
      obtain ⟨b194, hZ9⟩ := hZ9
      replace hZ9 := hZ9.2
      obtain ⟨b196, hZ9⟩ := hZ9
      replace hZ9 := hZ9.2
      obtain ⟨-, hE199⟩ := hZ9
      replace hO189 : u187[10]? = (some (q 10, .inr (2, [.ref (q 11), .int y190, .int y191])) : Option (Nat × va_E)) := hO189
      replace hA193 : u187[11]? = (some (q 11, .inl (g 0, (220 : Int32).toNatClampNeg, .inl f192)) : Option (Nat × va_E)) := hA193
      obtain ⟨p201, e202⟩ : ∃ z, z = (F_Big_copy (220 : Int32) (220 : Int32) t0_0 t0_1 t1_0 lx113 lx114 lx115) := ⟨_, rfl⟩
      have e203 : y190 = p201.1 := congrArg (fun z => z.1) (hE199.trans e202.symm)
      have e204 : y191 = p201.2.1 := congrArg (fun z => z.2.1) (hE199.trans e202.symm)
      have e205 : f192 = p201.2.2 := congrArg (fun z => z.2.2) (hE199.trans e202.symm)
      replace b194 : q_F (0 ≤ y190.toInt) := b194
      replace b196 : q_F (y190.toInt ≤ 220) := b196
      replace hO139 := (hu200 _ (by decide)).trans hO139
      replace hO140 := (hu200 _ (by decide)).trans hO140
      replace hO141 := (hu200 _ (by decide)).trans hO141
      replace hO142 := (hu200 _ (by decide)).trans hO142
      replace hO143 := (hu200 _ (by decide)).trans hO143
      replace hO144 := (hu200 _ (by decide)).trans hO144
      replace hO186 := (hu200 _ (by decide)).trans hO186
      replace hF := q_uc hF hu200 (by first | exact (q_sk (q_mi 0 rfl) (q_sk (q_mi 1 rfl) q_s0)) | simp)
      have hR206 := (show F_Mil_commonDivisor_c72_5 (F_Mil_commonDivisor_L25 R R2 t0_0 t0_1 t1_0 t2_0 t2_1 t3_0 t4_0 t4_1 t5_0 t6_0 t6_1 t7_0 t8_0 t8_1 t9_0 t10_0 t10_1 t11_0 p64 y53 y54 f55 p88 fm153) R R2 t0_0 t0_1 t1_0 t2_0 t2_1 t3_0 t4_0 t4_1 t5_0 t6_0 t6_1 t7_0 t8_0 t8_1 t9_0 t10_0 t10_1 t11_0 p64 y53 y54 f55 p88 lx109 lx110 lx111 lx112 lx113 lx114 lx115 lx116 lx117 lx118 p201 = (F_Mil_commonDivisor R R2 t0_0 t0_1 t1_0 t2_0 t2_1 t3_0 t4_0 t4_1 t5_0 t6_0 t6_1 t7_0 t8_0 t8_1 t9_0 t10_0 t10_1 t11_0) from Eq.trans (by rw [e202, F_Mil_commonDivisor_L25.eq_2, if_neg c154, if_pos c184]) hR149)
      have hS207 := (show True ∧ S_Mil_commonDivisor_c72_5 (S_Mil_commonDivisor_L25 R R2 t0_0 t0_1 t1_0 t2_0 t2_1 t3_0 t4_0 t4_1 t5_0 t6_0 t6_1 t7_0 t8_0 t8_1 t9_0 t10_0 t10_1 t11_0 p64 y53 y54 f55 p88 fm153) R R2 t0_0 t0_1 t1_0 t2_0 t2_1 t3_0 t4_0 t4_1 t5_0 t6_0 t6_1 t7_0 t8_0 t8_1 t9_0 t10_0 t10_1 t11_0 p64 y53 y54 f55 p88 lx109 lx110 lx111 lx112 lx113 lx114 lx115 lx116 lx117 lx118 p201 from (by rw [e202]; have h := hS150; rw [S_Mil_commonDivisor_L25.eq_2] at h; rw [if_neg c154] at h; rw [if_pos c184] at h; with_reducible exact h))
      refine lv_aload_n hx hb d_8_5_75 rfl (lv_at hl 3 rfl) ?_
      refine q_get (ci := 4) (j := 0) (v := .ref (q 10)) C0 V i_Mil rfl rfl hO186 (by decide) w_108 rfl d_8_5_76 ?_
      refine lv_iconst (v := 0) hx hb d_8_5_79 (by decide) ?_
      refine q_put (ci := 2) (j := 2) (v := .int 0) (ty := .boolean) C0 V i_Big o_Big n_Big rfl rfl hO189 (by decide) w_96 rfl rfl rfl rfl (Nat.le_of_ble_eq_true rfl) d_8_5_80 (fun H locs w211 hu212 hO189 V => ?_)
      replace hO189 : w211[10]? = (some (q 10, .inr (2, [.ref (q 11), .int y190, .int 0])) : Option (Nat × va_E)) := hO189
      replace hI := q_bigO' hI (n_b10 g q) hu212 hO189 ⟨(by have zR : (220 : Int32).toInt = 220 := rfl; have t1 : 0 ≤ y190.toInt := b194; omega), (by have zR : (220 : Int32).toInt = 220 := rfl; have t1 : y190.toInt ≤ 220 := b196; omega)⟩ ⟨(by have z9 : (0 : Int32).toInt = 0 := rfl; omega), (by have z9 : (0 : Int32).toInt = 0 := rfl; omega)⟩
      replace hA193 := (hu212 _ (by decide)).trans hA193
      replace hO139 := (hu212 _ (by decide)).trans hO139
      replace hO140 := (hu212 _ (by decide)).trans hO140
      replace hO141 := (hu212 _ (by decide)).trans hO141
      replace hO142 := (hu212 _ (by decide)).trans hO142
      replace hO143 := (hu212 _ (by decide)).trans hO143
      replace hO144 := (hu212 _ (by decide)).trans hO144
      replace hF := q_us hF hu212 (by simp)
      exact q_retv C0 V (⟨hI, hF, y190, 0, f192, lx110, lx111, lx112, lx113, lx114, lx115, lx116, lx117, lx118, hO189, hA193, hO139, hO140, hO141, hO142, hO143, hO144, (show 0 ≤ (0 : Int32).toInt from (by have z21 : (0 : Int32).toInt = 0 := rfl; omega)), (show (0 : Int32).toInt ≤ 0 from (by have z21 : (0 : Int32).toInt = 0 := rfl; omega)), (show lx111.toInt ≤ t2_1.toInt from (by have z21 : (0 : Int32).toInt = 0 := rfl; have t1 : lx111.toInt ≤ t2_1.toInt := i129; omega)), (show lx114.toInt ≤ t8_1.toInt from (by have z21 : (0 : Int32).toInt = 0 := rfl; have t1 : y54.toInt ≤ t8_1.toInt := b61; have t2 : lx114.toInt ≤ y54.toInt := i130; omega)), (show lx117.toInt ≤ t10_1.toInt from (by have z21 : (0 : Int32).toInt = 0 := rfl; have t1 : y78.toInt ≤ t10_1.toInt := b85; have t2 : lx117.toInt ≤ y78.toInt := i131; omega)), (show (0 : Int32).toInt ≤ y190.toInt from (by have z21 : (0 : Int32).toInt = 0 := rfl; have t1 : 0 ≤ y190.toInt := b194; omega)), (show y190.toInt ≤ (0 : Int32).toInt + 220 from (by have z21 : (0 : Int32).toInt = 0 := rfl; have t1 : y190.toInt ≤ 220 := b196; omega)), (show lx110.toInt ≤ (0 : Int32).toInt + 220 from (by have z21 : (0 : Int32).toInt = 0 := rfl; have t1 : lx110.toInt ≤ 220 := i121; omega)), (show (0 : Int32).toInt ≤ lx110.toInt from (by have z21 : (0 : Int32).toInt = 0 := rfl; have t1 : 0 ≤ lx110.toInt := i120; omega)), (show (0 : Int32).toInt ≤ lx111.toInt from (by have z21 : (0 : Int32).toInt = 0 := rfl; have t1 : 0 ≤ lx111.toInt := i122; omega)), (show lx113.toInt ≤ (0 : Int32).toInt + 220 from (by have z21 : (0 : Int32).toInt = 0 := rfl; have t1 : lx113.toInt ≤ 220 := i124; omega)), (show (0 : Int32).toInt ≤ lx113.toInt from (by have z21 : (0 : Int32).toInt = 0 := rfl; have t1 : 0 ≤ lx113.toInt := i123; omega)), (show (0 : Int32).toInt ≤ lx114.toInt from (by have z21 : (0 : Int32).toInt = 0 := rfl; have t1 : 0 ≤ lx114.toInt := i125; omega)), (show lx116.toInt ≤ (0 : Int32).toInt + 220 from (by have z21 : (0 : Int32).toInt = 0 := rfl; have t1 : lx116.toInt ≤ 220 := i127; omega)), (show (0 : Int32).toInt ≤ lx116.toInt from (by have z21 : (0 : Int32).toInt = 0 := rfl; have t1 : 0 ≤ lx116.toInt := i126; omega)), (show (0 : Int32).toInt ≤ lx117.toInt from (by have z21 : (0 : Int32).toInt = 0 := rfl; have t1 : 0 ≤ lx117.toInt := i128; omega)), (show (y190, (0 : Int32), f192, lx110, lx111, lx112, lx113, lx114, lx115, lx116, lx117, lx118) = (F_Mil_commonDivisor R R2 t0_0 t0_1 t1_0 t2_0 t2_1 t3_0 t4_0 t4_1 t5_0 t6_0 t6_1 t7_0 t8_0 t8_1 t9_0 t10_0 t10_1 t11_0) from Eq.trans (by rw [e205, e203, F_Mil_commonDivisor_c72_5.eq_1]) hR206)⟩) d_8_5_83
    ·
      refine lv_aload_n hx hb d_8_5_41 rfl (lv_at hl 2 rfl) ?_
      refine lv_aload hx hb d_8_5_42 (lv_at hl 1 rfl) ?_
      refine lv_aload_n hx hb d_8_5_44 rfl (lv_at hl 3 rfl) ?_
      have hO214 := n_o9 hI
      refine q_get (ci := 4) (j := 1) (v := .ref (q 12)) C0 V i_Mil rfl rfl hO214 (by decide) w_114 rfl d_8_5_45 ?_
      have ob215 : True ∧ S_Big_divideBy (220 : Int32) (220 : Int32) (220 : Int32) lx113 lx114 lx115 lx116 lx117 lx118 lx110 lx111 lx112 := (by have h := hS150; rw [S_Mil_commonDivisor_L25.eq_2] at h; rw [if_neg c154] at h; rw [if_neg c184] at h; with_reducible exact h.2.1)
      refine q_gov V (q_runV (As := [.ref (q 24), .ref (q 12)]) (rest := []) (d := 4) (mc := 0) (ms := 0) (ci := 2) C0 V rfl LV_Mil_59 (X_Big_divideBy l D g q w136 22 220 (n_b22 g q) (by decide) 24 220 (n_b24 g q) (by decide) 12 220 (n_b12 g q) (by decide)  (by decide) (by decide) (by decide) hI lx113 lx114 hO141 lx115 hO142 lx116 lx117 hO143 lx118 hO144 lx110 lx111 hO139 lx112 hO140 ob215 _) rfl rfl hO141 rfl hl.1 rfl (Nat.le_of_ble_eq_true rfl) ⟨by decide, by decide⟩ ⟨Nat.le_of_ble_eq_true rfl, Nat.le_of_ble_eq_true rfl⟩ d_8_5_48) (fun u216 H locs hp217 V => ?_)
      obtain ⟨hI, hZ9⟩ := hp217
      obtain ⟨hu249, hZ9⟩ := hZ9
      obtain ⟨y219, hZ9⟩ := hZ9
      obtain ⟨y220, hZ9⟩ := hZ9
      obtain ⟨f221, hZ9⟩ := hZ9
      obtain ⟨y224, hZ9⟩ := hZ9
      obtain ⟨y225, hZ9⟩ := hZ9
      obtain ⟨f226, hZ9⟩ := hZ9
      obtain ⟨y229, hZ9⟩ := hZ9
      obtain ⟨y230, hZ9⟩ := hZ9
      obtain ⟨f231, hZ9⟩ := hZ9
      obtain ⟨hO218, hZ9⟩ := hZ9
      obtain ⟨hA222, hZ9⟩ := hZ9
      obtain ⟨hO223, hZ9⟩ := hZ9
      obtain ⟨hA227, hZ9⟩ := hZ9
      obtain ⟨hO228, hZ9⟩ := hZ9
      obtain ⟨hA232, hZ9⟩ := hZ9
      obtain ⟨b233, hZ9⟩ := hZ9
      obtain ⟨b234, hZ9⟩ := hZ9
      obtain ⟨b235, hZ9⟩ := hZ9
      obtain ⟨b236, hZ9⟩ := hZ9
      replace hZ9 := hZ9.2
      obtain ⟨b238, hZ9⟩ := hZ9
      obtain ⟨b239, hZ9⟩ := hZ9
      replace hZ9 := hZ9.2.2
      obtain ⟨b242, hZ9⟩ := hZ9
      obtain ⟨b243, hZ9⟩ := hZ9
      obtain ⟨b244, hZ9⟩ := hZ9
      obtain ⟨b245, hZ9⟩ := hZ9
      obtain ⟨b246, hZ9⟩ := hZ9
      obtain ⟨b247, hE248⟩ := hZ9
      replace hO218 : u216[22]? = (some (q 22, .inr (2, [.ref (q 23), .int y219, .int y220])) : Option (Nat × va_E)) := hO218
      replace hA222 : u216[23]? = (some (q 23, .inl (g 0, (220 : Int32).toNatClampNeg, .inl f221)) : Option (Nat × va_E)) := hA222
      replace hO223 : u216[24]? = (some (q 24, .inr (2, [.ref (q 25), .int y224, .int y225])) : Option (Nat × va_E)) := hO223
      replace hA227 : u216[25]? = (some (q 25, .inl (g 0, (220 : Int32).toNatClampNeg, .inl f226)) : Option (Nat × va_E)) := hA227
      replace hO228 : u216[12]? = (some (q 12, .inr (2, [.ref (q 13), .int y229, .int y230])) : Option (Nat × va_E)) := hO228
      replace hA232 : u216[13]? = (some (q 13, .inl (g 0, (220 : Int32).toNatClampNeg, .inl f231)) : Option (Nat × va_E)) := hA232
      obtain ⟨p250, e251⟩ : ∃ z, z = (F_Big_divideBy (220 : Int32) (220 : Int32) (220 : Int32) lx113 lx114 lx115 lx116 lx117 lx118 lx110 lx111 lx112) := ⟨_, rfl⟩
      have e252 : y219 = p250.1 := congrArg (fun z => z.1) (hE248.trans e251.symm)
      have e253 : y220 = p250.2.1 := congrArg (fun z => z.2.1) (hE248.trans e251.symm)
      have e254 : f221 = p250.2.2.1 := congrArg (fun z => z.2.2.1) (hE248.trans e251.symm)
      have e255 : y224 = p250.2.2.2.1 := congrArg (fun z => z.2.2.2.1) (hE248.trans e251.symm)
      have e256 : y225 = p250.2.2.2.2.1 := congrArg (fun z => z.2.2.2.2.1) (hE248.trans e251.symm)
      have e257 : f226 = p250.2.2.2.2.2.1 := congrArg (fun z => z.2.2.2.2.2.1) (hE248.trans e251.symm)
      have e258 : y229 = p250.2.2.2.2.2.2.1 := congrArg (fun z => z.2.2.2.2.2.2.1) (hE248.trans e251.symm)
      have e259 : y230 = p250.2.2.2.2.2.2.2.1 := congrArg (fun z => z.2.2.2.2.2.2.2.1) (hE248.trans e251.symm)
      have e260 : f231 = p250.2.2.2.2.2.2.2.2 := congrArg (fun z => z.2.2.2.2.2.2.2.2) (hE248.trans e251.symm)
      replace b233 : q_F (0 ≤ y230.toInt) := b233
      replace b234 : q_F (y230.toInt ≤ 0) := b234
      replace b235 : q_F (y219.toInt ≤ 220) := b235
      replace b236 : q_F (y220.toInt ≤ lx114.toInt) := b236
      replace b238 : q_F (y224.toInt ≤ 220) := b238
      replace b239 : q_F (y225.toInt ≤ lx117.toInt) := b239
      replace b242 : q_F (y229.toInt ≤ 220) := b242
      replace b243 : q_F (y230.toInt ≤ y219.toInt) := b243
      replace b244 : q_F (y230.toInt ≤ y220.toInt) := b244
      replace b245 : q_F (y230.toInt ≤ y224.toInt) := b245
      replace b246 : q_F (y230.toInt ≤ y225.toInt) := b246
      replace b247 : q_F (y230.toInt ≤ y229.toInt) := b247
      replace hO137 := (hu249 _ (by decide)).trans hO137
      replace hO138 := (hu249 _ (by decide)).trans hO138
      replace hO145 := (hu249 _ (by first | exact (q_nc ne_k2_22 (q_nc ne_k2_23 (q_nc ne_k2_24 (q_nc ne_k2_25 (q_nc ne_k2_12 (q_nc ne_k2_13 List.not_mem_nil)))))) | (have z0 := zk2; simp only [List.mem_cons, List.not_mem_nil, or_false, not_or]; omega))).trans hO145
      replace hO146 := (hu249 _ (by first | exact (q_nc (q_nt1 ne_k2_21) (q_nc (q_nt1 ne_k2_22) (q_nc (q_nt1 ne_k2_23) (q_nc (q_nt1 ne_k2_24) (q_nc (q_nt1 ne_k2_11) (q_nc (q_nt1 ne_k2_12) List.not_mem_nil)))))) | (have z0 := zk2; simp only [List.mem_cons, List.not_mem_nil, or_false, not_or]; omega))).trans hO146
      replace hO147 := (hu249 _ (by first | exact (q_nc ne_k3_22 (q_nc ne_k3_23 (q_nc ne_k3_24 (q_nc ne_k3_25 (q_nc ne_k3_12 (q_nc ne_k3_13 List.not_mem_nil)))))) | (have z0 := zk3; simp only [List.mem_cons, List.not_mem_nil, or_false, not_or]; omega))).trans hO147
      replace hO148 := (hu249 _ (by first | exact (q_nc (q_nt1 ne_k3_21) (q_nc (q_nt1 ne_k3_22) (q_nc (q_nt1 ne_k3_23) (q_nc (q_nt1 ne_k3_24) (q_nc (q_nt1 ne_k3_11) (q_nc (q_nt1 ne_k3_12) List.not_mem_nil)))))) | (have z0 := zk3; simp only [List.mem_cons, List.not_mem_nil, or_false, not_or]; omega))).trans hO148
      replace hO214 := (hu249 _ (by decide)).trans hO214
      replace hF := q_uc hF hu249 (by first | exact (q_sk (q_mi 4 rfl) (q_sk (q_mi 5 rfl) (q_sk (q_mi 6 rfl) (q_sk (q_mi 7 rfl) (q_sk (q_mi 2 rfl) (q_sk (q_mi 3 rfl) q_s0)))))) | simp)
      have hR261 := (show F_Mil_commonDivisor_c48 (F_Mil_commonDivisor_L25 R R2 t0_0 t0_1 t1_0 t2_0 t2_1 t3_0 t4_0 t4_1 t5_0 t6_0 t6_1 t7_0 t8_0 t8_1 t9_0 t10_0 t10_1 t11_0 p64 y53 y54 f55 p88 fm153) R R2 t0_0 t0_1 t1_0 t2_0 t2_1 t3_0 t4_0 t4_1 t5_0 t6_0 t6_1 t7_0 t8_0 t8_1 t9_0 t10_0 t10_1 t11_0 p64 y53 y54 f55 p88 lx109 lx110 lx111 lx112 lx113 lx114 lx115 lx116 lx117 lx118 p250 = (F_Mil_commonDivisor R R2 t0_0 t0_1 t1_0 t2_0 t2_1 t3_0 t4_0 t4_1 t5_0 t6_0 t6_1 t7_0 t8_0 t8_1 t9_0 t10_0 t10_1 t11_0) from Eq.trans (by rw [e251, F_Mil_commonDivisor_L25.eq_2, if_neg c154, if_neg c184]) hR149)
      have hS262 := (show True ∧ S_Mil_commonDivisor_c48 (S_Mil_commonDivisor_L25 R R2 t0_0 t0_1 t1_0 t2_0 t2_1 t3_0 t4_0 t4_1 t5_0 t6_0 t6_1 t7_0 t8_0 t8_1 t9_0 t10_0 t10_1 t11_0 p64 y53 y54 f55 p88 fm153) R R2 t0_0 t0_1 t1_0 t2_0 t2_1 t3_0 t4_0 t4_1 t5_0 t6_0 t6_1 t7_0 t8_0 t8_1 t9_0 t10_0 t10_1 t11_0 p64 y53 y54 f55 p88 lx109 lx110 lx111 lx112 lx113 lx114 lx115 lx116 lx117 lx118 p250 from (by rw [e251]; have h := hS150; rw [S_Mil_commonDivisor_L25.eq_2] at h; rw [if_neg c154] at h; rw [if_neg c184] at h; replace h := q_s2 h; with_reducible exact h))
      refine lv_aload_n hx hb d_8_5_51 rfl (lv_at hl 2 rfl) ?_
      refine lv_astore (lv' := [(6, .ref (q 22)), (5, .int lx109), (4, .ref (q 24)), (3, .ref (q 22)), (0, .ref (q 9))]) hx hb d_8_5_52 hl (by decide) rfl (fun ls hl => ?_)
      refine lv_aload hx hb d_8_5_54 (lv_at hl 2 rfl) ?_
      refine lv_astore_n (lv' := [(3, .ref (q 24)), (6, .ref (q 22)), (5, .int lx109), (4, .ref (q 24)), (0, .ref (q 9))]) hx hb d_8_5_56 rfl hl (by decide) rfl (fun ls hl => ?_)
      refine lv_aload hx hb d_8_5_57 (lv_at hl 1 rfl) ?_
      refine lv_astore (lv' := [(4, .ref (q 22)), (3, .ref (q 24)), (6, .ref (q 22)), (5, .int lx109), (0, .ref (q 9))]) hx hb d_8_5_59 hl (by decide) rfl (fun ls hl => ?_)
      obtain ⟨a266, e267⟩ := q_nm (lx109 + 1 : Int32)
      have b268 : q_F (a266.toInt = lx109.toInt + 1) := (by rw [← e267]; exact q_addI (y := 1) rfl (by decide) (by have _ := q_lo32 (x := lx109); have _ := q_hi32 (x := lx109); have t1 : lx109.toInt ≤ 10000 := i119; omega) (by have _ := q_lo32 (x := lx109); have _ := q_hi32 (x := lx109); have t1 : lx109.toInt ≤ 10000 := i119; omega))
      refine lv_iinc (v := a266) (lv' := [(5, .int a266), (4, .ref (q 22)), (3, .ref (q 24)), (6, .ref (q 22)), (0, .ref (q 9))]) hx hb d_8_5_61 hl (k := 3) rfl (e267) (by decide) rfl (fun ls hl => ?_)
      refine lv_goto (tgt := 25) hx hb d_8_5_64 (by decide) ?_
      refine lv_iload hx hb d_8_5_25 (lv_at hl 0 rfl) ?_
      refine lv_sipush (v := 10000) hx hb d_8_5_27 (by decide) ?_
      refine lv_icmp_ge (tgt := 67) hx hb d_8_5_30 (by decide) (fun c269 => ?_) (fun c269 => ?_)
      ·
        refine lv_aload_n hx hb d_8_5_67 rfl (lv_at hl 4 rfl) ?_
        refine q_get (ci := 4) (j := 0) (v := .ref (q 10)) C0 V i_Mil rfl rfl hO214 (by decide) w_108 rfl d_8_5_68 ?_
        refine lv_aload_n hx hb d_8_5_71 rfl (lv_at hl 2 rfl) ?_
        refine q_gov V (q_runV (As := [.ref (q 24)]) (rest := []) (d := 2) (mc := 0) (ms := 0) (ci := 2) C0 V rfl LV_Mil_51 (X_Big_copy l D g q u216 10 220 (n_b10 g q) (by decide) 24 220 (n_b24 g q) (by decide)  (by decide) hI t0_0 t0_1 hO137 t1_0 hO138 y224 y225 hO223 f226 hA227  _) rfl rfl hO137 rfl hl.1 rfl (Nat.le_of_ble_eq_true rfl) ⟨by decide, by decide⟩ ⟨Nat.le_of_ble_eq_true rfl, Nat.le_of_ble_eq_true rfl⟩ d_8_5_72) (fun u271 H locs hp272 V => ?_)
        obtain ⟨hI, hZ9⟩ := hp272
        obtain ⟨hu284, hZ9⟩ := hZ9
        obtain ⟨y274, hZ9⟩ := hZ9
        obtain ⟨y275, hZ9⟩ := hZ9
        obtain ⟨f276, hZ9⟩ := hZ9
        obtain ⟨hO273, hZ9⟩ := hZ9
        obtain ⟨hA277, hZ9⟩ := hZ9
        obtain ⟨b278, hZ9⟩ := hZ9
        replace hZ9 := hZ9.2
        obtain ⟨b280, hZ9⟩ := hZ9
        replace hZ9 := hZ9.2
        obtain ⟨-, hE283⟩ := hZ9
        replace hO273 : u271[10]? = (some (q 10, .inr (2, [.ref (q 11), .int y274, .int y275])) : Option (Nat × va_E)) := hO273
        replace hA277 : u271[11]? = (some (q 11, .inl (g 0, (220 : Int32).toNatClampNeg, .inl f276)) : Option (Nat × va_E)) := hA277
        obtain ⟨p285, e286⟩ : ∃ z, z = (F_Big_copy (220 : Int32) (220 : Int32) t0_0 t0_1 t1_0 y224 y225 f226) := ⟨_, rfl⟩
        have e287 : y274 = p285.1 := congrArg (fun z => z.1) (hE283.trans e286.symm)
        have e288 : y275 = p285.2.1 := congrArg (fun z => z.2.1) (hE283.trans e286.symm)
        have e289 : f276 = p285.2.2 := congrArg (fun z => z.2.2) (hE283.trans e286.symm)
        replace b278 : q_F (0 ≤ y274.toInt) := b278
        replace b280 : q_F (y274.toInt ≤ 220) := b280
        replace hO228 := (hu284 _ (by decide)).trans hO228
        replace hA232 := (hu284 _ (by decide)).trans hA232
        replace hO218 := (hu284 _ (by decide)).trans hO218
        replace hA222 := (hu284 _ (by decide)).trans hA222
        replace hO223 := (hu284 _ (by decide)).trans hO223
        replace hA227 := (hu284 _ (by decide)).trans hA227
        replace hO214 := (hu284 _ (by decide)).trans hO214
        replace hF := q_uc hF hu284 (by first | exact (q_sk (q_mi 0 rfl) (q_sk (q_mi 1 rfl) q_s0)) | simp)
        have hR290 := (show F_Mil_commonDivisor_c72_7 (F_Mil_commonDivisor_L25 R R2 t0_0 t0_1 t1_0 t2_0 t2_1 t3_0 t4_0 t4_1 t5_0 t6_0 t6_1 t7_0 t8_0 t8_1 t9_0 t10_0 t10_1 t11_0 p64 y53 y54 f55 p88 fm153) R R2 t0_0 t0_1 t1_0 t2_0 t2_1 t3_0 t4_0 t4_1 t5_0 t6_0 t6_1 t7_0 t8_0 t8_1 t9_0 t10_0 t10_1 t11_0 p64 y53 y54 f55 p88 lx109 lx110 lx111 lx112 lx113 lx114 lx115 lx116 lx117 lx118 p250 a266 y229 y230 f231 y219 y220 f221 y224 y225 f226 p285 = (F_Mil_commonDivisor R R2 t0_0 t0_1 t1_0 t2_0 t2_1 t3_0 t4_0 t4_1 t5_0 t6_0 t6_1 t7_0 t8_0 t8_1 t9_0 t10_0 t10_1 t11_0) from Eq.trans (by have c269x := c269; rw [← e267] at c269x; rw [e286, ← e267, e260, e259, e258, e257, e256, e255, e254, e253, e252, F_Mil_commonDivisor_c48.eq_1, if_pos c269x]) hR261)
        have hS291 := (show True ∧ S_Mil_commonDivisor_c72_7 (S_Mil_commonDivisor_L25 R R2 t0_0 t0_1 t1_0 t2_0 t2_1 t3_0 t4_0 t4_1 t5_0 t6_0 t6_1 t7_0 t8_0 t8_1 t9_0 t10_0 t10_1 t11_0 p64 y53 y54 f55 p88 fm153) R R2 t0_0 t0_1 t1_0 t2_0 t2_1 t3_0 t4_0 t4_1 t5_0 t6_0 t6_1 t7_0 t8_0 t8_1 t9_0 t10_0 t10_1 t11_0 p64 y53 y54 f55 p88 lx109 lx110 lx111 lx112 lx113 lx114 lx115 lx116 lx117 lx118 p250 a266 y229 y230 f231 y219 y220 f221 y224 y225 f226 p285 from (by rw [e286, ← e267, e260, e259, e258, e257, e256, e255, e254, e253, e252]; have h := hS262; rw [S_Mil_commonDivisor_c48.eq_1] at h; have c269x := c269; rw [← e267] at c269x; rw [if_pos c269x] at h; with_reducible exact h))
        refine lv_aload_n hx hb d_8_5_75 rfl (lv_at hl 4 rfl) ?_
        refine q_get (ci := 4) (j := 0) (v := .ref (q 10)) C0 V i_Mil rfl rfl hO214 (by decide) w_108 rfl d_8_5_76 ?_
        refine lv_iconst (v := 0) hx hb d_8_5_79 (by decide) ?_
        refine q_put (ci := 2) (j := 2) (v := .int 0) (ty := .boolean) C0 V i_Big o_Big n_Big rfl rfl hO273 (by decide) w_96 rfl rfl rfl rfl (Nat.le_of_ble_eq_true rfl) d_8_5_80 (fun H locs w295 hu296 hO273 V => ?_)
        replace hO273 : w295[10]? = (some (q 10, .inr (2, [.ref (q 11), .int y274, .int 0])) : Option (Nat × va_E)) := hO273
        replace hI := q_bigO' hI (n_b10 g q) hu296 hO273 ⟨(by have zR : (220 : Int32).toInt = 220 := rfl; have t1 : 0 ≤ y274.toInt := b278; omega), (by have zR : (220 : Int32).toInt = 220 := rfl; have t1 : y274.toInt ≤ 220 := b280; omega)⟩ ⟨(by have z9 : (0 : Int32).toInt = 0 := rfl; omega), (by have z9 : (0 : Int32).toInt = 0 := rfl; omega)⟩
        replace hA277 := (hu296 _ (by decide)).trans hA277
        replace hO228 := (hu296 _ (by decide)).trans hO228
        replace hA232 := (hu296 _ (by decide)).trans hA232
        replace hO218 := (hu296 _ (by decide)).trans hO218
        replace hA222 := (hu296 _ (by decide)).trans hA222
        replace hO223 := (hu296 _ (by decide)).trans hO223
        replace hA227 := (hu296 _ (by decide)).trans hA227
        replace hF := q_us hF hu296 (by simp)
        exact q_retv C0 V (⟨hI, hF, y274, 0, f276, y229, y230, f231, y219, y220, f221, y224, y225, f226, hO273, hA277, hO228, hA232, hO218, hA222, hO223, hA227, (show 0 ≤ (0 : Int32).toInt from (by have z21 : (0 : Int32).toInt = 0 := rfl; omega)), (show (0 : Int32).toInt ≤ 0 from (by have z21 : (0 : Int32).toInt = 0 := rfl; omega)), (show y230.toInt ≤ t2_1.toInt from (by have z21 : (0 : Int32).toInt = 0 := rfl; have t1 : 0 ≤ t2_1.toInt ∧ t2_1.toInt ≤ 1 := btt2_1; have t2 : y230.toInt ≤ 0 := b234; omega)), (show y220.toInt ≤ t8_1.toInt from (by have z21 : (0 : Int32).toInt = 0 := rfl; have t1 : y54.toInt ≤ t8_1.toInt := b61; have t2 : lx114.toInt ≤ y54.toInt := i130; have t3 : y220.toInt ≤ lx114.toInt := b236; omega)), (show y225.toInt ≤ t10_1.toInt from (by have z21 : (0 : Int32).toInt = 0 := rfl; have t1 : y78.toInt ≤ t10_1.toInt := b85; have t2 : lx117.toInt ≤ y78.toInt := i131; have t3 : y225.toInt ≤ lx117.toInt := b239; omega)), (show (0 : Int32).toInt ≤ y274.toInt from (by have z21 : (0 : Int32).toInt = 0 := rfl; have t1 : 0 ≤ y274.toInt := b278; omega)), (show y274.toInt ≤ (0 : Int32).toInt + 220 from (by have z21 : (0 : Int32).toInt = 0 := rfl; have t1 : y274.toInt ≤ 220 := b280; omega)), (show y229.toInt ≤ (0 : Int32).toInt + 220 from (by have z21 : (0 : Int32).toInt = 0 := rfl; have t1 : y229.toInt ≤ 220 := b242; omega)), (show (0 : Int32).toInt ≤ y229.toInt from (by have z21 : (0 : Int32).toInt = 0 := rfl; have t1 : 0 ≤ y230.toInt := b233; have t2 : y230.toInt ≤ y229.toInt := b247; omega)), (show (0 : Int32).toInt ≤ y230.toInt from (by have z21 : (0 : Int32).toInt = 0 := rfl; have t1 : 0 ≤ y230.toInt := b233; omega)), (show y219.toInt ≤ (0 : Int32).toInt + 220 from (by have z21 : (0 : Int32).toInt = 0 := rfl; have t1 : y219.toInt ≤ 220 := b235; omega)), (show (0 : Int32).toInt ≤ y219.toInt from (by have z21 : (0 : Int32).toInt = 0 := rfl; have t1 : 0 ≤ y230.toInt := b233; have t2 : y230.toInt ≤ y219.toInt := b243; omega)), (show (0 : Int32).toInt ≤ y220.toInt from (by have z21 : (0 : Int32).toInt = 0 := rfl; have t1 : 0 ≤ y230.toInt := b233; have t2 : y230.toInt ≤ y220.toInt := b244; omega)), (show y224.toInt ≤ (0 : Int32).toInt + 220 from (by have z21 : (0 : Int32).toInt = 0 := rfl; have t1 : y224.toInt ≤ 220 := b238; omega)), (show (0 : Int32).toInt ≤ y224.toInt from (by have z21 : (0 : Int32).toInt = 0 := rfl; have t1 : 0 ≤ y230.toInt := b233; have t2 : y230.toInt ≤ y224.toInt := b245; omega)), (show (0 : Int32).toInt ≤ y225.toInt from (by have z21 : (0 : Int32).toInt = 0 := rfl; have t1 : 0 ≤ y230.toInt := b233; have t2 : y230.toInt ≤ y225.toInt := b246; omega)), (show (y274, (0 : Int32), f276, y229, y230, f231, y219, y220, f221, y224, y225, f226) = (F_Mil_commonDivisor R R2 t0_0 t0_1 t1_0 t2_0 t2_1 t3_0 t4_0 t4_1 t5_0 t6_0 t6_1 t7_0 t8_0 t8_1 t9_0 t10_0 t10_1 t11_0) from Eq.trans (by rw [e289, e287, F_Mil_commonDivisor_c72_7.eq_1]) hR290)⟩) d_8_5_83
      ·
        have b297 : q_F (a266.toInt < 10000) := (q_nleI c269)
        refine lv_aload hx hb d_8_5_33 (lv_at hl 1 rfl) ?_
        refine q_get (ci := 2) (j := 1) (v := .int y219) C0 V i_Big rfl rfl hO218 (by decide) w_89 rfl d_8_5_35 ?_
        refine lv_if_le (tgt := 67) hx hb d_8_5_38 (by decide) (fun c298 => ?_) (fun c298 => ?_)
        ·
          refine lv_aload_n hx hb d_8_5_67 rfl (lv_at hl 4 rfl) ?_
          refine q_get (ci := 4) (j := 0) (v := .ref (q 10)) C0 V i_Mil rfl rfl hO214 (by decide) w_108 rfl d_8_5_68 ?_
          refine lv_aload_n hx hb d_8_5_71 rfl (lv_at hl 2 rfl) ?_
          refine q_gov V (q_runV (As := [.ref (q 24)]) (rest := []) (d := 2) (mc := 0) (ms := 0) (ci := 2) C0 V rfl LV_Mil_51 (X_Big_copy l D g q u216 10 220 (n_b10 g q) (by decide) 24 220 (n_b24 g q) (by decide)  (by decide) hI t0_0 t0_1 hO137 t1_0 hO138 y224 y225 hO223 f226 hA227  _) rfl rfl hO137 rfl hl.1 rfl (Nat.le_of_ble_eq_true rfl) ⟨by decide, by decide⟩ ⟨Nat.le_of_ble_eq_true rfl, Nat.le_of_ble_eq_true rfl⟩ d_8_5_72) (fun u300 H locs hp301 V => ?_)
          obtain ⟨hI, hZ9⟩ := hp301
          obtain ⟨hu313, hZ9⟩ := hZ9
          obtain ⟨y303, hZ9⟩ := hZ9
          obtain ⟨y304, hZ9⟩ := hZ9
          obtain ⟨f305, hZ9⟩ := hZ9
          obtain ⟨hO302, hZ9⟩ := hZ9
          obtain ⟨hA306, hZ9⟩ := hZ9
          obtain ⟨b307, hZ9⟩ := hZ9
          replace hZ9 := hZ9.2
          obtain ⟨b309, hZ9⟩ := hZ9
          replace hZ9 := hZ9.2
          obtain ⟨-, hE312⟩ := hZ9
          replace hO302 : u300[10]? = (some (q 10, .inr (2, [.ref (q 11), .int y303, .int y304])) : Option (Nat × va_E)) := hO302
          replace hA306 : u300[11]? = (some (q 11, .inl (g 0, (220 : Int32).toNatClampNeg, .inl f305)) : Option (Nat × va_E)) := hA306
          obtain ⟨p314, e315⟩ : ∃ z, z = (F_Big_copy (220 : Int32) (220 : Int32) t0_0 t0_1 t1_0 y224 y225 f226) := ⟨_, rfl⟩
          have e316 : y303 = p314.1 := congrArg (fun z => z.1) (hE312.trans e315.symm)
          have e317 : y304 = p314.2.1 := congrArg (fun z => z.2.1) (hE312.trans e315.symm)
          have e318 : f305 = p314.2.2 := congrArg (fun z => z.2.2) (hE312.trans e315.symm)
          replace b307 : q_F (0 ≤ y303.toInt) := b307
          replace b309 : q_F (y303.toInt ≤ 220) := b309
          replace hO228 := (hu313 _ (by decide)).trans hO228
          replace hA232 := (hu313 _ (by decide)).trans hA232
          replace hO218 := (hu313 _ (by decide)).trans hO218
          replace hA222 := (hu313 _ (by decide)).trans hA222
          replace hO223 := (hu313 _ (by decide)).trans hO223
          replace hA227 := (hu313 _ (by decide)).trans hA227
          replace hO214 := (hu313 _ (by decide)).trans hO214
          replace hF := q_uc hF hu313 (by first | exact (q_sk (q_mi 0 rfl) (q_sk (q_mi 1 rfl) q_s0)) | simp)
          have hR319 := (show F_Mil_commonDivisor_c72_8 (F_Mil_commonDivisor_L25 R R2 t0_0 t0_1 t1_0 t2_0 t2_1 t3_0 t4_0 t4_1 t5_0 t6_0 t6_1 t7_0 t8_0 t8_1 t9_0 t10_0 t10_1 t11_0 p64 y53 y54 f55 p88 fm153) R R2 t0_0 t0_1 t1_0 t2_0 t2_1 t3_0 t4_0 t4_1 t5_0 t6_0 t6_1 t7_0 t8_0 t8_1 t9_0 t10_0 t10_1 t11_0 p64 y53 y54 f55 p88 lx109 lx110 lx111 lx112 lx113 lx114 lx115 lx116 lx117 lx118 p250 a266 y229 y230 f231 y219 y220 f221 y224 y225 f226 p314 = (F_Mil_commonDivisor R R2 t0_0 t0_1 t1_0 t2_0 t2_1 t3_0 t4_0 t4_1 t5_0 t6_0 t6_1 t7_0 t8_0 t8_1 t9_0 t10_0 t10_1 t11_0) from Eq.trans (by have c269x := c269; rw [← e267] at c269x; have c298x := c298; rw [e252] at c298x; rw [e315, ← e267, e260, e259, e258, e257, e256, e255, e254, e253, e252, F_Mil_commonDivisor_c48.eq_1, if_neg c269x, if_pos c298x]) hR261)
          have hS320 := (show True ∧ S_Mil_commonDivisor_c72_8 (S_Mil_commonDivisor_L25 R R2 t0_0 t0_1 t1_0 t2_0 t2_1 t3_0 t4_0 t4_1 t5_0 t6_0 t6_1 t7_0 t8_0 t8_1 t9_0 t10_0 t10_1 t11_0 p64 y53 y54 f55 p88 fm153) R R2 t0_0 t0_1 t1_0 t2_0 t2_1 t3_0 t4_0 t4_1 t5_0 t6_0 t6_1 t7_0 t8_0 t8_1 t9_0 t10_0 t10_1 t11_0 p64 y53 y54 f55 p88 lx109 lx110 lx111 lx112 lx113 lx114 lx115 lx116 lx117 lx118 p250 a266 y229 y230 f231 y219 y220 f221 y224 y225 f226 p314 from (by rw [e315, ← e267, e260, e259, e258, e257, e256, e255, e254, e253, e252]; have h := hS262; rw [S_Mil_commonDivisor_c48.eq_1] at h; have c269x := c269; rw [← e267] at c269x; rw [if_neg c269x] at h; have c298x := c298; rw [e252] at c298x; rw [if_pos c298x] at h; with_reducible exact h))
          refine lv_aload_n hx hb d_8_5_75 rfl (lv_at hl 4 rfl) ?_
          refine q_get (ci := 4) (j := 0) (v := .ref (q 10)) C0 V i_Mil rfl rfl hO214 (by decide) w_108 rfl d_8_5_76 ?_
          refine lv_iconst (v := 0) hx hb d_8_5_79 (by decide) ?_
          refine q_put (ci := 2) (j := 2) (v := .int 0) (ty := .boolean) C0 V i_Big o_Big n_Big rfl rfl hO302 (by decide) w_96 rfl rfl rfl rfl (Nat.le_of_ble_eq_true rfl) d_8_5_80 (fun H locs w324 hu325 hO302 V => ?_)
          replace hO302 : w324[10]? = (some (q 10, .inr (2, [.ref (q 11), .int y303, .int 0])) : Option (Nat × va_E)) := hO302
          replace hI := q_bigO' hI (n_b10 g q) hu325 hO302 ⟨(by have zR : (220 : Int32).toInt = 220 := rfl; have t1 : 0 ≤ y303.toInt := b307; omega), (by have zR : (220 : Int32).toInt = 220 := rfl; have t1 : y303.toInt ≤ 220 := b309; omega)⟩ ⟨(by have z9 : (0 : Int32).toInt = 0 := rfl; omega), (by have z9 : (0 : Int32).toInt = 0 := rfl; omega)⟩
          replace hA306 := (hu325 _ (by decide)).trans hA306
          replace hO228 := (hu325 _ (by decide)).trans hO228
          replace hA232 := (hu325 _ (by decide)).trans hA232
          replace hO218 := (hu325 _ (by decide)).trans hO218
          replace hA222 := (hu325 _ (by decide)).trans hA222
          replace hO223 := (hu325 _ (by decide)).trans hO223
          replace hA227 := (hu325 _ (by decide)).trans hA227
          replace hF := q_us hF hu325 (by simp)
          exact q_retv C0 V (⟨hI, hF, y303, 0, f305, y229, y230, f231, y219, y220, f221, y224, y225, f226, hO302, hA306, hO228, hA232, hO218, hA222, hO223, hA227, (show 0 ≤ (0 : Int32).toInt from (by have z21 : (0 : Int32).toInt = 0 := rfl; omega)), (show (0 : Int32).toInt ≤ 0 from (by have z21 : (0 : Int32).toInt = 0 := rfl; omega)), (show y230.toInt ≤ t2_1.toInt from (by have z21 : (0 : Int32).toInt = 0 := rfl; have t1 : 0 ≤ t2_1.toInt ∧ t2_1.toInt ≤ 1 := btt2_1; have t2 : y230.toInt ≤ 0 := b234; omega)), (show y220.toInt ≤ t8_1.toInt from (by have z21 : (0 : Int32).toInt = 0 := rfl; have t1 : y54.toInt ≤ t8_1.toInt := b61; have t2 : lx114.toInt ≤ y54.toInt := i130; have t3 : y220.toInt ≤ lx114.toInt := b236; omega)), (show y225.toInt ≤ t10_1.toInt from (by have z21 : (0 : Int32).toInt = 0 := rfl; have t1 : y78.toInt ≤ t10_1.toInt := b85; have t2 : lx117.toInt ≤ y78.toInt := i131; have t3 : y225.toInt ≤ lx117.toInt := b239; omega)), (show (0 : Int32).toInt ≤ y303.toInt from (by have z21 : (0 : Int32).toInt = 0 := rfl; have t1 : 0 ≤ y303.toInt := b307; omega)), (show y303.toInt ≤ (0 : Int32).toInt + 220 from (by have z21 : (0 : Int32).toInt = 0 := rfl; have t1 : y303.toInt ≤ 220 := b309; omega)), (show y229.toInt ≤ (0 : Int32).toInt + 220 from (by have z21 : (0 : Int32).toInt = 0 := rfl; have t1 : y229.toInt ≤ 220 := b242; omega)), (show (0 : Int32).toInt ≤ y229.toInt from (by have z21 : (0 : Int32).toInt = 0 := rfl; have t1 : 0 ≤ y230.toInt := b233; have t2 : y230.toInt ≤ y229.toInt := b247; omega)), (show (0 : Int32).toInt ≤ y230.toInt from (by have z21 : (0 : Int32).toInt = 0 := rfl; have t1 : 0 ≤ y230.toInt := b233; omega)), (show y219.toInt ≤ (0 : Int32).toInt + 220 from (by have z21 : (0 : Int32).toInt = 0 := rfl; have t1 : y219.toInt ≤ 220 := b235; omega)), (show (0 : Int32).toInt ≤ y219.toInt from (by have z21 : (0 : Int32).toInt = 0 := rfl; have t1 : 0 ≤ y230.toInt := b233; have t2 : y230.toInt ≤ y219.toInt := b243; omega)), (show (0 : Int32).toInt ≤ y220.toInt from (by have z21 : (0 : Int32).toInt = 0 := rfl; have t1 : 0 ≤ y230.toInt := b233; have t2 : y230.toInt ≤ y220.toInt := b244; omega)), (show y224.toInt ≤ (0 : Int32).toInt + 220 from (by have z21 : (0 : Int32).toInt = 0 := rfl; have t1 : y224.toInt ≤ 220 := b238; omega)), (show (0 : Int32).toInt ≤ y224.toInt from (by have z21 : (0 : Int32).toInt = 0 := rfl; have t1 : 0 ≤ y230.toInt := b233; have t2 : y230.toInt ≤ y224.toInt := b245; omega)), (show (0 : Int32).toInt ≤ y225.toInt from (by have z21 : (0 : Int32).toInt = 0 := rfl; have t1 : 0 ≤ y230.toInt := b233; have t2 : y230.toInt ≤ y225.toInt := b246; omega)), (show (y303, (0 : Int32), f305, y229, y230, f231, y219, y220, f221, y224, y225, f226) = (F_Mil_commonDivisor R R2 t0_0 t0_1 t1_0 t2_0 t2_1 t3_0 t4_0 t4_1 t5_0 t6_0 t6_1 t7_0 t8_0 t8_1 t9_0 t10_0 t10_1 t11_0) from Eq.trans (by rw [e318, e316, F_Mil_commonDivisor_c72_8.eq_1]) hR319)⟩) d_8_5_83
        ·
          refine lv_aload_n hx hb d_8_5_41 rfl (lv_at hl 2 rfl) ?_
          refine lv_aload hx hb d_8_5_42 (lv_at hl 1 rfl) ?_
          refine lv_aload_n hx hb d_8_5_44 rfl (lv_at hl 4 rfl) ?_
          refine q_get (ci := 4) (j := 1) (v := .ref (q 12)) C0 V i_Mil rfl rfl hO214 (by decide) w_114 rfl d_8_5_45 ?_
          have ob327 : True ∧ S_Big_divideBy (220 : Int32) (220 : Int32) (220 : Int32) y224 y225 f226 y219 y220 f221 y229 y230 f231 := (by rw [e260, e259, e258, e257, e256, e255, e254, e253, e252]; have h := hS262; rw [S_Mil_commonDivisor_c48.eq_1] at h; have c269x := c269; rw [← e267] at c269x; rw [if_neg c269x] at h; have c298x := c298; rw [e252] at c298x; rw [if_neg c298x] at h; with_reducible exact h.2.1)
          refine q_gov V (q_runV (As := [.ref (q 22), .ref (q 12)]) (rest := []) (d := 4) (mc := 0) (ms := 0) (ci := 2) C0 V rfl LV_Mil_59 (X_Big_divideBy l D g q u216 24 220 (n_b24 g q) (by decide) 22 220 (n_b22 g q) (by decide) 12 220 (n_b12 g q) (by decide)  (by decide) (by decide) (by decide) hI y224 y225 hO223 f226 hA227 y219 y220 hO218 f221 hA222 y229 y230 hO228 f231 hA232 ob327 _) rfl rfl hO223 rfl hl.1 rfl (Nat.le_of_ble_eq_true rfl) ⟨by decide, by decide⟩ ⟨Nat.le_of_ble_eq_true rfl, Nat.le_of_ble_eq_true rfl⟩ d_8_5_48) (fun u328 H locs hp329 V => ?_)
          obtain ⟨hI, hZ9⟩ := hp329
          obtain ⟨hu361, hZ9⟩ := hZ9
          obtain ⟨y331, hZ9⟩ := hZ9
          obtain ⟨y332, hZ9⟩ := hZ9
          obtain ⟨f333, hZ9⟩ := hZ9
          obtain ⟨y336, hZ9⟩ := hZ9
          obtain ⟨y337, hZ9⟩ := hZ9
          obtain ⟨f338, hZ9⟩ := hZ9
          obtain ⟨y341, hZ9⟩ := hZ9
          obtain ⟨y342, hZ9⟩ := hZ9
          obtain ⟨f343, hZ9⟩ := hZ9
          obtain ⟨hO330, hZ9⟩ := hZ9
          obtain ⟨hA334, hZ9⟩ := hZ9
          obtain ⟨hO335, hZ9⟩ := hZ9
          obtain ⟨hA339, hZ9⟩ := hZ9
          obtain ⟨hO340, hZ9⟩ := hZ9
          obtain ⟨hA344, hZ9⟩ := hZ9
          obtain ⟨b345, hZ9⟩ := hZ9
          obtain ⟨b346, hZ9⟩ := hZ9
          obtain ⟨b347, hZ9⟩ := hZ9
          obtain ⟨b348, hZ9⟩ := hZ9
          replace hZ9 := hZ9.2
          obtain ⟨b350, hZ9⟩ := hZ9
          obtain ⟨b351, hZ9⟩ := hZ9
          replace hZ9 := hZ9.2.2
          obtain ⟨b354, hZ9⟩ := hZ9
          obtain ⟨b355, hZ9⟩ := hZ9
          obtain ⟨b356, hZ9⟩ := hZ9
          obtain ⟨b357, hZ9⟩ := hZ9
          obtain ⟨b358, hZ9⟩ := hZ9
          obtain ⟨b359, hE360⟩ := hZ9
          replace hO330 : u328[24]? = (some (q 24, .inr (2, [.ref (q 25), .int y331, .int y332])) : Option (Nat × va_E)) := hO330
          replace hA334 : u328[25]? = (some (q 25, .inl (g 0, (220 : Int32).toNatClampNeg, .inl f333)) : Option (Nat × va_E)) := hA334
          replace hO335 : u328[22]? = (some (q 22, .inr (2, [.ref (q 23), .int y336, .int y337])) : Option (Nat × va_E)) := hO335
          replace hA339 : u328[23]? = (some (q 23, .inl (g 0, (220 : Int32).toNatClampNeg, .inl f338)) : Option (Nat × va_E)) := hA339
          replace hO340 : u328[12]? = (some (q 12, .inr (2, [.ref (q 13), .int y341, .int y342])) : Option (Nat × va_E)) := hO340
          replace hA344 : u328[13]? = (some (q 13, .inl (g 0, (220 : Int32).toNatClampNeg, .inl f343)) : Option (Nat × va_E)) := hA344
          obtain ⟨p362, e363⟩ : ∃ z, z = (F_Big_divideBy (220 : Int32) (220 : Int32) (220 : Int32) y224 y225 f226 y219 y220 f221 y229 y230 f231) := ⟨_, rfl⟩
          have e364 : y331 = p362.1 := congrArg (fun z => z.1) (hE360.trans e363.symm)
          have e365 : y332 = p362.2.1 := congrArg (fun z => z.2.1) (hE360.trans e363.symm)
          have e366 : f333 = p362.2.2.1 := congrArg (fun z => z.2.2.1) (hE360.trans e363.symm)
          have e367 : y336 = p362.2.2.2.1 := congrArg (fun z => z.2.2.2.1) (hE360.trans e363.symm)
          have e368 : y337 = p362.2.2.2.2.1 := congrArg (fun z => z.2.2.2.2.1) (hE360.trans e363.symm)
          have e369 : f338 = p362.2.2.2.2.2.1 := congrArg (fun z => z.2.2.2.2.2.1) (hE360.trans e363.symm)
          have e370 : y341 = p362.2.2.2.2.2.2.1 := congrArg (fun z => z.2.2.2.2.2.2.1) (hE360.trans e363.symm)
          have e371 : y342 = p362.2.2.2.2.2.2.2.1 := congrArg (fun z => z.2.2.2.2.2.2.2.1) (hE360.trans e363.symm)
          have e372 : f343 = p362.2.2.2.2.2.2.2.2 := congrArg (fun z => z.2.2.2.2.2.2.2.2) (hE360.trans e363.symm)
          replace b345 : q_F (0 ≤ y342.toInt) := b345
          replace b346 : q_F (y342.toInt ≤ 0) := b346
          replace b347 : q_F (y331.toInt ≤ 220) := b347
          replace b348 : q_F (y332.toInt ≤ y225.toInt) := b348
          replace b350 : q_F (y336.toInt ≤ 220) := b350
          replace b351 : q_F (y337.toInt ≤ y220.toInt) := b351
          replace b354 : q_F (y341.toInt ≤ 220) := b354
          replace b355 : q_F (y342.toInt ≤ y331.toInt) := b355
          replace b356 : q_F (y342.toInt ≤ y332.toInt) := b356
          replace b357 : q_F (y342.toInt ≤ y336.toInt) := b357
          replace b358 : q_F (y342.toInt ≤ y337.toInt) := b358
          replace b359 : q_F (y342.toInt ≤ y341.toInt) := b359
          replace hO137 := (hu361 _ (by decide)).trans hO137
          replace hO138 := (hu361 _ (by decide)).trans hO138
          replace hO145 := (hu361 _ (by first | exact (q_nc ne_k2_24 (q_nc ne_k2_25 (q_nc ne_k2_22 (q_nc ne_k2_23 (q_nc ne_k2_12 (q_nc ne_k2_13 List.not_mem_nil)))))) | (have z0 := zk2; simp only [List.mem_cons, List.not_mem_nil, or_false, not_or]; omega))).trans hO145
          replace hO146 := (hu361 _ (by first | exact (q_nc (q_nt1 ne_k2_23) (q_nc (q_nt1 ne_k2_24) (q_nc (q_nt1 ne_k2_21) (q_nc (q_nt1 ne_k2_22) (q_nc (q_nt1 ne_k2_11) (q_nc (q_nt1 ne_k2_12) List.not_mem_nil)))))) | (have z0 := zk2; simp only [List.mem_cons, List.not_mem_nil, or_false, not_or]; omega))).trans hO146
          replace hO147 := (hu361 _ (by first | exact (q_nc ne_k3_24 (q_nc ne_k3_25 (q_nc ne_k3_22 (q_nc ne_k3_23 (q_nc ne_k3_12 (q_nc ne_k3_13 List.not_mem_nil)))))) | (have z0 := zk3; simp only [List.mem_cons, List.not_mem_nil, or_false, not_or]; omega))).trans hO147
          replace hO148 := (hu361 _ (by first | exact (q_nc (q_nt1 ne_k3_23) (q_nc (q_nt1 ne_k3_24) (q_nc (q_nt1 ne_k3_21) (q_nc (q_nt1 ne_k3_22) (q_nc (q_nt1 ne_k3_11) (q_nc (q_nt1 ne_k3_12) List.not_mem_nil)))))) | (have z0 := zk3; simp only [List.mem_cons, List.not_mem_nil, or_false, not_or]; omega))).trans hO148
          replace hF := q_uc hF hu361 (by first | exact (q_sk (q_mi 6 rfl) (q_sk (q_mi 7 rfl) (q_sk (q_mi 4 rfl) (q_sk (q_mi 5 rfl) (q_sk (q_mi 2 rfl) (q_sk (q_mi 3 rfl) q_s0)))))) | simp)
          have hR373 := (show F_Mil_commonDivisor_c48_9 (F_Mil_commonDivisor_L25 R R2 t0_0 t0_1 t1_0 t2_0 t2_1 t3_0 t4_0 t4_1 t5_0 t6_0 t6_1 t7_0 t8_0 t8_1 t9_0 t10_0 t10_1 t11_0 p64 y53 y54 f55 p88 fm153) R R2 t0_0 t0_1 t1_0 t2_0 t2_1 t3_0 t4_0 t4_1 t5_0 t6_0 t6_1 t7_0 t8_0 t8_1 t9_0 t10_0 t10_1 t11_0 p64 y53 y54 f55 p88 lx109 lx110 lx111 lx112 lx113 lx114 lx115 lx116 lx117 lx118 p250 a266 p362 = (F_Mil_commonDivisor R R2 t0_0 t0_1 t1_0 t2_0 t2_1 t3_0 t4_0 t4_1 t5_0 t6_0 t6_1 t7_0 t8_0 t8_1 t9_0 t10_0 t10_1 t11_0) from Eq.trans (by have c269x := c269; rw [← e267] at c269x; have c298x := c298; rw [e252] at c298x; rw [e363, ← e267, e260, e259, e258, e257, e256, e255, e254, e253, e252, F_Mil_commonDivisor_c48.eq_1, if_neg c269x, if_neg c298x]) hR261)
          have hS374 := (show True ∧ S_Mil_commonDivisor_c48_9 (S_Mil_commonDivisor_L25 R R2 t0_0 t0_1 t1_0 t2_0 t2_1 t3_0 t4_0 t4_1 t5_0 t6_0 t6_1 t7_0 t8_0 t8_1 t9_0 t10_0 t10_1 t11_0 p64 y53 y54 f55 p88 fm153) R R2 t0_0 t0_1 t1_0 t2_0 t2_1 t3_0 t4_0 t4_1 t5_0 t6_0 t6_1 t7_0 t8_0 t8_1 t9_0 t10_0 t10_1 t11_0 p64 y53 y54 f55 p88 lx109 lx110 lx111 lx112 lx113 lx114 lx115 lx116 lx117 lx118 p250 a266 p362 from (by rw [e363, ← e267, e260, e259, e258, e257, e256, e255, e254, e253, e252]; have h := hS262; rw [S_Mil_commonDivisor_c48.eq_1] at h; have c269x := c269; rw [← e267] at c269x; rw [if_neg c269x] at h; have c298x := c298; rw [e252] at c298x; rw [if_neg c298x] at h; replace h := q_s2 h; with_reducible exact h))
          refine lv_aload_n hx hb d_8_5_51 rfl (lv_at hl 2 rfl) ?_
          refine lv_astore (lv' := [(6, .ref (q 24)), (5, .int a266), (4, .ref (q 22)), (3, .ref (q 24)), (0, .ref (q 9))]) hx hb d_8_5_52 hl (by decide) rfl (fun ls hl => ?_)
          refine lv_aload hx hb d_8_5_54 (lv_at hl 2 rfl) ?_
          refine lv_astore_n (lv' := [(3, .ref (q 22)), (6, .ref (q 24)), (5, .int a266), (4, .ref (q 22)), (0, .ref (q 9))]) hx hb d_8_5_56 rfl hl (by decide) rfl (fun ls hl => ?_)
          refine lv_aload hx hb d_8_5_57 (lv_at hl 1 rfl) ?_
          refine lv_astore (lv' := [(4, .ref (q 24)), (3, .ref (q 22)), (6, .ref (q 24)), (5, .int a266), (0, .ref (q 9))]) hx hb d_8_5_59 hl (by decide) rfl (fun ls hl => ?_)
          obtain ⟨a378, e379⟩ := q_nm (a266 + 1 : Int32)
          have b380 : q_F (a378.toInt = a266.toInt + 1) := (by rw [← e379]; exact q_addI (y := 1) rfl (by decide) (by have _ := q_lo32 (x := a266); have _ := q_hi32 (x := a266); have t1 : a266.toInt < 10000 := b297; omega) (by have _ := q_lo32 (x := a266); have _ := q_hi32 (x := a266); have t1 : a266.toInt < 10000 := b297; omega))
          refine lv_iinc (v := a378) (lv' := [(5, .int a378), (4, .ref (q 24)), (3, .ref (q 22)), (6, .ref (q 24)), (0, .ref (q 9))]) hx hb d_8_5_61 hl (k := 3) rfl (e379) (by decide) rfl (fun ls hl => ?_)
          refine lv_goto (tgt := 25) hx hb d_8_5_64 (by decide) ?_
          exact ih135 ((a378 : Int32), (y341 : Int32), (y342 : Int32), (f343 : (Nat → Int32)), (y336 : Int32), (y337 : Int32), (f338 : (Nat → Int32)), (y331 : Int32), (y332 : Int32), (f333 : (Nat → Int32))) _ _ _ _ (show (10000 - a378.toInt).toNat < (10000 - lx109.toInt).toNat from by have t1 : a266.toInt = lx109.toInt + 1 := b268; have t2 : a378.toInt = a266.toInt + 1 := b380; have t3 : lx109.toInt ≤ 10000 := i119; have t4 : lx109.toInt < 10000 := b183; omega) ⟨(show q_F (a378.toInt ≤ 10000) from (show a378.toInt ≤ 10000 from by have t1 : a266.toInt < 10000 := b297; have t2 : a378.toInt = a266.toInt + 1 := b380; omega)), (show q_F (0 ≤ y341.toInt) from (show 0 ≤ y341.toInt from by have t1 : 0 ≤ y342.toInt := b345; have t2 : y342.toInt ≤ y341.toInt := b359; omega)), (show q_F (y341.toInt ≤ 220) from (show y341.toInt ≤ 220 from by have t1 : y341.toInt ≤ 220 := b354; omega)), (show q_F (0 ≤ y342.toInt) from (show 0 ≤ y342.toInt from by have t1 : 0 ≤ y342.toInt := b345; omega)), (show q_F (0 ≤ y336.toInt) from (show 0 ≤ y336.toInt from by have t1 : 0 ≤ y342.toInt := b345; have t2 : y342.toInt ≤ y336.toInt := b357; omega)), (show q_F (y336.toInt ≤ 220) from (show y336.toInt ≤ 220 from by have t1 : y336.toInt ≤ 220 := b350; omega)), (show q_F (0 ≤ y337.toInt) from (show 0 ≤ y337.toInt from by have t1 : 0 ≤ y342.toInt := b345; have t2 : y342.toInt ≤ y337.toInt := b358; omega)), (show q_F (0 ≤ y331.toInt) from (show 0 ≤ y331.toInt from by have t1 : 0 ≤ y342.toInt := b345; have t2 : y342.toInt ≤ y331.toInt := b355; omega)), (show q_F (y331.toInt ≤ 220) from (show y331.toInt ≤ 220 from by have t1 : y331.toInt ≤ 220 := b347; omega)), (show q_F (0 ≤ y332.toInt) from (show 0 ≤ y332.toInt from by have t1 : 0 ≤ y342.toInt := b345; have t2 : y342.toInt ≤ y332.toInt := b356; omega)), (show q_F (y342.toInt ≤ t2_1.toInt) from (show y342.toInt ≤ t2_1.toInt from by have t1 : 0 ≤ t2_1.toInt ∧ t2_1.toInt ≤ 1 := btt2_1; have t2 : y342.toInt ≤ 0 := b346; omega)), (show q_F (y337.toInt ≤ y54.toInt) from (show y337.toInt ≤ y54.toInt from by have t1 : lx114.toInt ≤ y54.toInt := i130; have t2 : y220.toInt ≤ lx114.toInt := b236; have t3 : y337.toInt ≤ y220.toInt := b351; omega)), (show q_F (y332.toInt ≤ y78.toInt) from (show y332.toInt ≤ y78.toInt from by have t1 : lx117.toInt ≤ y78.toInt := i131; have t2 : y225.toInt ≤ lx117.toInt := b239; have t3 : y332.toInt ≤ y225.toInt := b348; omega)), (show q_F (2 * t2_1.toInt ≤ 2 * y342.toInt + a378.toInt) from (show 2 * t2_1.toInt ≤ 2 * y342.toInt + a378.toInt from by have t1 : 0 ≤ t2_1.toInt ∧ t2_1.toInt ≤ 1 := btt2_1; have t2 : lx111.toInt ≤ t2_1.toInt := i129; have t3 : 2 * t2_1.toInt ≤ 2 * lx111.toInt + lx109.toInt := i132; have t4 : a266.toInt = lx109.toInt + 1 := b268; have t5 : 0 ≤ y342.toInt := b345; have t6 : a378.toInt = a266.toInt + 1 := b380; omega)), (show q_F (2 * y54.toInt ≤ 2 * y337.toInt + a378.toInt) from (show 2 * y54.toInt ≤ 2 * y337.toInt + a378.toInt from by have t1 : 0 ≤ t8_1.toInt ∧ t8_1.toInt ≤ 1 := btt8_1; have t2 : y54.toInt ≤ t8_1.toInt := b61; have t3 : lx114.toInt ≤ y54.toInt := i130; have t4 : 2 * y54.toInt ≤ 2 * lx114.toInt + lx109.toInt := i133; have t5 : a266.toInt = lx109.toInt + 1 := b268; have t6 : 0 ≤ y342.toInt := b345; have t7 : y342.toInt ≤ y337.toInt := b358; have t8 : a378.toInt = a266.toInt + 1 := b380; omega)), (show q_F (2 * y78.toInt ≤ 2 * y332.toInt + a378.toInt) from (show 2 * y78.toInt ≤ 2 * y332.toInt + a378.toInt from by have t1 : 0 ≤ t10_1.toInt ∧ t10_1.toInt ≤ 1 := btt10_1; have t2 : y78.toInt ≤ t10_1.toInt := b85; have t3 : lx117.toInt ≤ y78.toInt := i131; have t4 : 2 * y78.toInt ≤ 2 * lx117.toInt + lx109.toInt := i134; have t5 : a266.toInt = lx109.toInt + 1 := b268; have t6 : 0 ≤ y342.toInt := b345; have t7 : y342.toInt ≤ y332.toInt := b356; have t8 : a378.toInt = a266.toInt + 1 := b380; omega)), V, q_lw hl (q_lw1 0 rfl (q_lw1 1 rfl (q_lw1 2 rfl (q_lw1 4 rfl q_lw0)))), hI, hF, hO137, hO138, hO340, hA344, hO335, hA339, hO330, hA334, hO145, hO146, hO147, hO148, ⟨fm153, Nat.lt_of_lt_of_le (show (10000 - a378.toInt).toNat < (10000 - lx109.toInt).toNat from by have t1 : a266.toInt = lx109.toInt + 1 := b268; have t2 : a378.toInt = a266.toInt + 1 := b380; have t3 : lx109.toInt ≤ 10000 := i119; have t4 : lx109.toInt < 10000 := b183; omega) (Nat.le_of_lt_succ hf152), (show F_Mil_commonDivisor_L25 R R2 t0_0 t0_1 t1_0 t2_0 t2_1 t3_0 t4_0 t4_1 t5_0 t6_0 t6_1 t7_0 t8_0 t8_1 t9_0 t10_0 t10_1 t11_0 p64 y53 y54 f55 p88 fm153 a378 y341 y342 f343 y336 y337 f338 y331 y332 f333 = (F_Mil_commonDivisor R R2 t0_0 t0_1 t1_0 t2_0 t2_1 t3_0 t4_0 t4_1 t5_0 t6_0 t6_1 t7_0 t8_0 t8_1 t9_0 t10_0 t10_1 t11_0) from Eq.trans (by rw [← e379, e372, e371, e370, e369, e368, e367, e366, e365, e364, F_Mil_commonDivisor_c48_9.eq_1]) hR373), (show True ∧ S_Mil_commonDivisor_L25 R R2 t0_0 t0_1 t1_0 t2_0 t2_1 t3_0 t4_0 t4_1 t5_0 t6_0 t6_1 t7_0 t8_0 t8_1 t9_0 t10_0 t10_1 t11_0 p64 y53 y54 f55 p88 fm153 a378 y341 y342 f343 y336 y337 f338 y331 y332 f333 from (by rw [← e379, e372, e371, e370, e369, e368, e367, e366, e365, e364]; have h := hS374; rw [S_Mil_commonDivisor_c48_9.eq_1] at h; with_reducible exact h))⟩⟩

