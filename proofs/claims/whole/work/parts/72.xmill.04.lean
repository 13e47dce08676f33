def F_Mil_shifted_c91 (R : Int32) (x3 : Int32) (t0_0 : Int32) (t0_1 : Int32) (t1_0 : (Nat → Int32)) (t2_0 : Int32) (t2_1 : Int32) (t3_0 : (Nat → Int32)) (t4_0 : Int32) (t4_1 : Int32) (t5_0 : (Nat → Int32)) (p40 : (Int32 × Int32 × (Nat → Int32))) (y29 : Int32) (y30 : Int32) (f31 : (Nat → Int32)) (lx52 : Int32) (p84 : (Int32 × Int32 × Int32 × (Nat → Int32))) (y71 : Int32) (y72 : Int32) (f73 : (Nat → Int32)) (p115 : (Int32 × Int32 × (Nat → Int32))) (y104 : Int32) (y105 : Int32) (f106 : (Nat → Int32)) (p138 : (Int32 × Int32 × (Nat → Int32))) : Int32 × Int32 × Int32 × (Nat → Int32) × Int32 × Int32 × (Nat → Int32) := ((1 : Int32), (p138.1 : Int32), (p138.2.1 : Int32), (p138.2.2 : (Nat → Int32)), y104, y105, f106)
def F_Mil_shifted_c79 (R : Int32) (x3 : Int32) (t0_0 : Int32) (t0_1 : Int32) (t1_0 : (Nat → Int32)) (t2_0 : Int32) (t2_1 : Int32) (t3_0 : (Nat → Int32)) (t4_0 : Int32) (t4_1 : Int32) (t5_0 : (Nat → Int32)) (p40 : (Int32 × Int32 × (Nat → Int32))) (y29 : Int32) (y30 : Int32) (f31 : (Nat → Int32)) (lx52 : Int32) (p84 : (Int32 × Int32 × Int32 × (Nat → Int32))) (y71 : Int32) (y72 : Int32) (f73 : (Nat → Int32)) (p115 : (Int32 × Int32 × (Nat → Int32))) : Int32 × Int32 × Int32 × (Nat → Int32) × Int32 × Int32 × (Nat → Int32) := F_Mil_shifted_c91 R x3 t0_0 t0_1 t1_0 t2_0 t2_1 t3_0 t4_0 t4_1 t5_0 p40 y29 y30 f31 lx52 p84 y71 y72 f73 p115 (p115.1 : Int32) (p115.2.1 : Int32) (p115.2.2 : (Nat → Int32)) ((F_Big_addSigned (220 : Int32) (220 : Int32) (0 : Int32) y71 y72 f73 (p115.1 : Int32) (p115.2.1 : Int32) (p115.2.2 : (Nat → Int32))) : (Int32 × Int32 × (Nat → Int32)))
def F_Mil_shifted_c59 (R : Int32) (x3 : Int32) (t0_0 : Int32) (t0_1 : Int32) (t1_0 : (Nat → Int32)) (t2_0 : Int32) (t2_1 : Int32) (t3_0 : (Nat → Int32)) (t4_0 : Int32) (t4_1 : Int32) (t5_0 : (Nat → Int32)) (p40 : (Int32 × Int32 × (Nat → Int32))) (y29 : Int32) (y30 : Int32) (f31 : (Nat → Int32)) (lx52 : Int32) (p84 : (Int32 × Int32 × Int32 × (Nat → Int32))) : Int32 × Int32 × Int32 × (Nat → Int32) × Int32 × Int32 × (Nat → Int32) := if (p84.1 : Int32) = (0 : Int32) then (((1 : Int32), (p84.2.1 : Int32), (p84.2.2.1 : Int32), (p84.2.2.2 : (Nat → Int32)), t2_0, t2_1, t3_0)) else (if t4_1 = (0 : Int32) then (((1 : Int32), (p84.2.1 : Int32), (p84.2.2.1 : Int32), (p84.2.2.2 : (Nat → Int32)), t2_0, t2_1, t3_0)) else (F_Mil_shifted_c79 R x3 t0_0 t0_1 t1_0 t2_0 t2_1 t3_0 t4_0 t4_1 t5_0 p40 y29 y30 f31 lx52 p84 (p84.2.1 : Int32) (p84.2.2.1 : Int32) (p84.2.2.2 : (Nat → Int32)) ((F_Big_setLong (220 : Int32) (-1 : Int64) t2_0 t2_1 t3_0) : (Int32 × Int32 × (Nat → Int32)))))
def F_Mil_shifted_J53 (R : Int32) (x3 : Int32) (t0_0 : Int32) (t0_1 : Int32) (t1_0 : (Nat → Int32)) (t2_0 : Int32) (t2_1 : Int32) (t3_0 : (Nat → Int32)) (t4_0 : Int32) (t4_1 : Int32) (t5_0 : (Nat → Int32)) (p40 : (Int32 × Int32 × (Nat → Int32))) (y29 : Int32) (y30 : Int32) (f31 : (Nat → Int32)) (lx52 : Int32) : Int32 × Int32 × Int32 × (Nat → Int32) × Int32 × Int32 × (Nat → Int32) := F_Mil_shifted_c59 R x3 t0_0 t0_1 t1_0 t2_0 t2_1 t3_0 t4_0 t4_1 t5_0 p40 y29 y30 f31 lx52 ((F_Big_shiftRight (220 : Int32) lx52 y29 y30 f31) : (Int32 × Int32 × Int32 × (Nat → Int32)))
def F_Mil_shifted_c33 (R : Int32) (x3 : Int32) (t0_0 : Int32) (t0_1 : Int32) (t1_0 : (Nat → Int32)) (t2_0 : Int32) (t2_1 : Int32) (t3_0 : (Nat → Int32)) (t4_0 : Int32) (t4_1 : Int32) (t5_0 : (Nat → Int32)) (p40 : (Int32 × Int32 × (Nat → Int32))) (p171 : (Int32 × Int32 × (Nat → Int32))) : Int32 × Int32 × Int32 × (Nat → Int32) × Int32 × Int32 × (Nat → Int32) := ((1 : Int32), (p171.1 : Int32), (p171.2.1 : Int32), (p171.2.2 : (Nat → Int32)), t2_0, t2_1, t3_0)
def F_Mil_shifted_c33_7 (R : Int32) (x3 : Int32) (t0_0 : Int32) (t0_1 : Int32) (t1_0 : (Nat → Int32)) (t2_0 : Int32) (t2_1 : Int32) (t3_0 : (Nat → Int32)) (t4_0 : Int32) (t4_1 : Int32) (t5_0 : (Nat → Int32)) (p40 : (Int32 × Int32 × (Nat → Int32))) (p198 : (Int32 × Int32 × (Nat → Int32))) : Int32 × Int32 × Int32 × (Nat → Int32) × Int32 × Int32 × (Nat → Int32) := ((1 : Int32), (p198.1 : Int32), (p198.2.1 : Int32), (p198.2.2 : (Nat → Int32)), t2_0, t2_1, t3_0)
def F_Mil_shifted_c5 (R : Int32) (x3 : Int32) (t0_0 : Int32) (t0_1 : Int32) (t1_0 : (Nat → Int32)) (t2_0 : Int32) (t2_1 : Int32) (t3_0 : (Nat → Int32)) (t4_0 : Int32) (t4_1 : Int32) (t5_0 : (Nat → Int32)) (p40 : (Int32 × Int32 × (Nat → Int32))) : Int32 × Int32 × Int32 × (Nat → Int32) × Int32 × Int32 × (Nat → Int32) := if x3 < (0 : Int32) then (if (-2048 : Int32) ≤ x3 then (F_Mil_shifted_J53 R x3 t0_0 t0_1 t1_0 t2_0 t2_1 t3_0 t4_0 t4_1 t5_0 p40 (p40.1 : Int32) (p40.2.1 : Int32) (p40.2.2 : (Nat → Int32)) (-x3 : Int32)) else (F_Mil_shifted_J53 R x3 t0_0 t0_1 t1_0 t2_0 t2_1 t3_0 t4_0 t4_1 t5_0 p40 (p40.1 : Int32) (p40.2.1 : Int32) (p40.2.2 : (Nat → Int32)) 2048)) else (if t4_0 ≤ (0 : Int32) then (F_Mil_shifted_c33 R x3 t0_0 t0_1 t1_0 t2_0 t2_1 t3_0 t4_0 t4_1 t5_0 p40 ((F_Big_shiftLeft (220 : Int32) x3 (p40.1 : Int32) (p40.2.1 : Int32) (p40.2.2 : (Nat → Int32))) : (Int32 × Int32 × (Nat → Int32)))) else (if x3 ≤ (2048 : Int32) then (F_Mil_shifted_c33_7 R x3 t0_0 t0_1 t1_0 t2_0 t2_1 t3_0 t4_0 t4_1 t5_0 p40 ((F_Big_shiftLeft (220 : Int32) x3 (p40.1 : Int32) (p40.2.1 : Int32) (p40.2.2 : (Nat → Int32))) : (Int32 × Int32 × (Nat → Int32)))) else (((0 : Int32), (p40.1 : Int32), (p40.2.1 : Int32), (p40.2.2 : (Nat → Int32)), t2_0, t2_1, t3_0))))
def F_Mil_shifted (R : Int32) (x3 : Int32) (t0_0 : Int32) (t0_1 : Int32) (t1_0 : (Nat → Int32)) (t2_0 : Int32) (t2_1 : Int32) (t3_0 : (Nat → Int32)) (t4_0 : Int32) (t4_1 : Int32) (t5_0 : (Nat → Int32)) : Int32 × Int32 × Int32 × (Nat → Int32) × Int32 × Int32 × (Nat → Int32) := F_Mil_shifted_c5 R x3 t0_0 t0_1 t1_0 t2_0 t2_1 t3_0 t4_0 t4_1 t5_0 ((F_Big_copy (220 : Int32) R t0_0 t0_1 t1_0 t4_0 t4_1 t5_0) : (Int32 × Int32 × (Nat → Int32)))
set_option maxRecDepth 100000 in
set_option maxHeartbeats 4000000 in
theorem X_Mil_shifted (l : Launch) (D : va_G) (g : Nat → ClassId) (q : Nat → Nat) (ws : va_W) (k2 : Nat) (R : Int32) (hB2 : q_isBig (nsh g q) g q k2 R) (zk2 : (10 ≤ k2 ∧ k2 ≤ 32) ∨ 66 ≤ k2) (x3 : Int32) (ne_k2_10 : k2 ≠ 10) (ne_k2_11 : k2 ≠ 11) (ne_k2_9 : k2 ≠ 9) (ne_k2_24 : k2 ≠ 24) (ne_k2_25 : k2 ≠ 25) (ne_k2_23 : k2 ≠ 23) (hI : q_I (nsh g q) q ws) (t0_0 : Int32) (t0_1 : Int32) (hT0 : ws[10]? = (some (q 10, .inr (2, [.ref (q 11), .int t0_0, .int t0_1])) : Option (Nat × va_E))) (t1_0 : (Nat → Int32)) (hT1 : ws[11]? = (some (q 11, .inl (g 0, (220 : Int32).toNatClampNeg, .inl t1_0)) : Option (Nat × va_E))) (t2_0 : Int32) (t2_1 : Int32) (hT2 : ws[24]? = (some (q 24, .inr (2, [.ref (q 25), .int t2_0, .int t2_1])) : Option (Nat × va_E))) (t3_0 : (Nat → Int32)) (hT3 : ws[25]? = (some (q 25, .inl (g 0, (220 : Int32).toNatClampNeg, .inl t3_0)) : Option (Nat × va_E))) (t4_0 : Int32) (t4_1 : Int32) (hT4 : ws[k2]? = (some (q k2, .inr (2, [.ref (q (k2 + 1)), .int t4_0, .int t4_1])) : Option (Nat × va_E))) (t5_0 : (Nat → Int32)) (hT5 : ws[k2 + 1]? = (some (q (k2 + 1), .inl (g 0, R.toNatClampNeg, .inl t5_0)) : Option (Nat × va_E))) : q_mI l y_Mil_shifted prog_8_method_10_code 4 (.boolean) 4 0 0 D g [.ref (q 9), .ref (q k2), .int x3] ws (fun r u => q_I (nsh g q) q u ∧ q_un ws u [10, 11, 24, 25] ∧ ∃ (u0_0 : Int32) (u0_1 : Int32) (u1_0 : (Nat → Int32)) (u2_0 : Int32) (u2_1 : Int32) (u3_0 : (Nat → Int32)), u[10]? = (some (q 10, .inr (2, [.ref (q 11), .int u0_0, .int u0_1])) : Option (Nat × va_E)) ∧ u[11]? = (some (q 11, .inl (g 0, (220 : Int32).toNatClampNeg, .inl u1_0)) : Option (Nat × va_E)) ∧ u[24]? = (some (q 24, .inr (2, [.ref (q 25), .int u2_0, .int u2_1])) : Option (Nat × va_E)) ∧ u[25]? = (some (q 25, .inl (g 0, (220 : Int32).toNatClampNeg, .inl u3_0)) : Option (Nat × va_E)) ∧ (0 ≤ r.toInt) ∧ (r.toInt ≤ 1) ∧ (0 ≤ u0_0.toInt) ∧ (u0_0.toInt ≤ 220) ∧ (0 ≤ u0_1.toInt) ∧ (0 ≤ u2_0.toInt) ∧ (u2_0.toInt ≤ 220) ∧ (0 ≤ u2_1.toInt) ∧ (u2_1.toInt ≤ 1) ∧ (u0_0.toInt ≤ t4_0.toInt + 219) ∧ (u0_1.toInt ≤ t4_1.toInt) ∧ (u2_0.toInt ≤ t2_0.toInt + 3) ∧ (r, u0_0, u0_1, u1_0, u2_0, u2_1, u3_0) = (F_Mil_shifted R x3 t0_0 t0_1 t1_0 t2_0 t2_1 t3_0 t4_0 t4_1 t5_0)) := by
  intro sz
  refine q_into (by decide) (Nat.le_of_ble_eq_true rfl) ?_
  intro p e s m below meth c ls hsz C0 V hl
  have hx := C0.1
  have hb := C0.2.1
  have hfk20 : q_F (0 ≤ R.toInt ∧ R.toInt ≤ 220) := hB2.2.2
  obtain ⟨yy0_0, yy0_1, hh0, btt0_0, btt0_1⟩ := q_bigO hI (n_b10 g q)
  obtain ⟨rfl, rfl⟩ : t0_0 = yy0_0 ∧ t0_1 = yy0_1 := by have z := Option.some.inj (hT0.symm.trans hh0); simpa using z
  replace btt0_0 : q_F (0 ≤ t0_0.toInt ∧ t0_0.toInt ≤ 220) := btt0_0
  replace btt0_1 : q_F (0 ≤ t0_1.toInt ∧ t0_1.toInt ≤ 1) := btt0_1
  obtain ⟨yy2_0, yy2_1, hh2, btt2_0, btt2_1⟩ := q_bigO hI (n_b24 g q)
  obtain ⟨rfl, rfl⟩ : t2_0 = yy2_0 ∧ t2_1 = yy2_1 := by have z := Option.some.inj (hT2.symm.trans hh2); simpa using z
  replace btt2_0 : q_F (0 ≤ t2_0.toInt ∧ t2_0.toInt ≤ 220) := btt2_0
  replace btt2_1 : q_F (0 ≤ t2_1.toInt ∧ t2_1.toInt ≤ 1) := btt2_1
  obtain ⟨yy4_0, yy4_1, hh4, btt4_0, btt4_1⟩ := q_bigO hI hB2
  obtain ⟨rfl, rfl⟩ : t4_0 = yy4_0 ∧ t4_1 = yy4_1 := by have z := Option.some.inj (hT4.symm.trans hh4); simpa using z
  replace btt4_0 : q_F (0 ≤ t4_0.toInt ∧ t4_0.toInt ≤ R.toInt) := btt4_0
  replace btt4_1 : q_F (0 ≤ t4_1.toInt ∧ t4_1.toInt ≤ 1) := btt4_1
  have hF : q_un ws ws [10, 11, 24, 25] := q_u0
  have hl : lv_has ls 4 [(0, .ref (q 9)), (1, .ref (q k2)), (2, .int x3)] := hl
  refine lv_aload_n hx hb d_8_10_0 rfl (lv_at hl 0 rfl) ?_
  have hO25 := n_o9 hI
  refine q_get (ci := 4) (j := 0) (v := .ref (q 10)) C0 V i_Mil rfl rfl hO25 (by decide) w_108 rfl d_8_10_1 ?_
  refine lv_aload_n hx hb d_8_10_4 rfl (lv_at hl 1 rfl) ?_
  refine q_gov V (q_runV (As := [.ref (q k2)]) (rest := []) (d := 2) (mc := 0) (ms := 0) (ci := 2) C0 V rfl LV_Mil_51 (X_Big_copy l D g q ws 10 220 (n_b10 g q) (by decide) k2 R hB2 zk2  (by have z := ne_k2_10; omega) hI t0_0 t0_1 hT0 t1_0 hT1 t4_0 t4_1 hT4 t5_0 hT5  _) rfl rfl hT0 rfl hl.1 rfl (Nat.le_of_ble_eq_true rfl) ⟨by decide, by decide⟩ ⟨Nat.le_of_ble_eq_true rfl, Nat.le_of_ble_eq_true rfl⟩ d_8_10_5) (fun u26 H locs hp27 V => ?_)
  obtain ⟨hI, hu39, y29, y30, f31, hO28, hA32, b33, b34, b35, b36, b37, hE38⟩ := hp27
  replace hO28 : u26[10]? = (some (q 10, .inr (2, [.ref (q 11), .int y29, .int y30])) : Option (Nat × va_E)) := hO28
  replace hA32 : u26[11]? = (some (q 11, .inl (g 0, (220 : Int32).toNatClampNeg, .inl f31)) : Option (Nat × va_E)) := hA32
  obtain ⟨p40, e41⟩ : ∃ z, z = (F_Big_copy (220 : Int32) R t0_0 t0_1 t1_0 t4_0 t4_1 t5_0) := ⟨_, rfl⟩
  have e42 : y29 = p40.1 := congrArg (fun z => z.1) (hE38.trans e41.symm)
  have e43 : y30 = p40.2.1 := congrArg (fun z => z.2.1) (hE38.trans e41.symm)
  have e44 : f31 = p40.2.2 := congrArg (fun z => z.2.2) (hE38.trans e41.symm)
  replace b33 : q_F (0 ≤ y29.toInt) := b33
  replace b34 : q_F (y29.toInt ≤ t4_0.toInt) := b34
  replace b35 : q_F (y29.toInt ≤ 220) := b35
  replace b36 : q_F (t4_1.toInt ≤ y30.toInt) := b36
  replace b37 : q_F (y30.toInt ≤ t4_1.toInt) := b37
  replace hT2 := (hu39 _ (by decide)).trans hT2
  replace hT3 := (hu39 _ (by decide)).trans hT3
  replace hT4 := (hu39 _ (by have z0 := zk2; simp only [List.mem_cons, List.not_mem_nil, or_false, not_or]; omega)).trans hT4
  replace hT5 := (hu39 _ (by have z0 := zk2; simp only [List.mem_cons, List.not_mem_nil, or_false, not_or]; omega)).trans hT5
  replace hO25 := (hu39 _ (by decide)).trans hO25
  replace hF := q_uc hF hu39 (by simp)
  have hR45 := (show F_Mil_shifted_c5 R x3 t0_0 t0_1 t1_0 t2_0 t2_1 t3_0 t4_0 t4_1 t5_0 p40 = (F_Mil_shifted R x3 t0_0 t0_1 t1_0 t2_0 t2_1 t3_0 t4_0 t4_1 t5_0) from (by rw [e41, F_Mil_shifted.eq_1]))
  refine lv_iload_n hx hb d_8_10_8 rfl (lv_at hl 2 rfl) ?_
  refine lv_if_lt (tgt := 38) hx hb d_8_10_9 (by decide) (fun c50 => ?_) (fun c50 => ?_)
  ·
    have b51 : q_F (x3.toInt < 0) := (q_ltI c50)
    refine lv_iload_n hx hb d_8_10_38 rfl (lv_at hl 2 rfl) ?_
    refine lv_sipush (v := (-2048)) hx hb d_8_10_39 (by decide) ?_
    refine q_join (X := Int32) (fun z H locs ls _ => q_F (1 ≤ z.toInt) ∧ q_F (z.toInt ≤ 2048) ∧ q_Wd D g (va_A ws sz) s u26 H locs ∧ lv_has ls 4 [(0, .ref (q 9)), (1, .ref (q k2))] ∧ F_Mil_shifted_J53 R x3 t0_0 t0_1 t1_0 t2_0 t2_1 t3_0 t4_0 t4_1 t5_0 p40 y29 y30 f31 z = (F_Mil_shifted R x3 t0_0 t0_1 t1_0 t2_0 t2_1 t3_0 t4_0 t4_1 t5_0)) (fun z => [.int z]) 53 0 0 ?_ ?_
    ·
      rintro lx52 H locs ls _ ⟨i60, i61, V, hl, hR62⟩
      replace i60 : q_F (1 ≤ lx52.toInt) := i60
      replace i61 : q_F (lx52.toInt ≤ 2048) := i61
      replace hl : lv_has ls 4 [(0, .ref (q 9)), (1, .ref (q k2))] := hl
      refine lv_istore_n (lv' := [(3, .int lx52), (0, .ref (q 9)), (1, .ref (q k2))]) hx hb d_8_10_53 rfl hl (by decide) rfl (fun ls hl => ?_)
      refine lv_aload_n hx hb d_8_10_54 rfl (lv_at hl 1 rfl) ?_
      refine q_get (ci := 4) (j := 0) (v := .ref (q 10)) C0 V i_Mil rfl rfl hO25 (by decide) w_108 rfl d_8_10_55 ?_
      refine lv_iload_n hx hb d_8_10_58 rfl (lv_at hl 0 rfl) ?_
      refine q_goi V (q_runV (As := [.int lx52]) (rest := []) (d := 3) (mc := 0) (ms := 0) (ci := 2) C0 V rfl LV_Mil_116 (X_Big_shiftRight l D g q u26 10 220 (n_b10 g q) (by decide) lx52 hI y29 y30 hO28 f31 hA32  _) rfl rfl hO28 rfl hl.1 rfl (Nat.le_of_ble_eq_true rfl) ⟨by decide, by decide⟩ ⟨Nat.le_of_ble_eq_true rfl, Nat.le_of_ble_eq_true rfl⟩ d_8_10_59) (fun a69 u67 H locs hp68 V => ?_)
      obtain ⟨hI, hu83, y71, y72, f73, hO70, hA74, b75, b76, b77, b78, b79, b80, b81, hE82⟩ := hp68
      replace hO70 : u67[10]? = (some (q 10, .inr (2, [.ref (q 11), .int y71, .int y72])) : Option (Nat × va_E)) := hO70
      replace hA74 : u67[11]? = (some (q 11, .inl (g 0, (220 : Int32).toNatClampNeg, .inl f73)) : Option (Nat × va_E)) := hA74
      obtain ⟨p84, e85⟩ : ∃ z, z = (F_Big_shiftRight (220 : Int32) lx52 y29 y30 f31) := ⟨_, rfl⟩
      have e86 : a69 = p84.1 := congrArg (fun z => z.1) (hE82.trans e85.symm)
      have e87 : y71 = p84.2.1 := congrArg (fun z => z.2.1) (hE82.trans e85.symm)
      have e88 : y72 = p84.2.2.1 := congrArg (fun z => z.2.2.1) (hE82.trans e85.symm)
      have e89 : f73 = p84.2.2.2 := congrArg (fun z => z.2.2.2) (hE82.trans e85.symm)
      replace b75 : q_F (0 ≤ a69.toInt) := b75
      replace b76 : q_F (a69.toInt ≤ 1) := b76
      replace b77 : q_F (0 ≤ y71.toInt) := b77
      replace b78 : q_F (0 ≤ y72.toInt) := b78
      replace b79 : q_F (a69.toInt ≤ y29.toInt) := b79
      replace b80 : q_F (y71.toInt ≤ y29.toInt) := b80
      replace b81 : q_F (y72.toInt ≤ y30.toInt) := b81
      replace hT2 := (hu83 _ (by decide)).trans hT2
      replace hT3 := (hu83 _ (by decide)).trans hT3
      replace hT4 := (hu83 _ (by have z0 := zk2; simp only [List.mem_cons, List.not_mem_nil, or_false, not_or]; omega)).trans hT4
      replace hT5 := (hu83 _ (by have z0 := zk2; simp only [List.mem_cons, List.not_mem_nil, or_false, not_or]; omega)).trans hT5
      replace hO25 := (hu83 _ (by decide)).trans hO25
      replace hF := q_uc hF hu83 (by simp)
      have hR90 := (show F_Mil_shifted_c59 R x3 t0_0 t0_1 t1_0 t2_0 t2_1 t3_0 t4_0 t4_1 t5_0 p40 y29 y30 f31 lx52 p84 = (F_Mil_shifted R x3 t0_0 t0_1 t1_0 t2_0 t2_1 t3_0 t4_0 t4_1 t5_0) from Eq.trans (by rw [e85, F_Mil_shifted_J53.eq_1]) hR62)
      refine lv_if_eq (tgt := 94) hx hb d_8_10_62 (by decide) (fun c95 => ?_) (fun c95 => ?_)
      ·
        have b96 : q_F (a69.toInt = 0) := (q_eqI c95)
        refine lv_iconst (v := 1) hx hb d_8_10_94 (by decide) ?_
        exact q_retz C0 V (by decide) (⟨hI, hF, y71, y72, f73, t2_0, t2_1, t3_0, hO70, hA74, hT2, hT3, (show 0 ≤ (1 : Int32).toInt from (by have z11 : (1 : Int32).toInt = 1 := rfl; omega)), (show (1 : Int32).toInt ≤ 1 from (by have z11 : (1 : Int32).toInt = 1 := rfl; omega)), (show 0 ≤ y71.toInt from (by have z11 : (1 : Int32).toInt = 1 := rfl; have t1 : 0 ≤ y71.toInt := b77; omega)), (show y71.toInt ≤ 220 from (by have z11 : (1 : Int32).toInt = 1 := rfl; have t1 : y29.toInt ≤ 220 := b35; have t2 : y71.toInt ≤ y29.toInt := b80; omega)), (show 0 ≤ y72.toInt from (by have z11 : (1 : Int32).toInt = 1 := rfl; have t1 : 0 ≤ y72.toInt := b78; omega)), (show 0 ≤ t2_0.toInt from (by have z11 : (1 : Int32).toInt = 1 := rfl; have t1 : 0 ≤ t2_0.toInt ∧ t2_0.toInt ≤ 220 := btt2_0; omega)), (show t2_0.toInt ≤ 220 from (by have z11 : (1 : Int32).toInt = 1 := rfl; have t1 : 0 ≤ t2_0.toInt ∧ t2_0.toInt ≤ 220 := btt2_0; omega)), (show 0 ≤ t2_1.toInt from (by have z11 : (1 : Int32).toInt = 1 := rfl; have t1 : 0 ≤ t2_1.toInt ∧ t2_1.toInt ≤ 1 := btt2_1; omega)), (show t2_1.toInt ≤ 1 from (by have z11 : (1 : Int32).toInt = 1 := rfl; have t1 : 0 ≤ t2_1.toInt ∧ t2_1.toInt ≤ 1 := btt2_1; omega)), (show y71.toInt ≤ t4_0.toInt + 219 from (by have z11 : (1 : Int32).toInt = 1 := rfl; have t1 : y29.toInt ≤ t4_0.toInt := b34; have t2 : y71.toInt ≤ y29.toInt := b80; omega)), (show y72.toInt ≤ t4_1.toInt from (by have z11 : (1 : Int32).toInt = 1 := rfl; have t1 : y30.toInt ≤ t4_1.toInt := b37; have t2 : y72.toInt ≤ y30.toInt := b81; omega)), (show t2_0.toInt ≤ t2_0.toInt + 3 from (by have z11 : (1 : Int32).toInt = 1 := rfl; omega)), (show ((1 : Int32), y71, y72, f73, t2_0, t2_1, t3_0) = (F_Mil_shifted R x3 t0_0 t0_1 t1_0 t2_0 t2_1 t3_0 t4_0 t4_1 t5_0) from Eq.trans (by have c95x := c95; rw [e86] at c95x; rw [e89, e88, e87, F_Mil_shifted_c59.eq_1, if_pos c95x]) hR90)⟩) d_8_10_95
      ·
        have b97 : q_F (a69.toInt ≠ 0) := (q_neI c95)
        refine lv_aload_n hx hb d_8_10_65 rfl (lv_at hl 2 rfl) ?_
        refine q_get (ci := 2) (j := 2) (v := .int t4_1) C0 V i_Big rfl rfl hT4 (by decide) w_96 rfl d_8_10_66 ?_
        refine lv_if_eq (tgt := 94) hx hb d_8_10_69 (by decide) (fun c98 => ?_) (fun c98 => ?_)
        ·
          have b99 : q_F (t4_1.toInt = 0) := (q_eqI c98)
          refine lv_iconst (v := 1) hx hb d_8_10_94 (by decide) ?_
          exact q_retz C0 V (by decide) (⟨hI, hF, y71, y72, f73, t2_0, t2_1, t3_0, hO70, hA74, hT2, hT3, (show 0 ≤ (1 : Int32).toInt from (by have z11 : (1 : Int32).toInt = 1 := rfl; omega)), (show (1 : Int32).toInt ≤ 1 from (by have z11 : (1 : Int32).toInt = 1 := rfl; omega)), (show 0 ≤ y71.toInt from (by have z11 : (1 : Int32).toInt = 1 := rfl; have t1 : 0 ≤ y71.toInt := b77; omega)), (show y71.toInt ≤ 220 from (by have z11 : (1 : Int32).toInt = 1 := rfl; have t1 : y29.toInt ≤ 220 := b35; have t2 : y71.toInt ≤ y29.toInt := b80; omega)), (show 0 ≤ y72.toInt from (by have z11 : (1 : Int32).toInt = 1 := rfl; have t1 : 0 ≤ y72.toInt := b78; omega)), (show 0 ≤ t2_0.toInt from (by have z11 : (1 : Int32).toInt = 1 := rfl; have t1 : 0 ≤ t2_0.toInt ∧ t2_0.toInt ≤ 220 := btt2_0; omega)), (show t2_0.toInt ≤ 220 from (by have z11 : (1 : Int32).toInt = 1 := rfl; have t1 : 0 ≤ t2_0.toInt ∧ t2_0.toInt ≤ 220 := btt2_0; omega)), (show 0 ≤ t2_1.toInt from (by have z11 : (1 : Int32).toInt = 1 := rfl; have t1 : 0 ≤ t2_1.toInt ∧ t2_1.toInt ≤ 1 := btt2_1; omega)), (show t2_1.toInt ≤ 1 from (by have z11 : (1 : Int32).toInt = 1 := rfl; have t1 : 0 ≤ t2_1.toInt ∧ t2_1.toInt ≤ 1 := btt2_1; omega)), (show y71.toInt ≤ t4_0.toInt + 219 from (by have z11 : (1 : Int32).toInt = 1 := rfl; have t1 : y29.toInt ≤ t4_0.toInt := b34; have t2 : y71.toInt ≤ y29.toInt := b80; omega)), (show y72.toInt ≤ t4_1.toInt from (by have z11 : (1 : Int32).toInt = 1 := rfl; have t1 : y30.toInt ≤ t4_1.toInt := b37; have t2 : y72.toInt ≤ y30.toInt := b81; omega)), (show t2_0.toInt ≤ t2_0.toInt + 3 from (by have z11 : (1 : Int32).toInt = 1 := rfl; omega)), (show ((1 : Int32), y71, y72, f73, t2_0, t2_1, t3_0) = (F_Mil_shifted R x3 t0_0 t0_1 t1_0 t2_0 t2_1 t3_0 t4_0 t4_1 t5_0) from Eq.trans (by have c95x := c95; rw [e86] at c95x; rw [e89, e88, e87, F_Mil_shifted_c59.eq_1, if_neg c95x, if_pos c98]) hR90)⟩) d_8_10_95
        ·
          have b100 : q_F (t4_1.toInt ≠ 0) := (q_neI c98)
          refine lv_aload_n hx hb d_8_10_72 rfl (lv_at hl 1 rfl) ?_
          refine q_get (ci := 4) (j := 7) (v := .ref (q 24)) C0 V i_Mil rfl rfl hO25 (by decide) w_128 rfl d_8_10_73 ?_
          refine q_ldc2 C0 rfl w_1346 d_8_10_76 ?_
          refine q_gov V (q_runV (As := [.long (-1)]) (rest := []) (d := 2) (mc := 0) (ms := 0) (ci := 2) C0 V rfl LV_Mil_77 (X_Big_setLong l D g q u67 24 220 (n_b24 g q) (by decide) (-1) hI t2_0 t2_1 hT2 t3_0 hT3  _) rfl rfl hT2 rfl hl.1 rfl (Nat.le_of_ble_eq_true rfl) ⟨by decide, by decide⟩ ⟨Nat.le_of_ble_eq_true rfl, Nat.le_of_ble_eq_true rfl⟩ d_8_10_79) (fun u101 H locs hp102 V => ?_)
          obtain ⟨hI, hu114, y104, y105, f106, hO103, hA107, b108, b109, b110, b111, b112, hE113⟩ := hp102
          replace hO103 : u101[24]? = (some (q 24, .inr (2, [.ref (q 25), .int y104, .int y105])) : Option (Nat × va_E)) := hO103
          replace hA107 : u101[25]? = (some (q 25, .inl (g 0, (220 : Int32).toNatClampNeg, .inl f106)) : Option (Nat × va_E)) := hA107
          obtain ⟨p115, e116⟩ : ∃ z, z = (F_Big_setLong (220 : Int32) (-1 : Int64) t2_0 t2_1 t3_0) := ⟨_, rfl⟩
          have e117 : y104 = p115.1 := congrArg (fun z => z.1) (hE113.trans e116.symm)
          have e118 : y105 = p115.2.1 := congrArg (fun z => z.2.1) (hE113.trans e116.symm)
          have e119 : f106 = p115.2.2 := congrArg (fun z => z.2.2) (hE113.trans e116.symm)
          replace b108 : q_F (0 ≤ y104.toInt) := b108
          replace b109 : q_F (y104.toInt ≤ 3) := b109
          replace b110 : q_F (0 ≤ y105.toInt) := b110
          replace b111 : q_F (y105.toInt ≤ 1) := b111
          replace b112 : q_F (y104.toInt ≤ 220) := b112
          replace hO70 := (hu114 _ (by decide)).trans hO70
          replace hA74 := (hu114 _ (by decide)).trans hA74
          replace hT4 := (hu114 _ (by have z0 := zk2; simp only [List.mem_cons, List.not_mem_nil, or_false, not_or]; omega)).trans hT4
          replace hT5 := (hu114 _ (by have z0 := zk2; simp only [List.mem_cons, List.not_mem_nil, or_false, not_or]; omega)).trans hT5
          replace hO25 := (hu114 _ (by decide)).trans hO25
          replace hF := q_uc hF hu114 (by simp)
          have hR120 := (show F_Mil_shifted_c79 R x3 t0_0 t0_1 t1_0 t2_0 t2_1 t3_0 t4_0 t4_1 t5_0 p40 y29 y30 f31 lx52 p84 y71 y72 f73 p115 = (F_Mil_shifted R x3 t0_0 t0_1 t1_0 t2_0 t2_1 t3_0 t4_0 t4_1 t5_0) from Eq.trans (by have c95x := c95; rw [e86] at c95x; rw [e116, e89, e88, e87, F_Mil_shifted_c59.eq_1, if_neg c95x, if_neg c98]) hR90)
          refine lv_aload_n hx hb d_8_10_82 rfl (lv_at hl 1 rfl) ?_
          refine q_get (ci := 4) (j := 0) (v := .ref (q 10)) C0 V i_Mil rfl rfl hO25 (by decide) w_108 rfl d_8_10_83 ?_
          refine lv_aload_n hx hb d_8_10_86 rfl (lv_at hl 1 rfl) ?_
          refine q_get (ci := 4) (j := 7) (v := .ref (q 24)) C0 V i_Mil rfl rfl hO25 (by decide) w_128 rfl d_8_10_87 ?_
          refine lv_iconst (v := 0) hx hb d_8_10_90 (by decide) ?_
          refine q_gov V (q_runV (As := [.ref (q 24), .int 0]) (rest := []) (d := 3) (mc := 0) (ms := 0) (ci := 2) C0 V rfl LV_Mil_55 (X_Big_addSigned l D g q u101 10 220 (n_b10 g q) (by decide) 24 220 (n_b24 g q) (by decide) 0 (by decide) hI y71 y72 hO70 f73 hA74 y104 y105 hO103 f106 hA107 ⟨(by have y0 : (220 : Int32).toInt = 220 := rfl; have y1 : (220 : Int32).toInt = 220 := rfl; have y2 : (0 : Int32).toInt = 0 := rfl; omega), (by have y0 : (220 : Int32).toInt = 220 := rfl; have y1 : (220 : Int32).toInt = 220 := rfl; have y2 : (0 : Int32).toInt = 0 := rfl; omega)⟩ _) rfl rfl hO70 rfl hl.1 rfl (Nat.le_of_ble_eq_true rfl) ⟨by decide, by decide⟩ ⟨Nat.le_of_ble_eq_true rfl, Nat.le_of_ble_eq_true rfl⟩ d_8_10_91) (fun u125 H locs hp126 V => ?_)
          obtain ⟨hI, hu137, y128, y129, f130, hO127, hA131, b132, b133, b134, b135, hE136⟩ := hp126
          replace hO127 : u125[10]? = (some (q 10, .inr (2, [.ref (q 11), .int y128, .int y129])) : Option (Nat × va_E)) := hO127
          replace hA131 : u125[11]? = (some (q 11, .inl (g 0, (220 : Int32).toNatClampNeg, .inl f130)) : Option (Nat × va_E)) := hA131
          obtain ⟨p138, e139⟩ : ∃ z, z = (F_Big_addSigned (220 : Int32) (220 : Int32) (0 : Int32) y71 y72 f73 y104 y105 f106) := ⟨_, rfl⟩
          have e140 : y128 = p138.1 := congrArg (fun z => z.1) (hE136.trans e139.symm)
          have e141 : y129 = p138.2.1 := congrArg (fun z => z.2.1) (hE136.trans e139.symm)
          have e142 : f130 = p138.2.2 := congrArg (fun z => z.2.2) (hE136.trans e139.symm)
          replace b132 : q_F (0 ≤ y128.toInt) := b132
          replace b133 : q_F (0 ≤ y129.toInt) := b133
          replace b134 : q_F (y129.toInt ≤ 1) := b134
          replace b135 : q_F (y128.toInt ≤ 220) := b135
          replace hO103 := (hu137 _ (by decide)).trans hO103
          replace hA107 := (hu137 _ (by decide)).trans hA107
          replace hT4 := (hu137 _ (by have z0 := zk2; simp only [List.mem_cons, List.not_mem_nil, or_false, not_or]; omega)).trans hT4
          replace hT5 := (hu137 _ (by have z0 := zk2; simp only [List.mem_cons, List.not_mem_nil, or_false, not_or]; omega)).trans hT5
          replace hO25 := (hu137 _ (by decide)).trans hO25
          replace hF := q_uc hF hu137 (by simp)
          have hR143 := (show F_Mil_shifted_c91 R x3 t0_0 t0_1 t1_0 t2_0 t2_1 t3_0 t4_0 t4_1 t5_0 p40 y29 y30 f31 lx52 p84 y71 y72 f73 p115 y104 y105 f106 p138 = (F_Mil_shifted R x3 t0_0 t0_1 t1_0 t2_0 t2_1 t3_0 t4_0 t4_1 t5_0) from Eq.trans (by rw [e139, e119, e118, e117, F_Mil_shifted_c79.eq_1]) hR120)
          refine lv_iconst (v := 1) hx hb d_8_10_94 (by decide) ?_
          exact q_retz C0 V (by decide) (⟨hI, hF, y128, y129, f130, y104, y105, f106, hO127, hA131, hO103, hA107, (show 0 ≤ (1 : Int32).toInt from (by have z11 : (1 : Int32).toInt = 1 := rfl; omega)), (show (1 : Int32).toInt ≤ 1 from (by have z11 : (1 : Int32).toInt = 1 := rfl; omega)), (show 0 ≤ y128.toInt from (by have z11 : (1 : Int32).toInt = 1 := rfl; have t1 : 0 ≤ y128.toInt := b132; omega)), (show y128.toInt ≤ 220 from (by have z11 : (1 : Int32).toInt = 1 := rfl; have t1 : y128.toInt ≤ 220 := b135; omega)), (show 0 ≤ y129.toInt from (by have z11 : (1 : Int32).toInt = 1 := rfl; have t1 : 0 ≤ y129.toInt := b133; omega)), (show 0 ≤ y104.toInt from (by have z11 : (1 : Int32).toInt = 1 := rfl; have t1 : 0 ≤ y104.toInt := b108; omega)), (show y104.toInt ≤ 220 from (by have z11 : (1 : Int32).toInt = 1 := rfl; have t1 : y104.toInt ≤ 3 := b109; omega)), (show 0 ≤ y105.toInt from (by have z11 : (1 : Int32).toInt = 1 := rfl; have t1 : 0 ≤ y105.toInt := b110; omega)), (show y105.toInt ≤ 1 from (by have z11 : (1 : Int32).toInt = 1 := rfl; have t1 : y105.toInt ≤ 1 := b111; omega)), (show y128.toInt ≤ t4_0.toInt + 219 from (by have z11 : (1 : Int32).toInt = 1 := rfl; have t1 : y29.toInt ≤ t4_0.toInt := b34; have t2 : 0 ≤ a69.toInt := b75; have t3 : a69.toInt ≤ y29.toInt := b79; have t4 : a69.toInt ≠ 0 := b97; have t5 : y128.toInt ≤ 220 := b135; omega)), (show y129.toInt ≤ t4_1.toInt from (by have z11 : (1 : Int32).toInt = 1 := rfl; have t1 : 0 ≤ t4_1.toInt ∧ t4_1.toInt ≤ 1 := btt4_1; have t2 : t4_1.toInt ≠ 0 := b100; have t3 : y129.toInt ≤ 1 := b134; omega)), (show y104.toInt ≤ t2_0.toInt + 3 from (by have z11 : (1 : Int32).toInt = 1 := rfl; have t1 : 0 ≤ t2_0.toInt ∧ t2_0.toInt ≤ 220 := btt2_0; have t2 : y104.toInt ≤ 3 := b109; omega)), (show ((1 : Int32), y128, y129, f130, y104, y105, f106) = (F_Mil_shifted R x3 t0_0 t0_1 t1_0 t2_0 t2_1 t3_0 t4_0 t4_1 t5_0) from Eq.trans (by rw [e142, e141, e140, F_Mil_shifted_c91.eq_1]) hR143)⟩) d_8_10_95
    ·
      intro J59
      refine lv_icmp_ge (tgt := 51) hx hb d_8_10_42 (by decide) (fun c148 => ?_) (fun c148 => ?_)
      ·
        have b149 : q_F ((-2048) ≤ x3.toInt) := (q_leI c148)
        refine lv_iload_n hx hb d_8_10_51 rfl (lv_at hl 2 rfl) ?_
        refine lv_ineg hx hb d_8_10_52 ?_
        obtain ⟨a150, e151⟩ := q_nm (-x3 : Int32)
        refine q_ti (v := a150) e151 ?_
        have b152 : q_F (a150.toInt = -x3.toInt) := (by rw [← e151]; show (-x3 : Int32).toInt = -x3.toInt; exact q_negI rfl (by have t1 : (-2048) ≤ x3.toInt := b149; omega))
        exact J59 ((a150 : Int32)) _ _ _ u26 ⟨(show q_F (1 ≤ a150.toInt) from (show 1 ≤ a150.toInt from by have t1 : x3.toInt < 0 := b51; have t2 : a150.toInt = -x3.toInt := b152; omega)), (show q_F (a150.toInt ≤ 2048) from (show a150.toInt ≤ 2048 from by have t1 : (-2048) ≤ x3.toInt := b149; have t2 : a150.toInt = -x3.toInt := b152; omega)), V, q_lw hl (q_lw1 0 rfl (q_lw1 1 rfl q_lw0)), (show F_Mil_shifted_J53 R x3 t0_0 t0_1 t1_0 t2_0 t2_1 t3_0 t4_0 t4_1 t5_0 p40 y29 y30 f31 a150 = (F_Mil_shifted R x3 t0_0 t0_1 t1_0 t2_0 t2_1 t3_0 t4_0 t4_1 t5_0) from Eq.trans (by rw [← e151, e44, e43, e42, F_Mil_shifted_c5.eq_1, if_pos c50, if_pos c148]) hR45)⟩
      ·
        have b153 : q_F (x3.toInt < (-2048)) := (q_nleI c148)
        refine lv_sipush (v := 2048) hx hb d_8_10_45 (by decide) ?_
        refine lv_goto (tgt := 53) hx hb d_8_10_48 (by decide) ?_
        exact J59 ((2048 : Int32)) _ _ _ u26 ⟨(show q_F (1 ≤ 2048) from (show 1 ≤ 2048 from by omega)), (show q_F (2048 ≤ 2048) from (show 2048 ≤ 2048 from by omega)), V, q_lw hl (q_lw1 0 rfl (q_lw1 1 rfl q_lw0)), (show F_Mil_shifted_J53 R x3 t0_0 t0_1 t1_0 t2_0 t2_1 t3_0 t4_0 t4_1 t5_0 p40 y29 y30 f31 2048 = (F_Mil_shifted R x3 t0_0 t0_1 t1_0 t2_0 t2_1 t3_0 t4_0 t4_1 t5_0) from Eq.trans (by rw [e44, e43, e42, F_Mil_shifted_c5.eq_1, if_pos c50, if_neg c148]) hR45)⟩
  ·
    have b154 : q_F (0 ≤ x3.toInt) := (q_nltI c50)
    refine lv_aload_n hx hb d_8_10_12 rfl (lv_at hl 1 rfl) ?_
    refine q_get (ci := 2) (j := 1) (v := .int t4_0) C0 V i_Big rfl rfl hT4 (by decide) w_89 rfl d_8_10_13 ?_
    refine lv_if_le (tgt := 28) hx hb d_8_10_16 (by decide) (fun c155 => ?_) (fun c155 => ?_)
    ·
      have b156 : q_F (t4_0.toInt ≤ 0) := (q_leI c155)
      refine lv_aload_n hx hb d_8_10_28 rfl (lv_at hl 0 rfl) ?_
      refine q_get (ci := 4) (j := 0) (v := .ref (q 10)) C0 V i_Mil rfl rfl hO25 (by decide) w_108 rfl d_8_10_29 ?_
      refine lv_iload_n hx hb d_8_10_32 rfl (lv_at hl 2 rfl) ?_
      refine q_gov V (q_runV (As := [.int x3]) (rest := []) (d := 3) (mc := 0) (ms := 0) (ci := 2) C0 V rfl LV_Mil_96 (X_Big_shiftLeft l D g q u26 10 220 (n_b10 g q) (by decide) x3 hI y29 y30 hO28 f31 hA32  _) rfl rfl hO28 rfl hl.1 rfl (Nat.le_of_ble_eq_true rfl) ⟨by decide, by decide⟩ ⟨Nat.le_of_ble_eq_true rfl, Nat.le_of_ble_eq_true rfl⟩ d_8_10_33) (fun u157 H locs hp158 V => ?_)
      obtain ⟨hI, hu170, y160, y161, f162, hO159, hA163, b164, b165, b166, b167, b168, hE169⟩ := hp158
      replace hO159 : u157[10]? = (some (q 10, .inr (2, [.ref (q 11), .int y160, .int y161])) : Option (Nat × va_E)) := hO159
      replace hA163 : u157[11]? = (some (q 11, .inl (g 0, (220 : Int32).toNatClampNeg, .inl f162)) : Option (Nat × va_E)) := hA163
      obtain ⟨p171, e172⟩ : ∃ z, z = (F_Big_shiftLeft (220 : Int32) x3 y29 y30 f31) := ⟨_, rfl⟩
      have e173 : y160 = p171.1 := congrArg (fun z => z.1) (hE169.trans e172.symm)
      have e174 : y161 = p171.2.1 := congrArg (fun z => z.2.1) (hE169.trans e172.symm)
      have e175 : f162 = p171.2.2 := congrArg (fun z => z.2.2) (hE169.trans e172.symm)
      replace b164 : q_F (0 ≤ y160.toInt) := b164
      replace b165 : q_F (0 ≤ y161.toInt) := b165
      replace b166 : q_F (y160.toInt ≤ y29.toInt + 219) := b166
      replace b167 : q_F (y160.toInt ≤ 220) := b167
      replace b168 : q_F (y161.toInt ≤ y30.toInt) := b168
      replace hT2 := (hu170 _ (by decide)).trans hT2
      replace hT3 := (hu170 _ (by decide)).trans hT3
      replace hT4 := (hu170 _ (by have z0 := zk2; simp only [List.mem_cons, List.not_mem_nil, or_false, not_or]; omega)).trans hT4
      replace hT5 := (hu170 _ (by have z0 := zk2; simp only [List.mem_cons, List.not_mem_nil, or_false, not_or]; omega)).trans hT5
      replace hO25 := (hu170 _ (by decide)).trans hO25
      replace hF := q_uc hF hu170 (by simp)
      have hR176 := (show F_Mil_shifted_c33 R x3 t0_0 t0_1 t1_0 t2_0 t2_1 t3_0 t4_0 t4_1 t5_0 p40 p171 = (F_Mil_shifted R x3 t0_0 t0_1 t1_0 t2_0 t2_1 t3_0 t4_0 t4_1 t5_0) from Eq.trans (by rw [e172, e44, e43, e42, F_Mil_shifted_c5.eq_1, if_neg c50, if_pos c155]) hR45)
      refine lv_iconst (v := 1) hx hb d_8_10_36 (by decide) ?_
      exact q_retz C0 V (by decide) (⟨hI, hF, y160, y161, f162, t2_0, t2_1, t3_0, hO159, hA163, hT2, hT3, (show 0 ≤ (1 : Int32).toInt from (by have z11 : (1 : Int32).toInt = 1 := rfl; omega)), (show (1 : Int32).toInt ≤ 1 from (by have z11 : (1 : Int32).toInt = 1 := rfl; omega)), (show 0 ≤ y160.toInt from (by have z11 : (1 : Int32).toInt = 1 := rfl; have t1 : 0 ≤ y160.toInt := b164; omega)), (show y160.toInt ≤ 220 from (by have z11 : (1 : Int32).toInt = 1 := rfl; have t1 : y160.toInt ≤ 220 := b167; omega)), (show 0 ≤ y161.toInt from (by have z11 : (1 : Int32).toInt = 1 := rfl; have t1 : 0 ≤ y161.toInt := b165; omega)), (show 0 ≤ t2_0.toInt from (by have z11 : (1 : Int32).toInt = 1 := rfl; have t1 : 0 ≤ t2_0.toInt ∧ t2_0.toInt ≤ 220 := btt2_0; omega)), (show t2_0.toInt ≤ 220 from (by have z11 : (1 : Int32).toInt = 1 := rfl; have t1 : 0 ≤ t2_0.toInt ∧ t2_0.toInt ≤ 220 := btt2_0; omega)), (show 0 ≤ t2_1.toInt from (by have z11 : (1 : Int32).toInt = 1 := rfl; have t1 : 0 ≤ t2_1.toInt ∧ t2_1.toInt ≤ 1 := btt2_1; omega)), (show t2_1.toInt ≤ 1 from (by have z11 : (1 : Int32).toInt = 1 := rfl; have t1 : 0 ≤ t2_1.toInt ∧ t2_1.toInt ≤ 1 := btt2_1; omega)), (show y160.toInt ≤ t4_0.toInt + 219 from (by have z11 : (1 : Int32).toInt = 1 := rfl; have t1 : y29.toInt ≤ t4_0.toInt := b34; have t2 : y160.toInt ≤ y29.toInt + 219 := b166; omega)), (show y161.toInt ≤ t4_1.toInt from (by have z11 : (1 : Int32).toInt = 1 := rfl; have t1 : y30.toInt ≤ t4_1.toInt := b37; have t2 : y161.toInt ≤ y30.toInt := b168; omega)), (show t2_0.toInt ≤ t2_0.toInt + 3 from (by have z11 : (1 : Int32).toInt = 1 := rfl; omega)), (show ((1 : Int32), y160, y161, f162, t2_0, t2_1, t3_0) = (F_Mil_shifted R x3 t0_0 t0_1 t1_0 t2_0 t2_1 t3_0 t4_0 t4_1 t5_0) from Eq.trans (by rw [e175, e174, e173, F_Mil_shifted_c33.eq_1]) hR176)⟩) d_8_10_37
    ·
      have b181 : q_F (0 < t4_0.toInt) := (q_nleI c155)
      refine lv_iload_n hx hb d_8_10_19 rfl (lv_at hl 2 rfl) ?_
      refine lv_sipush (v := 2048) hx hb d_8_10_20 (by decide) ?_
      refine lv_icmp_le (tgt := 28) hx hb d_8_10_23 (by decide) (fun c182 => ?_) (fun c182 => ?_)
      ·
        have b183 : q_F (x3.toInt ≤ 2048) := (q_leI c182)
        refine lv_aload_n hx hb d_8_10_28 rfl (lv_at hl 0 rfl) ?_
        refine q_get (ci := 4) (j := 0) (v := .ref (q 10)) C0 V i_Mil rfl rfl hO25 (by decide) w_108 rfl d_8_10_29 ?_
        refine lv_iload_n hx hb d_8_10_32 rfl (lv_at hl 2 rfl) ?_
        refine q_gov V (q_runV (As := [.int x3]) (rest := []) (d := 3) (mc := 0) (ms := 0) (ci := 2) C0 V rfl LV_Mil_96 (X_Big_shiftLeft l D g q u26 10 220 (n_b10 g q) (by decide) x3 hI y29 y30 hO28 f31 hA32  _) rfl rfl hO28 rfl hl.1 rfl (Nat.le_of_ble_eq_true rfl) ⟨by decide, by decide⟩ ⟨Nat.le_of_ble_eq_true rfl, Nat.le_of_ble_eq_true rfl⟩ d_8_10_33) (fun u184 H locs hp185 V => ?_)
        obtain ⟨hI, hu197, y187, y188, f189, hO186, hA190, b191, b192, b193, b194, b195, hE196⟩ := hp185
        replace hO186 : u184[10]? = (some (q 10, .inr (2, [.ref (q 11), .int y187, .int y188])) : Option (Nat × va_E)) := hO186
        replace hA190 : u184[11]? = (some (q 11, .inl (g 0, (220 : Int32).toNatClampNeg, .inl f189)) : Option (Nat × va_E)) := hA190
        obtain ⟨p198, e199⟩ : ∃ z, z = (F_Big_shiftLeft (220 : Int32) x3 y29 y30 f31) := ⟨_, rfl⟩
        have e200 : y187 = p198.1 := congrArg (fun z => z.1) (hE196.trans e199.symm)
        have e201 : y188 = p198.2.1 := congrArg (fun z => z.2.1) (hE196.trans e199.symm)
        have e202 : f189 = p198.2.2 := congrArg (fun z => z.2.2) (hE196.trans e199.symm)
        replace b191 : q_F (0 ≤ y187.toInt) := b191
        replace b192 : q_F (0 ≤ y188.toInt) := b192
        replace b193 : q_F (y187.toInt ≤ y29.toInt + 219) := b193
        replace b194 : q_F (y187.toInt ≤ 220) := b194
        replace b195 : q_F (y188.toInt ≤ y30.toInt) := b195
        replace hT2 := (hu197 _ (by decide)).trans hT2
        replace hT3 := (hu197 _ (by decide)).trans hT3
        replace hT4 := (hu197 _ (by have z0 := zk2; simp only [List.mem_cons, List.not_mem_nil, or_false, not_or]; omega)).trans hT4
        replace hT5 := (hu197 _ (by have z0 := zk2; simp only [List.mem_cons, List.not_mem_nil, or_false, not_or]; omega)).trans hT5
        replace hO25 := (hu197 _ (by decide)).trans hO25
        replace hF := q_uc hF hu197 (by simp)
        have hR203 := (show F_Mil_shifted_c33_7 R x3 t0_0 t0_1 t1_0 t2_0 t2_1 t3_0 t4_0 t4_1 t5_0 p40 p198 = (F_Mil_shifted R x3 t0_0 t0_1 t1_0 t2_0 t2_1 t3_0 t4_0 t4_1 t5_0) from Eq.trans (by rw [e199, e44, e43, e42, F_Mil_shifted_c5.eq_1, if_neg c50, if_neg c155, if_pos c182]) hR45)
        refine lv_iconst (v := 1) hx hb d_8_10_36 (by decide) ?_
        exact q_retz C0 V (by decide) (⟨hI, hF, y187, y188, f189, t2_0, t2_1, t3_0, hO186, hA190, hT2, hT3, (show 0 ≤ (1 : Int32).toInt from (by have z11 : (1 : Int32).toInt = 1 := rfl; omega)), (show (1 : Int32).toInt ≤ 1 from (by have z11 : (1 : Int32).toInt = 1 := rfl; omega)), (show 0 ≤ y187.toInt from (by have z11 : (1 : Int32).toInt = 1 := rfl; have t1 : 0 ≤ y187.toInt := b191; omega)), (show y187.toInt ≤ 220 from (by have z11 : (1 : Int32).toInt = 1 := rfl; have t1 : y187.toInt ≤ 220 := b194; omega)), (show 0 ≤ y188.toInt from (by have z11 : (1 : Int32).toInt = 1 := rfl; have t1 : 0 ≤ y188.toInt := b192; omega)), (show 0 ≤ t2_0.toInt from (by have z11 : (1 : Int32).toInt = 1 := rfl; have t1 : 0 ≤ t2_0.toInt ∧ t2_0.toInt ≤ 220 := btt2_0; omega)), (show t2_0.toInt ≤ 220 from (by have z11 : (1 : Int32).toInt = 1 := rfl; have t1 : 0 ≤ t2_0.toInt ∧ t2_0.toInt ≤ 220 := btt2_0; omega)), (show 0 ≤ t2_1.toInt from (by have z11 : (1 : Int32).toInt = 1 := rfl; have t1 : 0 ≤ t2_1.toInt ∧ t2_1.toInt ≤ 1 := btt2_1; omega)), (show t2_1.toInt ≤ 1 from (by have z11 : (1 : Int32).toInt = 1 := rfl; have t1 : 0 ≤ t2_1.toInt ∧ t2_1.toInt ≤ 1 := btt2_1; omega)), (show y187.toInt ≤ t4_0.toInt + 219 from (by have z11 : (1 : Int32).toInt = 1 := rfl; have t1 : y29.toInt ≤ t4_0.toInt := b34; have t2 : y187.toInt ≤ y29.toInt + 219 := b193; omega)), (show y188.toInt ≤ t4_1.toInt from (by have z11 : (1 : Int32).toInt = 1 := rfl; have t1 : y30.toInt ≤ t4_1.toInt := b37; have t2 : y188.toInt ≤ y30.toInt := b195; omega)), (show t2_0.toInt ≤ t2_0.toInt + 3 from (by have z11 : (1 : Int32).toInt = 1 := rfl; omega)), (show ((1 : Int32), y187, y188, f189, t2_0, t2_1, t3_0) = (F_Mil_shifted R x3 t0_0 t0_1 t1_0 t2_0 t2_1 t3_0 t4_0 t4_1 t5_0) from Eq.trans (by rw [e202, e201, e200, F_Mil_shifted_c33_7.eq_1]) hR203)⟩) d_8_10_37
      ·
        have b208 : q_F (2048 < x3.toInt) := (q_nleI c182)
        refine lv_iconst (v := 0) hx hb d_8_10_26 (by decide) ?_
        exact q_retz C0 V (by decide) (⟨hI, hF, y29, y30, f31, t2_0, t2_1, t3_0, hO28, hA32, hT2, hT3, (show 0 ≤ (0 : Int32).toInt from (by have z11 : (0 : Int32).toInt = 0 := rfl; omega)), (show (0 : Int32).toInt ≤ 1 from (by have z11 : (0 : Int32).toInt = 0 := rfl; omega)), (show 0 ≤ y29.toInt from (by have z11 : (0 : Int32).toInt = 0 := rfl; have t1 : 0 ≤ y29.toInt := b33; omega)), (show y29.toInt ≤ 220 from (by have z11 : (0 : Int32).toInt = 0 := rfl; have t1 : y29.toInt ≤ 220 := b35; omega)), (show 0 ≤ y30.toInt from (by have z11 : (0 : Int32).toInt = 0 := rfl; have t1 : 0 ≤ t4_1.toInt ∧ t4_1.toInt ≤ 1 := btt4_1; have t2 : t4_1.toInt ≤ y30.toInt := b36; omega)), (show 0 ≤ t2_0.toInt from (by have z11 : (0 : Int32).toInt = 0 := rfl; have t1 : 0 ≤ t2_0.toInt ∧ t2_0.toInt ≤ 220 := btt2_0; omega)), (show t2_0.toInt ≤ 220 from (by have z11 : (0 : Int32).toInt = 0 := rfl; have t1 : 0 ≤ t2_0.toInt ∧ t2_0.toInt ≤ 220 := btt2_0; omega)), (show 0 ≤ t2_1.toInt from (by have z11 : (0 : Int32).toInt = 0 := rfl; have t1 : 0 ≤ t2_1.toInt ∧ t2_1.toInt ≤ 1 := btt2_1; omega)), (show t2_1.toInt ≤ 1 from (by have z11 : (0 : Int32).toInt = 0 := rfl; have t1 : 0 ≤ t2_1.toInt ∧ t2_1.toInt ≤ 1 := btt2_1; omega)), (show y29.toInt ≤ t4_0.toInt + 219 from (by have z11 : (0 : Int32).toInt = 0 := rfl; have t1 : y29.toInt ≤ t4_0.toInt := b34; omega)), (show y30.toInt ≤ t4_1.toInt from (by have z11 : (0 : Int32).toInt = 0 := rfl; have t1 : y30.toInt ≤ t4_1.toInt := b37; omega)), (show t2_0.toInt ≤ t2_0.toInt + 3 from (by have z11 : (0 : Int32).toInt = 0 := rfl; omega)), (show ((0 : Int32), y29, y30, f31, t2_0, t2_1, t3_0) = (F_Mil_shifted R x3 t0_0 t0_1 t1_0 t2_0 t2_1 t3_0 t4_0 t4_1 t5_0) from Eq.trans (by rw [e44, e43, e42, F_Mil_shifted_c5.eq_1, if_neg c50, if_neg c155, if_neg c182]) hR45)⟩) d_8_10_27
def F_Mil_mixed (x1 : Int32) (x2 : Int32) (x3 : Int32) : Int32 := if x1 = (8 : Int32) then ((x2 &&& x3 : Int32)) else (if x1 = (9 : Int32) then ((x2 ||| x3 : Int32)) else (if x1 = (10 : Int32) then ((x2 ^^^ x3 : Int32)) else ((x2 &&& (x3 ^^^ (-1) : Int32) : Int32))))
set_option maxRecDepth 100000 in
set_option maxHeartbeats 4000000 in
theorem X_Mil_mixed (l : Launch) (D : va_G) (g : Nat → ClassId) (q : Nat → Nat) (ws : va_W) (x1 : Int32) (x2 : Int32) (x3 : Int32) (hI : q_I (nsh g q) q ws) : q_mI l y_Mil_mixed prog_8_method_12_code 3 (.int) 1 0 0 D g [.int x1, .int x2, .int x3] ws (fun r u => ws = u ∧ r = (F_Mil_mixed x1 x2 x3)) := by
  intro sz
  refine q_into (by decide) (Nat.le_of_ble_eq_true rfl) ?_
  intro p e s m below meth c ls hsz C0 V hl
  have hx := C0.1
  have hb := C0.2.1
  have hl : lv_has ls 3 [(0, .int x1), (1, .int x2), (2, .int x3)] := hl
  refine lv_iload_n hx hb d_8_12_0 rfl (lv_at hl 0 rfl) ?_
  by_cases c1 : x1 = 8
  ·
    have b2 : q_F (x1.toInt = 8) := (q_eqI c1)
    refine q_ti (v := 8) c1 ?_
    refine lv_tableIn (tgt := 28) (off := 27) hx hb d_8_12_1 (by decide) (by decide) (by decide) (by decide) ?_
    refine lv_iload_n hx hb d_8_12_28 rfl (lv_at hl 1 rfl) ?_
    refine lv_iload_n hx hb d_8_12_29 rfl (lv_at hl 2 rfl) ?_
    refine lv_iand hx hb d_8_12_30 ?_
    obtain ⟨a3, e4⟩ := q_nm (x2 &&& x3 : Int32)
    refine q_ti (v := a3) e4 ?_
    exact q_reti C0 V (⟨rfl, (show a3 = (F_Mil_mixed x1 x2 x3) from (by rw [← e4, F_Mil_mixed.eq_1, if_pos c1]))⟩) d_8_12_31
  have b5 : q_F (x1.toInt ≠ 8) := (q_neI c1)
  by_cases c6 : x1 = 9
  ·
    have b7 : q_F (x1.toInt = 9) := (q_eqI c6)
    refine q_ti (v := 9) c6 ?_
    refine lv_tableIn (tgt := 32) (off := 31) hx hb d_8_12_1 (by decide) (by decide) (by decide) (by decide) ?_
    refine lv_iload_n hx hb d_8_12_32 rfl (lv_at hl 1 rfl) ?_
    refine lv_iload_n hx hb d_8_12_33 rfl (lv_at hl 2 rfl) ?_
    refine lv_ior hx hb d_8_12_34 ?_
    obtain ⟨a8, e9⟩ := q_nm (x2 ||| x3 : Int32)
    refine q_ti (v := a8) e9 ?_
    exact q_reti C0 V (⟨rfl, (show a8 = (F_Mil_mixed x1 x2 x3) from (by rw [← e9, F_Mil_mixed.eq_1, if_neg c1, if_pos c6]))⟩) d_8_12_35
  have b10 : q_F (x1.toInt ≠ 9) := (q_neI c6)
  by_cases c11 : x1 = 10
  ·
    have b12 : q_F (x1.toInt = 10) := (q_eqI c11)
    refine q_ti (v := 10) c11 ?_
    refine lv_tableIn (tgt := 36) (off := 35) hx hb d_8_12_1 (by decide) (by decide) (by decide) (by decide) ?_
    refine lv_iload_n hx hb d_8_12_36 rfl (lv_at hl 1 rfl) ?_
    refine lv_iload_n hx hb d_8_12_37 rfl (lv_at hl 2 rfl) ?_
    refine lv_ixor hx hb d_8_12_38 ?_
    obtain ⟨a13, e14⟩ := q_nm (x2 ^^^ x3 : Int32)
    refine q_ti (v := a13) e14 ?_
    exact q_reti C0 V (⟨rfl, (show a13 = (F_Mil_mixed x1 x2 x3) from (by rw [← e14, F_Mil_mixed.eq_1, if_neg c1, if_neg c6, if_pos c11]))⟩) d_8_12_39
  have b15 : q_F (x1.toInt ≠ 10) := (q_neI c11)
  refine lv_tableOut (tgt := 40) hx hb d_8_12_1 (by have z0 : x1.toInt ≠ 8 := q_neI c1; have z1 : x1.toInt ≠ 9 := q_neI c6; have z2 : x1.toInt ≠ 10 := q_neI c11; omega) (by decide) ?_
  refine lv_iload_n hx hb d_8_12_40 rfl (lv_at hl 1 rfl) ?_
  refine lv_iload_n hx hb d_8_12_41 rfl (lv_at hl 2 rfl) ?_
  refine lv_iconst (v := (-1)) hx hb d_8_12_42 (by decide) ?_
  refine lv_ixor hx hb d_8_12_43 ?_
  obtain ⟨a16, e17⟩ := q_nm (x3 ^^^ (-1) : Int32)
  refine q_ti (v := a16) e17 ?_
  refine lv_iand hx hb d_8_12_44 ?_
  obtain ⟨a18, e19⟩ := q_nm (x2 &&& a16 : Int32)
  refine q_ti (v := a18) e19 ?_
  exact q_reti C0 V (⟨rfl, (show a18 = (F_Mil_mixed x1 x2 x3) from (by rw [← e19, ← e17, F_Mil_mixed.eq_1, if_neg c1, if_neg c6, if_neg c11]))⟩) d_8_12_45
def F_Mil_mixBits_c168 (K_F_Mil_mixBits_L88 : Int32 → Int32 → Int32 → Int32 → (Nat → Int32) → (Int32 × Int32 × (Nat → Int32))) (x2 : Int32) (R : Int32) (R2 : Int32) (t0_0 : Int32) (t0_1 : Int32) (t1_0 : (Nat → Int32)) (t2_0 : Int32) (t2_1 : Int32) (t3_0 : (Nat → Int32)) (t4_0 : Int32) (t4_1 : Int32) (t5_0 : (Nat → Int32)) (a40 : Int32) (a33 : Int32) (a28 : Int32) (lx45 : Int32) (lx60 : Int32) (lx80 : Int32) (lx95 : Int32) (p122 : (Int32 × Int32)) (lx133 : Int32) (lx134 : Int32) (lx135 : Int32) (lx136 : Int32) (lx137 : (Nat → Int32)) (p174 : (Int32 × Int32)) : Int32 × Int32 × (Nat → Int32) := ((p174.1 : Int32), lx80, lx137)
def F_Mil_mixBits_c148 (K_F_Mil_mixBits_L88 : Int32 → Int32 → Int32 → Int32 → (Nat → Int32) → (Int32 × Int32 × (Nat → Int32))) (x2 : Int32) (R : Int32) (R2 : Int32) (t0_0 : Int32) (t0_1 : Int32) (t1_0 : (Nat → Int32)) (t2_0 : Int32) (t2_1 : Int32) (t3_0 : (Nat → Int32)) (t4_0 : Int32) (t4_1 : Int32) (t5_0 : (Nat → Int32)) (a40 : Int32) (a33 : Int32) (a28 : Int32) (lx45 : Int32) (lx60 : Int32) (lx80 : Int32) (lx95 : Int32) (p122 : (Int32 × Int32)) (lx133 : Int32) (lx134 : Int32) (lx135 : Int32) (lx136 : Int32) (lx137 : (Nat → Int32)) (lx201 : Int32) (a214 : Int32) (p235 : (Int32 × Int32 × (Nat → Int32))) : Int32 × Int32 × (Nat → Int32) := K_F_Mil_mixBits_L88 (lx133 + 1 : Int32) ((a214.toUInt32 >>> ((31 : Int32).toUInt32 &&& Int32.toUInt32 31)).toInt32 : Int32) (p235.1 : Int32) (p235.2.1 : Int32) (p235.2.2 : (Nat → Int32))
def F_Mil_mixBits_J134 (K_F_Mil_mixBits_L88 : Int32 → Int32 → Int32 → Int32 → (Nat → Int32) → (Int32 × Int32 × (Nat → Int32))) (x2 : Int32) (R : Int32) (R2 : Int32) (t0_0 : Int32) (t0_1 : Int32) (t1_0 : (Nat → Int32)) (t2_0 : Int32) (t2_1 : Int32) (t3_0 : (Nat → Int32)) (t4_0 : Int32) (t4_1 : Int32) (t5_0 : (Nat → Int32)) (a40 : Int32) (a33 : Int32) (a28 : Int32) (lx45 : Int32) (lx60 : Int32) (lx80 : Int32) (lx95 : Int32) (p122 : (Int32 × Int32)) (lx133 : Int32) (lx134 : Int32) (lx135 : Int32) (lx136 : Int32) (lx137 : (Nat → Int32)) (lx201 : Int32) : Int32 × Int32 × (Nat → Int32) := F_Mil_mixBits_c148 K_F_Mil_mixBits_L88 x2 R R2 t0_0 t0_1 t1_0 t2_0 t2_1 t3_0 t4_0 t4_1 t5_0 a40 a33 a28 lx45 lx60 lx80 lx95 p122 lx133 lx134 lx135 lx136 lx137 lx201 (lx201 + lx134 : Int32) ((F_Big_push (220 : Int32) ((lx201 + lx134 : Int32) &&& 2147483647 : Int32) lx135 lx136 lx137) : (Int32 × Int32 × (Nat → Int32)))
def F_Mil_mixBits_L88 (x2 : Int32) (R : Int32) (R2 : Int32) (t0_0 : Int32) (t0_1 : Int32) (t1_0 : (Nat → Int32)) (t2_0 : Int32) (t2_1 : Int32) (t3_0 : (Nat → Int32)) (t4_0 : Int32) (t4_1 : Int32) (t5_0 : (Nat → Int32)) (a40 : Int32) (a33 : Int32) (a28 : Int32) (lx45 : Int32) (lx60 : Int32) (lx80 : Int32) (lx95 : Int32) (p122 : (Int32 × Int32)) : Nat → Int32 → Int32 → Int32 → Int32 → (Nat → Int32) → (Int32 × Int32 × (Nat → Int32))
  | 0, _, _, _, _, _ => default
  | fm + 1, lx133, lx134, lx135, lx136, lx137 => if a28 ≤ lx133 then (F_Mil_mixBits_c168 (F_Mil_mixBits_L88 x2 R R2 t0_0 t0_1 t1_0 t2_0 t2_1 t3_0 t4_0 t4_1 t5_0 a40 a33 a28 lx45 lx60 lx80 lx95 p122 fm) x2 R R2 t0_0 t0_1 t1_0 t2_0 t2_1 t3_0 t4_0 t4_1 t5_0 a40 a33 a28 lx45 lx60 lx80 lx95 p122 lx133 lx134 lx135 lx136 lx137 ((F_Big_trim (220 : Int32) lx135 lx136 lx137) : (Int32 × Int32))) else (if lx80 = (0 : Int32) then (F_Mil_mixBits_J134 (F_Mil_mixBits_L88 x2 R R2 t0_0 t0_1 t1_0 t2_0 t2_1 t3_0 t4_0 t4_1 t5_0 a40 a33 a28 lx45 lx60 lx80 lx95 p122 fm) x2 R R2 t0_0 t0_1 t1_0 t2_0 t2_1 t3_0 t4_0 t4_1 t5_0 a40 a33 a28 lx45 lx60 lx80 lx95 p122 lx133 lx134 lx135 lx136 lx137 ((F_Mil_mixed x2 ((F_Big_endlessLimb R lx133 a33 t2_0 t2_1 t3_0) : Int32) ((F_Big_endlessLimb R2 lx133 a40 t4_0 t4_1 t5_0) : Int32)) : Int32)) else (F_Mil_mixBits_J134 (F_Mil_mixBits_L88 x2 R R2 t0_0 t0_1 t1_0 t2_0 t2_1 t3_0 t4_0 t4_1 t5_0 a40 a33 a28 lx45 lx60 lx80 lx95 p122 fm) x2 R R2 t0_0 t0_1 t1_0 t2_0 t2_1 t3_0 t4_0 t4_1 t5_0 a40 a33 a28 lx45 lx60 lx80 lx95 p122 lx133 lx134 lx135 lx136 lx137 ((((F_Mil_mixed x2 ((F_Big_endlessLimb R lx133 a33 t2_0 t2_1 t3_0) : Int32) ((F_Big_endlessLimb R2 lx133 a40 t4_0 t4_1 t5_0) : Int32)) : Int32) ^^^ (-1) : Int32) &&& 2147483647 : Int32)))
def F_Mil_mixBits_c82 (x2 : Int32) (R : Int32) (R2 : Int32) (t0_0 : Int32) (t0_1 : Int32) (t1_0 : (Nat → Int32)) (t2_0 : Int32) (t2_1 : Int32) (t3_0 : (Nat → Int32)) (t4_0 : Int32) (t4_1 : Int32) (t5_0 : (Nat → Int32)) (a40 : Int32) (a33 : Int32) (a28 : Int32) (lx45 : Int32) (lx60 : Int32) (lx80 : Int32) (lx95 : Int32) (p122 : (Int32 × Int32)) : Int32 × Int32 × (Nat → Int32) := F_Mil_mixBits_L88 x2 R R2 t0_0 t0_1 t1_0 t2_0 t2_1 t3_0 t4_0 t4_1 t5_0 a40 a33 a28 lx45 lx60 lx80 lx95 p122 ((221 - (0 : Int32).toInt).toNat + 1) 0 lx95 (p122.1 : Int32) (p122.2 : Int32) t1_0
def F_Mil_mixBits_J76 (x2 : Int32) (R : Int32) (R2 : Int32) (t0_0 : Int32) (t0_1 : Int32) (t1_0 : (Nat → Int32)) (t2_0 : Int32) (t2_1 : Int32) (t3_0 : (Nat → Int32)) (t4_0 : Int32) (t4_1 : Int32) (t5_0 : (Nat → Int32)) (a40 : Int32) (a33 : Int32) (a28 : Int32) (lx45 : Int32) (lx60 : Int32) (lx80 : Int32) (lx95 : Int32) : Int32 × Int32 × (Nat → Int32) := F_Mil_mixBits_c82 x2 R R2 t0_0 t0_1 t1_0 t2_0 t2_1 t3_0 t4_0 t4_1 t5_0 a40 a33 a28 lx45 lx60 lx80 lx95 ((F_Big_clear (220 : Int32) t0_0 t0_1) : (Int32 × Int32))
def F_Mil_mixBits_J64 (x2 : Int32) (R : Int32) (R2 : Int32) (t0_0 : Int32) (t0_1 : Int32) (t1_0 : (Nat → Int32)) (t2_0 : Int32) (t2_1 : Int32) (t3_0 : (Nat → Int32)) (t4_0 : Int32) (t4_1 : Int32) (t5_0 : (Nat → Int32)) (a40 : Int32) (a33 : Int32) (a28 : Int32) (lx45 : Int32) (lx60 : Int32) (lx80 : Int32) : Int32 × Int32 × (Nat → Int32) := if lx80 = (0 : Int32) then (F_Mil_mixBits_J76 x2 R R2 t0_0 t0_1 t1_0 t2_0 t2_1 t3_0 t4_0 t4_1 t5_0 a40 a33 a28 lx45 lx60 lx80 0) else (F_Mil_mixBits_J76 x2 R R2 t0_0 t0_1 t1_0 t2_0 t2_1 t3_0 t4_0 t4_1 t5_0 a40 a33 a28 lx45 lx60 lx80 1)
def F_Mil_mixBits_J52 (x2 : Int32) (R : Int32) (R2 : Int32) (t0_0 : Int32) (t0_1 : Int32) (t1_0 : (Nat → Int32)) (t2_0 : Int32) (t2_1 : Int32) (t3_0 : (Nat → Int32)) (t4_0 : Int32) (t4_1 : Int32) (t5_0 : (Nat → Int32)) (a40 : Int32) (a33 : Int32) (a28 : Int32) (lx45 : Int32) (lx60 : Int32) : Int32 × Int32 × (Nat → Int32) := if ((F_Mil_mixed x2 lx45 lx60) : Int32) = (1 : Int32) then (F_Mil_mixBits_J64 x2 R R2 t0_0 t0_1 t1_0 t2_0 t2_1 t3_0 t4_0 t4_1 t5_0 a40 a33 a28 lx45 lx60 1) else (F_Mil_mixBits_J64 x2 R R2 t0_0 t0_1 t1_0 t2_0 t2_1 t3_0 t4_0 t4_1 t5_0 a40 a33 a28 lx45 lx60 0)
def F_Mil_mixBits_J40 (x2 : Int32) (R : Int32) (R2 : Int32) (t0_0 : Int32) (t0_1 : Int32) (t1_0 : (Nat → Int32)) (t2_0 : Int32) (t2_1 : Int32) (t3_0 : (Nat → Int32)) (t4_0 : Int32) (t4_1 : Int32) (t5_0 : (Nat → Int32)) (a40 : Int32) (a33 : Int32) (a28 : Int32) (lx45 : Int32) : Int32 × Int32 × (Nat → Int32) := if t4_1 = (0 : Int32) then (F_Mil_mixBits_J52 x2 R R2 t0_0 t0_1 t1_0 t2_0 t2_1 t3_0 t4_0 t4_1 t5_0 a40 a33 a28 lx45 0) else (F_Mil_mixBits_J52 x2 R R2 t0_0 t0_1 t1_0 t2_0 t2_1 t3_0 t4_0 t4_1 t5_0 a40 a33 a28 lx45 1)
def F_Mil_mixBits (x2 : Int32) (R : Int32) (R2 : Int32) (t0_0 : Int32) (t0_1 : Int32) (t1_0 : (Nat → Int32)) (t2_0 : Int32) (t2_1 : Int32) (t3_0 : (Nat → Int32)) (t4_0 : Int32) (t4_1 : Int32) (t5_0 : (Nat → Int32)) : Int32 × Int32 × (Nat → Int32) := if t2_1 = (0 : Int32) then (F_Mil_mixBits_J40 x2 R R2 t0_0 t0_1 t1_0 t2_0 t2_1 t3_0 t4_0 t4_1 t5_0 ((F_Big_lowestLimb R2 t4_0 t4_1 t5_0) : Int32) ((F_Big_lowestLimb R t2_0 t2_1 t3_0) : Int32) ((if t2_0 < t4_0 then t4_0 else t2_0 : Int32) + 1 : Int32) 0) else (F_Mil_mixBits_J40 x2 R R2 t0_0 t0_1 t1_0 t2_0 t2_1 t3_0 t4_0 t4_1 t5_0 ((F_Big_lowestLimb R2 t4_0 t4_1 t5_0) : Int32) ((F_Big_lowestLimb R t2_0 t2_1 t3_0) : Int32) ((if t2_0 < t4_0 then t4_0 else t2_0 : Int32) + 1 : Int32) 1)
set_option maxRecDepth 100000 in
set_option maxHeartbeats 4000000 in
theorem X_Mil_mixBits (l : Launch) (D : va_G) (g : Nat → ClassId) (q : Nat → Nat) (ws : va_W) (k3 : Nat) (R : Int32) (hB3 : q_isBig (nsh g q) g q k3 R) (zk3 : (10 ≤ k3 ∧ k3 ≤ 32) ∨ 66 ≤ k3) (k4 : Nat) (R2 : Int32) (hB4 : q_isBig (nsh g q) g q k4 R2) (zk4 : (10 ≤ k4 ∧ k4 ≤ 32) ∨ 66 ≤ k4) (x2 : Int32) (ne_k3_10 : k3 ≠ 10) (ne_k3_11 : k3 ≠ 11) (ne_k3_9 : k3 ≠ 9) (ne_k4_10 : k4 ≠ 10) (ne_k4_11 : k4 ≠ 11) (ne_k4_9 : k4 ≠ 9) (hI : q_I (nsh g q) q ws) (t0_0 : Int32) (t0_1 : Int32) (hT0 : ws[10]? = (some (q 10, .inr (2, [.ref (q 11), .int t0_0, .int t0_1])) : Option (Nat × va_E))) (t1_0 : (Nat → Int32)) (hT1 : ws[11]? = (some (q 11, .inl (g 0, (220 : Int32).toNatClampNeg, .inl t1_0)) : Option (Nat × va_E))) (t2_0 : Int32) (t2_1 : Int32) (hT2 : ws[k3]? = (some (q k3, .inr (2, [.ref (q (k3 + 1)), .int t2_0, .int t2_1])) : Option (Nat × va_E))) (t3_0 : (Nat → Int32)) (hT3 : ws[k3 + 1]? = (some (q (k3 + 1), .inl (g 0, R.toNatClampNeg, .inl t3_0)) : Option (Nat × va_E))) (t4_0 : Int32) (t4_1 : Int32) (hT4 : ws[k4]? = (some (q k4, .inr (2, [.ref (q (k4 + 1)), .int t4_0, .int t4_1])) : Option (Nat × va_E))) (t5_0 : (Nat → Int32)) (hT5 : ws[k4 + 1]? = (some (q (k4 + 1), .inl (g 0, R2.toNatClampNeg, .inl t5_0)) : Option (Nat × va_E))) : q_mV l y_Mil_mixBits prog_8_method_11_code 12 3 0 0 D g [.ref (q 9), .int x2, .ref (q k3), .ref (q k4)] ws (fun u => q_I (nsh g q) q u ∧ q_un ws u [10, 11] ∧ ∃ (u0_0 : Int32) (u0_1 : Int32) (u1_0 : (Nat → Int32)), u[10]? = (some (q 10, .inr (2, [.ref (q 11), .int u0_0, .int u0_1])) : Option (Nat × va_E)) ∧ u[11]? = (some (q 11, .inl (g 0, (220 : Int32).toNatClampNeg, .inl u1_0)) : Option (Nat × va_E)) ∧ (0 ≤ u0_0.toInt) ∧ (u0_0.toInt ≤ 220) ∧ (0 ≤ u0_1.toInt) ∧ (u0_1.toInt ≤ 1) ∧ (u0_0, u0_1, u1_0) = (F_Mil_mixBits x2 R R2 t0_0 t0_1 t1_0 t2_0 t2_1 t3_0 t4_0 t4_1 t5_0)) := by
  intro sz
  refine q_into (by decide) (Nat.le_of_ble_eq_true rfl) ?_
  intro p e s m below meth c ls hsz C0 V hl
  have hx := C0.1
  have hb := C0.2.1
  have hfk30 : q_F (0 ≤ R.toInt ∧ R.toInt ≤ 220) := hB3.2.2
  have hfk40 : q_F (0 ≤ R2.toInt ∧ R2.toInt ≤ 220) := hB4.2.2
  obtain ⟨yy0_0, yy0_1, hh0, btt0_0, btt0_1⟩ := q_bigO hI (n_b10 g q)
  obtain ⟨rfl, rfl⟩ : t0_0 = yy0_0 ∧ t0_1 = yy0_1 := by have z := Option.some.inj (hT0.symm.trans hh0); simpa using z
  replace btt0_0 : q_F (0 ≤ t0_0.toInt ∧ t0_0.toInt ≤ 220) := btt0_0
  replace btt0_1 : q_F (0 ≤ t0_1.toInt ∧ t0_1.toInt ≤ 1) := btt0_1
  obtain ⟨yy2_0, yy2_1, hh2, btt2_0, btt2_1⟩ := q_bigO hI hB3
  obtain ⟨rfl, rfl⟩ : t2_0 = yy2_0 ∧ t2_1 = yy2_1 := by have z := Option.some.inj (hT2.symm.trans hh2); simpa using z
  replace btt2_0 : q_F (0 ≤ t2_0.toInt ∧ t2_0.toInt ≤ R.toInt) := btt2_0
  replace btt2_1 : q_F (0 ≤ t2_1.toInt ∧ t2_1.toInt ≤ 1) := btt2_1
  obtain ⟨yy4_0, yy4_1, hh4, btt4_0, btt4_1⟩ := q_bigO hI hB4
  obtain ⟨rfl, rfl⟩ : t4_0 = yy4_0 ∧ t4_1 = yy4_1 := by have z := Option.some.inj (hT4.symm.trans hh4); simpa using z
  replace btt4_0 : q_F (0 ≤ t4_0.toInt ∧ t4_0.toInt ≤ R2.toInt) := btt4_0
  replace btt4_1 : q_F (0 ≤ t4_1.toInt ∧ t4_1.toInt ≤ 1) := btt4_1
  have hF : q_un ws ws [10, 11] := q_u0
  have hl : lv_has ls 12 [(0, .ref (q 9)), (1, .int x2), (2, .ref (q k3)), (3, .ref (q k4))] := hl
  refine lv_aload_n hx hb d_8_11_0 rfl (lv_at hl 2 rfl) ?_
  refine q_get (ci := 2) (j := 1) (v := .int t2_0) C0 V i_Big rfl rfl hT2 (by decide) w_89 rfl d_8_11_1 ?_
  refine lv_aload_n hx hb d_8_11_4 rfl (lv_at hl 3 rfl) ?_
  refine q_get (ci := 2) (j := 1) (v := .int t4_0) C0 V i_Big rfl rfl hT4 (by decide) w_89 rfl d_8_11_5 ?_
  refine q_max C0 hl.1 rfl w_1301 w_803 w_7 w_804 ⟨Nat.le_of_ble_eq_true rfl, Nat.le_of_ble_eq_true rfl⟩ ⟨Nat.le_of_ble_eq_true rfl, Nat.le_of_ble_eq_true rfl⟩ d_8_11_8 ?_
  obtain ⟨a25, e26⟩ := q_nm (if t2_0 < t4_0 then t4_0 else t2_0 : Int32)
  refine q_ti (v := a25) e26 ?_
  have b27 : q_F (t2_0.toInt ≤ a25.toInt ∧ t4_0.toInt ≤ a25.toInt ∧ (a25.toInt = t2_0.toInt ∨ a25.toInt = t4_0.toInt)) := (by rw [← e26]; show t2_0.toInt ≤ (if t2_0 < t4_0 then t4_0 else t2_0 : Int32).toInt ∧ t4_0.toInt ≤ (if t2_0 < t4_0 then t4_0 else t2_0 : Int32).toInt ∧ ((if t2_0 < t4_0 then t4_0 else t2_0 : Int32).toInt = t2_0.toInt ∨ (if t2_0 < t4_0 then t4_0 else t2_0 : Int32).toInt = t4_0.toInt); exact s_max (a := t2_0) (b := t4_0))
  refine lv_iconst (v := 1) hx hb d_8_11_11 (by decide) ?_
  refine lv_iadd hx hb d_8_11_12 ?_
  obtain ⟨a28, e29⟩ := q_nm (a25 + 1 : Int32)
  refine q_ti (v := a28) e29 ?_
  have b30 : q_F (a28.toInt = a25.toInt + 1) := (by rw [← e29]; show (a25 + 1 : Int32).toInt = a25.toInt + 1; exact q_addI (x := a25.toInt) (y := 1) rfl (by decide) (by have _ := q_lo32 (x := a25); have _ := q_hi32 (x := a25); have t1 : 0 ≤ R.toInt ∧ R.toInt ≤ 220 := hfk30; have t2 : 0 ≤ R2.toInt ∧ R2.toInt ≤ 220 := hfk40; have t3 : 0 ≤ t2_0.toInt ∧ t2_0.toInt ≤ R.toInt := btt2_0; have t4 : 0 ≤ t4_0.toInt ∧ t4_0.toInt ≤ R2.toInt := btt4_0; have t5 : t2_0.toInt ≤ a25.toInt ∧ t4_0.toInt ≤ a25.toInt ∧ (a25.toInt = t2_0.toInt ∨ a25.toInt = t4_0.toInt) := b27; omega) (by have _ := q_lo32 (x := a25); have _ := q_hi32 (x := a25); have t1 : 0 ≤ R.toInt ∧ R.toInt ≤ 220 := hfk30; have t2 : 0 ≤ R2.toInt ∧ R2.toInt ≤ 220 := hfk40; have t3 : 0 ≤ t2_0.toInt ∧ t2_0.toInt ≤ R.toInt := btt2_0; have t4 : 0 ≤ t4_0.toInt ∧ t4_0.toInt ≤ R2.toInt := btt4_0; have t5 : t2_0.toInt ≤ a25.toInt ∧ t4_0.toInt ≤ a25.toInt ∧ (a25.toInt = t2_0.toInt ∨ a25.toInt = t4_0.toInt) := b27; omega))
  refine lv_istore (lv' := [(4, .int a28), (0, .ref (q 9)), (1, .int x2), (2, .ref (q k3)), (3, .ref (q k4))]) hx hb d_8_11_13 hl (by decide) rfl (fun ls hl => ?_)
  refine lv_aload_n hx hb d_8_11_15 rfl (lv_at hl 3 rfl) ?_
  refine q_goi V (q_runV (As := []) (rest := []) (d := 1) (mc := 0) (ms := 0) (ci := 2) C0 V rfl LV_Mil_128 (X_Big_lowestLimb l D g q ws k3 R hB3 zk3  hI t2_0 t2_1 hT2 t3_0 hT3  _) rfl rfl hT2 rfl hl.1 rfl (Nat.le_of_ble_eq_true rfl) ⟨by decide, by decide⟩ ⟨Nat.le_of_ble_eq_true rfl, Nat.le_of_ble_eq_true rfl⟩ d_8_11_16) (fun a33 u31 H locs hp32 V => ?_)
  obtain ⟨rfl, b34, b35, hE36⟩ := hp32
  have e37 : a33 = (F_Big_lowestLimb R t2_0 t2_1 t3_0) := hE36
  replace b34 : q_F (0 ≤ a33.toInt) := b34
  replace b35 : q_F (a33.toInt ≤ t2_0.toInt) := b35
  refine lv_istore (lv' := [(5, .int a33), (4, .int a28), (0, .ref (q 9)), (1, .int x2), (2, .ref (q k3)), (3, .ref (q k4))]) hx hb d_8_11_19 hl (by decide) rfl (fun ls hl => ?_)
  refine lv_aload_n hx hb d_8_11_21 rfl (lv_at hl 5 rfl) ?_
  refine q_goi V (q_runV (As := []) (rest := []) (d := 1) (mc := 0) (ms := 0) (ci := 2) C0 V rfl LV_Mil_128 (X_Big_lowestLimb l D g q ws k4 R2 hB4 zk4  hI t4_0 t4_1 hT4 t5_0 hT5  _) rfl rfl hT4 rfl hl.1 rfl (Nat.le_of_ble_eq_true rfl) ⟨by decide, by decide⟩ ⟨Nat.le_of_ble_eq_true rfl, Nat.le_of_ble_eq_true rfl⟩ d_8_11_22) (fun a40 u38 H locs hp39 V => ?_)
  obtain ⟨rfl, b41, b42, hE43⟩ := hp39
  have e44 : a40 = (F_Big_lowestLimb R2 t4_0 t4_1 t5_0) := hE43
  replace b41 : q_F (0 ≤ a40.toInt) := b41
  replace b42 : q_F (a40.toInt ≤ t4_0.toInt) := b42
  refine lv_istore (lv' := [(6, .int a40), (5, .int a33), (4, .int a28), (0, .ref (q 9)), (1, .int x2), (2, .ref (q k3)), (3, .ref (q k4))]) hx hb d_8_11_25 hl (by decide) rfl (fun ls hl => ?_)
  refine lv_iload_n hx hb d_8_11_27 rfl (lv_at hl 4 rfl) ?_
  refine lv_aload_n hx hb d_8_11_28 rfl (lv_at hl 5 rfl) ?_
  refine q_get (ci := 2) (j := 2) (v := .int t2_1) C0 V i_Big rfl rfl hT2 (by decide) w_96 rfl d_8_11_29 ?_
  refine q_join (X := Int32) (fun z H locs ls _ => q_F (t2_1.toInt ≤ z.toInt) ∧ q_F (z.toInt ≤ t2_1.toInt) ∧ q_Wd D g (va_A ws sz) s ws H locs ∧ lv_has ls 12 [(6, .int a40), (5, .int a33), (4, .int a28), (0, .ref (q 9)), (1, .int x2), (2, .ref (q k3)), (3, .ref (q k4))] ∧ F_Mil_mixBits_J40 x2 R R2 t0_0 t0_1 t1_0 t2_0 t2_1 t3_0 t4_0 t4_1 t5_0 a40 a33 a28 z = (F_Mil_mixBits x2 R R2 t0_0 t0_1 t1_0 t2_0 t2_1 t3_0 t4_0 t4_1 t5_0)) (fun z => [.int z, .int x2]) 40 0 0 ?_ ?_
  ·
    rintro lx45 H locs ls _ ⟨i53, i54, V, hl, hR55⟩
    replace i53 : q_F (t2_1.toInt ≤ lx45.toInt) := i53
    replace i54 : q_F (lx45.toInt ≤ t2_1.toInt) := i54
    replace hl : lv_has ls 12 [(6, .int a40), (5, .int a33), (4, .int a28), (0, .ref (q 9)), (1, .int x2), (2, .ref (q k3)), (3, .ref (q k4))] := hl
    refine lv_aload_n hx hb d_8_11_40 rfl (lv_at hl 6 rfl) ?_
    refine q_get (ci := 2) (j := 2) (v := .int t4_1) C0 V i_Big rfl rfl hT4 (by decide) w_96 rfl d_8_11_41 ?_
    refine q_join (X := Int32) (fun z H locs ls _ => q_F (t4_1.toInt ≤ z.toInt) ∧ q_F (z.toInt ≤ t4_1.toInt) ∧ q_Wd D g (va_A ws sz) s ws H locs ∧ lv_has ls 12 [(6, .int a40), (5, .int a33), (4, .int a28), (0, .ref (q 9)), (1, .int x2), (2, .ref (q k3)), (3, .ref (q k4))] ∧ F_Mil_mixBits_J52 x2 R R2 t0_0 t0_1 t1_0 t2_0 t2_1 t3_0 t4_0 t4_1 t5_0 a40 a33 a28 lx45 z = (F_Mil_mixBits x2 R R2 t0_0 t0_1 t1_0 t2_0 t2_1 t3_0 t4_0 t4_1 t5_0)) (fun z => [.int z, .int lx45, .int x2]) 52 0 0 ?_ ?_
    ·
      rintro lx60 H locs ls _ ⟨i68, i69, V, hl, hR70⟩
      replace i68 : q_F (t4_1.toInt ≤ lx60.toInt) := i68
      replace i69 : q_F (lx60.toInt ≤ t4_1.toInt) := i69
      replace hl : lv_has ls 12 [(6, .int a40), (5, .int a33), (4, .int a28), (0, .ref (q 9)), (1, .int x2), (2, .ref (q k3)), (3, .ref (q k4))] := hl
      refine q_goi V (q_runS (As := [.int x2, .int lx45, .int lx60]) (rest := []) (d := 1) (mc := 0) (ms := 0) C0 V rfl LS_Mil_131 (X_Mil_mixed l D g q ws  x2 lx45 lx60 hI   _) rfl hl.1 rfl (Nat.le_of_ble_eq_true rfl) ⟨by decide, by decide⟩ ⟨Nat.le_of_ble_eq_true rfl, Nat.le_of_ble_eq_true rfl⟩ d_8_11_52) (fun a77 u75 H locs hp76 V => ?_)
      obtain ⟨rfl, hE78⟩ := hp76
      have e79 : a77 = (F_Mil_mixed x2 lx45 lx60) := hE78
      refine lv_iconst (v := 1) hx hb d_8_11_55 (by decide) ?_
      refine q_join (X := Int32) (fun z H locs ls _ => q_F (0 ≤ z.toInt) ∧ q_F (z.toInt ≤ 1) ∧ q_Wd D g (va_A ws sz) s ws H locs ∧ lv_has ls 12 [(6, .int a40), (5, .int a33), (4, .int a28), (0, .ref (q 9)), (1, .int x2), (2, .ref (q k3)), (3, .ref (q k4))] ∧ F_Mil_mixBits_J64 x2 R R2 t0_0 t0_1 t1_0 t2_0 t2_1 t3_0 t4_0 t4_1 t5_0 a40 a33 a28 lx45 lx60 z = (F_Mil_mixBits x2 R R2 t0_0 t0_1 t1_0 t2_0 t2_1 t3_0 t4_0 t4_1 t5_0)) (fun z => [.int z]) 64 0 0 ?_ ?_
      ·
        rintro lx80 H locs ls _ ⟨i88, i89, V, hl, hR90⟩
        replace i88 : q_F (0 ≤ lx80.toInt) := i88
        replace i89 : q_F (lx80.toInt ≤ 1) := i89
        replace hl : lv_has ls 12 [(6, .int a40), (5, .int a33), (4, .int a28), (0, .ref (q 9)), (1, .int x2), (2, .ref (q k3)), (3, .ref (q k4))] := hl
        refine lv_istore (lv' := [(7, .int lx80), (6, .int a40), (5, .int a33), (4, .int a28), (0, .ref (q 9)), (1, .int x2), (2, .ref (q k3)), (3, .ref (q k4))]) hx hb d_8_11_64 hl (by decide) rfl (fun ls hl => ?_)
        refine lv_iload hx hb d_8_11_66 (lv_at hl 0 rfl) ?_
        refine q_join (X := Int32) (fun z H locs ls _ => q_F (lx80.toInt ≤ z.toInt) ∧ q_F (z.toInt ≤ lx80.toInt) ∧ q_Wd D g (va_A ws sz) s ws H locs ∧ lv_has ls 12 [(7, .int lx80), (6, .int a40), (5, .int a33), (4, .int a28), (0, .ref (q 9)), (1, .int x2), (2, .ref (q k3)), (3, .ref (q k4))] ∧ F_Mil_mixBits_J76 x2 R R2 t0_0 t0_1 t1_0 t2_0 t2_1 t3_0 t4_0 t4_1 t5_0 a40 a33 a28 lx45 lx60 lx80 z = (F_Mil_mixBits x2 R R2 t0_0 t0_1 t1_0 t2_0 t2_1 t3_0 t4_0 t4_1 t5_0)) (fun z => [.int z]) 76 0 0 ?_ ?_
        ·
          rintro lx95 H locs ls _ ⟨i103, i104, V, hl, hR105⟩
          replace i103 : q_F (lx80.toInt ≤ lx95.toInt) := i103
          replace i104 : q_F (lx95.toInt ≤ lx80.toInt) := i104
          replace hl : lv_has ls 12 [(7, .int lx80), (6, .int a40), (5, .int a33), (4, .int a28), (0, .ref (q 9)), (1, .int x2), (2, .ref (q k3)), (3, .ref (q k4))] := hl
          refine lv_istore (lv' := [(8, .int lx95), (7, .int lx80), (6, .int a40), (5, .int a33), (4, .int a28), (0, .ref (q 9)), (1, .int x2), (2, .ref (q k3)), (3, .ref (q k4))]) hx hb d_8_11_76 hl (by decide) rfl (fun ls hl => ?_)
          refine lv_aload_n hx hb d_8_11_78 rfl (lv_at hl 5 rfl) ?_
          have hO110 := n_o9 hI
          refine q_get (ci := 4) (j := 0) (v := .ref (q 10)) C0 V i_Mil rfl rfl hO110 (by decide) w_108 rfl d_8_11_79 ?_
          refine q_gov V (q_runV (As := []) (rest := []) (d := 1) (mc := 0) (ms := 0) (ci := 2) C0 V rfl LV_Mil_74 (X_Big_clear l D g q ws 10 220 (n_b10 g q) (by decide)  hI t0_0 t0_1 hT0  _) rfl rfl hT0 rfl hl.1 rfl (Nat.le_of_ble_eq_true rfl) ⟨by decide, by decide⟩ ⟨Nat.le_of_ble_eq_true rfl, Nat.le_of_ble_eq_true rfl⟩ d_8_11_82) (fun u111 H locs hp112 V => ?_)
          obtain ⟨hI, hu121, y114, y115, hO113, b116, b117, b118, b119, hE120⟩ := hp112
          replace hO113 : u111[10]? = (some (q 10, .inr (2, [.ref (q 11), .int y114, .int y115])) : Option (Nat × va_E)) := hO113
          obtain ⟨p122, e123⟩ : ∃ z, z = (F_Big_clear (220 : Int32) t0_0 t0_1) := ⟨_, rfl⟩
          have e124 : y114 = p122.1 := congrArg (fun z => z.1) (hE120.trans e123.symm)
          have e125 : y115 = p122.2 := congrArg (fun z => z.2) (hE120.trans e123.symm)
          replace b116 : q_F (0 ≤ y115.toInt) := b116
          replace b117 : q_F (y115.toInt ≤ 0) := b117
          replace b118 : q_F (y115.toInt ≤ y114.toInt) := b118
          replace b119 : q_F (y114.toInt ≤ y115.toInt) := b119
          replace hT1 := (hu121 _ (by decide)).trans hT1
          replace hT2 := (hu121 _ (by have z0 := zk3; simp only [List.mem_cons, List.not_mem_nil, or_false, not_or]; omega)).trans hT2
          replace hT3 := (hu121 _ (by have z0 := zk3; simp only [List.mem_cons, List.not_mem_nil, or_false, not_or]; omega)).trans hT3
          replace hT4 := (hu121 _ (by have z0 := zk4; simp only [List.mem_cons, List.not_mem_nil, or_false, not_or]; omega)).trans hT4
          replace hT5 := (hu121 _ (by have z0 := zk4; simp only [List.mem_cons, List.not_mem_nil, or_false, not_or]; omega)).trans hT5
          replace hO110 := (hu121 _ (by decide)).trans hO110
          replace hF := q_uc hF hu121 (by simp)
          have hR126 := (show F_Mil_mixBits_c82 x2 R R2 t0_0 t0_1 t1_0 t2_0 t2_1 t3_0 t4_0 t4_1 t5_0 a40 a33 a28 lx45 lx60 lx80 lx95 p122 = (F_Mil_mixBits x2 R R2 t0_0 t0_1 t1_0 t2_0 t2_1 t3_0 t4_0 t4_1 t5_0) from Eq.trans (by rw [e123, F_Mil_mixBits_J76.eq_1]) hR105)
          refine lv_iconst (v := 0) hx hb d_8_11_85 (by decide) ?_
          refine lv_istore (lv' := [(9, .int 0), (8, .int lx95), (7, .int lx80), (6, .int a40), (5, .int a33), (4, .int a28), (0, .ref (q 9)), (1, .int x2), (2, .ref (q k3)), (3, .ref (q k4))]) hx hb d_8_11_86 hl (by decide) rfl (fun ls hl => ?_)
          refine q_loop (X := Int32 × Int32 × Int32 × Int32 × (Nat → Int32)) (fun z H locs ls w148 => q_F (z.1.toInt ≤ 221) ∧ q_F (z.2.2.1.toInt ≤ 220) ∧ q_F (z.2.2.2.1.toInt ≤ z.2.1.toInt) ∧ q_F (z.2.1.toInt ≤ z.2.2.2.1.toInt + 1) ∧ q_F (0 ≤ z.2.1.toInt + z.2.2.2.1.toInt) ∧ q_F (z.2.1.toInt + z.2.2.2.1.toInt ≤ 1) ∧ q_F (z.2.2.1.toInt ≤ z.1.toInt + y114.toInt) ∧ q_F (lx95.toInt + y114.toInt ≤ z.2.1.toInt + z.2.2.1.toInt) ∧ q_F (z.2.1.toInt + y114.toInt ≤ z.2.2.1.toInt + lx95.toInt) ∧ q_Wd D g (va_A ws sz) s w148 H locs ∧ lv_has ls 12 [(9, .int z.1), (8, .int z.2.1), (7, .int lx80), (6, .int a40), (5, .int a33), (4, .int a28), (0, .ref (q 9)), (1, .int x2), (2, .ref (q k3)), (3, .ref (q k4))] ∧ q_I (nsh g q) q w148 ∧ q_un ws w148 [10, 11] ∧ w148[10]? = (some (q 10, .inr (2, [.ref (q 11), .int z.2.2.1, .int z.2.2.2.1])) : Option (Nat × va_E)) ∧ w148[11]? = (some (q 11, .inl (g 0, (220 : Int32).toNatClampNeg, .inl z.2.2.2.2)) : Option (Nat × va_E)) ∧ w148[k3]? = (some (q k3, .inr (2, [.ref (q (k3 + 1)), .int t2_0, .int t2_1])) : Option (Nat × va_E)) ∧ w148[k3 + 1]? = (some (q (k3 + 1), .inl (g 0, R.toNatClampNeg, .inl t3_0)) : Option (Nat × va_E)) ∧ w148[k4]? = (some (q k4, .inr (2, [.ref (q (k4 + 1)), .int t4_0, .int t4_1])) : Option (Nat × va_E)) ∧ w148[k4 + 1]? = (some (q (k4 + 1), .inl (g 0, R2.toNatClampNeg, .inl t5_0)) : Option (Nat × va_E)) ∧ (∃ n, (221 - z.1.toInt).toNat < n ∧ F_Mil_mixBits_L88 x2 R R2 t0_0 t0_1 t1_0 t2_0 t2_1 t3_0 t4_0 t4_1 t5_0 a40 a33 a28 lx45 lx60 lx80 lx95 p122 n z.1 z.2.1 z.2.2.1 z.2.2.2.1 z.2.2.2.2 = (F_Mil_mixBits x2 R R2 t0_0 t0_1 t1_0 t2_0 t2_1 t3_0 t4_0 t4_1 t5_0))) (fun z => (221 - z.1.toInt).toNat) ?_ ((0 : Int32), (lx95 : Int32), (y114 : Int32), (y115 : Int32), (t1_0 : (Nat → Int32))) _ _ _ u111 ⟨(show q_F (0 ≤ 221) from (show 0 ≤ 221 from by omega)), (show q_F (y114.toInt ≤ 220) from (show y114.toInt ≤ 220 from by have t1 : y115.toInt ≤ 0 := b117; have t2 : y114.toInt ≤ y115.toInt := b119; omega)), (show q_F (y115.toInt ≤ lx95.toInt) from (show y115.toInt ≤ lx95.toInt from by have t1 : 0 ≤ lx80.toInt := i88; have t2 : lx80.toInt ≤ lx95.toInt := i103; have t3 : y115.toInt ≤ 0 := b117; omega)), (show q_F (lx95.toInt ≤ y115.toInt + 1) from (show lx95.toInt ≤ y115.toInt + 1 from by have t1 : lx80.toInt ≤ 1 := i89; have t2 : lx95.toInt ≤ lx80.toInt := i104; have t3 : 0 ≤ y115.toInt := b116; omega)), (show q_F (0 ≤ lx95.toInt + y115.toInt) from (show 0 ≤ lx95.toInt + y115.toInt from by have t1 : 0 ≤ lx80.toInt := i88; have t2 : lx80.toInt ≤ lx95.toInt := i103; have t3 : 0 ≤ y115.toInt := b116; omega)), (show q_F (lx95.toInt + y115.toInt ≤ 1) from (show lx95.toInt + y115.toInt ≤ 1 from by have t1 : lx80.toInt ≤ 1 := i89; have t2 : lx95.toInt ≤ lx80.toInt := i104; have t3 : y115.toInt ≤ 0 := b117; omega)), (show q_F (y114.toInt ≤ 0 + y114.toInt) from (show y114.toInt ≤ 0 + y114.toInt from by omega)), (show q_F (lx95.toInt + y114.toInt ≤ lx95.toInt + y114.toInt) from (show lx95.toInt + y114.toInt ≤ lx95.toInt + y114.toInt from by omega)), (show q_F (lx95.toInt + y114.toInt ≤ y114.toInt + lx95.toInt) from (show lx95.toInt + y114.toInt ≤ y114.toInt + lx95.toInt from by omega)), V, q_lw hl (q_lw1 0 rfl (q_lw1 1 rfl (q_lw1 2 rfl (q_lw1 3 rfl (q_lw1 4 rfl (q_lw1 5 rfl (q_lw1 6 rfl (q_lw1 7 rfl (q_lw1 8 rfl (q_lw1 9 rfl q_lw0)))))))))), hI, hF, hO113, hT1, hT2, hT3, hT4, hT5, ⟨((221 - (0 : Int32).toInt).toNat + 1), Nat.lt_succ_self _, (show F_Mil_mixBits_L88 x2 R R2 t0_0 t0_1 t1_0 t2_0 t2_1 t3_0 t4_0 t4_1 t5_0 a40 a33 a28 lx45 lx60 lx80 lx95 p122 ((221 - (0 : Int32).toInt).toNat + 1) 0 lx95 y114 y115 t1_0 = (F_Mil_mixBits x2 R R2 t0_0 t0_1 t1_0 t2_0 t2_1 t3_0 t4_0 t4_1 t5_0) from Eq.trans (by rw [e125, e124, F_Mil_mixBits_c82.eq_1]) hR126)⟩⟩
          rintro ⟨lx133, lx134, lx135, lx136, lx137⟩ H locs ls w148 ⟨i138, i139, i140, i141, i142, i143, i144, i145, i146, V, hl, hI, hF, hO149, hO150, hO151, hO152, hO153, hO154, ⟨fu157, hf158, hR155⟩⟩ ih147
          obtain ⟨fm159, rfl⟩ : ∃ m, fu157 = m + 1 := ⟨fu157 - 1, by omega⟩
          replace i138 : q_F (lx133.toInt ≤ 221) := i138
          replace i139 : q_F (lx135.toInt ≤ 220) := i139
          replace i140 : q_F (lx136.toInt ≤ lx134.toInt) := i140
          replace i141 : q_F (lx134.toInt ≤ lx136.toInt + 1) := i141
          replace i142 : q_F (0 ≤ lx134.toInt + lx136.toInt) := i142
          replace i143 : q_F (lx134.toInt + lx136.toInt ≤ 1) := i143
          replace i144 : q_F (lx135.toInt ≤ lx133.toInt + y114.toInt) := i144
          replace i145 : q_F (lx95.toInt + y114.toInt ≤ lx134.toInt + lx135.toInt) := i145
          replace i146 : q_F (lx134.toInt + y114.toInt ≤ lx135.toInt + lx95.toInt) := i146
          replace hl : lv_has ls 12 [(9, .int lx133), (8, .int lx134), (7, .int lx80), (6, .int a40), (5, .int a33), (4, .int a28), (0, .ref (q 9)), (1, .int x2), (2, .ref (q k3)), (3, .ref (q k4))] := hl
          replace hO149 : w148[10]? = (some (q 10, .inr (2, [.ref (q 11), .int lx135, .int lx136])) : Option (Nat × va_E)) := hO149
          replace hO150 : w148[11]? = (some (q 11, .inl (g 0, (220 : Int32).toNatClampNeg, .inl lx137)) : Option (Nat × va_E)) := hO150
          replace hO151 : w148[k3]? = (some (q k3, .inr (2, [.ref (q (k3 + 1)), .int t2_0, .int t2_1])) : Option (Nat × va_E)) := hO151
          replace hO152 : w148[k3 + 1]? = (some (q (k3 + 1), .inl (g 0, R.toNatClampNeg, .inl t3_0)) : Option (Nat × va_E)) := hO152
          replace hO153 : w148[k4]? = (some (q k4, .inr (2, [.ref (q (k4 + 1)), .int t4_0, .int t4_1])) : Option (Nat × va_E)) := hO153
          replace hO154 : w148[k4 + 1]? = (some (q (k4 + 1), .inl (g 0, R2.toNatClampNeg, .inl t5_0)) : Option (Nat × va_E)) := hO154
          refine lv_iload hx hb d_8_11_88 (lv_at hl 0 rfl) ?_
          refine lv_iload hx hb d_8_11_90 (lv_at hl 5 rfl) ?_
          refine lv_icmp_ge (tgt := 164) hx hb d_8_11_92 (by decide) (fun c160 => ?_) (fun c160 => ?_)
          ·
            have b161 : q_F (a28.toInt ≤ lx133.toInt) := (q_leI c160)
            refine lv_aload_n hx hb d_8_11_164 rfl (lv_at hl 6 rfl) ?_
            have hO162 := n_o9 hI
            refine q_get (ci := 4) (j := 0) (v := .ref (q 10)) C0 V i_Mil rfl rfl hO162 (by decide) w_108 rfl d_8_11_165 ?_
            refine q_gov V (q_runV (As := []) (rest := []) (d := 1) (mc := 0) (ms := 0) (ci := 2) C0 V rfl LV_Mil_142 (X_Big_trim l D g q w148 10 220 (n_b10 g q) (by decide)  hI lx135 lx136 hO149 lx137 hO150  _) rfl rfl hO149 rfl hl.1 rfl (Nat.le_of_ble_eq_true rfl) ⟨by decide, by decide⟩ ⟨Nat.le_of_ble_eq_true rfl, Nat.le_of_ble_eq_true rfl⟩ d_8_11_168) (fun u163 H locs hp164 V => ?_)
            obtain ⟨hI, hu173, y166, y167, hO165, b168, b169, b170, b171, hE172⟩ := hp164
            replace hO165 : u163[10]? = (some (q 10, .inr (2, [.ref (q 11), .int y166, .int y167])) : Option (Nat × va_E)) := hO165
            obtain ⟨p174, e175⟩ : ∃ z, z = (F_Big_trim (220 : Int32) lx135 lx136 lx137) := ⟨_, rfl⟩
            have e176 : y166 = p174.1 := congrArg (fun z => z.1) (hE172.trans e175.symm)
            have e177 : y167 = p174.2 := congrArg (fun z => z.2) (hE172.trans e175.symm)
            replace b168 : q_F (0 ≤ y167.toInt) := b168
            replace b169 : q_F (y166.toInt ≤ lx135.toInt) := b169
            replace b170 : q_F (y167.toInt ≤ lx136.toInt) := b170
            replace b171 : q_F (y167.toInt ≤ y166.toInt) := b171
            replace hO150 := (hu173 _ (by decide)).trans hO150
            replace hO151 := (hu173 _ (by have z0 := zk3; simp only [List.mem_cons, List.not_mem_nil, or_false, not_or]; omega)).trans hO151
            replace hO152 := (hu173 _ (by have z0 := zk3; simp only [List.mem_cons, List.not_mem_nil, or_false, not_or]; omega)).trans hO152
            replace hO153 := (hu173 _ (by have z0 := zk4; simp only [List.mem_cons, List.not_mem_nil, or_false, not_or]; omega)).trans hO153
            replace hO154 := (hu173 _ (by have z0 := zk4; simp only [List.mem_cons, List.not_mem_nil, or_false, not_or]; omega)).trans hO154
            replace hO162 := (hu173 _ (by decide)).trans hO162
            replace hF := q_uc hF hu173 (by simp)
            have hR178 := (show F_Mil_mixBits_c168 (F_Mil_mixBits_L88 x2 R R2 t0_0 t0_1 t1_0 t2_0 t2_1 t3_0 t4_0 t4_1 t5_0 a40 a33 a28 lx45 lx60 lx80 lx95 p122 fm159) x2 R R2 t0_0 t0_1 t1_0 t2_0 t2_1 t3_0 t4_0 t4_1 t5_0 a40 a33 a28 lx45 lx60 lx80 lx95 p122 lx133 lx134 lx135 lx136 lx137 p174 = (F_Mil_mixBits x2 R R2 t0_0 t0_1 t1_0 t2_0 t2_1 t3_0 t4_0 t4_1 t5_0) from Eq.trans (by rw [e175, F_Mil_mixBits_L88.eq_2, if_pos c160]) hR155)
            refine lv_aload_n hx hb d_8_11_171 rfl (lv_at hl 6 rfl) ?_
            refine q_get (ci := 4) (j := 0) (v := .ref (q 10)) C0 V i_Mil rfl rfl hO162 (by decide) w_108 rfl d_8_11_172 ?_
            refine lv_iload hx hb d_8_11_175 (lv_at hl 2 rfl) ?_
            refine q_put (ci := 2) (j := 2) (v := .int lx80) (ty := .boolean) C0 V i_Big o_Big n_Big rfl rfl hO165 (by decide) w_96 rfl rfl (q_nz01 (q_Ile (x := 0) (y := lx80.toInt) (by decide) rfl (by have t1 : 0 ≤ lx80.toInt := i88; omega)) (q_Ile (x := lx80.toInt) (y := 1) rfl (by decide) (by have t1 : lx80.toInt ≤ 1 := i89; omega))) (q_fz01 (q_Ile (x := 0) (y := lx80.toInt) (by decide) rfl (by have t1 : 0 ≤ lx80.toInt := i88; omega)) (q_Ile (x := lx80.toInt) (y := 1) rfl (by decide) (by have t1 : lx80.toInt ≤ 1 := i89; omega))) (Nat.le_of_ble_eq_true rfl) d_8_11_177 (fun H locs w183 hu184 hO165 V => ?_)
            replace hO165 : w183[10]? = (some (q 10, .inr (2, [.ref (q 11), .int y166, .int lx80])) : Option (Nat × va_E)) := hO165
            replace hI := q_bigO' hI (n_b10 g q) hu184 hO165 ⟨(by have zR : (220 : Int32).toInt = 220 := rfl; have t1 : 0 ≤ y167.toInt := b168; have t2 : y167.toInt ≤ y166.toInt := b171; omega), (by have zR : (220 : Int32).toInt = 220 := rfl; have t1 : lx135.toInt ≤ 220 := i139; have t2 : y166.toInt ≤ lx135.toInt := b169; omega)⟩ ⟨(by have t1 : 0 ≤ lx80.toInt := i88; omega), (by have t1 : lx80.toInt ≤ 1 := i89; omega)⟩
            replace hO150 := (hu184 _ (by decide)).trans hO150
            replace hO151 := (hu184 _ (by have z := ne_k3_10; omega)).trans hO151
            replace hO152 := (hu184 _ (by have z := ne_k3_9; omega)).trans hO152
            replace hO153 := (hu184 _ (by have z := ne_k4_10; omega)).trans hO153
            replace hO154 := (hu184 _ (by have z := ne_k4_9; omega)).trans hO154
            replace hO162 := (hu184 _ (by decide)).trans hO162
            replace hF := q_us hF hu184 (by simp)
            exact q_retv C0 V (⟨hI, hF, y166, lx80, lx137, hO165, hO150, (show 0 ≤ y166.toInt from (by have t1 : 0 ≤ y167.toInt := b168; have t2 : y167.toInt ≤ y166.toInt := b171; omega)), (show y166.toInt ≤ 220 from (by have t1 : lx135.toInt ≤ 220 := i139; have t2 : y166.toInt ≤ lx135.toInt := b169; omega)), (show 0 ≤ lx80.toInt from (by have t1 : 0 ≤ lx80.toInt := i88; omega)), (show lx80.toInt ≤ 1 from (by have t1 : lx80.toInt ≤ 1 := i89; omega)), (show (y166, lx80, lx137) = (F_Mil_mixBits x2 R R2 t0_0 t0_1 t1_0 t2_0 t2_1 t3_0 t4_0 t4_1 t5_0) from Eq.trans (by rw [e176, F_Mil_mixBits_c168.eq_1]) hR178)⟩) d_8_11_180
          ·
            have b185 : q_F (lx133.toInt < a28.toInt) := (q_nleI c160)
            refine lv_iload_n hx hb d_8_11_95 rfl (lv_at hl 7 rfl) ?_
            refine lv_aload_n hx hb d_8_11_96 rfl (lv_at hl 8 rfl) ?_
            refine lv_iload hx hb d_8_11_97 (lv_at hl 0 rfl) ?_
            refine lv_iload hx hb d_8_11_99 (lv_at hl 4 rfl) ?_
            refine q_goi V (q_runV (As := [.int lx133, .int a33]) (rest := [.int x2]) (d := 2) (mc := 0) (ms := 0) (ci := 2) C0 V rfl LV_Mil_135 (X_Big_endlessLimb l D g q w148 k3 R hB3 zk3 lx133 a33 hI t2_0 t2_1 hO151 t3_0 hO152  _) rfl rfl hO151 rfl hl.1 rfl (Nat.le_of_ble_eq_true rfl) ⟨by decide, by decide⟩ ⟨Nat.le_of_ble_eq_true rfl, Nat.le_of_ble_eq_true rfl⟩ d_8_11_101) (fun a188 u186 H locs hp187 V => ?_)
            obtain ⟨rfl, hE189⟩ := hp187
            have e190 : a188 = (F_Big_endlessLimb R lx133 a33 t2_0 t2_1 t3_0) := hE189
            refine lv_aload_n hx hb d_8_11_104 rfl (lv_at hl 9 rfl) ?_
            refine lv_iload hx hb d_8_11_105 (lv_at hl 0 rfl) ?_
            refine lv_iload hx hb d_8_11_107 (lv_at hl 3 rfl) ?_
            refine q_goi V (q_runV (As := [.int lx133, .int a40]) (rest := [.int a188, .int x2]) (d := 2) (mc := 0) (ms := 0) (ci := 2) C0 V rfl LV_Mil_135 (X_Big_endlessLimb l D g q w148 k4 R2 hB4 zk4 lx133 a40 hI t4_0 t4_1 hO153 t5_0 hO154  _) rfl rfl hO153 rfl hl.1 rfl (Nat.le_of_ble_eq_true rfl) ⟨by decide, by decide⟩ ⟨Nat.le_of_ble_eq_true rfl, Nat.le_of_ble_eq_true rfl⟩ d_8_11_109) (fun a193 u191 H locs hp192 V => ?_)
            obtain ⟨rfl, hE194⟩ := hp192
            have e195 : a193 = (F_Big_endlessLimb R2 lx133 a40 t4_0 t4_1 t5_0) := hE194
            refine q_goi V (q_runS (As := [.int x2, .int a188, .int a193]) (rest := []) (d := 1) (mc := 0) (ms := 0) C0 V rfl LS_Mil_131 (X_Mil_mixed l D g q w148  x2 a188 a193 hI   _) rfl hl.1 rfl (Nat.le_of_ble_eq_true rfl) ⟨by decide, by decide⟩ ⟨Nat.le_of_ble_eq_true rfl, Nat.le_of_ble_eq_true rfl⟩ d_8_11_112) (fun a198 u196 H locs hp197 V => ?_)
            obtain ⟨rfl, hE199⟩ := hp197
            have e200 : a198 = (F_Mil_mixed x2 a188 a193) := hE199
            refine lv_istore (lv' := [(10, .int a198), (9, .int lx133), (8, .int lx134), (7, .int lx80), (6, .int a40), (5, .int a33), (4, .int a28), (0, .ref (q 9)), (1, .int x2), (2, .ref (q k3)), (3, .ref (q k4))]) hx hb d_8_11_115 hl (by decide) rfl (fun ls hl => ?_)
            refine lv_iload hx hb d_8_11_117 (lv_at hl 3 rfl) ?_
            refine q_join (X := Int32) (fun z H locs ls _ => q_Wd D g (va_A ws sz) s w148 H locs ∧ lv_has ls 12 [(9, .int lx133), (8, .int lx134), (7, .int lx80), (6, .int a40), (5, .int a33), (4, .int a28), (0, .ref (q 9)), (1, .int x2), (2, .ref (q k3)), (3, .ref (q k4))] ∧ F_Mil_mixBits_J134 (F_Mil_mixBits_L88 x2 R R2 t0_0 t0_1 t1_0 t2_0 t2_1 t3_0 t4_0 t4_1 t5_0 a40 a33 a28 lx45 lx60 lx80 lx95 p122 fm159) x2 R R2 t0_0 t0_1 t1_0 t2_0 t2_1 t3_0 t4_0 t4_1 t5_0 a40 a33 a28 lx45 lx60 lx80 lx95 p122 lx133 lx134 lx135 lx136 lx137 z = (F_Mil_mixBits x2 R R2 t0_0 t0_1 t1_0 t2_0 t2_1 t3_0 t4_0 t4_1 t5_0)) (fun z => [.int z]) 134 0 0 ?_ ?_
            ·
              rintro lx201 H locs ls _ ⟨V, hl, hR209⟩
              replace hl : lv_has ls 12 [(9, .int lx133), (8, .int lx134), (7, .int lx80), (6, .int a40), (5, .int a33), (4, .int a28), (0, .ref (q 9)), (1, .int x2), (2, .ref (q k3)), (3, .ref (q k4))] := hl
              refine lv_iload hx hb d_8_11_134 (lv_at hl 1 rfl) ?_
              refine lv_iadd hx hb d_8_11_136 ?_
              obtain ⟨a214, e215⟩ := q_nm (lx201 + lx134 : Int32)
              refine q_ti (v := a214) e215 ?_
              refine lv_istore (lv' := [(11, .int a214), (9, .int lx133), (8, .int lx134), (7, .int lx80), (6, .int a40), (5, .int a33), (4, .int a28), (0, .ref (q 9)), (1, .int x2), (2, .ref (q k3)), (3, .ref (q k4))]) hx hb d_8_11_137 hl (by decide) rfl (fun ls hl => ?_)
              refine lv_aload_n hx hb d_8_11_139 rfl (lv_at hl 7 rfl) ?_
              have hO216 := n_o9 hI
              refine q_get (ci := 4) (j := 0) (v := .ref (q 10)) C0 V i_Mil rfl rfl hO216 (by decide) w_108 rfl d_8_11_140 ?_
              refine lv_iload hx hb d_8_11_143 (lv_at hl 0 rfl) ?_
              refine q_ldc C0 rfl w_1313 d_8_11_145 ?_
              refine lv_iand hx hb d_8_11_147 ?_
              obtain ⟨a217, e218⟩ := q_nm (a214 &&& 2147483647 : Int32)
              refine q_ti (v := a217) e218 ?_
              have b219 : q_F (0 ≤ a217.toInt ∧ a217.toInt ≤ 2147483647) := (by rw [← e218]; show 0 ≤ (a214 &&& 2147483647 : Int32).toInt ∧ (a214 &&& 2147483647 : Int32).toInt ≤ 2147483647; exact s_and (by decide))
              refine q_gov V (q_runV (As := [.int a217]) (rest := []) (d := 1) (mc := 0) (ms := 0) (ci := 2) C0 V rfl LV_Mil_139 (X_Big_push l D g q w148 10 220 (n_b10 g q) (by decide) a217 hI lx135 lx136 hO149 lx137 hO150  _) rfl rfl hO149 rfl hl.1 rfl (Nat.le_of_ble_eq_true rfl) ⟨by decide, by decide⟩ ⟨Nat.le_of_ble_eq_true rfl, Nat.le_of_ble_eq_true rfl⟩ d_8_11_148) (fun u220 H locs hp221 V => ?_)
              obtain ⟨hI, hu234, y223, y224, f225, hO222, hA226, b227, b228, b229, b230, b231, b232, hE233⟩ := hp221
              replace hO222 : u220[10]? = (some (q 10, .inr (2, [.ref (q 11), .int y223, .int y224])) : Option (Nat × va_E)) := hO222
              replace hA226 : u220[11]? = (some (q 11, .inl (g 0, (220 : Int32).toNatClampNeg, .inl f225)) : Option (Nat × va_E)) := hA226
              obtain ⟨p235, e236⟩ : ∃ z, z = (F_Big_push (220 : Int32) a217 lx135 lx136 lx137) := ⟨_, rfl⟩
              have e237 : y223 = p235.1 := congrArg (fun z => z.1) (hE233.trans e236.symm)
              have e238 : y224 = p235.2.1 := congrArg (fun z => z.2.1) (hE233.trans e236.symm)
              have e239 : f225 = p235.2.2 := congrArg (fun z => z.2.2) (hE233.trans e236.symm)
              replace b227 : q_F (lx135.toInt ≤ y223.toInt) := b227
              replace b228 : q_F (y223.toInt ≤ lx135.toInt + 1) := b228
              replace b229 : q_F (220 ≤ y223.toInt + 219) := b229
              replace b230 : q_F (y223.toInt ≤ 220) := b230
              replace b231 : q_F (lx136.toInt ≤ y224.toInt) := b231
              replace b232 : q_F (y224.toInt ≤ lx136.toInt) := b232
              replace hO151 := (hu234 _ (by have z0 := zk3; simp only [List.mem_cons, List.not_mem_nil, or_false, not_or]; omega)).trans hO151
              replace hO152 := (hu234 _ (by have z0 := zk3; simp only [List.mem_cons, List.not_mem_nil, or_false, not_or]; omega)).trans hO152
              replace hO153 := (hu234 _ (by have z0 := zk4; simp only [List.mem_cons, List.not_mem_nil, or_false, not_or]; omega)).trans hO153
              replace hO154 := (hu234 _ (by have z0 := zk4; simp only [List.mem_cons, List.not_mem_nil, or_false, not_or]; omega)).trans hO154
              replace hO216 := (hu234 _ (by decide)).trans hO216
              replace hF := q_uc hF hu234 (by simp)
              have hR240 := (show F_Mil_mixBits_c148 (F_Mil_mixBits_L88 x2 R R2 t0_0 t0_1 t1_0 t2_0 t2_1 t3_0 t4_0 t4_1 t5_0 a40 a33 a28 lx45 lx60 lx80 lx95 p122 fm159) x2 R R2 t0_0 t0_1 t1_0 t2_0 t2_1 t3_0 t4_0 t4_1 t5_0 a40 a33 a28 lx45 lx60 lx80 lx95 p122 lx133 lx134 lx135 lx136 lx137 lx201 a214 p235 = (F_Mil_mixBits x2 R R2 t0_0 t0_1 t1_0 t2_0 t2_1 t3_0 t4_0 t4_1 t5_0) from Eq.trans (by rw [e236, ← e218, ← e215, F_Mil_mixBits_J134.eq_1]) hR209)
              refine lv_iload hx hb d_8_11_151 (lv_at hl 0 rfl) ?_
              refine lv_bipush (v := 31) hx hb d_8_11_153 (by decide) ?_
              refine lv_iushr hx hb d_8_11_155 rfl ?_
              obtain ⟨a245, e246⟩ := q_nm ((a214.toUInt32 >>> ((31 : Int32).toUInt32 &&& Int32.toUInt32 31)).toInt32 : Int32)
              refine q_ti (v := a245) e246 ?_
              have b247 : q_F (0 ≤ a245.toInt ∧ a245.toInt ≤ 1) := (by rw [← e246]; show 0 ≤ ((a214.toUInt32 >>> ((31 : Int32).toUInt32 &&& Int32.toUInt32 31)).toInt32 : Int32).toInt ∧ ((a214.toUInt32 >>> ((31 : Int32).toUInt32 &&& Int32.toUInt32 31)).toInt32 : Int32).toInt ≤ 1; exact (by have z := s_ushr (x := a214) (c := 31) 31 (by decide) (by decide); omega))
              refine lv_istore (lv' := [(8, .int a245), (11, .int a214), (9, .int lx133), (7, .int lx80), (6, .int a40), (5, .int a33), (4, .int a28), (0, .ref (q 9)), (1, .int x2), (2, .ref (q k3)), (3, .ref (q k4))]) hx hb d_8_11_156 hl (by decide) rfl (fun ls hl => ?_)
              obtain ⟨a248, e249⟩ := q_nm (lx133 + 1 : Int32)
              have b250 : q_F (a248.toInt = lx133.toInt + 1) := (by rw [← e249]; exact q_addI (y := 1) rfl (by decide) (by have _ := q_lo32 (x := lx133); have _ := q_hi32 (x := lx133); have t1 : lx133.toInt ≤ 221 := i138; omega) (by have _ := q_lo32 (x := lx133); have _ := q_hi32 (x := lx133); have t1 : lx133.toInt ≤ 221 := i138; omega))
              refine lv_iinc (v := a248) (lv' := [(9, .int a248), (8, .int a245), (11, .int a214), (7, .int lx80), (6, .int a40), (5, .int a33), (4, .int a28), (0, .ref (q 9)), (1, .int x2), (2, .ref (q k3)), (3, .ref (q k4))]) hx hb d_8_11_158 hl (k := 2) rfl (e249) (by decide) rfl (fun ls hl => ?_)
              refine lv_goto (tgt := 88) hx hb d_8_11_161 (by decide) ?_
              exact ih147 ((a248 : Int32), (a245 : Int32), (y223 : Int32), (y224 : Int32), (f225 : (Nat → Int32))) _ _ _ _ (show (221 - a248.toInt).toNat < (221 - lx133.toInt).toNat from by have t1 : a248.toInt = lx133.toInt + 1 := b250; have t2 : lx133.toInt ≤ 221 := i138; have t3 : 0 ≤ R.toInt ∧ R.toInt ≤ 220 := hfk30; have t4 : 0 ≤ R2.toInt ∧ R2.toInt ≤ 220 := hfk40; have t5 : 0 ≤ t2_0.toInt ∧ t2_0.toInt ≤ R.toInt := btt2_0; have t6 : 0 ≤ t4_0.toInt ∧ t4_0.toInt ≤ R2.toInt := btt4_0; have t7 : t2_0.toInt ≤ a25.toInt ∧ t4_0.toInt ≤ a25.toInt ∧ (a25.toInt = t2_0.toInt ∨ a25.toInt = t4_0.toInt) := b27; have t8 : a28.toInt = a25.toInt + 1 := b30; have t9 : lx133.toInt < a28.toInt := b185; omega) ⟨(show q_F (a248.toInt ≤ 221) from (show a248.toInt ≤ 221 from by have t1 : 0 ≤ R.toInt ∧ R.toInt ≤ 220 := hfk30; have t2 : 0 ≤ R2.toInt ∧ R2.toInt ≤ 220 := hfk40; have t3 : 0 ≤ t2_0.toInt ∧ t2_0.toInt ≤ R.toInt := btt2_0; have t4 : 0 ≤ t4_0.toInt ∧ t4_0.toInt ≤ R2.toInt := btt4_0; have t5 : t2_0.toInt ≤ a25.toInt ∧ t4_0.toInt ≤ a25.toInt ∧ (a25.toInt = t2_0.toInt ∨ a25.toInt = t4_0.toInt) := b27; have t6 : a28.toInt = a25.toInt + 1 := b30; have t7 : lx133.toInt < a28.toInt := b185; have t8 : a248.toInt = lx133.toInt + 1 := b250; omega)), (show q_F (y223.toInt ≤ 220) from (show y223.toInt ≤ 220 from by have t1 : y223.toInt ≤ 220 := b230; omega)), (show q_F (y224.toInt ≤ a245.toInt) from (show y224.toInt ≤ a245.toInt from by have t1 : lx136.toInt ≤ lx134.toInt := i140; have t2 : lx134.toInt + lx136.toInt ≤ 1 := i143; have t3 : y224.toInt ≤ lx136.toInt := b232; have t4 : 0 ≤ a245.toInt ∧ a245.toInt ≤ 1 := b247; omega)), (show q_F (a245.toInt ≤ y224.toInt + 1) from (show a245.toInt ≤ y224.toInt + 1 from by have t1 : lx134.toInt ≤ lx136.toInt + 1 := i141; have t2 : 0 ≤ lx134.toInt + lx136.toInt := i142; have t3 : lx136.toInt ≤ y224.toInt := b231; have t4 : 0 ≤ a245.toInt ∧ a245.toInt ≤ 1 := b247; omega)), (show q_F (0 ≤ a245.toInt + y224.toInt) from (show 0 ≤ a245.toInt + y224.toInt from by have t1 : lx134.toInt ≤ lx136.toInt + 1 := i141; have t2 : 0 ≤ lx134.toInt + lx136.toInt := i142; have t3 : lx136.toInt ≤ y224.toInt := b231; have t4 : 0 ≤ a245.toInt ∧ a245.toInt ≤ 1 := b247; omega)), (show q_F (a245.toInt + y224.toInt ≤ 1) from (show a245.toInt + y224.toInt ≤ 1 from by have t1 : lx136.toInt ≤ lx134.toInt := i140; have t2 : lx134.toInt + lx136.toInt ≤ 1 := i143; have t3 : y224.toInt ≤ lx136.toInt := b232; have t4 : 0 ≤ a245.toInt ∧ a245.toInt ≤ 1 := b247; omega)), (show q_F (y223.toInt ≤ a248.toInt + y114.toInt) from (show y223.toInt ≤ a248.toInt + y114.toInt from by have t1 : lx135.toInt ≤ lx133.toInt + y114.toInt := i144; have t2 : y223.toInt ≤ lx135.toInt + 1 := b228; have t3 : a248.toInt = lx133.toInt + 1 := b250; omega)), (show q_F (lx95.toInt + y114.toInt ≤ a245.toInt + y223.toInt) from (show lx95.toInt + y114.toInt ≤ a245.toInt + y223.toInt from by have t1 : lx80.toInt ≤ 1 := i89; have t2 : lx95.toInt ≤ lx80.toInt := i104; have t3 : y115.toInt ≤ 0 := b117; have t4 : y114.toInt ≤ y115.toInt := b119; have t5 : 220 ≤ y223.toInt + 219 := b229; have t6 : 0 ≤ a245.toInt ∧ a245.toInt ≤ 1 := b247; omega)), (show q_F (a245.toInt + y114.toInt ≤ y223.toInt + lx95.toInt) from (show a245.toInt + y114.toInt ≤ y223.toInt + lx95.toInt from by have t1 : 0 ≤ lx80.toInt := i88; have t2 : lx80.toInt ≤ lx95.toInt := i103; have t3 : y115.toInt ≤ 0 := b117; have t4 : y114.toInt ≤ y115.toInt := b119; have t5 : 220 ≤ y223.toInt + 219 := b229; have t6 : 0 ≤ a245.toInt ∧ a245.toInt ≤ 1 := b247; omega)), V, q_lw hl (q_lw1 0 rfl (q_lw1 1 rfl (q_lw1 3 rfl (q_lw1 4 rfl (q_lw1 5 rfl (q_lw1 6 rfl (q_lw1 7 rfl (q_lw1 8 rfl (q_lw1 9 rfl (q_lw1 10 rfl q_lw0)))))))))), hI, hF, hO222, hA226, hO151, hO152, hO153, hO154, ⟨fm159, Nat.lt_of_lt_of_le (show (221 - a248.toInt).toNat < (221 - lx133.toInt).toNat from by have t1 : a248.toInt = lx133.toInt + 1 := b250; have t2 : lx133.toInt ≤ 221 := i138; have t3 : 0 ≤ R.toInt ∧ R.toInt ≤ 220 := hfk30; have t4 : 0 ≤ R2.toInt ∧ R2.toInt ≤ 220 := hfk40; have t5 : 0 ≤ t2_0.toInt ∧ t2_0.toInt ≤ R.toInt := btt2_0; have t6 : 0 ≤ t4_0.toInt ∧ t4_0.toInt ≤ R2.toInt := btt4_0; have t7 : t2_0.toInt ≤ a25.toInt ∧ t4_0.toInt ≤ a25.toInt ∧ (a25.toInt = t2_0.toInt ∨ a25.toInt = t4_0.toInt) := b27; have t8 : a28.toInt = a25.toInt + 1 := b30; have t9 : lx133.toInt < a28.toInt := b185; omega) (Nat.le_of_lt_succ hf158), (show F_Mil_mixBits_L88 x2 R R2 t0_0 t0_1 t1_0 t2_0 t2_1 t3_0 t4_0 t4_1 t5_0 a40 a33 a28 lx45 lx60 lx80 lx95 p122 fm159 a248 a245 y223 y224 f225 = (F_Mil_mixBits x2 R R2 t0_0 t0_1 t1_0 t2_0 t2_1 t3_0 t4_0 t4_1 t5_0) from Eq.trans (by rw [← e249, ← e246, e239, e238, e237, F_Mil_mixBits_c148.eq_1]) hR240)⟩⟩
            ·
              intro J208
              refine lv_if_eq (tgt := 132) hx hb d_8_11_119 (by decide) (fun c251 => ?_) (fun c251 => ?_)
              ·
                have b252 : q_F (lx80.toInt = 0) := (q_eqI c251)
                refine lv_iload hx hb d_8_11_132 (lv_at hl 0 rfl) ?_
                exact J208 ((a198 : Int32)) _ _ _ w148 ⟨V, q_lw hl (q_lw1 1 rfl (q_lw1 2 rfl (q_lw1 3 rfl (q_lw1 4 rfl (q_lw1 5 rfl (q_lw1 6 rfl (q_lw1 7 rfl (q_lw1 8 rfl (q_lw1 9 rfl (q_lw1 10 rfl q_lw0)))))))))), (show F_Mil_mixBits_J134 (F_Mil_mixBits_L88 x2 R R2 t0_0 t0_1 t1_0 t2_0 t2_1 t3_0 t4_0 t4_1 t5_0 a40 a33 a28 lx45 lx60 lx80 lx95 p122 fm159) x2 R R2 t0_0 t0_1 t1_0 t2_0 t2_1 t3_0 t4_0 t4_1 t5_0 a40 a33 a28 lx45 lx60 lx80 lx95 p122 lx133 lx134 lx135 lx136 lx137 a198 = (F_Mil_mixBits x2 R R2 t0_0 t0_1 t1_0 t2_0 t2_1 t3_0 t4_0 t4_1 t5_0) from Eq.trans (by rw [e200, e195, e190, F_Mil_mixBits_L88.eq_2, if_neg c160, if_pos c251]) hR155)⟩
              ·
                have b253 : q_F (lx80.toInt ≠ 0) := (q_neI c251)
                refine lv_iload hx hb d_8_11_122 (lv_at hl 0 rfl) ?_
                refine lv_iconst (v := (-1)) hx hb d_8_11_124 (by decide) ?_
                refine lv_ixor hx hb d_8_11_125 ?_
                obtain ⟨a254, e255⟩ := q_nm (a198 ^^^ (-1) : Int32)
                refine q_ti (v := a254) e255 ?_
                refine q_ldc C0 rfl w_1313 d_8_11_126 ?_
                refine lv_iand hx hb d_8_11_128 ?_
                obtain ⟨a256, e257⟩ := q_nm (a254 &&& 2147483647 : Int32)
                refine q_ti (v := a256) e257 ?_
                have b258 : q_F (0 ≤ a256.toInt ∧ a256.toInt ≤ 2147483647) := (by rw [← e257]; show 0 ≤ (a254 &&& 2147483647 : Int32).toInt ∧ (a254 &&& 2147483647 : Int32).toInt ≤ 2147483647; exact s_and (by decide))
                refine lv_goto (tgt := 134) hx hb d_8_11_129 (by decide) ?_
                exact J208 ((a256 : Int32)) _ _ _ w148 ⟨V, q_lw hl (q_lw1 1 rfl (q_lw1 2 rfl (q_lw1 3 rfl (q_lw1 4 rfl (q_lw1 5 rfl (q_lw1 6 rfl (q_lw1 7 rfl (q_lw1 8 rfl (q_lw1 9 rfl (q_lw1 10 rfl q_lw0)))))))))), (show F_Mil_mixBits_J134 (F_Mil_mixBits_L88 x2 R R2 t0_0 t0_1 t1_0 t2_0 t2_1 t3_0 t4_0 t4_1 t5_0 a40 a33 a28 lx45 lx60 lx80 lx95 p122 fm159) x2 R R2 t0_0 t0_1 t1_0 t2_0 t2_1 t3_0 t4_0 t4_1 t5_0 a40 a33 a28 lx45 lx60 lx80 lx95 p122 lx133 lx134 lx135 lx136 lx137 a256 = (F_Mil_mixBits x2 R R2 t0_0 t0_1 t1_0 t2_0 t2_1 t3_0 t4_0 t4_1 t5_0) from Eq.trans (by rw [← e257, ← e255, e200, e195, e190, F_Mil_mixBits_L88.eq_2, if_neg c160, if_neg c251]) hR155)⟩
        ·
          intro J102
          refine lv_if_eq (tgt := 75) hx hb d_8_11_68 (by decide) (fun c259 => ?_) (fun c259 => ?_)
          ·
            have b260 : q_F (lx80.toInt = 0) := (q_eqI c259)
            refine lv_iconst (v := 0) hx hb d_8_11_75 (by decide) ?_
            exact J102 ((0 : Int32)) _ _ _ ws ⟨(show q_F (lx80.toInt ≤ 0) from (show lx80.toInt ≤ 0 from by have t1 : lx80.toInt = 0 := b260; omega)), (show q_F (0 ≤ lx80.toInt) from (show 0 ≤ lx80.toInt from by have t1 : 0 ≤ lx80.toInt := i88; omega)), V, q_lw hl (q_lw1 0 rfl (q_lw1 1 rfl (q_lw1 2 rfl (q_lw1 3 rfl (q_lw1 4 rfl (q_lw1 5 rfl (q_lw1 6 rfl (q_lw1 7 rfl q_lw0)))))))), (show F_Mil_mixBits_J76 x2 R R2 t0_0 t0_1 t1_0 t2_0 t2_1 t3_0 t4_0 t4_1 t5_0 a40 a33 a28 lx45 lx60 lx80 0 = (F_Mil_mixBits x2 R R2 t0_0 t0_1 t1_0 t2_0 t2_1 t3_0 t4_0 t4_1 t5_0) from Eq.trans (by rw [F_Mil_mixBits_J64.eq_1, if_pos c259]) hR90)⟩
          ·
            have b261 : q_F (lx80.toInt ≠ 0) := (q_neI c259)
            refine lv_iconst (v := 1) hx hb d_8_11_71 (by decide) ?_
            refine lv_goto (tgt := 76) hx hb d_8_11_72 (by decide) ?_
            exact J102 ((1 : Int32)) _ _ _ ws ⟨(show q_F (lx80.toInt ≤ 1) from (show lx80.toInt ≤ 1 from by have t1 : lx80.toInt ≤ 1 := i89; omega)), (show q_F (1 ≤ lx80.toInt) from (show 1 ≤ lx80.toInt from by have t1 : 0 ≤ lx80.toInt := i88; have t2 : lx80.toInt ≠ 0 := b261; omega)), V, q_lw hl (q_lw1 0 rfl (q_lw1 1 rfl (q_lw1 2 rfl (q_lw1 3 rfl (q_lw1 4 rfl (q_lw1 5 rfl (q_lw1 6 rfl (q_lw1 7 rfl q_lw0)))))))), (show F_Mil_mixBits_J76 x2 R R2 t0_0 t0_1 t1_0 t2_0 t2_1 t3_0 t4_0 t4_1 t5_0 a40 a33 a28 lx45 lx60 lx80 1 = (F_Mil_mixBits x2 R R2 t0_0 t0_1 t1_0 t2_0 t2_1 t3_0 t4_0 t4_1 t5_0) from Eq.trans (by rw [F_Mil_mixBits_J64.eq_1, if_neg c259]) hR90)⟩
      ·
        intro J87
        refine lv_icmp_ne (tgt := 63) hx hb d_8_11_56 (by decide) (fun c262 => ?_) (fun c262 => ?_)
        ·
          have b263 : q_F (a77.toInt ≠ 1) := (q_neI c262)
          refine lv_iconst (v := 0) hx hb d_8_11_63 (by decide) ?_
          exact J87 ((0 : Int32)) _ _ _ ws ⟨(show q_F (0 ≤ 0) from (show 0 ≤ 0 from by omega)), (show q_F (0 ≤ 1) from (show 0 ≤ 1 from by omega)), V, q_lw hl (q_lw1 0 rfl (q_lw1 1 rfl (q_lw1 2 rfl (q_lw1 3 rfl (q_lw1 4 rfl (q_lw1 5 rfl (q_lw1 6 rfl q_lw0))))))), (show F_Mil_mixBits_J64 x2 R R2 t0_0 t0_1 t1_0 t2_0 t2_1 t3_0 t4_0 t4_1 t5_0 a40 a33 a28 lx45 lx60 0 = (F_Mil_mixBits x2 R R2 t0_0 t0_1 t1_0 t2_0 t2_1 t3_0 t4_0 t4_1 t5_0) from Eq.trans (by have c262x := c262; rw [e79] at c262x; rw [F_Mil_mixBits_J52.eq_1, if_neg c262x]) hR70)⟩
        ·
          have b264 : q_F (a77.toInt = 1) := (q_eqI c262)
          refine lv_iconst (v := 1) hx hb d_8_11_59 (by decide) ?_
          refine lv_goto (tgt := 64) hx hb d_8_11_60 (by decide) ?_
          exact J87 ((1 : Int32)) _ _ _ ws ⟨(show q_F (0 ≤ 1) from (show 0 ≤ 1 from by omega)), (show q_F (1 ≤ 1) from (show 1 ≤ 1 from by omega)), V, q_lw hl (q_lw1 0 rfl (q_lw1 1 rfl (q_lw1 2 rfl (q_lw1 3 rfl (q_lw1 4 rfl (q_lw1 5 rfl (q_lw1 6 rfl q_lw0))))))), (show F_Mil_mixBits_J64 x2 R R2 t0_0 t0_1 t1_0 t2_0 t2_1 t3_0 t4_0 t4_1 t5_0 a40 a33 a28 lx45 lx60 1 = (F_Mil_mixBits x2 R R2 t0_0 t0_1 t1_0 t2_0 t2_1 t3_0 t4_0 t4_1 t5_0) from Eq.trans (by have c262x := c262; rw [e79] at c262x; rw [F_Mil_mixBits_J52.eq_1, if_pos c262x]) hR70)⟩
    ·
      intro J67
      refine lv_if_eq (tgt := 51) hx hb d_8_11_44 (by decide) (fun c265 => ?_) (fun c265 => ?_)
      ·
        have b266 : q_F (t4_1.toInt = 0) := (q_eqI c265)
        refine lv_iconst (v := 0) hx hb d_8_11_51 (by decide) ?_
        exact J67 ((0 : Int32)) _ _ _ ws ⟨(show q_F (t4_1.toInt ≤ 0) from (show t4_1.toInt ≤ 0 from by have t1 : t4_1.toInt = 0 := b266; omega)), (show q_F (0 ≤ t4_1.toInt) from (show 0 ≤ t4_1.toInt from by have t1 : 0 ≤ t4_1.toInt ∧ t4_1.toInt ≤ 1 := btt4_1; omega)), V, q_lw hl (q_lw1 0 rfl (q_lw1 1 rfl (q_lw1 2 rfl (q_lw1 3 rfl (q_lw1 4 rfl (q_lw1 5 rfl (q_lw1 6 rfl q_lw0))))))), (show F_Mil_mixBits_J52 x2 R R2 t0_0 t0_1 t1_0 t2_0 t2_1 t3_0 t4_0 t4_1 t5_0 a40 a33 a28 lx45 0 = (F_Mil_mixBits x2 R R2 t0_0 t0_1 t1_0 t2_0 t2_1 t3_0 t4_0 t4_1 t5_0) from Eq.trans (by rw [F_Mil_mixBits_J40.eq_1, if_pos c265]) hR55)⟩
      ·
        have b267 : q_F (t4_1.toInt ≠ 0) := (q_neI c265)
        refine lv_iconst (v := 1) hx hb d_8_11_47 (by decide) ?_
        refine lv_goto (tgt := 52) hx hb d_8_11_48 (by decide) ?_
        exact J67 ((1 : Int32)) _ _ _ ws ⟨(show q_F (t4_1.toInt ≤ 1) from (show t4_1.toInt ≤ 1 from by have t1 : 0 ≤ t4_1.toInt ∧ t4_1.toInt ≤ 1 := btt4_1; omega)), (show q_F (1 ≤ t4_1.toInt) from (show 1 ≤ t4_1.toInt from by have t1 : 0 ≤ t4_1.toInt ∧ t4_1.toInt ≤ 1 := btt4_1; have t2 : t4_1.toInt ≠ 0 := b267; omega)), V, q_lw hl (q_lw1 0 rfl (q_lw1 1 rfl (q_lw1 2 rfl (q_lw1 3 rfl (q_lw1 4 rfl (q_lw1 5 rfl (q_lw1 6 rfl q_lw0))))))), (show F_Mil_mixBits_J52 x2 R R2 t0_0 t0_1 t1_0 t2_0 t2_1 t3_0 t4_0 t4_1 t5_0 a40 a33 a28 lx45 1 = (F_Mil_mixBits x2 R R2 t0_0 t0_1 t1_0 t2_0 t2_1 t3_0 t4_0 t4_1 t5_0) from Eq.trans (by rw [F_Mil_mixBits_J40.eq_1, if_neg c265]) hR55)⟩
  ·
    intro J52
    refine lv_if_eq (tgt := 39) hx hb d_8_11_32 (by decide) (fun c268 => ?_) (fun c268 => ?_)
    ·
      have b269 : q_F (t2_1.toInt = 0) := (q_eqI c268)
      refine lv_iconst (v := 0) hx hb d_8_11_39 (by decide) ?_
      exact J52 ((0 : Int32)) _ _ _ ws ⟨(show q_F (t2_1.toInt ≤ 0) from (show t2_1.toInt ≤ 0 from by have t1 : t2_1.toInt = 0 := b269; omega)), (show q_F (0 ≤ t2_1.toInt) from (show 0 ≤ t2_1.toInt from by have t1 : 0 ≤ t2_1.toInt ∧ t2_1.toInt ≤ 1 := btt2_1; omega)), V, q_lw hl (q_lw1 0 rfl (q_lw1 1 rfl (q_lw1 2 rfl (q_lw1 3 rfl (q_lw1 4 rfl (q_lw1 5 rfl (q_lw1 6 rfl q_lw0))))))), (show F_Mil_mixBits_J40 x2 R R2 t0_0 t0_1 t1_0 t2_0 t2_1 t3_0 t4_0 t4_1 t5_0 a40 a33 a28 0 = (F_Mil_mixBits x2 R R2 t0_0 t0_1 t1_0 t2_0 t2_1 t3_0 t4_0 t4_1 t5_0) from (by rw [e44, e37, ← e29, ← e26, F_Mil_mixBits.eq_1, if_pos c268]))⟩
    ·
      have b270 : q_F (t2_1.toInt ≠ 0) := (q_neI c268)
      refine lv_iconst (v := 1) hx hb d_8_11_35 (by decide) ?_
      refine lv_goto (tgt := 40) hx hb d_8_11_36 (by decide) ?_
      exact J52 ((1 : Int32)) _ _ _ ws ⟨(show q_F (t2_1.toInt ≤ 1) from (show t2_1.toInt ≤ 1 from by have t1 : 0 ≤ t2_1.toInt ∧ t2_1.toInt ≤ 1 := btt2_1; omega)), (show q_F (1 ≤ t2_1.toInt) from (show 1 ≤ t2_1.toInt from by have t1 : 0 ≤ t2_1.toInt ∧ t2_1.toInt ≤ 1 := btt2_1; have t2 : t2_1.toInt ≠ 0 := b270; omega)), V, q_lw hl (q_lw1 0 rfl (q_lw1 1 rfl (q_lw1 2 rfl (q_lw1 3 rfl (q_lw1 4 rfl (q_lw1 5 rfl (q_lw1 6 rfl q_lw0))))))), (show F_Mil_mixBits_J40 x2 R R2 t0_0 t0_1 t1_0 t2_0 t2_1 t3_0 t4_0 t4_1 t5_0 a40 a33 a28 1 = (F_Mil_mixBits x2 R R2 t0_0 t0_1 t1_0 t2_0 t2_1 t3_0 t4_0 t4_1 t5_0) from (by rw [e44, e37, ← e29, ← e26, F_Mil_mixBits.eq_1, if_neg c268]))⟩
def F_Mil_countFigures_c69 (K_F_Mil_countFigures_L46 : Int32 → Int32 → Int32 → Int32 → (Nat → Int32) → (Int32 × Int32 × Int32 × (Nat → Int32))) (R : Int32) (t0_0 : Int32) (t0_1 : Int32) (t1_0 : (Nat → Int32)) (t2_0 : Int32) (t2_1 : Int32) (t3_0 : (Nat → Int32)) (a40 : Int32) (p57 : (Int32 × Int32 × (Nat → Int32))) (p80 : (Int32 × Int32 × (Nat → Int32))) (lx92 : Int32) (lx93 : Int32) (lx94 : Int32) (lx95 : Int32) (lx96 : (Nat → Int32)) (p143 : (Int32 × Int32 × (Nat → Int32))) : Int32 × Int32 × Int32 × (Nat → Int32) := K_F_Mil_countFigures_L46 (lx92 + 1 : Int32) (lx93 + 1 : Int32) (p143.1 : Int32) (p143.2.1 : Int32) (p143.2.2 : (Nat → Int32))
def F_Mil_countFigures_L46 (R : Int32) (t0_0 : Int32) (t0_1 : Int32) (t1_0 : (Nat → Int32)) (t2_0 : Int32) (t2_1 : Int32) (t3_0 : (Nat → Int32)) (a40 : Int32) (p57 : (Int32 × Int32 × (Nat → Int32))) (p80 : (Int32 × Int32 × (Nat → Int32))) : Nat → Int32 → Int32 → Int32 → Int32 → (Nat → Int32) → (Int32 × Int32 × Int32 × (Nat → Int32))
  | 0, _, _, _, _, _ => default
  | fm + 1, lx92, lx93, lx94, lx95, lx96 => if (3 : Int32) ≤ lx92 then ((lx93, lx94, lx95, lx96)) else (if ((F_Big_compareSize R (220 : Int32) t2_0 t2_1 t3_0 lx94 lx95 lx96) : Int32) < (0 : Int32) then ((lx93, lx94, lx95, lx96)) else (F_Mil_countFigures_c69 (F_Mil_countFigures_L46 R t0_0 t0_1 t1_0 t2_0 t2_1 t3_0 a40 p57 p80 fm) R t0_0 t0_1 t1_0 t2_0 t2_1 t3_0 a40 p57 p80 lx92 lx93 lx94 lx95 lx96 ((F_Big_multiplySmall (220 : Int32) (10 : Int32) (0 : Int32) lx94 lx95 lx96) : (Int32 × Int32 × (Nat → Int32)))))
def F_Mil_countFigures_c41 (R : Int32) (t0_0 : Int32) (t0_1 : Int32) (t1_0 : (Nat → Int32)) (t2_0 : Int32) (t2_1 : Int32) (t3_0 : (Nat → Int32)) (a40 : Int32) (p57 : (Int32 × Int32 × (Nat → Int32))) (p80 : (Int32 × Int32 × (Nat → Int32))) : Int32 × Int32 × Int32 × (Nat → Int32) := F_Mil_countFigures_L46 R t0_0 t0_1 t1_0 t2_0 t2_1 t3_0 a40 p57 p80 ((3 - (0 : Int32).toInt).toNat + 1) 0 a40 (p80.1 : Int32) (p80.2.1 : Int32) (p80.2.2 : (Nat → Int32))
def F_Mil_countFigures_c33 (R : Int32) (t0_0 : Int32) (t0_1 : Int32) (t1_0 : (Nat → Int32)) (t2_0 : Int32) (t2_1 : Int32) (t3_0 : (Nat → Int32)) (a40 : Int32) (p57 : (Int32 × Int32 × (Nat → Int32))) : Int32 × Int32 × Int32 × (Nat → Int32) := F_Mil_countFigures_c41 R t0_0 t0_1 t1_0 t2_0 t2_1 t3_0 a40 p57 ((F_Big_timesTen (220 : Int32) a40 (p57.1 : Int32) (p57.2.1 : Int32) (p57.2.2 : (Nat → Int32))) : (Int32 × Int32 × (Nat → Int32)))
def F_Mil_countFigures (R : Int32) (t0_0 : Int32) (t0_1 : Int32) (t1_0 : (Nat → Int32)) (t2_0 : Int32) (t2_1 : Int32) (t3_0 : (Nat → Int32)) : Int32 × Int32 × Int32 × (Nat → Int32) := if t2_0 = (0 : Int32) then (((1 : Int32), t0_0, t0_1, t1_0)) else (F_Mil_countFigures_c33 R t0_0 t0_1 t1_0 t2_0 t2_1 t3_0 ((((((((F_Big_bitLength R t2_0 t2_1 t3_0) : Int32) - 1 : Int32).toInt64 : Int64) * 301029995 : Int64) / 1000000000 : Int64).toInt32 : Int32) + 1 : Int32) ((F_Big_setLong (220 : Int32) (1 : Int64) t0_0 t0_1 t1_0) : (Int32 × Int32 × (Nat → Int32))))
set_option maxRecDepth 100000 in
set_option maxHeartbeats 4000000 in
theorem X_Mil_countFigures (l : Launch) (D : va_G) (g : Nat → ClassId) (q : Nat → Nat) (ws : va_W) (k2 : Nat) (R : Int32) (hB2 : q_isBig (nsh g q) g q k2 R) (zk2 : (10 ≤ k2 ∧ k2 ≤ 32) ∨ 66 ≤ k2) (ne_k2_20 : k2 ≠ 20) (ne_k2_21 : k2 ≠ 21) (ne_k2_19 : k2 ≠ 19) (hI : q_I (nsh g q) q ws) (t0_0 : Int32) (t0_1 : Int32) (hT0 : ws[20]? = (some (q 20, .inr (2, [.ref (q 21), .int t0_0, .int t0_1])) : Option (Nat × va_E))) (t1_0 : (Nat → Int32)) (hT1 : ws[21]? = (some (q 21, .inl (g 0, (220 : Int32).toNatClampNeg, .inl t1_0)) : Option (Nat × va_E))) (t2_0 : Int32) (t2_1 : Int32) (hT2 : ws[k2]? = (some (q k2, .inr (2, [.ref (q (k2 + 1)), .int t2_0, .int t2_1])) : Option (Nat × va_E))) (t3_0 : (Nat → Int32)) (hT3 : ws[k2 + 1]? = (some (q (k2 + 1), .inl (g 0, R.toNatClampNeg, .inl t3_0)) : Option (Nat × va_E))) : q_mI l y_Mil_countFigures prog_8_method_13_code 4 (.int) 4 0 0 D g [.ref (q 9), .ref (q k2)] ws (fun r u => q_I (nsh g q) q u ∧ q_un ws u [20, 21] ∧ ∃ (u0_0 : Int32) (u0_1 : Int32) (u1_0 : (Nat → Int32)), u[20]? = (some (q 20, .inr (2, [.ref (q 21), .int u0_0, .int u0_1])) : Option (Nat × va_E)) ∧ u[21]? = (some (q 21, .inl (g 0, (220 : Int32).toNatClampNeg, .inl u1_0)) : Option (Nat × va_E)) ∧ (0 ≤ u0_0.toInt) ∧ (u0_0.toInt ≤ 220) ∧ (0 ≤ u0_1.toInt) ∧ (u0_1.toInt ≤ 1) ∧ (r, u0_0, u0_1, u1_0) = (F_Mil_countFigures R t0_0 t0_1 t1_0 t2_0 t2_1 t3_0)) := by
  intro sz
  refine q_into (by decide) (Nat.le_of_ble_eq_true rfl) ?_
  intro p e s m below meth c ls hsz C0 V hl
  have hx := C0.1
  have hb := C0.2.1
  have hfk20 : q_F (0 ≤ R.toInt ∧ R.toInt ≤ 220) := hB2.2.2
  obtain ⟨yy0_0, yy0_1, hh0, btt0_0, btt0_1⟩ := q_bigO hI (n_b20 g q)
  obtain ⟨rfl, rfl⟩ : t0_0 = yy0_0 ∧ t0_1 = yy0_1 := by have z := Option.some.inj (hT0.symm.trans hh0); simpa using z
  replace btt0_0 : q_F (0 ≤ t0_0.toInt ∧ t0_0.toInt ≤ 220) := btt0_0
  replace btt0_1 : q_F (0 ≤ t0_1.toInt ∧ t0_1.toInt ≤ 1) := btt0_1
  obtain ⟨yy2_0, yy2_1, hh2, btt2_0, btt2_1⟩ := q_bigO hI hB2
  obtain ⟨rfl, rfl⟩ : t2_0 = yy2_0 ∧ t2_1 = yy2_1 := by have z := Option.some.inj (hT2.symm.trans hh2); simpa using z
  replace btt2_0 : q_F (0 ≤ t2_0.toInt ∧ t2_0.toInt ≤ R.toInt) := btt2_0
  replace btt2_1 : q_F (0 ≤ t2_1.toInt ∧ t2_1.toInt ≤ 1) := btt2_1
  have hF : q_un ws ws [20, 21] := q_u0
  have hl : lv_has ls 4 [(0, .ref (q 9)), (1, .ref (q k2))] := hl
  refine lv_aload_n hx hb d_8_13_0 rfl (lv_at hl 1 rfl) ?_
  refine q_get (ci := 2) (j := 1) (v := .int t2_0) C0 V i_Big rfl rfl hT2 (by decide) w_89 rfl d_8_13_1 ?_
  refine lv_if_ne (tgt := 9) hx hb d_8_13_4 (by decide) (fun c17 => ?_) (fun c17 => ?_)
  ·
    have b18 : q_F (t2_0.toInt ≠ 0) := (q_neI c17)
    refine lv_aload_n hx hb d_8_13_9 rfl (lv_at hl 1 rfl) ?_
    refine q_goi V (q_runV (As := []) (rest := []) (d := 3) (mc := 0) (ms := 0) (ci := 2) C0 V rfl LV_Mil_85 (X_Big_bitLength l D g q ws k2 R hB2 zk2  hI t2_0 t2_1 hT2 t3_0 hT3  _) rfl rfl hT2 rfl hl.1 rfl (Nat.le_of_ble_eq_true rfl) ⟨by decide, by decide⟩ ⟨Nat.le_of_ble_eq_true rfl, Nat.le_of_ble_eq_true rfl⟩ d_8_13_10) (fun a21 u19 H locs hp20 V => ?_)
    obtain ⟨rfl, b22, b23, b24, hE25⟩ := hp20
    have e26 : a21 = (F_Big_bitLength R t2_0 t2_1 t3_0) := hE25
    replace b22 : q_F (0 ≤ a21.toInt) := b22
    replace b23 : q_F (t2_0.toInt ≤ a21.toInt + 1) := b23
    replace b24 : q_F (a21.toInt ≤ t2_0.toInt + 6632) := b24
    refine lv_iconst (v := 1) hx hb d_8_13_13 (by decide) ?_
    refine lv_isub hx hb d_8_13_14 ?_
    obtain ⟨a27, e28⟩ := q_nm (a21 - 1 : Int32)
    refine q_ti (v := a27) e28 ?_
    have b29 : q_F (a27.toInt = a21.toInt - 1) := (by rw [← e28]; show (a21 - 1 : Int32).toInt = a21.toInt - 1; exact q_subI (x := a21.toInt) (y := 1) rfl (by decide) (by have t1 : 0 ≤ a21.toInt := b22; have _ := q_lo32 (x := a21); have _ := q_hi32 (x := a21); omega) (by have t1 : 0 ≤ a21.toInt := b22; have _ := q_lo32 (x := a21); have _ := q_hi32 (x := a21); omega))
    refine lv_i2l hx hb d_8_13_15 rfl ?_
    obtain ⟨j30, e31⟩ := q_nm (a27.toInt64 : Int64)
    refine q_tl (v := j30) e31 ?_
    have b32 : q_F (j30.toInt = a27.toInt) := (by rw [← e31]; show (a27.toInt64 : Int64).toInt = a27.toInt; exact q_i2l rfl)
    refine q_ldc2 C0 rfl w_764 d_8_13_16 ?_
    refine lv_lmul hx hb d_8_13_19 ?_
    obtain ⟨j33, e34⟩ := q_nm (j30 * 301029995 : Int64)
    refine q_tl (v := j33) e34 ?_
    have b35 : q_F (j33.toInt = j30.toInt * 301029995) := (by rw [← e34]; show (j30 * 301029995 : Int64).toInt = j30.toInt * 301029995; exact q_mulL (x := j30.toInt) (y := 301029995) rfl (by decide) (by have t1 : j30.toInt = a27.toInt := b32; have _ := q_lo32 (x := a27); have _ := q_hi32 (x := a27); omega) (by have t1 : j30.toInt = a27.toInt := b32; have _ := q_lo32 (x := a27); have _ := q_hi32 (x := a27); omega))
    refine q_ldc2 C0 rfl w_765 d_8_13_20 ?_
    refine lv_ldiv hx hb d_8_13_23 (by decide) ?_
    obtain ⟨j36, e37⟩ := q_nm (j33 / 1000000000 : Int64)
    refine q_tl (v := j36) e37 ?_
    refine lv_l2i hx hb d_8_13_24 rfl ?_
    obtain ⟨a38, e39⟩ := q_nm (j36.toInt32 : Int32)
    refine q_ti (v := a38) e39 ?_
    refine lv_iconst (v := 1) hx hb d_8_13_25 (by decide) ?_
    refine lv_iadd hx hb d_8_13_26 ?_
    obtain ⟨a40, e41⟩ := q_nm (a38 + 1 : Int32)
    refine q_ti (v := a40) e41 ?_
    refine lv_istore_n (lv' := [(2, .int a40), (0, .ref (q 9)), (1, .ref (q k2))]) hx hb d_8_13_27 rfl hl (by decide) rfl (fun ls hl => ?_)
    refine lv_aload_n hx hb d_8_13_28 rfl (lv_at hl 1 rfl) ?_
    have hO42 := n_o9 hI
    refine q_get (ci := 4) (j := 5) (v := .ref (q 20)) C0 V i_Mil rfl rfl hO42 (by decide) w_124 rfl d_8_13_29 ?_
    refine lv_lconst (v := 1) hx hb d_8_13_32 (by decide) ?_
    refine q_gov V (q_runV (As := [.long 1]) (rest := []) (d := 2) (mc := 0) (ms := 0) (ci := 2) C0 V rfl LV_Mil_77 (X_Big_setLong l D g q ws 20 220 (n_b20 g q) (by decide) 1 hI t0_0 t0_1 hT0 t1_0 hT1  _) rfl rfl hT0 rfl hl.1 rfl (Nat.le_of_ble_eq_true rfl) ⟨by decide, by decide⟩ ⟨Nat.le_of_ble_eq_true rfl, Nat.le_of_ble_eq_true rfl⟩ d_8_13_33) (fun u43 H locs hp44 V => ?_)
    obtain ⟨hI, hu56, y46, y47, f48, hO45, hA49, b50, b51, b52, b53, b54, hE55⟩ := hp44
    replace hO45 : u43[20]? = (some (q 20, .inr (2, [.ref (q 21), .int y46, .int y47])) : Option (Nat × va_E)) := hO45
    replace hA49 : u43[21]? = (some (q 21, .inl (g 0, (220 : Int32).toNatClampNeg, .inl f48)) : Option (Nat × va_E)) := hA49
    obtain ⟨p57, e58⟩ : ∃ z, z = (F_Big_setLong (220 : Int32) (1 : Int64) t0_0 t0_1 t1_0) := ⟨_, rfl⟩
    have e59 : y46 = p57.1 := congrArg (fun z => z.1) (hE55.trans e58.symm)
    have e60 : y47 = p57.2.1 := congrArg (fun z => z.2.1) (hE55.trans e58.symm)
    have e61 : f48 = p57.2.2 := congrArg (fun z => z.2.2) (hE55.trans e58.symm)
    replace b50 : q_F (0 ≤ y46.toInt) := b50
    replace b51 : q_F (y46.toInt ≤ 3) := b51
    replace b52 : q_F (0 ≤ y47.toInt) := b52
    replace b53 : q_F (y47.toInt ≤ 1) := b53
    replace b54 : q_F (y46.toInt ≤ 220) := b54
    replace hT2 := (hu56 _ (by have z0 := zk2; simp only [List.mem_cons, List.not_mem_nil, or_false, not_or]; omega)).trans hT2
    replace hT3 := (hu56 _ (by have z0 := zk2; simp only [List.mem_cons, List.not_mem_nil, or_false, not_or]; omega)).trans hT3
    replace hO42 := (hu56 _ (by decide)).trans hO42
    replace hF := q_uc hF hu56 (by simp)
    have hR62 := (show F_Mil_countFigures_c33 R t0_0 t0_1 t1_0 t2_0 t2_1 t3_0 a40 p57 = (F_Mil_countFigures R t0_0 t0_1 t1_0 t2_0 t2_1 t3_0) from (by rw [e58, ← e41, ← e39, ← e37, ← e34, ← e31, ← e28, e26, F_Mil_countFigures.eq_1, if_neg c17]))
    refine lv_aload_n hx hb d_8_13_36 rfl (lv_at hl 1 rfl) ?_
    refine q_get (ci := 4) (j := 5) (v := .ref (q 20)) C0 V i_Mil rfl rfl hO42 (by decide) w_124 rfl d_8_13_37 ?_
    refine lv_iload_n hx hb d_8_13_40 rfl (lv_at hl 0 rfl) ?_
    refine q_gov V (q_runV (As := [.int a40]) (rest := []) (d := 2) (mc := 0) (ms := 0) (ci := 2) C0 V rfl LV_Mil_149 (X_Big_timesTen l D g q u43 20 220 (n_b20 g q) (by decide) a40 hI y46 y47 hO45 f48 hA49  _) rfl rfl hO45 rfl hl.1 rfl (Nat.le_of_ble_eq_true rfl) ⟨by decide, by decide⟩ ⟨Nat.le_of_ble_eq_true rfl, Nat.le_of_ble_eq_true rfl⟩ d_8_13_41) (fun u67 H locs hp68 V => ?_)
    obtain ⟨hI, hu79, y70, y71, f72, hO69, hA73, b74, b75, b76, b77, hE78⟩ := hp68
    replace hO69 : u67[20]? = (some (q 20, .inr (2, [.ref (q 21), .int y70, .int y71])) : Option (Nat × va_E)) := hO69
    replace hA73 : u67[21]? = (some (q 21, .inl (g 0, (220 : Int32).toNatClampNeg, .inl f72)) : Option (Nat × va_E)) := hA73
    obtain ⟨p80, e81⟩ : ∃ z, z = (F_Big_timesTen (220 : Int32) a40 y46 y47 f48) := ⟨_, rfl⟩
    have e82 : y70 = p80.1 := congrArg (fun z => z.1) (hE78.trans e81.symm)
    have e83 : y71 = p80.2.1 := congrArg (fun z => z.2.1) (hE78.trans e81.symm)
    have e84 : f72 = p80.2.2 := congrArg (fun z => z.2.2) (hE78.trans e81.symm)
    replace b74 : q_F (y46.toInt ≤ y70.toInt) := b74
    replace b75 : q_F (y70.toInt ≤ 220) := b75
    replace b76 : q_F (y47.toInt ≤ y71.toInt) := b76
    replace b77 : q_F (y71.toInt ≤ y47.toInt) := b77
    replace hT2 := (hu79 _ (by have z0 := zk2; simp only [List.mem_cons, List.not_mem_nil, or_false, not_or]; omega)).trans hT2
    replace hT3 := (hu79 _ (by have z0 := zk2; simp only [List.mem_cons, List.not_mem_nil, or_false, not_or]; omega)).trans hT3
    replace hO42 := (hu79 _ (by decide)).trans hO42
    replace hF := q_uc hF hu79 (by simp)
    have hR85 := (show F_Mil_countFigures_c41 R t0_0 t0_1 t1_0 t2_0 t2_1 t3_0 a40 p57 p80 = (F_Mil_countFigures R t0_0 t0_1 t1_0 t2_0 t2_1 t3_0) from Eq.trans (by rw [e81, e61, e60, e59, F_Mil_countFigures_c33.eq_1]) hR62)
    refine lv_iconst (v := 0) hx hb d_8_13_44 (by decide) ?_
    refine lv_istore_n (lv' := [(3, .int 0), (2, .int a40), (0, .ref (q 9)), (1, .ref (q k2))]) hx hb d_8_13_45 rfl hl (by decide) rfl (fun ls hl => ?_)
    refine q_loop (X := Int32 × Int32 × Int32 × Int32 × (Nat → Int32)) (fun z H locs ls w105 => q_F (z.1.toInt ≤ 3) ∧ q_F (y71.toInt ≤ z.2.2.2.1.toInt) ∧ q_F (z.2.2.2.1.toInt ≤ y71.toInt) ∧ q_F (z.2.2.1.toInt ≤ z.2.2.2.1.toInt + 220) ∧ q_F (z.2.2.1.toInt + z.2.2.2.1.toInt ≤ 221) ∧ q_F (z.2.2.1.toInt ≤ z.1.toInt + y70.toInt) ∧ q_F (z.2.2.2.1.toInt + y70.toInt ≤ z.2.2.1.toInt + y71.toInt) ∧ q_Wd D g (va_A ws sz) s w105 H locs ∧ lv_has ls 4 [(3, .int z.1), (2, .int z.2.1), (0, .ref (q 9)), (1, .ref (q k2))] ∧ q_I (nsh g q) q w105 ∧ q_un ws w105 [20, 21] ∧ w105[20]? = (some (q 20, .inr (2, [.ref (q 21), .int z.2.2.1, .int z.2.2.2.1])) : Option (Nat × va_E)) ∧ w105[21]? = (some (q 21, .inl (g 0, (220 : Int32).toNatClampNeg, .inl z.2.2.2.2)) : Option (Nat × va_E)) ∧ w105[k2]? = (some (q k2, .inr (2, [.ref (q (k2 + 1)), .int t2_0, .int t2_1])) : Option (Nat × va_E)) ∧ w105[k2 + 1]? = (some (q (k2 + 1), .inl (g 0, R.toNatClampNeg, .inl t3_0)) : Option (Nat × va_E)) ∧ (∃ n, (3 - z.1.toInt).toNat < n ∧ F_Mil_countFigures_L46 R t0_0 t0_1 t1_0 t2_0 t2_1 t3_0 a40 p57 p80 n z.1 z.2.1 z.2.2.1 z.2.2.2.1 z.2.2.2.2 = (F_Mil_countFigures R t0_0 t0_1 t1_0 t2_0 t2_1 t3_0))) (fun z => (3 - z.1.toInt).toNat) ?_ ((0 : Int32), (a40 : Int32), (y70 : Int32), (y71 : Int32), (f72 : (Nat → Int32))) _ _ _ u67 ⟨(show q_F (0 ≤ 3) from (show 0 ≤ 3 from by omega)), (show q_F (y71.toInt ≤ y71.toInt) from (show y71.toInt ≤ y71.toInt from by omega)), (show q_F (y71.toInt ≤ y71.toInt) from (show y71.toInt ≤ y71.toInt from by omega)), (show q_F (y70.toInt ≤ y71.toInt + 220) from (show y70.toInt ≤ y71.toInt + 220 from by have t1 : 0 ≤ y47.toInt := b52; have t2 : y70.toInt ≤ 220 := b75; have t3 : y47.toInt ≤ y71.toInt := b76; omega)), (show q_F (y70.toInt + y71.toInt ≤ 221) from (show y70.toInt + y71.toInt ≤ 221 from by have t1 : y47.toInt ≤ 1 := b53; have t2 : y70.toInt ≤ 220 := b75; have t3 : y71.toInt ≤ y47.toInt := b77; omega)), (show q_F (y70.toInt ≤ 0 + y70.toInt) from (show y70.toInt ≤ 0 + y70.toInt from by omega)), (show q_F (y71.toInt + y70.toInt ≤ y70.toInt + y71.toInt) from (show y71.toInt + y70.toInt ≤ y70.toInt + y71.toInt from by omega)), V, q_lw hl (q_lw1 0 rfl (q_lw1 1 rfl (q_lw1 2 rfl (q_lw1 3 rfl q_lw0)))), hI, hF, hO69, hA73, hT2, hT3, ⟨((3 - (0 : Int32).toInt).toNat + 1), Nat.lt_succ_self _, (show F_Mil_countFigures_L46 R t0_0 t0_1 t1_0 t2_0 t2_1 t3_0 a40 p57 p80 ((3 - (0 : Int32).toInt).toNat + 1) 0 a40 y70 y71 f72 = (F_Mil_countFigures R t0_0 t0_1 t1_0 t2_0 t2_1 t3_0) from Eq.trans (by rw [e84, e83, e82, F_Mil_countFigures_c41.eq_1]) hR85)⟩⟩
    rintro ⟨lx92, lx93, lx94, lx95, lx96⟩ H locs ls w105 ⟨i97, i98, i99, i100, i101, i102, i103, V, hl, hI, hF, hO106, hO107, hO108, hO109, ⟨fu112, hf113, hR110⟩⟩ ih104
    obtain ⟨fm114, rfl⟩ : ∃ m, fu112 = m + 1 := ⟨fu112 - 1, by omega⟩
    replace i97 : q_F (lx92.toInt ≤ 3) := i97
    replace i98 : q_F (y71.toInt ≤ lx95.toInt) := i98
    replace i99 : q_F (lx95.toInt ≤ y71.toInt) := i99
    replace i100 : q_F (lx94.toInt ≤ lx95.toInt + 220) := i100
    replace i101 : q_F (lx94.toInt + lx95.toInt ≤ 221) := i101
    replace i102 : q_F (lx94.toInt ≤ lx92.toInt + y70.toInt) := i102
    replace i103 : q_F (lx95.toInt + y70.toInt ≤ lx94.toInt + y71.toInt) := i103
    replace hl : lv_has ls 4 [(3, .int lx92), (2, .int lx93), (0, .ref (q 9)), (1, .ref (q k2))] := hl
    replace hO106 : w105[20]? = (some (q 20, .inr (2, [.ref (q 21), .int lx94, .int lx95])) : Option (Nat × va_E)) := hO106
    replace hO107 : w105[21]? = (some (q 21, .inl (g 0, (220 : Int32).toNatClampNeg, .inl lx96)) : Option (Nat × va_E)) := hO107
    replace hO108 : w105[k2]? = (some (q k2, .inr (2, [.ref (q (k2 + 1)), .int t2_0, .int t2_1])) : Option (Nat × va_E)) := hO108
    replace hO109 : w105[k2 + 1]? = (some (q (k2 + 1), .inl (g 0, R.toNatClampNeg, .inl t3_0)) : Option (Nat × va_E)) := hO109
    refine lv_iload_n hx hb d_8_13_46 rfl (lv_at hl 0 rfl) ?_
    refine lv_iconst (v := 3) hx hb d_8_13_47 (by decide) ?_
    refine lv_icmp_ge (tgt := 81) hx hb d_8_13_48 (by decide) (fun c115 => ?_) (fun c115 => ?_)
    ·
      have b116 : q_F (3 ≤ lx92.toInt) := (q_leI c115)
      refine lv_iload_n hx hb d_8_13_81 rfl (lv_at hl 1 rfl) ?_
      exact q_reti C0 V (⟨hI, hF, lx94, lx95, lx96, hO106, hO107, (show 0 ≤ lx94.toInt from (by have t1 : 0 ≤ y46.toInt := b50; have t2 : y46.toInt ≤ y70.toInt := b74; have t3 : y71.toInt ≤ lx95.toInt := i98; have t4 : lx95.toInt + y70.toInt ≤ lx94.toInt + y71.toInt := i103; omega)), (show lx94.toInt ≤ 220 from (by have t1 : lx94.toInt ≤ lx95.toInt + 220 := i100; have t2 : lx94.toInt + lx95.toInt ≤ 221 := i101; omega)), (show 0 ≤ lx95.toInt from (by have t1 : 0 ≤ y47.toInt := b52; have t2 : y47.toInt ≤ y71.toInt := b76; have t3 : y71.toInt ≤ lx95.toInt := i98; omega)), (show lx95.toInt ≤ 1 from (by have t1 : y47.toInt ≤ 1 := b53; have t2 : y71.toInt ≤ y47.toInt := b77; have t3 : lx95.toInt ≤ y71.toInt := i99; omega)), (show (lx93, lx94, lx95, lx96) = (F_Mil_countFigures R t0_0 t0_1 t1_0 t2_0 t2_1 t3_0) from Eq.trans (by rw [F_Mil_countFigures_L46.eq_2, if_pos c115]) hR110)⟩) d_8_13_82
    ·
      have b117 : q_F (lx92.toInt < 3) := (q_nleI c115)
      refine lv_aload_n hx hb d_8_13_51 rfl (lv_at hl 3 rfl) ?_
      refine lv_aload_n hx hb d_8_13_52 rfl (lv_at hl 2 rfl) ?_
      have hO118 := n_o9 hI
      refine q_get (ci := 4) (j := 5) (v := .ref (q 20)) C0 V i_Mil rfl rfl hO118 (by decide) w_124 rfl d_8_13_53 ?_
      refine q_goi V (q_runV (As := [.ref (q 20)]) (rest := []) (d := 2) (mc := 0) (ms := 0) (ci := 2) C0 V rfl LV_Mil_112 (X_Big_compareSize l D g q w105 k2 R hB2 zk2 20 220 (n_b20 g q) (by decide)  hI t2_0 t2_1 hO108 t3_0 hO109 lx94 lx95 hO106 lx96 hO107  _) rfl rfl hO108 rfl hl.1 rfl (Nat.le_of_ble_eq_true rfl) ⟨by decide, by decide⟩ ⟨Nat.le_of_ble_eq_true rfl, Nat.le_of_ble_eq_true rfl⟩ d_8_13_56) (fun a121 u119 H locs hp120 V => ?_)
      obtain ⟨rfl, b122, b123, hE124⟩ := hp120
      have e125 : a121 = (F_Big_compareSize R (220 : Int32) t2_0 t2_1 t3_0 lx94 lx95 lx96) := hE124
      replace b122 : q_F (0 ≤ a121.toInt + 1) := b122
      replace b123 : q_F (a121.toInt ≤ 1) := b123
      refine lv_if_lt (tgt := 81) hx hb d_8_13_59 (by decide) (fun c126 => ?_) (fun c126 => ?_)
      ·
        have b127 : q_F (a121.toInt < 0) := (q_ltI c126)
        refine lv_iload_n hx hb d_8_13_81 rfl (lv_at hl 1 rfl) ?_
        exact q_reti C0 V (⟨hI, hF, lx94, lx95, lx96, hO106, hO107, (show 0 ≤ lx94.toInt from (by have t1 : 0 ≤ y46.toInt := b50; have t2 : y46.toInt ≤ y70.toInt := b74; have t3 : y71.toInt ≤ lx95.toInt := i98; have t4 : lx95.toInt + y70.toInt ≤ lx94.toInt + y71.toInt := i103; omega)), (show lx94.toInt ≤ 220 from (by have t1 : lx94.toInt ≤ lx95.toInt + 220 := i100; have t2 : lx94.toInt + lx95.toInt ≤ 221 := i101; omega)), (show 0 ≤ lx95.toInt from (by have t1 : 0 ≤ y47.toInt := b52; have t2 : y47.toInt ≤ y71.toInt := b76; have t3 : y71.toInt ≤ lx95.toInt := i98; omega)), (show lx95.toInt ≤ 1 from (by have t1 : y47.toInt ≤ 1 := b53; have t2 : y71.toInt ≤ y47.toInt := b77; have t3 : lx95.toInt ≤ y71.toInt := i99; omega)), (show (lx93, lx94, lx95, lx96) = (F_Mil_countFigures R t0_0 t0_1 t1_0 t2_0 t2_1 t3_0) from Eq.trans (by have c126x := c126; rw [e125] at c126x; rw [F_Mil_countFigures_L46.eq_2, if_neg c115, if_pos c126x]) hR110)⟩) d_8_13_82
      ·
        have b128 : q_F (0 ≤ a121.toInt) := (q_nltI c126)
        refine lv_aload_n hx hb d_8_13_62 rfl (lv_at hl 2 rfl) ?_
        refine q_get (ci := 4) (j := 5) (v := .ref (q 20)) C0 V i_Mil rfl rfl hO118 (by decide) w_124 rfl d_8_13_63 ?_
        refine lv_bipush (v := 10) hx hb d_8_13_66 (by decide) ?_
        refine lv_iconst (v := 0) hx hb d_8_13_68 (by decide) ?_
        refine q_gov V (q_runV (As := [.int 10, .int 0]) (rest := []) (d := 1) (mc := 0) (ms := 0) (ci := 2) C0 V rfl LV_Mil_102 (X_Big_multiplySmall l D g q w105 20 220 (n_b20 g q) (by decide) 10 0 hI lx94 lx95 hO106 lx96 hO107  _) rfl rfl hO106 rfl hl.1 rfl (Nat.le_of_ble_eq_true rfl) ⟨by decide, by decide⟩ ⟨Nat.le_of_ble_eq_true rfl, Nat.le_of_ble_eq_true rfl⟩ d_8_13_69) (fun u129 H locs hp130 V => ?_)
        obtain ⟨hI, hu142, y132, y133, f134, hO131, hA135, b136, b137, b138, b139, b140, hE141⟩ := hp130
        replace hO131 : u129[20]? = (some (q 20, .inr (2, [.ref (q 21), .int y132, .int y133])) : Option (Nat × va_E)) := hO131
        replace hA135 : u129[21]? = (some (q 21, .inl (g 0, (220 : Int32).toNatClampNeg, .inl f134)) : Option (Nat × va_E)) := hA135
        obtain ⟨p143, e144⟩ : ∃ z, z = (F_Big_multiplySmall (220 : Int32) (10 : Int32) (0 : Int32) lx94 lx95 lx96) := ⟨_, rfl⟩
        have e145 : y132 = p143.1 := congrArg (fun z => z.1) (hE141.trans e144.symm)
        have e146 : y133 = p143.2.1 := congrArg (fun z => z.2.1) (hE141.trans e144.symm)
        have e147 : f134 = p143.2.2 := congrArg (fun z => z.2.2) (hE141.trans e144.symm)
        replace b136 : q_F (lx94.toInt ≤ y132.toInt) := b136
        replace b137 : q_F (y132.toInt ≤ lx94.toInt + 1) := b137
        replace b138 : q_F (y132.toInt ≤ 220) := b138
        replace b139 : q_F (lx95.toInt ≤ y133.toInt) := b139
        replace b140 : q_F (y133.toInt ≤ lx95.toInt) := b140
        replace hO108 := (hu142 _ (by have z0 := zk2; simp only [List.mem_cons, List.not_mem_nil, or_false, not_or]; omega)).trans hO108
        replace hO109 := (hu142 _ (by have z0 := zk2; simp only [List.mem_cons, List.not_mem_nil, or_false, not_or]; omega)).trans hO109
        replace hO118 := (hu142 _ (by decide)).trans hO118
        replace hF := q_uc hF hu142 (by simp)
        have hR148 := (show F_Mil_countFigures_c69 (F_Mil_countFigures_L46 R t0_0 t0_1 t1_0 t2_0 t2_1 t3_0 a40 p57 p80 fm114) R t0_0 t0_1 t1_0 t2_0 t2_1 t3_0 a40 p57 p80 lx92 lx93 lx94 lx95 lx96 p143 = (F_Mil_countFigures R t0_0 t0_1 t1_0 t2_0 t2_1 t3_0) from Eq.trans (by have c126x := c126; rw [e125] at c126x; rw [e144, F_Mil_countFigures_L46.eq_2, if_neg c115, if_neg c126x]) hR110)
        obtain ⟨a153, e154⟩ := q_nm (lx93 + 1 : Int32)
        refine lv_iinc (v := a153) (lv' := [(2, .int a153), (3, .int lx92), (0, .ref (q 9)), (1, .ref (q k2))]) hx hb d_8_13_72 hl (k := 1) rfl (e154) (by decide) rfl (fun ls hl => ?_)
        obtain ⟨a155, e156⟩ := q_nm (lx92 + 1 : Int32)
        have b157 : q_F (a155.toInt = lx92.toInt + 1) := (by rw [← e156]; exact q_addI (y := 1) rfl (by decide) (by have _ := q_lo32 (x := lx92); have _ := q_hi32 (x := lx92); have t1 : lx92.toInt ≤ 3 := i97; omega) (by have _ := q_lo32 (x := lx92); have _ := q_hi32 (x := lx92); have t1 : lx92.toInt ≤ 3 := i97; omega))
        refine lv_iinc (v := a155) (lv' := [(3, .int a155), (2, .int a153), (0, .ref (q 9)), (1, .ref (q k2))]) hx hb d_8_13_75 hl (k := 1) rfl (e156) (by decide) rfl (fun ls hl => ?_)
        refine lv_goto (tgt := 46) hx hb d_8_13_78 (by decide) ?_
        exact ih104 ((a155 : Int32), (a153 : Int32), (y132 : Int32), (y133 : Int32), (f134 : (Nat → Int32))) _ _ _ _ (show (3 - a155.toInt).toNat < (3 - lx92.toInt).toNat from by have t1 : a155.toInt = lx92.toInt + 1 := b157; have t2 : lx92.toInt ≤ 3 := i97; have t3 : lx92.toInt < 3 := b117; omega) ⟨(show q_F (a155.toInt ≤ 3) from (show a155.toInt ≤ 3 from by have t1 : lx92.toInt < 3 := b117; have t2 : a155.toInt = lx92.toInt + 1 := b157; omega)), (show q_F (y71.toInt ≤ y133.toInt) from (show y71.toInt ≤ y133.toInt from by have t1 : y71.toInt ≤ lx95.toInt := i98; have t2 : lx95.toInt ≤ y133.toInt := b139; omega)), (show q_F (y133.toInt ≤ y71.toInt) from (show y133.toInt ≤ y71.toInt from by have t1 : lx95.toInt ≤ y71.toInt := i99; have t2 : y133.toInt ≤ lx95.toInt := b140; omega)), (show q_F (y132.toInt ≤ y133.toInt + 220) from (show y132.toInt ≤ y133.toInt + 220 from by have t1 : 0 ≤ y47.toInt := b52; have t2 : y47.toInt ≤ y71.toInt := b76; have t3 : y71.toInt ≤ lx95.toInt := i98; have t4 : y132.toInt ≤ 220 := b138; have t5 : lx95.toInt ≤ y133.toInt := b139; omega)), (show q_F (y132.toInt + y133.toInt ≤ 221) from (show y132.toInt + y133.toInt ≤ 221 from by have t1 : y47.toInt ≤ 1 := b53; have t2 : y71.toInt ≤ y47.toInt := b77; have t3 : lx95.toInt ≤ y71.toInt := i99; have t4 : y132.toInt ≤ 220 := b138; have t5 : y133.toInt ≤ lx95.toInt := b140; omega)), (show q_F (y132.toInt ≤ a155.toInt + y70.toInt) from (show y132.toInt ≤ a155.toInt + y70.toInt from by have t1 : lx94.toInt ≤ lx92.toInt + y70.toInt := i102; have t2 : y132.toInt ≤ lx94.toInt + 1 := b137; have t3 : a155.toInt = lx92.toInt + 1 := b157; omega)), (show q_F (y133.toInt + y70.toInt ≤ y132.toInt + y71.toInt) from (show y133.toInt + y70.toInt ≤ y132.toInt + y71.toInt from by have t1 : lx95.toInt + y70.toInt ≤ lx94.toInt + y71.toInt := i103; have t2 : lx94.toInt ≤ y132.toInt := b136; have t3 : y133.toInt ≤ lx95.toInt := b140; omega)), V, q_lw hl (q_lw1 0 rfl (q_lw1 1 rfl (q_lw1 2 rfl (q_lw1 3 rfl q_lw0)))), hI, hF, hO131, hA135, hO108, hO109, ⟨fm114, Nat.lt_of_lt_of_le (show (3 - a155.toInt).toNat < (3 - lx92.toInt).toNat from by have t1 : a155.toInt = lx92.toInt + 1 := b157; have t2 : lx92.toInt ≤ 3 := i97; have t3 : lx92.toInt < 3 := b117; omega) (Nat.le_of_lt_succ hf113), (show F_Mil_countFigures_L46 R t0_0 t0_1 t1_0 t2_0 t2_1 t3_0 a40 p57 p80 fm114 a155 a153 y132 y133 f134 = (F_Mil_countFigures R t0_0 t0_1 t1_0 t2_0 t2_1 t3_0) from Eq.trans (by rw [← e156, ← e154, e147, e146, e145, F_Mil_countFigures_c69.eq_1]) hR148)⟩⟩
  ·
    have b158 : q_F (t2_0.toInt = 0) := (q_eqI c17)
    refine lv_iconst (v := 1) hx hb d_8_13_7 (by decide) ?_
    exact q_reti C0 V (⟨hI, hF, t0_0, t0_1, t1_0, hT0, hT1, (show 0 ≤ t0_0.toInt from (by have z7 : (1 : Int32).toInt = 1 := rfl; have t1 : 0 ≤ t0_0.toInt ∧ t0_0.toInt ≤ 220 := btt0_0; omega)), (show t0_0.toInt ≤ 220 from (by have z7 : (1 : Int32).toInt = 1 := rfl; have t1 : 0 ≤ t0_0.toInt ∧ t0_0.toInt ≤ 220 := btt0_0; omega)), (show 0 ≤ t0_1.toInt from (by have z7 : (1 : Int32).toInt = 1 := rfl; have t1 : 0 ≤ t0_1.toInt ∧ t0_1.toInt ≤ 1 := btt0_1; omega)), (show t0_1.toInt ≤ 1 from (by have z7 : (1 : Int32).toInt = 1 := rfl; have t1 : 0 ≤ t0_1.toInt ∧ t0_1.toInt ≤ 1 := btt0_1; omega)), (show ((1 : Int32), t0_0, t0_1, t1_0) = (F_Mil_countFigures R t0_0 t0_1 t1_0 t2_0 t2_1 t3_0) from (by rw [F_Mil_countFigures.eq_1, if_pos c17]))⟩) d_8_13_8
