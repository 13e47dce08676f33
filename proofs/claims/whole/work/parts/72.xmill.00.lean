/-! Mill, exactly -/
def F_Mil_addOrMultiply_c40 (x2 : Int32) (R : Int32) (R2 : Int32) (t0_0 : Int32) (t0_1 : Int32) (t1_0 : (Nat → Int32)) (t2_0 : Int32) (t2_1 : Int32) (t3_0 : (Nat → Int32)) (t4_0 : Int32) (t4_1 : Int32) (t5_0 : (Nat → Int32)) (p42 : (Int32 × Int32 × (Nat → Int32))) (p67 : (Int32 × Int32 × (Nat → Int32))) : Int32 × Int32 × (Nat → Int32) := ((p67.1 : Int32), (p67.2.1 : Int32), (p67.2.2 : (Nat → Int32)))
def F_Mil_addOrMultiply_c40_3 (x2 : Int32) (R : Int32) (R2 : Int32) (t0_0 : Int32) (t0_1 : Int32) (t1_0 : (Nat → Int32)) (t2_0 : Int32) (t2_1 : Int32) (t3_0 : (Nat → Int32)) (t4_0 : Int32) (t4_1 : Int32) (t5_0 : (Nat → Int32)) (p42 : (Int32 × Int32 × (Nat → Int32))) (p91 : (Int32 × Int32 × (Nat → Int32))) : Int32 × Int32 × (Nat → Int32) := ((p91.1 : Int32), (p91.2.1 : Int32), (p91.2.2 : (Nat → Int32)))
def F_Mil_addOrMultiply_c22 (x2 : Int32) (R : Int32) (R2 : Int32) (t0_0 : Int32) (t0_1 : Int32) (t1_0 : (Nat → Int32)) (t2_0 : Int32) (t2_1 : Int32) (t3_0 : (Nat → Int32)) (t4_0 : Int32) (t4_1 : Int32) (t5_0 : (Nat → Int32)) (p42 : (Int32 × Int32 × (Nat → Int32))) : Int32 × Int32 × (Nat → Int32) := if x2 = (1 : Int32) then (F_Mil_addOrMultiply_c40_3 x2 R R2 t0_0 t0_1 t1_0 t2_0 t2_1 t3_0 t4_0 t4_1 t5_0 p42 ((F_Big_addSigned (220 : Int32) R2 (1 : Int32) (p42.1 : Int32) (p42.2.1 : Int32) (p42.2.2 : (Nat → Int32)) t4_0 t4_1 t5_0) : (Int32 × Int32 × (Nat → Int32)))) else (F_Mil_addOrMultiply_c40 x2 R R2 t0_0 t0_1 t1_0 t2_0 t2_1 t3_0 t4_0 t4_1 t5_0 p42 ((F_Big_addSigned (220 : Int32) R2 (0 : Int32) (p42.1 : Int32) (p42.2.1 : Int32) (p42.2.2 : (Nat → Int32)) t4_0 t4_1 t5_0) : (Int32 × Int32 × (Nat → Int32))))
def F_Mil_addOrMultiply_c11 (x2 : Int32) (R : Int32) (R2 : Int32) (t0_0 : Int32) (t0_1 : Int32) (t1_0 : (Nat → Int32)) (t2_0 : Int32) (t2_1 : Int32) (t3_0 : (Nat → Int32)) (t4_0 : Int32) (t4_1 : Int32) (t5_0 : (Nat → Int32)) (p116 : (Int32 × Int32 × (Nat → Int32))) : Int32 × Int32 × (Nat → Int32) := ((p116.1 : Int32), (p116.2.1 : Int32), (p116.2.2 : (Nat → Int32)))
def F_Mil_addOrMultiply (x2 : Int32) (R : Int32) (R2 : Int32) (t0_0 : Int32) (t0_1 : Int32) (t1_0 : (Nat → Int32)) (t2_0 : Int32) (t2_1 : Int32) (t3_0 : (Nat → Int32)) (t4_0 : Int32) (t4_1 : Int32) (t5_0 : (Nat → Int32)) : Int32 × Int32 × (Nat → Int32) := if x2 = (2 : Int32) then (F_Mil_addOrMultiply_c11 x2 R R2 t0_0 t0_1 t1_0 t2_0 t2_1 t3_0 t4_0 t4_1 t5_0 ((F_Big_product (220 : Int32) R R2 t0_0 t0_1 t1_0 t2_0 t2_1 t3_0 t4_0 t4_1 t5_0) : (Int32 × Int32 × (Nat → Int32)))) else (F_Mil_addOrMultiply_c22 x2 R R2 t0_0 t0_1 t1_0 t2_0 t2_1 t3_0 t4_0 t4_1 t5_0 ((F_Big_copy (220 : Int32) R t0_0 t0_1 t1_0 t2_0 t2_1 t3_0) : (Int32 × Int32 × (Nat → Int32))))
set_option maxRecDepth 100000 in
set_option maxHeartbeats 4000000 in
theorem X_Mil_addOrMultiply (l : Launch) (D : va_G) (g : Nat → ClassId) (q : Nat → Nat) (ws : va_W) (k3 : Nat) (R : Int32) (hB3 : q_isBig (nsh g q) g q k3 R) (zk3 : (10 ≤ k3 ∧ k3 ≤ 32) ∨ 66 ≤ k3) (k4 : Nat) (R2 : Int32) (hB4 : q_isBig (nsh g q) g q k4 R2) (zk4 : (10 ≤ k4 ∧ k4 ≤ 32) ∨ 66 ≤ k4) (x2 : Int32) (ne_k3_10 : k3 ≠ 10) (ne_k3_11 : k3 ≠ 11) (ne_k3_9 : k3 ≠ 9) (ne_k4_10 : k4 ≠ 10) (ne_k4_11 : k4 ≠ 11) (ne_k4_9 : k4 ≠ 9) (hI : q_I (nsh g q) q ws) (t0_0 : Int32) (t0_1 : Int32) (hT0 : ws[10]? = (some (q 10, .inr (2, [.ref (q 11), .int t0_0, .int t0_1])) : Option (Nat × va_E))) (t1_0 : (Nat → Int32)) (hT1 : ws[11]? = (some (q 11, .inl (g 0, (220 : Int32).toNatClampNeg, .inl t1_0)) : Option (Nat × va_E))) (t2_0 : Int32) (t2_1 : Int32) (hT2 : ws[k3]? = (some (q k3, .inr (2, [.ref (q (k3 + 1)), .int t2_0, .int t2_1])) : Option (Nat × va_E))) (t3_0 : (Nat → Int32)) (hT3 : ws[k3 + 1]? = (some (q (k3 + 1), .inl (g 0, R.toNatClampNeg, .inl t3_0)) : Option (Nat × va_E))) (t4_0 : Int32) (t4_1 : Int32) (hT4 : ws[k4]? = (some (q k4, .inr (2, [.ref (q (k4 + 1)), .int t4_0, .int t4_1])) : Option (Nat × va_E))) (t5_0 : (Nat → Int32)) (hT5 : ws[k4 + 1]? = (some (q (k4 + 1), .inl (g 0, R2.toNatClampNeg, .inl t5_0)) : Option (Nat × va_E))) : q_mV l y_Mil_addOrMultiply prog_8_method_2_code 4 4 0 0 D g [.ref (q 9), .int x2, .ref (q k3), .ref (q k4)] ws (fun u => q_I (nsh g q) q u ∧ q_un ws u [10, 11] ∧ ∃ (u0_0 : Int32) (u0_1 : Int32) (u1_0 : (Nat → Int32)), u[10]? = (some (q 10, .inr (2, [.ref (q 11), .int u0_0, .int u0_1])) : Option (Nat × va_E)) ∧ u[11]? = (some (q 11, .inl (g 0, (220 : Int32).toNatClampNeg, .inl u1_0)) : Option (Nat × va_E)) ∧ (0 ≤ u0_0.toInt) ∧ (u0_0.toInt ≤ 220) ∧ (0 ≤ u0_1.toInt) ∧ (u0_1.toInt ≤ 1) ∧ (u0_0, u0_1, u1_0) = (F_Mil_addOrMultiply x2 R R2 t0_0 t0_1 t1_0 t2_0 t2_1 t3_0 t4_0 t4_1 t5_0)) := by
  intro sz
  refine q_into (by decide) (Nat.le_of_ble_eq_true rfl) ?_
  intro p e s m below meth c ls hsz C0 V hl
  have hx := C0.1
  have hb := C0.2.1
  have hfk30 : q_F (0 ≤ R.toInt ∧ R.toInt ≤ 220) := hB3.2.2
  have hfk40 : q_F (0 ≤ R2.toInt ∧ R2.toInt ≤ 220) := hB4.2.2
  obtain ⟨yy0_0, yy0_1, hh0, btt0_0, btt0_1⟩ := q_bigO hI (n_b10 g q)
  obtain ⟨rfl, rfl⟩ : t0_0 = yy0_0 ∧ t0_1 = yy0_1 := by have z := Option.some.inj (hT0.symm.trans hh0); simpa using z
  replace btt0_0 : q_F (0 ≤ t0_0.toInt ∧ t0_0.toInt ≤ 220) := btt0_0
  replace btt0_1 : q_F (0 ≤ t0_1.toInt ∧ t0_1.toInt ≤ 1) := btt0_1
  obtain ⟨yy2_0, yy2_1, hh2, btt2_0, btt2_1⟩ := q_bigO hI hB3
  obtain ⟨rfl, rfl⟩ : t2_0 = yy2_0 ∧ t2_1 = yy2_1 := by have z := Option.some.inj (hT2.symm.trans hh2); simpa using z
  replace btt2_0 : q_F (0 ≤ t2_0.toInt ∧ t2_0.toInt ≤ R.toInt) := btt2_0
  replace btt2_1 : q_F (0 ≤ t2_1.toInt ∧ t2_1.toInt ≤ 1) := btt2_1
  obtain ⟨yy4_0, yy4_1, hh4, btt4_0, btt4_1⟩ := q_bigO hI hB4
  obtain ⟨rfl, rfl⟩ : t4_0 = yy4_0 ∧ t4_1 = yy4_1 := by have z := Option.some.inj (hT4.symm.trans hh4); simpa using z
  replace btt4_0 : q_F (0 ≤ t4_0.toInt ∧ t4_0.toInt ≤ R2.toInt) := btt4_0
  replace btt4_1 : q_F (0 ≤ t4_1.toInt ∧ t4_1.toInt ≤ 1) := btt4_1
  have hF : q_un ws ws [10, 11] := q_u0
  have hl : lv_has ls 4 [(0, .ref (q 9)), (1, .int x2), (2, .ref (q k3)), (3, .ref (q k4))] := hl
  refine lv_iload_n hx hb d_8_2_0 rfl (lv_at hl 1 rfl) ?_
  refine lv_iconst (v := 2) hx hb d_8_2_1 (by decide) ?_
  refine lv_icmp_ne (tgt := 17) hx hb d_8_2_2 (by decide) (fun c25 => ?_) (fun c25 => ?_)
  ·
    have b26 : q_F (x2.toInt ≠ 2) := (q_neI c25)
    refine lv_aload_n hx hb d_8_2_17 rfl (lv_at hl 0 rfl) ?_
    have hO27 := n_o9 hI
    refine q_get (ci := 4) (j := 0) (v := .ref (q 10)) C0 V i_Mil rfl rfl hO27 (by decide) w_108 rfl d_8_2_18 ?_
    refine lv_aload_n hx hb d_8_2_21 rfl (lv_at hl 2 rfl) ?_
    refine q_gov V (q_runV (As := [.ref (q k3)]) (rest := []) (d := 2) (mc := 0) (ms := 0) (ci := 2) C0 V rfl LV_Mil_51 (X_Big_copy l D g q ws 10 220 (n_b10 g q) (by decide) k3 R hB3 zk3  (by have z := ne_k3_10; omega) hI t0_0 t0_1 hT0 t1_0 hT1 t2_0 t2_1 hT2 t3_0 hT3  _) rfl rfl hT0 rfl hl.1 rfl (Nat.le_of_ble_eq_true rfl) ⟨by decide, by decide⟩ ⟨Nat.le_of_ble_eq_true rfl, Nat.le_of_ble_eq_true rfl⟩ d_8_2_22) (fun u28 H locs hp29 V => ?_)
    obtain ⟨hI, hu41, y31, y32, f33, hO30, hA34, b35, b36, b37, b38, b39, hE40⟩ := hp29
    replace hO30 : u28[10]? = (some (q 10, .inr (2, [.ref (q 11), .int y31, .int y32])) : Option (Nat × va_E)) := hO30
    replace hA34 : u28[11]? = (some (q 11, .inl (g 0, (220 : Int32).toNatClampNeg, .inl f33)) : Option (Nat × va_E)) := hA34
    obtain ⟨p42, e43⟩ : ∃ z, z = (F_Big_copy (220 : Int32) R t0_0 t0_1 t1_0 t2_0 t2_1 t3_0) := ⟨_, rfl⟩
    have e44 : y31 = p42.1 := congrArg (fun z => z.1) (hE40.trans e43.symm)
    have e45 : y32 = p42.2.1 := congrArg (fun z => z.2.1) (hE40.trans e43.symm)
    have e46 : f33 = p42.2.2 := congrArg (fun z => z.2.2) (hE40.trans e43.symm)
    replace b35 : q_F (0 ≤ y31.toInt) := b35
    replace b36 : q_F (y31.toInt ≤ t2_0.toInt) := b36
    replace b37 : q_F (y31.toInt ≤ 220) := b37
    replace b38 : q_F (t2_1.toInt ≤ y32.toInt) := b38
    replace b39 : q_F (y32.toInt ≤ t2_1.toInt) := b39
    replace hT2 := (hu41 _ (by have z0 := zk3; simp only [List.mem_cons, List.not_mem_nil, or_false, not_or]; omega)).trans hT2
    replace hT3 := (hu41 _ (by have z0 := zk3; simp only [List.mem_cons, List.not_mem_nil, or_false, not_or]; omega)).trans hT3
    replace hT4 := (hu41 _ (by have z0 := zk4; simp only [List.mem_cons, List.not_mem_nil, or_false, not_or]; omega)).trans hT4
    replace hT5 := (hu41 _ (by have z0 := zk4; simp only [List.mem_cons, List.not_mem_nil, or_false, not_or]; omega)).trans hT5
    replace hO27 := (hu41 _ (by decide)).trans hO27
    replace hF := q_uc hF hu41 (by simp)
    have hR47 := (show F_Mil_addOrMultiply_c22 x2 R R2 t0_0 t0_1 t1_0 t2_0 t2_1 t3_0 t4_0 t4_1 t5_0 p42 = (F_Mil_addOrMultiply x2 R R2 t0_0 t0_1 t1_0 t2_0 t2_1 t3_0 t4_0 t4_1 t5_0) from (by rw [e43, F_Mil_addOrMultiply.eq_1, if_neg c25]))
    refine lv_aload_n hx hb d_8_2_25 rfl (lv_at hl 0 rfl) ?_
    refine q_get (ci := 4) (j := 0) (v := .ref (q 10)) C0 V i_Mil rfl rfl hO27 (by decide) w_108 rfl d_8_2_26 ?_
    refine lv_aload_n hx hb d_8_2_29 rfl (lv_at hl 3 rfl) ?_
    refine lv_iload_n hx hb d_8_2_30 rfl (lv_at hl 1 rfl) ?_
    refine lv_iconst (v := 1) hx hb d_8_2_31 (by decide) ?_
    refine lv_icmp_ne (tgt := 39) hx hb d_8_2_32 (by decide) (fun c52 => ?_) (fun c52 => ?_)
    ·
      have b53 : q_F (x2.toInt ≠ 1) := (q_neI c52)
      refine lv_iconst (v := 0) hx hb d_8_2_39 (by decide) ?_
      refine q_gov V (q_runV (As := [.ref (q k4), .int 0]) (rest := []) (d := 3) (mc := 0) (ms := 0) (ci := 2) C0 V rfl LV_Mil_55 (X_Big_addSigned l D g q u28 10 220 (n_b10 g q) (by decide) k4 R2 hB4 zk4 0 (by have z := ne_k4_10; omega) hI y31 y32 hO30 f33 hA34 t4_0 t4_1 hT4 t5_0 hT5 ⟨(by have y0 : (220 : Int32).toInt = 220 := rfl; have y1 : (0 : Int32).toInt = 0 := rfl; omega), (by have y0 : (220 : Int32).toInt = 220 := rfl; have y1 : (0 : Int32).toInt = 0 := rfl; omega)⟩ _) rfl rfl hO30 rfl hl.1 rfl (Nat.le_of_ble_eq_true rfl) ⟨by decide, by decide⟩ ⟨Nat.le_of_ble_eq_true rfl, Nat.le_of_ble_eq_true rfl⟩ d_8_2_40) (fun u54 H locs hp55 V => ?_)
      obtain ⟨hI, hu66, y57, y58, f59, hO56, hA60, b61, b62, b63, b64, hE65⟩ := hp55
      replace hO56 : u54[10]? = (some (q 10, .inr (2, [.ref (q 11), .int y57, .int y58])) : Option (Nat × va_E)) := hO56
      replace hA60 : u54[11]? = (some (q 11, .inl (g 0, (220 : Int32).toNatClampNeg, .inl f59)) : Option (Nat × va_E)) := hA60
      obtain ⟨p67, e68⟩ : ∃ z, z = (F_Big_addSigned (220 : Int32) R2 (0 : Int32) y31 y32 f33 t4_0 t4_1 t5_0) := ⟨_, rfl⟩
      have e69 : y57 = p67.1 := congrArg (fun z => z.1) (hE65.trans e68.symm)
      have e70 : y58 = p67.2.1 := congrArg (fun z => z.2.1) (hE65.trans e68.symm)
      have e71 : f59 = p67.2.2 := congrArg (fun z => z.2.2) (hE65.trans e68.symm)
      replace b61 : q_F (0 ≤ y57.toInt) := b61
      replace b62 : q_F (0 ≤ y58.toInt) := b62
      replace b63 : q_F (y58.toInt ≤ 1) := b63
      replace b64 : q_F (y57.toInt ≤ 220) := b64
      replace hT2 := (hu66 _ (by have z0 := zk3; simp only [List.mem_cons, List.not_mem_nil, or_false, not_or]; omega)).trans hT2
      replace hT3 := (hu66 _ (by have z0 := zk3; simp only [List.mem_cons, List.not_mem_nil, or_false, not_or]; omega)).trans hT3
      replace hT4 := (hu66 _ (by have z0 := zk4; simp only [List.mem_cons, List.not_mem_nil, or_false, not_or]; omega)).trans hT4
      replace hT5 := (hu66 _ (by have z0 := zk4; simp only [List.mem_cons, List.not_mem_nil, or_false, not_or]; omega)).trans hT5
      replace hO27 := (hu66 _ (by decide)).trans hO27
      replace hF := q_uc hF hu66 (by simp)
      have hR72 := (show F_Mil_addOrMultiply_c40 x2 R R2 t0_0 t0_1 t1_0 t2_0 t2_1 t3_0 t4_0 t4_1 t5_0 p42 p67 = (F_Mil_addOrMultiply x2 R R2 t0_0 t0_1 t1_0 t2_0 t2_1 t3_0 t4_0 t4_1 t5_0) from Eq.trans (by rw [e68, e46, e45, e44, F_Mil_addOrMultiply_c22.eq_1, if_neg c52]) hR47)
      exact q_retv C0 V (⟨hI, hF, y57, y58, f59, hO56, hA60, (show 0 ≤ y57.toInt from (by have t1 : 0 ≤ y57.toInt := b61; omega)), (show y57.toInt ≤ 220 from (by have t1 : y57.toInt ≤ 220 := b64; omega)), (show 0 ≤ y58.toInt from (by have t1 : 0 ≤ y58.toInt := b62; omega)), (show y58.toInt ≤ 1 from (by have t1 : y58.toInt ≤ 1 := b63; omega)), (show (y57, y58, f59) = (F_Mil_addOrMultiply x2 R R2 t0_0 t0_1 t1_0 t2_0 t2_1 t3_0 t4_0 t4_1 t5_0) from Eq.trans (by rw [e71, e70, e69, F_Mil_addOrMultiply_c40.eq_1]) hR72)⟩) d_8_2_43
    ·
      have b77 : q_F (x2.toInt = 1) := (q_eqI c52)
      refine lv_iconst (v := 1) hx hb d_8_2_35 (by decide) ?_
      refine lv_goto (tgt := 40) hx hb d_8_2_36 (by decide) ?_
      refine q_gov V (q_runV (As := [.ref (q k4), .int 1]) (rest := []) (d := 3) (mc := 0) (ms := 0) (ci := 2) C0 V rfl LV_Mil_55 (X_Big_addSigned l D g q u28 10 220 (n_b10 g q) (by decide) k4 R2 hB4 zk4 1 (by have z := ne_k4_10; omega) hI y31 y32 hO30 f33 hA34 t4_0 t4_1 hT4 t5_0 hT5 ⟨(by have y0 : (220 : Int32).toInt = 220 := rfl; have y1 : (1 : Int32).toInt = 1 := rfl; omega), (by have y0 : (220 : Int32).toInt = 220 := rfl; have y1 : (1 : Int32).toInt = 1 := rfl; omega)⟩ _) rfl rfl hO30 rfl hl.1 rfl (Nat.le_of_ble_eq_true rfl) ⟨by decide, by decide⟩ ⟨Nat.le_of_ble_eq_true rfl, Nat.le_of_ble_eq_true rfl⟩ d_8_2_40) (fun u78 H locs hp79 V => ?_)
      obtain ⟨hI, hu90, y81, y82, f83, hO80, hA84, b85, b86, b87, b88, hE89⟩ := hp79
      replace hO80 : u78[10]? = (some (q 10, .inr (2, [.ref (q 11), .int y81, .int y82])) : Option (Nat × va_E)) := hO80
      replace hA84 : u78[11]? = (some (q 11, .inl (g 0, (220 : Int32).toNatClampNeg, .inl f83)) : Option (Nat × va_E)) := hA84
      obtain ⟨p91, e92⟩ : ∃ z, z = (F_Big_addSigned (220 : Int32) R2 (1 : Int32) y31 y32 f33 t4_0 t4_1 t5_0) := ⟨_, rfl⟩
      have e93 : y81 = p91.1 := congrArg (fun z => z.1) (hE89.trans e92.symm)
      have e94 : y82 = p91.2.1 := congrArg (fun z => z.2.1) (hE89.trans e92.symm)
      have e95 : f83 = p91.2.2 := congrArg (fun z => z.2.2) (hE89.trans e92.symm)
      replace b85 : q_F (0 ≤ y81.toInt) := b85
      replace b86 : q_F (0 ≤ y82.toInt) := b86
      replace b87 : q_F (y82.toInt ≤ 1) := b87
      replace b88 : q_F (y81.toInt ≤ 220) := b88
      replace hT2 := (hu90 _ (by have z0 := zk3; simp only [List.mem_cons, List.not_mem_nil, or_false, not_or]; omega)).trans hT2
      replace hT3 := (hu90 _ (by have z0 := zk3; simp only [List.mem_cons, List.not_mem_nil, or_false, not_or]; omega)).trans hT3
      replace hT4 := (hu90 _ (by have z0 := zk4; simp only [List.mem_cons, List.not_mem_nil, or_false, not_or]; omega)).trans hT4
      replace hT5 := (hu90 _ (by have z0 := zk4; simp only [List.mem_cons, List.not_mem_nil, or_false, not_or]; omega)).trans hT5
      replace hO27 := (hu90 _ (by decide)).trans hO27
      replace hF := q_uc hF hu90 (by simp)
      have hR96 := (show F_Mil_addOrMultiply_c40_3 x2 R R2 t0_0 t0_1 t1_0 t2_0 t2_1 t3_0 t4_0 t4_1 t5_0 p42 p91 = (F_Mil_addOrMultiply x2 R R2 t0_0 t0_1 t1_0 t2_0 t2_1 t3_0 t4_0 t4_1 t5_0) from Eq.trans (by rw [e92, e46, e45, e44, F_Mil_addOrMultiply_c22.eq_1, if_pos c52]) hR47)
      exact q_retv C0 V (⟨hI, hF, y81, y82, f83, hO80, hA84, (show 0 ≤ y81.toInt from (by have t1 : 0 ≤ y81.toInt := b85; omega)), (show y81.toInt ≤ 220 from (by have t1 : y81.toInt ≤ 220 := b88; omega)), (show 0 ≤ y82.toInt from (by have t1 : 0 ≤ y82.toInt := b86; omega)), (show y82.toInt ≤ 1 from (by have t1 : y82.toInt ≤ 1 := b87; omega)), (show (y81, y82, f83) = (F_Mil_addOrMultiply x2 R R2 t0_0 t0_1 t1_0 t2_0 t2_1 t3_0 t4_0 t4_1 t5_0) from Eq.trans (by rw [e95, e94, e93, F_Mil_addOrMultiply_c40_3.eq_1]) hR96)⟩) d_8_2_43
  ·
    have b101 : q_F (x2.toInt = 2) := (q_eqI c25)
    refine lv_aload_n hx hb d_8_2_5 rfl (lv_at hl 0 rfl) ?_
    have hO102 := n_o9 hI
    refine q_get (ci := 4) (j := 0) (v := .ref (q 10)) C0 V i_Mil rfl rfl hO102 (by decide) w_108 rfl d_8_2_6 ?_
    refine lv_aload_n hx hb d_8_2_9 rfl (lv_at hl 2 rfl) ?_
    refine lv_aload_n hx hb d_8_2_10 rfl (lv_at hl 3 rfl) ?_
    refine q_gov V (q_runV (As := [.ref (q k3), .ref (q k4)]) (rest := []) (d := 3) (mc := 0) (ms := 0) (ci := 2) C0 V rfl LV_Mil_47 (X_Big_product l D g q ws 10 220 (n_b10 g q) (by decide) k3 R hB3 zk3 k4 R2 hB4 zk4  (by have z := ne_k3_10; omega) (by have z := ne_k4_10; omega) hI t0_0 t0_1 hT0 t1_0 hT1 t2_0 t2_1 hT2 t3_0 hT3 t4_0 t4_1 hT4 t5_0 hT5  _) rfl rfl hT0 rfl hl.1 rfl (Nat.le_of_ble_eq_true rfl) ⟨by decide, by decide⟩ ⟨Nat.le_of_ble_eq_true rfl, Nat.le_of_ble_eq_true rfl⟩ d_8_2_11) (fun u103 H locs hp104 V => ?_)
    obtain ⟨hI, hu115, y106, y107, f108, hO105, hA109, b110, b111, b112, b113, hE114⟩ := hp104
    replace hO105 : u103[10]? = (some (q 10, .inr (2, [.ref (q 11), .int y106, .int y107])) : Option (Nat × va_E)) := hO105
    replace hA109 : u103[11]? = (some (q 11, .inl (g 0, (220 : Int32).toNatClampNeg, .inl f108)) : Option (Nat × va_E)) := hA109
    obtain ⟨p116, e117⟩ : ∃ z, z = (F_Big_product (220 : Int32) R R2 t0_0 t0_1 t1_0 t2_0 t2_1 t3_0 t4_0 t4_1 t5_0) := ⟨_, rfl⟩
    have e118 : y106 = p116.1 := congrArg (fun z => z.1) (hE114.trans e117.symm)
    have e119 : y107 = p116.2.1 := congrArg (fun z => z.2.1) (hE114.trans e117.symm)
    have e120 : f108 = p116.2.2 := congrArg (fun z => z.2.2) (hE114.trans e117.symm)
    replace b110 : q_F (0 ≤ y107.toInt) := b110
    replace b111 : q_F (y107.toInt ≤ 1) := b111
    replace b112 : q_F (y106.toInt ≤ 220) := b112
    replace b113 : q_F (y107.toInt ≤ y106.toInt) := b113
    replace hT2 := (hu115 _ (by have z0 := zk3; simp only [List.mem_cons, List.not_mem_nil, or_false, not_or]; omega)).trans hT2
    replace hT3 := (hu115 _ (by have z0 := zk3; simp only [List.mem_cons, List.not_mem_nil, or_false, not_or]; omega)).trans hT3
    replace hT4 := (hu115 _ (by have z0 := zk4; simp only [List.mem_cons, List.not_mem_nil, or_false, not_or]; omega)).trans hT4
    replace hT5 := (hu115 _ (by have z0 := zk4; simp only [List.mem_cons, List.not_mem_nil, or_false, not_or]; omega)).trans hT5
    replace hO102 := (hu115 _ (by decide)).trans hO102
    replace hF := q_uc hF hu115 (by simp)
    have hR121 := (show F_Mil_addOrMultiply_c11 x2 R R2 t0_0 t0_1 t1_0 t2_0 t2_1 t3_0 t4_0 t4_1 t5_0 p116 = (F_Mil_addOrMultiply x2 R R2 t0_0 t0_1 t1_0 t2_0 t2_1 t3_0 t4_0 t4_1 t5_0) from (by rw [e117, F_Mil_addOrMultiply.eq_1, if_pos c25]))
    refine lv_goto (tgt := 43) hx hb d_8_2_14 (by decide) ?_
    exact q_retv C0 V (⟨hI, hF, y106, y107, f108, hO105, hA109, (show 0 ≤ y106.toInt from (by have t1 : 0 ≤ y107.toInt := b110; have t2 : y107.toInt ≤ y106.toInt := b113; omega)), (show y106.toInt ≤ 220 from (by have t1 : y106.toInt ≤ 220 := b112; omega)), (show 0 ≤ y107.toInt from (by have t1 : 0 ≤ y107.toInt := b110; omega)), (show y107.toInt ≤ 1 from (by have t1 : y107.toInt ≤ 1 := b111; omega)), (show (y106, y107, f108) = (F_Mil_addOrMultiply x2 R R2 t0_0 t0_1 t1_0 t2_0 t2_1 t3_0 t4_0 t4_1 t5_0) from Eq.trans (by rw [e120, e119, e118, F_Mil_addOrMultiply_c11.eq_1]) hR121)⟩) d_8_2_43
theorem d_8_3_0 : decode prog_8_method_3_code 0 = .ok (.aload_n 0, 1) := by decide +kernel
theorem d_8_3_1 : decode prog_8_method_3_code 1 = .ok (.getfield 16, 3) := by decide +kernel
theorem d_8_3_4 : decode prog_8_method_3_code 4 = .ok (.aload_n 2, 1) := by decide +kernel
theorem d_8_3_5 : decode prog_8_method_3_code 5 = .ok (.invokevirtual 51, 3) := by decide +kernel
theorem d_8_3_8 : decode prog_8_method_3_code 8 = .ok (.aload_n 0, 1) := by decide +kernel
theorem d_8_3_9 : decode prog_8_method_3_code 9 = .ok (.getfield 16, 3) := by decide +kernel
theorem d_8_3_12 : decode prog_8_method_3_code 12 = .ok (.aload_n 3, 1) := by decide +kernel
theorem d_8_3_13 : decode prog_8_method_3_code 13 = .ok (.aload_n 0, 1) := by decide +kernel
theorem d_8_3_14 : decode prog_8_method_3_code 14 = .ok (.getfield 20, 3) := by decide +kernel
theorem d_8_3_17 : decode prog_8_method_3_code 17 = .ok (.invokevirtual 59, 3) := by decide +kernel
set_option maxRecDepth 100000 in
theorem w_1032 : (Cond.code ({ cls := "NumberHouse$Big", name := "divideBy", desc := "(LNumberHouse$Big;LNumberHouse$Big;)V" } : MethodName) prog_2_method_34_code (7 : Nat) (none : Option ClassFile.FieldType)) ∈ q_tbl := q_of5 72 rfl (by decide +kernel)
set_option maxRecDepth 100000 in
theorem w_1278 : (Cond.methodLink "NumberHouse$Mill" (59 : Nat) ({ cls := "NumberHouse$Big", name := "divideBy", desc := "(LNumberHouse$Big;LNumberHouse$Big;)V" } : MethodName)) ∈ q_tbl := q_of6 78 rfl (by decide +kernel)
set_option maxRecDepth 100000 in
theorem w_1030 : (Cond.instanceMethod ({ cls := "NumberHouse$Big", name := "divideBy", desc := "(LNumberHouse$Big;LNumberHouse$Big;)V" } : MethodName)) ∈ q_tbl := q_of5 70 rfl (by decide +kernel)
set_option maxRecDepth 100000 in
theorem w_1031 : (Cond.selects "NumberHouse$Big" ({ cls := "NumberHouse$Big", name := "divideBy", desc := "(LNumberHouse$Big;LNumberHouse$Big;)V" } : MethodName) ({ cls := "NumberHouse$Big", name := "divideBy", desc := "(LNumberHouse$Big;LNumberHouse$Big;)V" } : MethodName)) ∈ q_tbl := q_of5 71 rfl (by decide +kernel)
theorem LV_Mil_59 : q_LV "NumberHouse$Mill" 59 y_Big_divideBy prog_2_method_34_code 7 none 2 := ⟨w_1032, w_4, w_1278, w_1030, w_1031, ⟨by decide, by decide, by decide +kernel⟩⟩
theorem d_8_3_20 : decode prog_8_method_3_code 20 = .ok (.iload_n 1, 1) := by decide +kernel
theorem d_8_3_21 : decode prog_8_method_3_code 21 = .ok (.ifCond .eq 47, 3) := by decide +kernel
theorem d_8_3_68 : decode prog_8_method_3_code 68 = .ok (.return_, 1) := by decide +kernel
theorem d_8_3_24 : decode prog_8_method_3_code 24 = .ok (.aload_n 0, 1) := by decide +kernel
theorem d_8_3_25 : decode prog_8_method_3_code 25 = .ok (.getfield 16, 3) := by decide +kernel
theorem d_8_3_28 : decode prog_8_method_3_code 28 = .ok (.aload_n 0, 1) := by decide +kernel
theorem d_8_3_29 : decode prog_8_method_3_code 29 = .ok (.getfield 20, 3) := by decide +kernel
theorem d_8_3_32 : decode prog_8_method_3_code 32 = .ok (.invokevirtual 51, 3) := by decide +kernel
theorem d_8_3_35 : decode prog_8_method_3_code 35 = .ok (.aload_n 0, 1) := by decide +kernel
theorem d_8_3_36 : decode prog_8_method_3_code 36 = .ok (.getfield 16, 3) := by decide +kernel
theorem d_8_3_39 : decode prog_8_method_3_code 39 = .ok (.aload_n 0, 1) := by decide +kernel
theorem d_8_3_40 : decode prog_8_method_3_code 40 = .ok (.getfield 20, 3) := by decide +kernel
theorem d_8_3_43 : decode prog_8_method_3_code 43 = .ok (.getfield 62, 3) := by decide +kernel
theorem d_8_3_46 : decode prog_8_method_3_code 46 = .ok (.ifCond .le 18, 3) := by decide +kernel
theorem d_8_3_64 : decode prog_8_method_3_code 64 = .ok (.iconst 0, 1) := by decide +kernel
theorem d_8_3_65 : decode prog_8_method_3_code 65 = .ok (.putfield 66, 3) := by decide +kernel
theorem d_8_3_49 : decode prog_8_method_3_code 49 = .ok (.aload_n 2, 1) := by decide +kernel
theorem d_8_3_50 : decode prog_8_method_3_code 50 = .ok (.getfield 66, 3) := by decide +kernel
theorem d_8_3_53 : decode prog_8_method_3_code 53 = .ok (.aload_n 3, 1) := by decide +kernel
theorem d_8_3_54 : decode prog_8_method_3_code 54 = .ok (.getfield 66, 3) := by decide +kernel
theorem d_8_3_57 : decode prog_8_method_3_code 57 = .ok (.if_icmp .eq 7, 3) := by decide +kernel
theorem d_8_3_60 : decode prog_8_method_3_code 60 = .ok (.iconst 1, 1) := by decide +kernel
theorem d_8_3_61 : decode prog_8_method_3_code 61 = .ok (.goto 4, 3) := by decide +kernel
def y_Mil_quotientOrRest : MethodName := ⟨"NumberHouse$Mill", "quotientOrRest", "(ZLNumberHouse$Big;LNumberHouse$Big;)V"⟩
def F_Mil_quotientOrRest_c32 (x2 : Int32) (R : Int32) (R2 : Int32) (t0_0 : Int32) (t0_1 : Int32) (t1_0 : (Nat → Int32)) (t2_0 : Int32) (t2_1 : Int32) (t3_0 : (Nat → Int32)) (t4_0 : Int32) (t4_1 : Int32) (t5_0 : (Nat → Int32)) (t6_0 : Int32) (t6_1 : Int32) (t7_0 : (Nat → Int32)) (p48 : (Int32 × Int32 × (Nat → Int32))) (p95 : (Int32 × Int32 × (Nat → Int32) × Int32 × Int32 × (Nat → Int32) × Int32 × Int32 × (Nat → Int32))) (y74 : Int32) (y75 : Int32) (f76 : (Nat → Int32)) (y69 : Int32) (y70 : Int32) (f71 : (Nat → Int32)) (p128 : (Int32 × Int32 × (Nat → Int32))) : Int32 × Int32 × (Nat → Int32) × Int32 × Int32 × (Nat → Int32) × Int32 × Int32 × (Nat → Int32) := if y74 ≤ (0 : Int32) then (((p128.1 : Int32), (0 : Int32), (p128.2.2 : (Nat → Int32)), y74, y75, f76, y69, y70, f71)) else (if t4_1 = y70 then (((p128.1 : Int32), (0 : Int32), (p128.2.2 : (Nat → Int32)), y74, y75, f76, y69, y70, f71)) else (((p128.1 : Int32), (1 : Int32), (p128.2.2 : (Nat → Int32)), y74, y75, f76, y69, y70, f71)))
def F_Mil_quotientOrRest_c17 (x2 : Int32) (R : Int32) (R2 : Int32) (t0_0 : Int32) (t0_1 : Int32) (t1_0 : (Nat → Int32)) (t2_0 : Int32) (t2_1 : Int32) (t3_0 : (Nat → Int32)) (t4_0 : Int32) (t4_1 : Int32) (t5_0 : (Nat → Int32)) (t6_0 : Int32) (t6_1 : Int32) (t7_0 : (Nat → Int32)) (p48 : (Int32 × Int32 × (Nat → Int32))) (p95 : (Int32 × Int32 × (Nat → Int32) × Int32 × Int32 × (Nat → Int32) × Int32 × Int32 × (Nat → Int32))) : Int32 × Int32 × (Nat → Int32) × Int32 × Int32 × (Nat → Int32) × Int32 × Int32 × (Nat → Int32) := if x2 = (0 : Int32) then (((p95.1 : Int32), (p95.2.1 : Int32), (p95.2.2.1 : (Nat → Int32)), (p95.2.2.2.2.2.2.1 : Int32), (p95.2.2.2.2.2.2.2.1 : Int32), (p95.2.2.2.2.2.2.2.2 : (Nat → Int32)), (p95.2.2.2.1 : Int32), (p95.2.2.2.2.1 : Int32), (p95.2.2.2.2.2.1 : (Nat → Int32)))) else (F_Mil_quotientOrRest_c32 x2 R R2 t0_0 t0_1 t1_0 t2_0 t2_1 t3_0 t4_0 t4_1 t5_0 t6_0 t6_1 t7_0 p48 p95 (p95.2.2.2.2.2.2.1 : Int32) (p95.2.2.2.2.2.2.2.1 : Int32) (p95.2.2.2.2.2.2.2.2 : (Nat → Int32)) (p95.2.2.2.1 : Int32) (p95.2.2.2.2.1 : Int32) (p95.2.2.2.2.2.1 : (Nat → Int32)) ((F_Big_copy (220 : Int32) (220 : Int32) (p95.1 : Int32) (p95.2.1 : Int32) (p95.2.2.1 : (Nat → Int32)) (p95.2.2.2.2.2.2.1 : Int32) (p95.2.2.2.2.2.2.2.1 : Int32) (p95.2.2.2.2.2.2.2.2 : (Nat → Int32))) : (Int32 × Int32 × (Nat → Int32))))
def F_Mil_quotientOrRest_c5 (x2 : Int32) (R : Int32) (R2 : Int32) (t0_0 : Int32) (t0_1 : Int32) (t1_0 : (Nat → Int32)) (t2_0 : Int32) (t2_1 : Int32) (t3_0 : (Nat → Int32)) (t4_0 : Int32) (t4_1 : Int32) (t5_0 : (Nat → Int32)) (t6_0 : Int32) (t6_1 : Int32) (t7_0 : (Nat → Int32)) (p48 : (Int32 × Int32 × (Nat → Int32))) : Int32 × Int32 × (Nat → Int32) × Int32 × Int32 × (Nat → Int32) × Int32 × Int32 × (Nat → Int32) := F_Mil_quotientOrRest_c17 x2 R R2 t0_0 t0_1 t1_0 t2_0 t2_1 t3_0 t4_0 t4_1 t5_0 t6_0 t6_1 t7_0 p48 ((F_Big_divideBy (220 : Int32) R2 (220 : Int32) (p48.1 : Int32) (p48.2.1 : Int32) (p48.2.2 : (Nat → Int32)) t6_0 t6_1 t7_0 t2_0 t2_1 t3_0) : (Int32 × Int32 × (Nat → Int32) × Int32 × Int32 × (Nat → Int32) × Int32 × Int32 × (Nat → Int32)))
def F_Mil_quotientOrRest (x2 : Int32) (R : Int32) (R2 : Int32) (t0_0 : Int32) (t0_1 : Int32) (t1_0 : (Nat → Int32)) (t2_0 : Int32) (t2_1 : Int32) (t3_0 : (Nat → Int32)) (t4_0 : Int32) (t4_1 : Int32) (t5_0 : (Nat → Int32)) (t6_0 : Int32) (t6_1 : Int32) (t7_0 : (Nat → Int32)) : Int32 × Int32 × (Nat → Int32) × Int32 × Int32 × (Nat → Int32) × Int32 × Int32 × (Nat → Int32) := F_Mil_quotientOrRest_c5 x2 R R2 t0_0 t0_1 t1_0 t2_0 t2_1 t3_0 t4_0 t4_1 t5_0 t6_0 t6_1 t7_0 ((F_Big_copy (220 : Int32) R t0_0 t0_1 t1_0 t4_0 t4_1 t5_0) : (Int32 × Int32 × (Nat → Int32)))
def S_Mil_quotientOrRest_c32 (x2 : Int32) (R : Int32) (R2 : Int32) (t0_0 : Int32) (t0_1 : Int32) (t1_0 : (Nat → Int32)) (t2_0 : Int32) (t2_1 : Int32) (t3_0 : (Nat → Int32)) (t4_0 : Int32) (t4_1 : Int32) (t5_0 : (Nat → Int32)) (t6_0 : Int32) (t6_1 : Int32) (t7_0 : (Nat → Int32)) (p48 : (Int32 × Int32 × (Nat → Int32))) (p95 : (Int32 × Int32 × (Nat → Int32) × Int32 × Int32 × (Nat → Int32) × Int32 × Int32 × (Nat → Int32))) (y74 : Int32) (y75 : Int32) (f76 : (Nat → Int32)) (y69 : Int32) (y70 : Int32) (f71 : (Nat → Int32)) (p128 : (Int32 × Int32 × (Nat → Int32))) : Prop := if y74 ≤ (0 : Int32) then (True) else (if t4_1 = y70 then (True) else (True))
def S_Mil_quotientOrRest_c17 (x2 : Int32) (R : Int32) (R2 : Int32) (t0_0 : Int32) (t0_1 : Int32) (t1_0 : (Nat → Int32)) (t2_0 : Int32) (t2_1 : Int32) (t3_0 : (Nat → Int32)) (t4_0 : Int32) (t4_1 : Int32) (t5_0 : (Nat → Int32)) (t6_0 : Int32) (t6_1 : Int32) (t7_0 : (Nat → Int32)) (p48 : (Int32 × Int32 × (Nat → Int32))) (p95 : (Int32 × Int32 × (Nat → Int32) × Int32 × Int32 × (Nat → Int32) × Int32 × Int32 × (Nat → Int32))) : Prop := if x2 = (0 : Int32) then (True) else (S_Mil_quotientOrRest_c32 x2 R R2 t0_0 t0_1 t1_0 t2_0 t2_1 t3_0 t4_0 t4_1 t5_0 t6_0 t6_1 t7_0 p48 p95 (p95.2.2.2.2.2.2.1 : Int32) (p95.2.2.2.2.2.2.2.1 : Int32) (p95.2.2.2.2.2.2.2.2 : (Nat → Int32)) (p95.2.2.2.1 : Int32) (p95.2.2.2.2.1 : Int32) (p95.2.2.2.2.2.1 : (Nat → Int32)) ((F_Big_copy (220 : Int32) (220 : Int32) (p95.1 : Int32) (p95.2.1 : Int32) (p95.2.2.1 : (Nat → Int32)) (p95.2.2.2.2.2.2.1 : Int32) (p95.2.2.2.2.2.2.2.1 : Int32) (p95.2.2.2.2.2.2.2.2 : (Nat → Int32))) : (Int32 × Int32 × (Nat → Int32))))
def S_Mil_quotientOrRest_c5 (x2 : Int32) (R : Int32) (R2 : Int32) (t0_0 : Int32) (t0_1 : Int32) (t1_0 : (Nat → Int32)) (t2_0 : Int32) (t2_1 : Int32) (t3_0 : (Nat → Int32)) (t4_0 : Int32) (t4_1 : Int32) (t5_0 : (Nat → Int32)) (t6_0 : Int32) (t6_1 : Int32) (t7_0 : (Nat → Int32)) (p48 : (Int32 × Int32 × (Nat → Int32))) : Prop := (True ∧ S_Big_divideBy (220 : Int32) R2 (220 : Int32) (p48.1 : Int32) (p48.2.1 : Int32) (p48.2.2 : (Nat → Int32)) t6_0 t6_1 t7_0 t2_0 t2_1 t3_0) ∧ (S_Mil_quotientOrRest_c17 x2 R R2 t0_0 t0_1 t1_0 t2_0 t2_1 t3_0 t4_0 t4_1 t5_0 t6_0 t6_1 t7_0 p48 ((F_Big_divideBy (220 : Int32) R2 (220 : Int32) (p48.1 : Int32) (p48.2.1 : Int32) (p48.2.2 : (Nat → Int32)) t6_0 t6_1 t7_0 t2_0 t2_1 t3_0) : (Int32 × Int32 × (Nat → Int32) × Int32 × Int32 × (Nat → Int32) × Int32 × Int32 × (Nat → Int32))))
def S_Mil_quotientOrRest (x2 : Int32) (R : Int32) (R2 : Int32) (t0_0 : Int32) (t0_1 : Int32) (t1_0 : (Nat → Int32)) (t2_0 : Int32) (t2_1 : Int32) (t3_0 : (Nat → Int32)) (t4_0 : Int32) (t4_1 : Int32) (t5_0 : (Nat → Int32)) (t6_0 : Int32) (t6_1 : Int32) (t7_0 : (Nat → Int32)) : Prop := S_Mil_quotientOrRest_c5 x2 R R2 t0_0 t0_1 t1_0 t2_0 t2_1 t3_0 t4_0 t4_1 t5_0 t6_0 t6_1 t7_0 ((F_Big_copy (220 : Int32) R t0_0 t0_1 t1_0 t4_0 t4_1 t5_0) : (Int32 × Int32 × (Nat → Int32)))
set_option maxRecDepth 100000 in
set_option maxHeartbeats 4000000 in
theorem X_Mil_quotientOrRest (l : Launch) (D : va_G) (g : Nat → ClassId) (q : Nat → Nat) (ws : va_W) (k3 : Nat) (R : Int32) (hB3 : q_isBig (nsh g q) g q k3 R) (zk3 : (10 ≤ k3 ∧ k3 ≤ 32) ∨ 66 ≤ k3) (k4 : Nat) (R2 : Int32) (hB4 : q_isBig (nsh g q) g q k4 R2) (zk4 : (10 ≤ k4 ∧ k4 ≤ 32) ∨ 66 ≤ k4) (x2 : Int32) (ne_k3_10 : k3 ≠ 10) (ne_k3_11 : k3 ≠ 11) (ne_k3_9 : k3 ≠ 9) (ne_k3_12 : k3 ≠ 12) (ne_k3_13 : k3 ≠ 13) (ne_k3_11 : k3 ≠ 11) (ne_k4_10 : k4 ≠ 10) (ne_k4_11 : k4 ≠ 11) (ne_k4_9 : k4 ≠ 9) (ne_k4_12 : k4 ≠ 12) (ne_k4_13 : k4 ≠ 13) (ne_k4_11 : k4 ≠ 11) (ne_k3_k4 : k3 ≠ k4) (hI : q_I (nsh g q) q ws) (t0_0 : Int32) (t0_1 : Int32) (hT0 : ws[10]? = (some (q 10, .inr (2, [.ref (q 11), .int t0_0, .int t0_1])) : Option (Nat × va_E))) (t1_0 : (Nat → Int32)) (hT1 : ws[11]? = (some (q 11, .inl (g 0, (220 : Int32).toNatClampNeg, .inl t1_0)) : Option (Nat × va_E))) (t2_0 : Int32) (t2_1 : Int32) (hT2 : ws[12]? = (some (q 12, .inr (2, [.ref (q 13), .int t2_0, .int t2_1])) : Option (Nat × va_E))) (t3_0 : (Nat → Int32)) (hT3 : ws[13]? = (some (q 13, .inl (g 0, (220 : Int32).toNatClampNeg, .inl t3_0)) : Option (Nat × va_E))) (t4_0 : Int32) (t4_1 : Int32) (hT4 : ws[k3]? = (some (q k3, .inr (2, [.ref (q (k3 + 1)), .int t4_0, .int t4_1])) : Option (Nat × va_E))) (t5_0 : (Nat → Int32)) (hT5 : ws[k3 + 1]? = (some (q (k3 + 1), .inl (g 0, R.toNatClampNeg, .inl t5_0)) : Option (Nat × va_E))) (t6_0 : Int32) (t6_1 : Int32) (hT6 : ws[k4]? = (some (q k4, .inr (2, [.ref (q (k4 + 1)), .int t6_0, .int t6_1])) : Option (Nat × va_E))) (t7_0 : (Nat → Int32)) (hT7 : ws[k4 + 1]? = (some (q (k4 + 1), .inl (g 0, R2.toNatClampNeg, .inl t7_0)) : Option (Nat × va_E))) (hzx2 : 0 ≤ x2.toInt ∧ x2.toInt ≤ 1) (hS : True ∧ S_Mil_quotientOrRest x2 R R2 t0_0 t0_1 t1_0 t2_0 t2_1 t3_0 t4_0 t4_1 t5_0 t6_0 t6_1 t7_0) : q_mV l y_Mil_quotientOrRest prog_8_method_3_code 4 5 0 0 D g [.ref (q 9), .int x2, .ref (q k3), .ref (q k4)] ws (fun u => q_I (nsh g q) q u ∧ q_un ws u [10, 11, 12, 13, k4, k4 + 1] ∧ ∃ (u0_0 : Int32) (u0_1 : Int32) (u1_0 : (Nat → Int32)) (u2_0 : Int32) (u2_1 : Int32) (u3_0 : (Nat → Int32)) (u6_0 : Int32) (u6_1 : Int32) (u7_0 : (Nat → Int32)), u[10]? = (some (q 10, .inr (2, [.ref (q 11), .int u0_0, .int u0_1])) : Option (Nat × va_E)) ∧ u[11]? = (some (q 11, .inl (g 0, (220 : Int32).toNatClampNeg, .inl u1_0)) : Option (Nat × va_E)) ∧ u[12]? = (some (q 12, .inr (2, [.ref (q 13), .int u2_0, .int u2_1])) : Option (Nat × va_E)) ∧ u[13]? = (some (q 13, .inl (g 0, (220 : Int32).toNatClampNeg, .inl u3_0)) : Option (Nat × va_E)) ∧ u[k4]? = (some (q k4, .inr (2, [.ref (q (k4 + 1)), .int u6_0, .int u6_1])) : Option (Nat × va_E)) ∧ u[k4 + 1]? = (some (q (k4 + 1), .inl (g 0, R2.toNatClampNeg, .inl u7_0)) : Option (Nat × va_E)) ∧ (0 ≤ u2_1.toInt) ∧ (u2_1.toInt ≤ 0) ∧ (u2_0.toInt ≤ t6_0.toInt + 219) ∧ (u6_0.toInt ≤ t6_0.toInt + 218) ∧ (u6_0.toInt ≤ R2.toInt) ∧ (u6_1.toInt ≤ t6_1.toInt) ∧ (u2_1.toInt ≤ u0_0.toInt) ∧ (u0_0.toInt ≤ u2_1.toInt + 220) ∧ (u2_1.toInt ≤ u0_1.toInt) ∧ (u0_1.toInt ≤ u2_1.toInt + 1) ∧ (u2_1.toInt ≤ u2_0.toInt) ∧ (u2_0.toInt ≤ u2_1.toInt + 220) ∧ (u2_1.toInt ≤ u6_0.toInt) ∧ (u2_1.toInt ≤ u6_1.toInt) ∧ (u0_0, u0_1, u1_0, u2_0, u2_1, u3_0, u6_0, u6_1, u7_0) = (F_Mil_quotientOrRest x2 R R2 t0_0 t0_1 t1_0 t2_0 t2_1 t3_0 t4_0 t4_1 t5_0 t6_0 t6_1 t7_0)) := by
  intro sz
  refine q_into (by decide) (Nat.le_of_ble_eq_true rfl) ?_
  intro p e s m below meth c ls hsz C0 V hl
  have hx := C0.1
  have hb := C0.2.1
  replace hzx2 : q_F (0 ≤ x2.toInt ∧ x2.toInt ≤ 1) := hzx2
  have hfk30 : q_F (0 ≤ R.toInt ∧ R.toInt ≤ 220) := hB3.2.2
  have hfk40 : q_F (0 ≤ R2.toInt ∧ R2.toInt ≤ 220) := hB4.2.2
  obtain ⟨yy0_0, yy0_1, hh0, btt0_0, btt0_1⟩ := q_bigO hI (n_b10 g q)
  obtain ⟨rfl, rfl⟩ : t0_0 = yy0_0 ∧ t0_1 = yy0_1 := by have z := Option.some.inj (hT0.symm.trans hh0); simpa using z
  replace btt0_0 : q_F (0 ≤ t0_0.toInt ∧ t0_0.toInt ≤ 220) := btt0_0
  replace btt0_1 : q_F (0 ≤ t0_1.toInt ∧ t0_1.toInt ≤ 1) := btt0_1
  obtain ⟨yy2_0, yy2_1, hh2, btt2_0, btt2_1⟩ := q_bigO hI (n_b12 g q)
  obtain ⟨rfl, rfl⟩ : t2_0 = yy2_0 ∧ t2_1 = yy2_1 := by have z := Option.some.inj (hT2.symm.trans hh2); simpa using z
  replace btt2_0 : q_F (0 ≤ t2_0.toInt ∧ t2_0.toInt ≤ 220) := btt2_0
  replace btt2_1 : q_F (0 ≤ t2_1.toInt ∧ t2_1.toInt ≤ 1) := btt2_1
  obtain ⟨yy4_0, yy4_1, hh4, btt4_0, btt4_1⟩ := q_bigO hI hB3
  obtain ⟨rfl, rfl⟩ : t4_0 = yy4_0 ∧ t4_1 = yy4_1 := by have z := Option.some.inj (hT4.symm.trans hh4); simpa using z
  replace btt4_0 : q_F (0 ≤ t4_0.toInt ∧ t4_0.toInt ≤ R.toInt) := btt4_0
  replace btt4_1 : q_F (0 ≤ t4_1.toInt ∧ t4_1.toInt ≤ 1) := btt4_1
  obtain ⟨yy6_0, yy6_1, hh6, btt6_0, btt6_1⟩ := q_bigO hI hB4
  obtain ⟨rfl, rfl⟩ : t6_0 = yy6_0 ∧ t6_1 = yy6_1 := by have z := Option.some.inj (hT6.symm.trans hh6); simpa using z
  replace btt6_0 : q_F (0 ≤ t6_0.toInt ∧ t6_0.toInt ≤ R2.toInt) := btt6_0
  replace btt6_1 : q_F (0 ≤ t6_1.toInt ∧ t6_1.toInt ≤ 1) := btt6_1
  have hF : q_un ws ws [10, 11, 12, 13, k4, k4 + 1] := q_u0
  have hl : lv_has ls 4 [(0, .ref (q 9)), (1, .int x2), (2, .ref (q k3)), (3, .ref (q k4))] := hl
  refine lv_aload_n hx hb d_8_3_0 rfl (lv_at hl 0 rfl) ?_
  have hO33 := n_o9 hI
  refine q_get (ci := 4) (j := 0) (v := .ref (q 10)) C0 V i_Mil rfl rfl hO33 (by decide) w_108 rfl d_8_3_1 ?_
  refine lv_aload_n hx hb d_8_3_4 rfl (lv_at hl 2 rfl) ?_
  refine q_gov V (q_runV (As := [.ref (q k3)]) (rest := []) (d := 2) (mc := 0) (ms := 0) (ci := 2) C0 V rfl LV_Mil_51 (X_Big_copy l D g q ws 10 220 (n_b10 g q) (by decide) k3 R hB3 zk3  (by have z := ne_k3_10; omega) hI t0_0 t0_1 hT0 t1_0 hT1 t4_0 t4_1 hT4 t5_0 hT5  _) rfl rfl hT0 rfl hl.1 rfl (Nat.le_of_ble_eq_true rfl) ⟨by decide, by decide⟩ ⟨Nat.le_of_ble_eq_true rfl, Nat.le_of_ble_eq_true rfl⟩ d_8_3_5) (fun u34 H locs hp35 V => ?_)
  obtain ⟨hI, hu47, y37, y38, f39, hO36, hA40, b41, b42, b43, b44, b45, hE46⟩ := hp35
  replace hO36 : u34[10]? = (some (q 10, .inr (2, [.ref (q 11), .int y37, .int y38])) : Option (Nat × va_E)) := hO36
  replace hA40 : u34[11]? = (some (q 11, .inl (g 0, (220 : Int32).toNatClampNeg, .inl f39)) : Option (Nat × va_E)) := hA40
  obtain ⟨p48, e49⟩ : ∃ z, z = (F_Big_copy (220 : Int32) R t0_0 t0_1 t1_0 t4_0 t4_1 t5_0) := ⟨_, rfl⟩
  have e50 : y37 = p48.1 := congrArg (fun z => z.1) (hE46.trans e49.symm)
  have e51 : y38 = p48.2.1 := congrArg (fun z => z.2.1) (hE46.trans e49.symm)
  have e52 : f39 = p48.2.2 := congrArg (fun z => z.2.2) (hE46.trans e49.symm)
  replace b41 : q_F (0 ≤ y37.toInt) := b41
  replace b42 : q_F (y37.toInt ≤ t4_0.toInt) := b42
  replace b43 : q_F (y37.toInt ≤ 220) := b43
  replace b44 : q_F (t4_1.toInt ≤ y38.toInt) := b44
  replace b45 : q_F (y38.toInt ≤ t4_1.toInt) := b45
  replace hT2 := (hu47 _ (by decide)).trans hT2
  replace hT3 := (hu47 _ (by decide)).trans hT3
  replace hT4 := (hu47 _ (by have z0 := zk3; simp only [List.mem_cons, List.not_mem_nil, or_false, not_or]; omega)).trans hT4
  replace hT5 := (hu47 _ (by have z0 := zk3; simp only [List.mem_cons, List.not_mem_nil, or_false, not_or]; omega)).trans hT5
  replace hT6 := (hu47 _ (by have z0 := zk4; simp only [List.mem_cons, List.not_mem_nil, or_false, not_or]; omega)).trans hT6
  replace hT7 := (hu47 _ (by have z0 := zk4; simp only [List.mem_cons, List.not_mem_nil, or_false, not_or]; omega)).trans hT7
  replace hO33 := (hu47 _ (by decide)).trans hO33
  replace hF := q_uc hF hu47 (by simp)
  have hR53 := (show F_Mil_quotientOrRest_c5 x2 R R2 t0_0 t0_1 t1_0 t2_0 t2_1 t3_0 t4_0 t4_1 t5_0 t6_0 t6_1 t7_0 p48 = (F_Mil_quotientOrRest x2 R R2 t0_0 t0_1 t1_0 t2_0 t2_1 t3_0 t4_0 t4_1 t5_0 t6_0 t6_1 t7_0) from (by rw [e49, F_Mil_quotientOrRest.eq_1]))
  have hS54 := (show True ∧ S_Mil_quotientOrRest_c5 x2 R R2 t0_0 t0_1 t1_0 t2_0 t2_1 t3_0 t4_0 t4_1 t5_0 t6_0 t6_1 t7_0 p48 from (by rw [e49]; have h := hS; rw [S_Mil_quotientOrRest.eq_1] at h; with_reducible exact h))
  refine lv_aload_n hx hb d_8_3_8 rfl (lv_at hl 0 rfl) ?_
  refine q_get (ci := 4) (j := 0) (v := .ref (q 10)) C0 V i_Mil rfl rfl hO33 (by decide) w_108 rfl d_8_3_9 ?_
  refine lv_aload_n hx hb d_8_3_12 rfl (lv_at hl 3 rfl) ?_
  refine lv_aload_n hx hb d_8_3_13 rfl (lv_at hl 0 rfl) ?_
  refine q_get (ci := 4) (j := 1) (v := .ref (q 12)) C0 V i_Mil rfl rfl hO33 (by decide) w_114 rfl d_8_3_14 ?_
  have ne58 := q_df hT5 hT6
  have ne59 := q_df hT7 hT4
  have ob60 : True ∧ S_Big_divideBy (220 : Int32) R2 (220 : Int32) y37 y38 f39 t6_0 t6_1 t7_0 t2_0 t2_1 t3_0 := (by rw [e52, e51, e50]; have h := hS54; rw [S_Mil_quotientOrRest_c5.eq_1] at h; with_reducible exact h.2.1)
  refine q_gov V (q_runV (As := [.ref (q k4), .ref (q 12)]) (rest := []) (d := 4) (mc := 0) (ms := 0) (ci := 2) C0 V rfl LV_Mil_59 (X_Big_divideBy l D g q u34 10 220 (n_b10 g q) (by decide) k4 R2 hB4 zk4 12 220 (n_b12 g q) (by decide)  (by have z := ne_k4_10; omega) (by decide) (by have z := ne_k4_12; omega) hI y37 y38 hO36 f39 hA40 t6_0 t6_1 hT6 t7_0 hT7 t2_0 t2_1 hT2 t3_0 hT3 ob60 _) rfl rfl hO36 rfl hl.1 rfl (Nat.le_of_ble_eq_true rfl) ⟨by decide, by decide⟩ ⟨Nat.le_of_ble_eq_true rfl, Nat.le_of_ble_eq_true rfl⟩ d_8_3_17) (fun u61 H locs hp62 V => ?_)
  obtain ⟨hI, hu94, y64, y65, f66, y69, y70, f71, y74, y75, f76, hO63, hA67, hO68, hA72, hO73, hA77, b78, b79, b80, b81, b82, b83, b84, b85, b86, b87, b88, b89, b90, b91, b92, hE93⟩ := hp62
  replace hO63 : u61[10]? = (some (q 10, .inr (2, [.ref (q 11), .int y64, .int y65])) : Option (Nat × va_E)) := hO63
  replace hA67 : u61[11]? = (some (q 11, .inl (g 0, (220 : Int32).toNatClampNeg, .inl f66)) : Option (Nat × va_E)) := hA67
  replace hO68 : u61[k4]? = (some (q k4, .inr (2, [.ref (q (k4 + 1)), .int y69, .int y70])) : Option (Nat × va_E)) := hO68
  replace hA72 : u61[k4 + 1]? = (some (q (k4 + 1), .inl (g 0, R2.toNatClampNeg, .inl f71)) : Option (Nat × va_E)) := hA72
  replace hO73 : u61[12]? = (some (q 12, .inr (2, [.ref (q 13), .int y74, .int y75])) : Option (Nat × va_E)) := hO73
  replace hA77 : u61[13]? = (some (q 13, .inl (g 0, (220 : Int32).toNatClampNeg, .inl f76)) : Option (Nat × va_E)) := hA77
  obtain ⟨p95, e96⟩ : ∃ z, z = (F_Big_divideBy (220 : Int32) R2 (220 : Int32) y37 y38 f39 t6_0 t6_1 t7_0 t2_0 t2_1 t3_0) := ⟨_, rfl⟩
  have e97 : y64 = p95.1 := congrArg (fun z => z.1) (hE93.trans e96.symm)
  have e98 : y65 = p95.2.1 := congrArg (fun z => z.2.1) (hE93.trans e96.symm)
  have e99 : f66 = p95.2.2.1 := congrArg (fun z => z.2.2.1) (hE93.trans e96.symm)
  have e100 : y69 = p95.2.2.2.1 := congrArg (fun z => z.2.2.2.1) (hE93.trans e96.symm)
  have e101 : y70 = p95.2.2.2.2.1 := congrArg (fun z => z.2.2.2.2.1) (hE93.trans e96.symm)
  have e102 : f71 = p95.2.2.2.2.2.1 := congrArg (fun z => z.2.2.2.2.2.1) (hE93.trans e96.symm)
  have e103 : y74 = p95.2.2.2.2.2.2.1 := congrArg (fun z => z.2.2.2.2.2.2.1) (hE93.trans e96.symm)
  have e104 : y75 = p95.2.2.2.2.2.2.2.1 := congrArg (fun z => z.2.2.2.2.2.2.2.1) (hE93.trans e96.symm)
  have e105 : f76 = p95.2.2.2.2.2.2.2.2 := congrArg (fun z => z.2.2.2.2.2.2.2.2) (hE93.trans e96.symm)
  replace b78 : q_F (0 ≤ y75.toInt) := b78
  replace b79 : q_F (y75.toInt ≤ 0) := b79
  replace b80 : q_F (y64.toInt ≤ 220) := b80
  replace b81 : q_F (y65.toInt ≤ y38.toInt) := b81
  replace b82 : q_F (y69.toInt ≤ t6_0.toInt + 218) := b82
  replace b83 : q_F (y69.toInt ≤ R2.toInt) := b83
  replace b84 : q_F (y70.toInt ≤ t6_1.toInt) := b84
  replace b85 : q_F (y74.toInt ≤ t6_0.toInt + 219) := b85
  replace b86 : q_F (y74.toInt ≤ 220 + 1) := b86
  replace b87 : q_F (y74.toInt ≤ 220) := b87
  replace b88 : q_F (y75.toInt ≤ y64.toInt) := b88
  replace b89 : q_F (y75.toInt ≤ y65.toInt) := b89
  replace b90 : q_F (y75.toInt ≤ y69.toInt) := b90
  replace b91 : q_F (y75.toInt ≤ y70.toInt) := b91
  replace b92 : q_F (y75.toInt ≤ y74.toInt) := b92
  replace hT4 := (hu94 _ (q_nc (by have z := ne_k3_10; omega) (q_nc (by have z := ne_k3_11; omega) (q_nc (by have z := ne_k3_k4; omega) (q_nc (Ne.symm ne59) (q_nc (by have z := ne_k3_12; omega) (q_nc (by have z := ne_k3_13; omega) List.not_mem_nil))))))).trans hT4
  replace hT5 := (hu94 _ (q_nc (by have z := ne_k3_9; omega) (q_nc (by have z := ne_k3_10; omega) (q_nc ne58 (q_nc (by have z := ne_k3_k4; omega) (q_nc (by have z := ne_k3_11; omega) (q_nc (by have z := ne_k3_12; omega) List.not_mem_nil))))))).trans hT5
  replace hO33 := (hu94 _ (by have z0 := zk4; simp only [List.mem_cons, List.not_mem_nil, or_false, not_or]; omega)).trans hO33
  replace hF := q_uc hF hu94 (by simp)
  have hR106 := (show F_Mil_quotientOrRest_c17 x2 R R2 t0_0 t0_1 t1_0 t2_0 t2_1 t3_0 t4_0 t4_1 t5_0 t6_0 t6_1 t7_0 p48 p95 = (F_Mil_quotientOrRest x2 R R2 t0_0 t0_1 t1_0 t2_0 t2_1 t3_0 t4_0 t4_1 t5_0 t6_0 t6_1 t7_0) from Eq.trans (by rw [e96, e52, e51, e50, F_Mil_quotientOrRest_c5.eq_1]) hR53)
  have hS107 := (show True ∧ S_Mil_quotientOrRest_c17 x2 R R2 t0_0 t0_1 t1_0 t2_0 t2_1 t3_0 t4_0 t4_1 t5_0 t6_0 t6_1 t7_0 p48 p95 from (by rw [e96, e52, e51, e50]; have h := hS54; rw [S_Mil_quotientOrRest_c5.eq_1] at h; replace h := q_s2 h; with_reducible exact h))
  refine lv_iload_n hx hb d_8_3_20 rfl (lv_at hl 1 rfl) ?_
  refine lv_if_eq (tgt := 68) hx hb d_8_3_21 (by decide) (fun c111 => ?_) (fun c111 => ?_)
  ·
    have b112 : q_F (x2.toInt = 0) := (q_eqI c111)
    exact q_retv C0 V (⟨hI, hF, y64, y65, f66, y74, y75, f76, y69, y70, f71, hO63, hA67, hO73, hA77, hO68, hA72, (show 0 ≤ y75.toInt from (by have t1 : 0 ≤ y75.toInt := b78; omega)), (show y75.toInt ≤ 0 from (by have t1 : y75.toInt ≤ 0 := b79; omega)), (show y74.toInt ≤ t6_0.toInt + 219 from (by have t1 : y74.toInt ≤ t6_0.toInt + 219 := b85; omega)), (show y69.toInt ≤ t6_0.toInt + 218 from (by have t1 : y69.toInt ≤ t6_0.toInt + 218 := b82; omega)), (show y69.toInt ≤ R2.toInt from (by have t1 : y69.toInt ≤ R2.toInt := b83; omega)), (show y70.toInt ≤ t6_1.toInt from (by have t1 : y70.toInt ≤ t6_1.toInt := b84; omega)), (show y75.toInt ≤ y64.toInt from (by have t1 : y75.toInt ≤ y64.toInt := b88; omega)), (show y64.toInt ≤ y75.toInt + 220 from (by have t1 : 0 ≤ y75.toInt := b78; have t2 : y64.toInt ≤ 220 := b80; omega)), (show y75.toInt ≤ y65.toInt from (by have t1 : y75.toInt ≤ y65.toInt := b89; omega)), (show y65.toInt ≤ y75.toInt + 1 from (by have t1 : 0 ≤ t4_1.toInt ∧ t4_1.toInt ≤ 1 := btt4_1; have t2 : y38.toInt ≤ t4_1.toInt := b45; have t3 : 0 ≤ y75.toInt := b78; have t4 : y65.toInt ≤ y38.toInt := b81; omega)), (show y75.toInt ≤ y74.toInt from (by have t1 : y75.toInt ≤ y74.toInt := b92; omega)), (show y74.toInt ≤ y75.toInt + 220 from (by have t1 : 0 ≤ y75.toInt := b78; have t2 : y74.toInt ≤ 220 := b87; omega)), (show y75.toInt ≤ y69.toInt from (by have t1 : y75.toInt ≤ y69.toInt := b90; omega)), (show y75.toInt ≤ y70.toInt from (by have t1 : y75.toInt ≤ y70.toInt := b91; omega)), (show (y64, y65, f66, y74, y75, f76, y69, y70, f71) = (F_Mil_quotientOrRest x2 R R2 t0_0 t0_1 t1_0 t2_0 t2_1 t3_0 t4_0 t4_1 t5_0 t6_0 t6_1 t7_0) from Eq.trans (by rw [e105, e104, e103, e102, e101, e100, e99, e98, e97, F_Mil_quotientOrRest_c17.eq_1, if_pos c111]) hR106)⟩) d_8_3_68
  ·
    have b113 : q_F (x2.toInt ≠ 0) := (q_neI c111)
    refine lv_aload_n hx hb d_8_3_24 rfl (lv_at hl 0 rfl) ?_
    refine q_get (ci := 4) (j := 0) (v := .ref (q 10)) C0 V i_Mil rfl rfl hO33 (by decide) w_108 rfl d_8_3_25 ?_
    refine lv_aload_n hx hb d_8_3_28 rfl (lv_at hl 0 rfl) ?_
    refine q_get (ci := 4) (j := 1) (v := .ref (q 12)) C0 V i_Mil rfl rfl hO33 (by decide) w_114 rfl d_8_3_29 ?_
    refine q_gov V (q_runV (As := [.ref (q 12)]) (rest := []) (d := 2) (mc := 0) (ms := 0) (ci := 2) C0 V rfl LV_Mil_51 (X_Big_copy l D g q u61 10 220 (n_b10 g q) (by decide) 12 220 (n_b12 g q) (by decide)  (by decide) hI y64 y65 hO63 f66 hA67 y74 y75 hO73 f76 hA77  _) rfl rfl hO63 rfl hl.1 rfl (Nat.le_of_ble_eq_true rfl) ⟨by decide, by decide⟩ ⟨Nat.le_of_ble_eq_true rfl, Nat.le_of_ble_eq_true rfl⟩ d_8_3_32) (fun u114 H locs hp115 V => ?_)
    obtain ⟨hI, hu127, y117, y118, f119, hO116, hA120, b121, b122, b123, b124, b125, hE126⟩ := hp115
    replace hO116 : u114[10]? = (some (q 10, .inr (2, [.ref (q 11), .int y117, .int y118])) : Option (Nat × va_E)) := hO116
    replace hA120 : u114[11]? = (some (q 11, .inl (g 0, (220 : Int32).toNatClampNeg, .inl f119)) : Option (Nat × va_E)) := hA120
    obtain ⟨p128, e129⟩ : ∃ z, z = (F_Big_copy (220 : Int32) (220 : Int32) y64 y65 f66 y74 y75 f76) := ⟨_, rfl⟩
    have e130 : y117 = p128.1 := congrArg (fun z => z.1) (hE126.trans e129.symm)
    have e131 : y118 = p128.2.1 := congrArg (fun z => z.2.1) (hE126.trans e129.symm)
    have e132 : f119 = p128.2.2 := congrArg (fun z => z.2.2) (hE126.trans e129.symm)
    replace b121 : q_F (0 ≤ y117.toInt) := b121
    replace b122 : q_F (y117.toInt ≤ y74.toInt) := b122
    replace b123 : q_F (y117.toInt ≤ 220) := b123
    replace b124 : q_F (y75.toInt ≤ y118.toInt) := b124
    replace b125 : q_F (y118.toInt ≤ y75.toInt) := b125
    replace hO73 := (hu127 _ (by decide)).trans hO73
    replace hA77 := (hu127 _ (by decide)).trans hA77
    replace hT4 := (hu127 _ (by have z0 := zk3; simp only [List.mem_cons, List.not_mem_nil, or_false, not_or]; omega)).trans hT4
    replace hT5 := (hu127 _ (by have z0 := zk3; simp only [List.mem_cons, List.not_mem_nil, or_false, not_or]; omega)).trans hT5
    replace hO68 := (hu127 _ (by have z0 := zk4; simp only [List.mem_cons, List.not_mem_nil, or_false, not_or]; omega)).trans hO68
    replace hA72 := (hu127 _ (by have z0 := zk4; simp only [List.mem_cons, List.not_mem_nil, or_false, not_or]; omega)).trans hA72
    replace hO33 := (hu127 _ (by decide)).trans hO33
    replace hF := q_uc hF hu127 (by simp)
    have hR133 := (show F_Mil_quotientOrRest_c32 x2 R R2 t0_0 t0_1 t1_0 t2_0 t2_1 t3_0 t4_0 t4_1 t5_0 t6_0 t6_1 t7_0 p48 p95 y74 y75 f76 y69 y70 f71 p128 = (F_Mil_quotientOrRest x2 R R2 t0_0 t0_1 t1_0 t2_0 t2_1 t3_0 t4_0 t4_1 t5_0 t6_0 t6_1 t7_0) from Eq.trans (by rw [e129, e105, e104, e103, e102, e101, e100, e99, e98, e97, F_Mil_quotientOrRest_c17.eq_1, if_neg c111]) hR106)
    have hS134 := (show True ∧ S_Mil_quotientOrRest_c32 x2 R R2 t0_0 t0_1 t1_0 t2_0 t2_1 t3_0 t4_0 t4_1 t5_0 t6_0 t6_1 t7_0 p48 p95 y74 y75 f76 y69 y70 f71 p128 from (by rw [e129, e105, e104, e103, e102, e101, e100, e99, e98, e97]; have h := hS107; rw [S_Mil_quotientOrRest_c17.eq_1] at h; rw [if_neg c111] at h; with_reducible exact h))
    refine lv_aload_n hx hb d_8_3_35 rfl (lv_at hl 0 rfl) ?_
    refine q_get (ci := 4) (j := 0) (v := .ref (q 10)) C0 V i_Mil rfl rfl hO33 (by decide) w_108 rfl d_8_3_36 ?_
    refine lv_aload_n hx hb d_8_3_39 rfl (lv_at hl 0 rfl) ?_
    refine q_get (ci := 4) (j := 1) (v := .ref (q 12)) C0 V i_Mil rfl rfl hO33 (by decide) w_114 rfl d_8_3_40 ?_
    refine q_get (ci := 2) (j := 1) (v := .int y74) C0 V i_Big rfl rfl hO73 (by decide) w_89 rfl d_8_3_43 ?_
    refine lv_if_le (tgt := 64) hx hb d_8_3_46 (by decide) (fun c138 => ?_) (fun c138 => ?_)
    ·
      have b139 : q_F (y74.toInt ≤ 0) := (q_leI c138)
      refine lv_iconst (v := 0) hx hb d_8_3_64 (by decide) ?_
      refine q_put (ci := 2) (j := 2) (v := .int 0) (ty := .boolean) C0 V i_Big o_Big n_Big rfl rfl hO116 (by decide) w_96 rfl rfl rfl rfl (Nat.le_of_ble_eq_true rfl) d_8_3_65 (fun H locs w140 hu141 hO116 V => ?_)
      replace hO116 : w140[10]? = (some (q 10, .inr (2, [.ref (q 11), .int y117, .int 0])) : Option (Nat × va_E)) := hO116
      replace hI := q_bigO' hI (n_b10 g q) hu141 hO116 ⟨(by have zR : (220 : Int32).toInt = 220 := rfl; have t1 : 0 ≤ y117.toInt := b121; omega), (by have zR : (220 : Int32).toInt = 220 := rfl; have t1 : y117.toInt ≤ 220 := b123; omega)⟩ ⟨(by have z9 : (0 : Int32).toInt = 0 := rfl; omega), (by have z9 : (0 : Int32).toInt = 0 := rfl; omega)⟩
      replace hA120 := (hu141 _ (by decide)).trans hA120
      replace hO73 := (hu141 _ (by decide)).trans hO73
      replace hA77 := (hu141 _ (by decide)).trans hA77
      replace hT4 := (hu141 _ (by have z := ne_k3_10; omega)).trans hT4
      replace hT5 := (hu141 _ (by have z := ne_k3_9; omega)).trans hT5
      replace hO68 := (hu141 _ (by have z := ne_k4_10; omega)).trans hO68
      replace hA72 := (hu141 _ (by have z := ne_k4_9; omega)).trans hA72
      replace hO33 := (hu141 _ (by decide)).trans hO33
      replace hF := q_us hF hu141 (by simp)
      exact q_retv C0 V (⟨hI, hF, y117, 0, f119, y74, y75, f76, y69, y70, f71, hO116, hA120, hO73, hA77, hO68, hA72, (show 0 ≤ y75.toInt from (by have z16 : (0 : Int32).toInt = 0 := rfl; have t1 : 0 ≤ y75.toInt := b78; omega)), (show y75.toInt ≤ 0 from (by have z16 : (0 : Int32).toInt = 0 := rfl; have t1 : y75.toInt ≤ 0 := b79; omega)), (show y74.toInt ≤ t6_0.toInt + 219 from (by have z16 : (0 : Int32).toInt = 0 := rfl; have t1 : y74.toInt ≤ t6_0.toInt + 219 := b85; omega)), (show y69.toInt ≤ t6_0.toInt + 218 from (by have z16 : (0 : Int32).toInt = 0 := rfl; have t1 : y69.toInt ≤ t6_0.toInt + 218 := b82; omega)), (show y69.toInt ≤ R2.toInt from (by have z16 : (0 : Int32).toInt = 0 := rfl; have t1 : y69.toInt ≤ R2.toInt := b83; omega)), (show y70.toInt ≤ t6_1.toInt from (by have z16 : (0 : Int32).toInt = 0 := rfl; have t1 : y70.toInt ≤ t6_1.toInt := b84; omega)), (show y75.toInt ≤ y117.toInt from (by have z16 : (0 : Int32).toInt = 0 := rfl; have t1 : y75.toInt ≤ 0 := b79; have t2 : 0 ≤ y117.toInt := b121; omega)), (show y117.toInt ≤ y75.toInt + 220 from (by have z16 : (0 : Int32).toInt = 0 := rfl; have t1 : 0 ≤ y75.toInt := b78; have t2 : y117.toInt ≤ 220 := b123; omega)), (show y75.toInt ≤ (0 : Int32).toInt from (by have z16 : (0 : Int32).toInt = 0 := rfl; have t1 : y75.toInt ≤ 0 := b79; omega)), (show (0 : Int32).toInt ≤ y75.toInt + 1 from (by have z16 : (0 : Int32).toInt = 0 := rfl; have t1 : 0 ≤ y75.toInt := b78; omega)), (show y75.toInt ≤ y74.toInt from (by have z16 : (0 : Int32).toInt = 0 := rfl; have t1 : y75.toInt ≤ y74.toInt := b92; omega)), (show y74.toInt ≤ y75.toInt + 220 from (by have z16 : (0 : Int32).toInt = 0 := rfl; have t1 : 0 ≤ y75.toInt := b78; have t2 : y74.toInt ≤ 220 := b87; omega)), (show y75.toInt ≤ y69.toInt from (by have z16 : (0 : Int32).toInt = 0 := rfl; have t1 : y75.toInt ≤ y69.toInt := b90; omega)), (show y75.toInt ≤ y70.toInt from (by have z16 : (0 : Int32).toInt = 0 := rfl; have t1 : y75.toInt ≤ y70.toInt := b91; omega)), (show (y117, (0 : Int32), f119, y74, y75, f76, y69, y70, f71) = (F_Mil_quotientOrRest x2 R R2 t0_0 t0_1 t1_0 t2_0 t2_1 t3_0 t4_0 t4_1 t5_0 t6_0 t6_1 t7_0) from Eq.trans (by rw [e132, e130, F_Mil_quotientOrRest_c32.eq_1, if_pos c138]) hR133)⟩) d_8_3_68
    ·
      have b142 : q_F (0 < y74.toInt) := (q_nleI c138)
      refine lv_aload_n hx hb d_8_3_49 rfl (lv_at hl 2 rfl) ?_
      refine q_get (ci := 2) (j := 2) (v := .int t4_1) C0 V i_Big rfl rfl hT4 (by decide) w_96 rfl d_8_3_50 ?_
      refine lv_aload_n hx hb d_8_3_53 rfl (lv_at hl 3 rfl) ?_
      refine q_get (ci := 2) (j := 2) (v := .int y70) C0 V i_Big rfl rfl hO68 (by decide) w_96 rfl d_8_3_54 ?_
      refine lv_icmp_eq (tgt := 64) hx hb d_8_3_57 (by decide) (fun c143 => ?_) (fun c143 => ?_)
      ·
        have b144 : q_F (t4_1.toInt = y70.toInt) := (q_eqI c143)
        refine lv_iconst (v := 0) hx hb d_8_3_64 (by decide) ?_
        refine q_put (ci := 2) (j := 2) (v := .int 0) (ty := .boolean) C0 V i_Big o_Big n_Big rfl rfl hO116 (by decide) w_96 rfl rfl rfl rfl (Nat.le_of_ble_eq_true rfl) d_8_3_65 (fun H locs w145 hu146 hO116 V => ?_)
        replace hO116 : w145[10]? = (some (q 10, .inr (2, [.ref (q 11), .int y117, .int 0])) : Option (Nat × va_E)) := hO116
        replace hI := q_bigO' hI (n_b10 g q) hu146 hO116 ⟨(by have zR : (220 : Int32).toInt = 220 := rfl; have t1 : 0 ≤ y117.toInt := b121; omega), (by have zR : (220 : Int32).toInt = 220 := rfl; have t1 : y117.toInt ≤ 220 := b123; omega)⟩ ⟨(by have z9 : (0 : Int32).toInt = 0 := rfl; omega), (by have z9 : (0 : Int32).toInt = 0 := rfl; omega)⟩
        replace hA120 := (hu146 _ (by decide)).trans hA120
        replace hO73 := (hu146 _ (by decide)).trans hO73
        replace hA77 := (hu146 _ (by decide)).trans hA77
        replace hT4 := (hu146 _ (by have z := ne_k3_10; omega)).trans hT4
        replace hT5 := (hu146 _ (by have z := ne_k3_9; omega)).trans hT5
        replace hO68 := (hu146 _ (by have z := ne_k4_10; omega)).trans hO68
        replace hA72 := (hu146 _ (by have z := ne_k4_9; omega)).trans hA72
        replace hO33 := (hu146 _ (by decide)).trans hO33
        replace hF := q_us hF hu146 (by simp)
        exact q_retv C0 V (⟨hI, hF, y117, 0, f119, y74, y75, f76, y69, y70, f71, hO116, hA120, hO73, hA77, hO68, hA72, (show 0 ≤ y75.toInt from (by have z16 : (0 : Int32).toInt = 0 := rfl; have t1 : 0 ≤ y75.toInt := b78; omega)), (show y75.toInt ≤ 0 from (by have z16 : (0 : Int32).toInt = 0 := rfl; have t1 : y75.toInt ≤ 0 := b79; omega)), (show y74.toInt ≤ t6_0.toInt + 219 from (by have z16 : (0 : Int32).toInt = 0 := rfl; have t1 : y74.toInt ≤ t6_0.toInt + 219 := b85; omega)), (show y69.toInt ≤ t6_0.toInt + 218 from (by have z16 : (0 : Int32).toInt = 0 := rfl; have t1 : y69.toInt ≤ t6_0.toInt + 218 := b82; omega)), (show y69.toInt ≤ R2.toInt from (by have z16 : (0 : Int32).toInt = 0 := rfl; have t1 : y69.toInt ≤ R2.toInt := b83; omega)), (show y70.toInt ≤ t6_1.toInt from (by have z16 : (0 : Int32).toInt = 0 := rfl; have t1 : y70.toInt ≤ t6_1.toInt := b84; omega)), (show y75.toInt ≤ y117.toInt from (by have z16 : (0 : Int32).toInt = 0 := rfl; have t1 : y75.toInt ≤ 0 := b79; have t2 : 0 ≤ y117.toInt := b121; omega)), (show y117.toInt ≤ y75.toInt + 220 from (by have z16 : (0 : Int32).toInt = 0 := rfl; have t1 : 0 ≤ y75.toInt := b78; have t2 : y117.toInt ≤ 220 := b123; omega)), (show y75.toInt ≤ (0 : Int32).toInt from (by have z16 : (0 : Int32).toInt = 0 := rfl; have t1 : y75.toInt ≤ 0 := b79; omega)), (show (0 : Int32).toInt ≤ y75.toInt + 1 from (by have z16 : (0 : Int32).toInt = 0 := rfl; have t1 : 0 ≤ y75.toInt := b78; omega)), (show y75.toInt ≤ y74.toInt from (by have z16 : (0 : Int32).toInt = 0 := rfl; have t1 : y75.toInt ≤ y74.toInt := b92; omega)), (show y74.toInt ≤ y75.toInt + 220 from (by have z16 : (0 : Int32).toInt = 0 := rfl; have t1 : 0 ≤ y75.toInt := b78; have t2 : y74.toInt ≤ 220 := b87; omega)), (show y75.toInt ≤ y69.toInt from (by have z16 : (0 : Int32).toInt = 0 := rfl; have t1 : y75.toInt ≤ y69.toInt := b90; omega)), (show y75.toInt ≤ y70.toInt from (by have z16 : (0 : Int32).toInt = 0 := rfl; have t1 : y75.toInt ≤ y70.toInt := b91; omega)), (show (y117, (0 : Int32), f119, y74, y75, f76, y69, y70, f71) = (F_Mil_quotientOrRest x2 R R2 t0_0 t0_1 t1_0 t2_0 t2_1 t3_0 t4_0 t4_1 t5_0 t6_0 t6_1 t7_0) from Eq.trans (by rw [e132, e130, F_Mil_quotientOrRest_c32.eq_1, if_neg c138, if_pos c143]) hR133)⟩) d_8_3_68
      ·
        have b147 : q_F (t4_1.toInt ≠ y70.toInt) := (q_neI c143)
        refine lv_iconst (v := 1) hx hb d_8_3_60 (by decide) ?_
        refine lv_goto (tgt := 65) hx hb d_8_3_61 (by decide) ?_
        refine q_put (ci := 2) (j := 2) (v := .int 1) (ty := .boolean) C0 V i_Big o_Big n_Big rfl rfl hO116 (by decide) w_96 rfl rfl rfl rfl (Nat.le_of_ble_eq_true rfl) d_8_3_65 (fun H locs w148 hu149 hO116 V => ?_)
        replace hO116 : w148[10]? = (some (q 10, .inr (2, [.ref (q 11), .int y117, .int 1])) : Option (Nat × va_E)) := hO116
        replace hI := q_bigO' hI (n_b10 g q) hu149 hO116 ⟨(by have zR : (220 : Int32).toInt = 220 := rfl; have t1 : 0 ≤ y117.toInt := b121; omega), (by have zR : (220 : Int32).toInt = 220 := rfl; have t1 : y117.toInt ≤ 220 := b123; omega)⟩ ⟨(by have z9 : (1 : Int32).toInt = 1 := rfl; omega), (by have z9 : (1 : Int32).toInt = 1 := rfl; omega)⟩
        replace hA120 := (hu149 _ (by decide)).trans hA120
        replace hO73 := (hu149 _ (by decide)).trans hO73
        replace hA77 := (hu149 _ (by decide)).trans hA77
        replace hT4 := (hu149 _ (by have z := ne_k3_10; omega)).trans hT4
        replace hT5 := (hu149 _ (by have z := ne_k3_9; omega)).trans hT5
        replace hO68 := (hu149 _ (by have z := ne_k4_10; omega)).trans hO68
        replace hA72 := (hu149 _ (by have z := ne_k4_9; omega)).trans hA72
        replace hO33 := (hu149 _ (by decide)).trans hO33
        replace hF := q_us hF hu149 (by simp)
        exact q_retv C0 V (⟨hI, hF, y117, 1, f119, y74, y75, f76, y69, y70, f71, hO116, hA120, hO73, hA77, hO68, hA72, (show 0 ≤ y75.toInt from (by have z16 : (1 : Int32).toInt = 1 := rfl; have t1 : 0 ≤ y75.toInt := b78; omega)), (show y75.toInt ≤ 0 from (by have z16 : (1 : Int32).toInt = 1 := rfl; have t1 : y75.toInt ≤ 0 := b79; omega)), (show y74.toInt ≤ t6_0.toInt + 219 from (by have z16 : (1 : Int32).toInt = 1 := rfl; have t1 : y74.toInt ≤ t6_0.toInt + 219 := b85; omega)), (show y69.toInt ≤ t6_0.toInt + 218 from (by have z16 : (1 : Int32).toInt = 1 := rfl; have t1 : y69.toInt ≤ t6_0.toInt + 218 := b82; omega)), (show y69.toInt ≤ R2.toInt from (by have z16 : (1 : Int32).toInt = 1 := rfl; have t1 : y69.toInt ≤ R2.toInt := b83; omega)), (show y70.toInt ≤ t6_1.toInt from (by have z16 : (1 : Int32).toInt = 1 := rfl; have t1 : y70.toInt ≤ t6_1.toInt := b84; omega)), (show y75.toInt ≤ y117.toInt from (by have z16 : (1 : Int32).toInt = 1 := rfl; have t1 : y75.toInt ≤ 0 := b79; have t2 : 0 ≤ y117.toInt := b121; omega)), (show y117.toInt ≤ y75.toInt + 220 from (by have z16 : (1 : Int32).toInt = 1 := rfl; have t1 : 0 ≤ y75.toInt := b78; have t2 : y117.toInt ≤ 220 := b123; omega)), (show y75.toInt ≤ (1 : Int32).toInt from (by have z16 : (1 : Int32).toInt = 1 := rfl; have t1 : y75.toInt ≤ 0 := b79; omega)), (show (1 : Int32).toInt ≤ y75.toInt + 1 from (by have z16 : (1 : Int32).toInt = 1 := rfl; have t1 : 0 ≤ y75.toInt := b78; omega)), (show y75.toInt ≤ y74.toInt from (by have z16 : (1 : Int32).toInt = 1 := rfl; have t1 : y75.toInt ≤ y74.toInt := b92; omega)), (show y74.toInt ≤ y75.toInt + 220 from (by have z16 : (1 : Int32).toInt = 1 := rfl; have t1 : 0 ≤ y75.toInt := b78; have t2 : y74.toInt ≤ 220 := b87; omega)), (show y75.toInt ≤ y69.toInt from (by have z16 : (1 : Int32).toInt = 1 := rfl; have t1 : y75.toInt ≤ y69.toInt := b90; omega)), (show y75.toInt ≤ y70.toInt from (by have z16 : (1 : Int32).toInt = 1 := rfl; have t1 : y75.toInt ≤ y70.toInt := b91; omega)), (show (y117, (1 : Int32), f119, y74, y75, f76, y69, y70, f71) = (F_Mil_quotientOrRest x2 R R2 t0_0 t0_1 t1_0 t2_0 t2_1 t3_0 t4_0 t4_1 t5_0 t6_0 t6_1 t7_0) from Eq.trans (by rw [e132, e130, F_Mil_quotientOrRest_c32.eq_1, if_neg c138, if_neg c143]) hR133)⟩) d_8_3_68
def F_Mil_quotientOrRest_a_c32 (x2 : Int32) (R3 : Int32) (t0_0 : Int32) (t0_1 : Int32) (t1_0 : (Nat → Int32)) (t2_0 : Int32) (t2_1 : Int32) (t3_0 : (Nat → Int32)) (t4_0 : Int32) (t4_1 : Int32) (t5_0 : (Nat → Int32)) (p40 : (Int32 × Int32 × (Nat → Int32))) (p85 : (Int32 × Int32 × (Nat → Int32) × Int32 × Int32 × (Nat → Int32) × Int32 × Int32 × (Nat → Int32))) (y64 : Int32) (y65 : Int32) (f66 : (Nat → Int32)) (y59 : Int32) (y60 : Int32) (f61 : (Nat → Int32)) (p118 : (Int32 × Int32 × (Nat → Int32))) : Int32 × Int32 × (Nat → Int32) × Int32 × Int32 × (Nat → Int32) × Int32 × Int32 × (Nat → Int32) := if y64 ≤ (0 : Int32) then (((p118.1 : Int32), (0 : Int32), (p118.2.2 : (Nat → Int32)), y64, y65, f66, y59, y60, f61)) else (((p118.1 : Int32), (0 : Int32), (p118.2.2 : (Nat → Int32)), y64, y65, f66, y59, y60, f61))
def F_Mil_quotientOrRest_a_c17 (x2 : Int32) (R3 : Int32) (t0_0 : Int32) (t0_1 : Int32) (t1_0 : (Nat → Int32)) (t2_0 : Int32) (t2_1 : Int32) (t3_0 : (Nat → Int32)) (t4_0 : Int32) (t4_1 : Int32) (t5_0 : (Nat → Int32)) (p40 : (Int32 × Int32 × (Nat → Int32))) (p85 : (Int32 × Int32 × (Nat → Int32) × Int32 × Int32 × (Nat → Int32) × Int32 × Int32 × (Nat → Int32))) : Int32 × Int32 × (Nat → Int32) × Int32 × Int32 × (Nat → Int32) × Int32 × Int32 × (Nat → Int32) := if x2 = (0 : Int32) then (((p85.1 : Int32), (p85.2.1 : Int32), (p85.2.2.1 : (Nat → Int32)), (p85.2.2.2.2.2.2.1 : Int32), (p85.2.2.2.2.2.2.2.1 : Int32), (p85.2.2.2.2.2.2.2.2 : (Nat → Int32)), (p85.2.2.2.1 : Int32), (p85.2.2.2.2.1 : Int32), (p85.2.2.2.2.2.1 : (Nat → Int32)))) else (F_Mil_quotientOrRest_a_c32 x2 R3 t0_0 t0_1 t1_0 t2_0 t2_1 t3_0 t4_0 t4_1 t5_0 p40 p85 (p85.2.2.2.2.2.2.1 : Int32) (p85.2.2.2.2.2.2.2.1 : Int32) (p85.2.2.2.2.2.2.2.2 : (Nat → Int32)) (p85.2.2.2.1 : Int32) (p85.2.2.2.2.1 : Int32) (p85.2.2.2.2.2.1 : (Nat → Int32)) ((F_Big_copy (220 : Int32) (220 : Int32) (p85.1 : Int32) (p85.2.1 : Int32) (p85.2.2.1 : (Nat → Int32)) (p85.2.2.2.2.2.2.1 : Int32) (p85.2.2.2.2.2.2.2.1 : Int32) (p85.2.2.2.2.2.2.2.2 : (Nat → Int32))) : (Int32 × Int32 × (Nat → Int32))))
def F_Mil_quotientOrRest_a_c5 (x2 : Int32) (R3 : Int32) (t0_0 : Int32) (t0_1 : Int32) (t1_0 : (Nat → Int32)) (t2_0 : Int32) (t2_1 : Int32) (t3_0 : (Nat → Int32)) (t4_0 : Int32) (t4_1 : Int32) (t5_0 : (Nat → Int32)) (p40 : (Int32 × Int32 × (Nat → Int32))) : Int32 × Int32 × (Nat → Int32) × Int32 × Int32 × (Nat → Int32) × Int32 × Int32 × (Nat → Int32) := F_Mil_quotientOrRest_a_c17 x2 R3 t0_0 t0_1 t1_0 t2_0 t2_1 t3_0 t4_0 t4_1 t5_0 p40 ((F_Big_divideBy (220 : Int32) R3 (220 : Int32) (p40.1 : Int32) (p40.2.1 : Int32) (p40.2.2 : (Nat → Int32)) t4_0 t4_1 t5_0 t2_0 t2_1 t3_0) : (Int32 × Int32 × (Nat → Int32) × Int32 × Int32 × (Nat → Int32) × Int32 × Int32 × (Nat → Int32)))
def F_Mil_quotientOrRest_a (x2 : Int32) (R3 : Int32) (t0_0 : Int32) (t0_1 : Int32) (t1_0 : (Nat → Int32)) (t2_0 : Int32) (t2_1 : Int32) (t3_0 : (Nat → Int32)) (t4_0 : Int32) (t4_1 : Int32) (t5_0 : (Nat → Int32)) : Int32 × Int32 × (Nat → Int32) × Int32 × Int32 × (Nat → Int32) × Int32 × Int32 × (Nat → Int32) := F_Mil_quotientOrRest_a_c5 x2 R3 t0_0 t0_1 t1_0 t2_0 t2_1 t3_0 t4_0 t4_1 t5_0 ((F_Big_copy (220 : Int32) R3 t0_0 t0_1 t1_0 t4_0 t4_1 t5_0) : (Int32 × Int32 × (Nat → Int32)))
def S_Mil_quotientOrRest_a_c32 (x2 : Int32) (R3 : Int32) (t0_0 : Int32) (t0_1 : Int32) (t1_0 : (Nat → Int32)) (t2_0 : Int32) (t2_1 : Int32) (t3_0 : (Nat → Int32)) (t4_0 : Int32) (t4_1 : Int32) (t5_0 : (Nat → Int32)) (p40 : (Int32 × Int32 × (Nat → Int32))) (p85 : (Int32 × Int32 × (Nat → Int32) × Int32 × Int32 × (Nat → Int32) × Int32 × Int32 × (Nat → Int32))) (y64 : Int32) (y65 : Int32) (f66 : (Nat → Int32)) (y59 : Int32) (y60 : Int32) (f61 : (Nat → Int32)) (p118 : (Int32 × Int32 × (Nat → Int32))) : Prop := if y64 ≤ (0 : Int32) then (True) else (True)
def S_Mil_quotientOrRest_a_c17 (x2 : Int32) (R3 : Int32) (t0_0 : Int32) (t0_1 : Int32) (t1_0 : (Nat → Int32)) (t2_0 : Int32) (t2_1 : Int32) (t3_0 : (Nat → Int32)) (t4_0 : Int32) (t4_1 : Int32) (t5_0 : (Nat → Int32)) (p40 : (Int32 × Int32 × (Nat → Int32))) (p85 : (Int32 × Int32 × (Nat → Int32) × Int32 × Int32 × (Nat → Int32) × Int32 × Int32 × (Nat → Int32))) : Prop := if x2 = (0 : Int32) then (True) else (S_Mil_quotientOrRest_a_c32 x2 R3 t0_0 t0_1 t1_0 t2_0 t2_1 t3_0 t4_0 t4_1 t5_0 p40 p85 (p85.2.2.2.2.2.2.1 : Int32) (p85.2.2.2.2.2.2.2.1 : Int32) (p85.2.2.2.2.2.2.2.2 : (Nat → Int32)) (p85.2.2.2.1 : Int32) (p85.2.2.2.2.1 : Int32) (p85.2.2.2.2.2.1 : (Nat → Int32)) ((F_Big_copy (220 : Int32) (220 : Int32) (p85.1 : Int32) (p85.2.1 : Int32) (p85.2.2.1 : (Nat → Int32)) (p85.2.2.2.2.2.2.1 : Int32) (p85.2.2.2.2.2.2.2.1 : Int32) (p85.2.2.2.2.2.2.2.2 : (Nat → Int32))) : (Int32 × Int32 × (Nat → Int32))))
def S_Mil_quotientOrRest_a_c5 (x2 : Int32) (R3 : Int32) (t0_0 : Int32) (t0_1 : Int32) (t1_0 : (Nat → Int32)) (t2_0 : Int32) (t2_1 : Int32) (t3_0 : (Nat → Int32)) (t4_0 : Int32) (t4_1 : Int32) (t5_0 : (Nat → Int32)) (p40 : (Int32 × Int32 × (Nat → Int32))) : Prop := (True ∧ S_Big_divideBy (220 : Int32) R3 (220 : Int32) (p40.1 : Int32) (p40.2.1 : Int32) (p40.2.2 : (Nat → Int32)) t4_0 t4_1 t5_0 t2_0 t2_1 t3_0) ∧ (S_Mil_quotientOrRest_a_c17 x2 R3 t0_0 t0_1 t1_0 t2_0 t2_1 t3_0 t4_0 t4_1 t5_0 p40 ((F_Big_divideBy (220 : Int32) R3 (220 : Int32) (p40.1 : Int32) (p40.2.1 : Int32) (p40.2.2 : (Nat → Int32)) t4_0 t4_1 t5_0 t2_0 t2_1 t3_0) : (Int32 × Int32 × (Nat → Int32) × Int32 × Int32 × (Nat → Int32) × Int32 × Int32 × (Nat → Int32))))
def S_Mil_quotientOrRest_a (x2 : Int32) (R3 : Int32) (t0_0 : Int32) (t0_1 : Int32) (t1_0 : (Nat → Int32)) (t2_0 : Int32) (t2_1 : Int32) (t3_0 : (Nat → Int32)) (t4_0 : Int32) (t4_1 : Int32) (t5_0 : (Nat → Int32)) : Prop := S_Mil_quotientOrRest_a_c5 x2 R3 t0_0 t0_1 t1_0 t2_0 t2_1 t3_0 t4_0 t4_1 t5_0 ((F_Big_copy (220 : Int32) R3 t0_0 t0_1 t1_0 t4_0 t4_1 t5_0) : (Int32 × Int32 × (Nat → Int32)))
set_option maxRecDepth 100000 in
set_option maxHeartbeats 4000000 in
theorem X_Mil_quotientOrRest_a (l : Launch) (D : va_G) (g : Nat → ClassId) (q : Nat → Nat) (ws : va_W) (k3 : Nat) (R3 : Int32) (hB3 : q_isBig (nsh g q) g q k3 R3) (zk3 : (10 ≤ k3 ∧ k3 ≤ 32) ∨ 66 ≤ k3) (x2 : Int32) (ne_k3_10 : k3 ≠ 10) (ne_k3_11 : k3 ≠ 11) (ne_k3_9 : k3 ≠ 9) (ne_k3_12 : k3 ≠ 12) (ne_k3_13 : k3 ≠ 13) (ne_k3_11 : k3 ≠ 11) (hI : q_I (nsh g q) q ws) (t0_0 : Int32) (t0_1 : Int32) (hT0 : ws[10]? = (some (q 10, .inr (2, [.ref (q 11), .int t0_0, .int t0_1])) : Option (Nat × va_E))) (t1_0 : (Nat → Int32)) (hT1 : ws[11]? = (some (q 11, .inl (g 0, (220 : Int32).toNatClampNeg, .inl t1_0)) : Option (Nat × va_E))) (t2_0 : Int32) (t2_1 : Int32) (hT2 : ws[12]? = (some (q 12, .inr (2, [.ref (q 13), .int t2_0, .int t2_1])) : Option (Nat × va_E))) (t3_0 : (Nat → Int32)) (hT3 : ws[13]? = (some (q 13, .inl (g 0, (220 : Int32).toNatClampNeg, .inl t3_0)) : Option (Nat × va_E))) (t4_0 : Int32) (t4_1 : Int32) (hT4 : ws[k3]? = (some (q k3, .inr (2, [.ref (q (k3 + 1)), .int t4_0, .int t4_1])) : Option (Nat × va_E))) (t5_0 : (Nat → Int32)) (hT5 : ws[k3 + 1]? = (some (q (k3 + 1), .inl (g 0, R3.toNatClampNeg, .inl t5_0)) : Option (Nat × va_E))) (hS : True ∧ S_Mil_quotientOrRest_a x2 R3 t0_0 t0_1 t1_0 t2_0 t2_1 t3_0 t4_0 t4_1 t5_0) : q_mV l y_Mil_quotientOrRest prog_8_method_3_code 4 5 0 0 D g [.ref (q 9), .int x2, .ref (q k3), .ref (q k3)] ws (fun u => q_I (nsh g q) q u ∧ q_un ws u [10, 11, 12, 13, k3, k3 + 1] ∧ ∃ (u0_0 : Int32) (u0_1 : Int32) (u1_0 : (Nat → Int32)) (u2_0 : Int32) (u2_1 : Int32) (u3_0 : (Nat → Int32)) (u4_0 : Int32) (u4_1 : Int32) (u5_0 : (Nat → Int32)), u[10]? = (some (q 10, .inr (2, [.ref (q 11), .int u0_0, .int u0_1])) : Option (Nat × va_E)) ∧ u[11]? = (some (q 11, .inl (g 0, (220 : Int32).toNatClampNeg, .inl u1_0)) : Option (Nat × va_E)) ∧ u[12]? = (some (q 12, .inr (2, [.ref (q 13), .int u2_0, .int u2_1])) : Option (Nat × va_E)) ∧ u[13]? = (some (q 13, .inl (g 0, (220 : Int32).toNatClampNeg, .inl u3_0)) : Option (Nat × va_E)) ∧ u[k3]? = (some (q k3, .inr (2, [.ref (q (k3 + 1)), .int u4_0, .int u4_1])) : Option (Nat × va_E)) ∧ u[k3 + 1]? = (some (q (k3 + 1), .inl (g 0, R3.toNatClampNeg, .inl u5_0)) : Option (Nat × va_E)) ∧ (0 ≤ u2_1.toInt) ∧ (u2_1.toInt ≤ 0) ∧ (u0_1.toInt ≤ t4_1.toInt) ∧ (u2_0.toInt ≤ t4_0.toInt + 219) ∧ (u4_0.toInt ≤ t4_0.toInt + 218) ∧ (u4_0.toInt ≤ R3.toInt) ∧ (u4_1.toInt ≤ t4_1.toInt) ∧ (u2_1.toInt ≤ u0_0.toInt) ∧ (u0_0.toInt ≤ u2_1.toInt + 220) ∧ (u2_1.toInt ≤ u0_1.toInt) ∧ (u2_1.toInt ≤ u2_0.toInt) ∧ (u2_0.toInt ≤ u2_1.toInt + 220) ∧ (u2_1.toInt ≤ u4_0.toInt) ∧ (u2_1.toInt ≤ u4_1.toInt) ∧ (u0_0, u0_1, u1_0, u2_0, u2_1, u3_0, u4_0, u4_1, u5_0) = (F_Mil_quotientOrRest_a x2 R3 t0_0 t0_1 t1_0 t2_0 t2_1 t3_0 t4_0 t4_1 t5_0)) := by
  intro sz
  refine q_into (by decide) (Nat.le_of_ble_eq_true rfl) ?_
  intro p e s m below meth c ls hsz C0 V hl
  have hx := C0.1
  have hb := C0.2.1
  have hfk30 : q_F (0 ≤ R3.toInt ∧ R3.toInt ≤ 220) := hB3.2.2
  obtain ⟨yy0_0, yy0_1, hh0, btt0_0, btt0_1⟩ := q_bigO hI (n_b10 g q)
  obtain ⟨rfl, rfl⟩ : t0_0 = yy0_0 ∧ t0_1 = yy0_1 := by have z := Option.some.inj (hT0.symm.trans hh0); simpa using z
  replace btt0_0 : q_F (0 ≤ t0_0.toInt ∧ t0_0.toInt ≤ 220) := btt0_0
  replace btt0_1 : q_F (0 ≤ t0_1.toInt ∧ t0_1.toInt ≤ 1) := btt0_1
  obtain ⟨yy2_0, yy2_1, hh2, btt2_0, btt2_1⟩ := q_bigO hI (n_b12 g q)
  obtain ⟨rfl, rfl⟩ : t2_0 = yy2_0 ∧ t2_1 = yy2_1 := by have z := Option.some.inj (hT2.symm.trans hh2); simpa using z
  replace btt2_0 : q_F (0 ≤ t2_0.toInt ∧ t2_0.toInt ≤ 220) := btt2_0
  replace btt2_1 : q_F (0 ≤ t2_1.toInt ∧ t2_1.toInt ≤ 1) := btt2_1
  obtain ⟨yy4_0, yy4_1, hh4, btt4_0, btt4_1⟩ := q_bigO hI hB3
  obtain ⟨rfl, rfl⟩ : t4_0 = yy4_0 ∧ t4_1 = yy4_1 := by have z := Option.some.inj (hT4.symm.trans hh4); simpa using z
  replace btt4_0 : q_F (0 ≤ t4_0.toInt ∧ t4_0.toInt ≤ R3.toInt) := btt4_0
  replace btt4_1 : q_F (0 ≤ t4_1.toInt ∧ t4_1.toInt ≤ 1) := btt4_1
  have hF : q_un ws ws [10, 11, 12, 13, k3, k3 + 1] := q_u0
  have hl : lv_has ls 4 [(0, .ref (q 9)), (1, .int x2), (2, .ref (q k3)), (3, .ref (q k3))] := hl
  refine lv_aload_n hx hb d_8_3_0 rfl (lv_at hl 0 rfl) ?_
  have hO25 := n_o9 hI
  refine q_get (ci := 4) (j := 0) (v := .ref (q 10)) C0 V i_Mil rfl rfl hO25 (by decide) w_108 rfl d_8_3_1 ?_
  refine lv_aload_n hx hb d_8_3_4 rfl (lv_at hl 2 rfl) ?_
  refine q_gov V (q_runV (As := [.ref (q k3)]) (rest := []) (d := 2) (mc := 0) (ms := 0) (ci := 2) C0 V rfl LV_Mil_51 (X_Big_copy l D g q ws 10 220 (n_b10 g q) (by decide) k3 R3 hB3 zk3  (by have z := ne_k3_10; omega) hI t0_0 t0_1 hT0 t1_0 hT1 t4_0 t4_1 hT4 t5_0 hT5  _) rfl rfl hT0 rfl hl.1 rfl (Nat.le_of_ble_eq_true rfl) ⟨by decide, by decide⟩ ⟨Nat.le_of_ble_eq_true rfl, Nat.le_of_ble_eq_true rfl⟩ d_8_3_5) (fun u26 H locs hp27 V => ?_)
  obtain ⟨hI, hu39, y29, y30, f31, hO28, hA32, b33, b34, b35, b36, b37, hE38⟩ := hp27
  replace hO28 : u26[10]? = (some (q 10, .inr (2, [.ref (q 11), .int y29, .int y30])) : Option (Nat × va_E)) := hO28
  replace hA32 : u26[11]? = (some (q 11, .inl (g 0, (220 : Int32).toNatClampNeg, .inl f31)) : Option (Nat × va_E)) := hA32
  obtain ⟨p40, e41⟩ : ∃ z, z = (F_Big_copy (220 : Int32) R3 t0_0 t0_1 t1_0 t4_0 t4_1 t5_0) := ⟨_, rfl⟩
  have e42 : y29 = p40.1 := congrArg (fun z => z.1) (hE38.trans e41.symm)
  have e43 : y30 = p40.2.1 := congrArg (fun z => z.2.1) (hE38.trans e41.symm)
  have e44 : f31 = p40.2.2 := congrArg (fun z => z.2.2) (hE38.trans e41.symm)
  replace b33 : q_F (0 ≤ y29.toInt) := b33
  replace b34 : q_F (y29.toInt ≤ t4_0.toInt) := b34
  replace b35 : q_F (y29.toInt ≤ 220) := b35
  replace b36 : q_F (t4_1.toInt ≤ y30.toInt) := b36
  replace b37 : q_F (y30.toInt ≤ t4_1.toInt) := b37
  replace hT2 := (hu39 _ (by decide)).trans hT2
  replace hT3 := (hu39 _ (by decide)).trans hT3
  replace hT4 := (hu39 _ (by have z0 := zk3; simp only [List.mem_cons, List.not_mem_nil, or_false, not_or]; omega)).trans hT4
  replace hT5 := (hu39 _ (by have z0 := zk3; simp only [List.mem_cons, List.not_mem_nil, or_false, not_or]; omega)).trans hT5
  replace hO25 := (hu39 _ (by decide)).trans hO25
  replace hF := q_uc hF hu39 (by simp)
  have hR45 := (show F_Mil_quotientOrRest_a_c5 x2 R3 t0_0 t0_1 t1_0 t2_0 t2_1 t3_0 t4_0 t4_1 t5_0 p40 = (F_Mil_quotientOrRest_a x2 R3 t0_0 t0_1 t1_0 t2_0 t2_1 t3_0 t4_0 t4_1 t5_0) from (by rw [e41, F_Mil_quotientOrRest_a.eq_1]))
  have hS46 := (show True ∧ S_Mil_quotientOrRest_a_c5 x2 R3 t0_0 t0_1 t1_0 t2_0 t2_1 t3_0 t4_0 t4_1 t5_0 p40 from (by rw [e41]; have h := hS; rw [S_Mil_quotientOrRest_a.eq_1] at h; with_reducible exact h))
  refine lv_aload_n hx hb d_8_3_8 rfl (lv_at hl 0 rfl) ?_
  refine q_get (ci := 4) (j := 0) (v := .ref (q 10)) C0 V i_Mil rfl rfl hO25 (by decide) w_108 rfl d_8_3_9 ?_
  refine lv_aload_n hx hb d_8_3_12 rfl (lv_at hl 3 rfl) ?_
  refine lv_aload_n hx hb d_8_3_13 rfl (lv_at hl 0 rfl) ?_
  refine q_get (ci := 4) (j := 1) (v := .ref (q 12)) C0 V i_Mil rfl rfl hO25 (by decide) w_114 rfl d_8_3_14 ?_
  have ob50 : True ∧ S_Big_divideBy (220 : Int32) R3 (220 : Int32) y29 y30 f31 t4_0 t4_1 t5_0 t2_0 t2_1 t3_0 := (by rw [e44, e43, e42]; have h := hS46; rw [S_Mil_quotientOrRest_a_c5.eq_1] at h; with_reducible exact h.2.1)
  refine q_gov V (q_runV (As := [.ref (q k3), .ref (q 12)]) (rest := []) (d := 4) (mc := 0) (ms := 0) (ci := 2) C0 V rfl LV_Mil_59 (X_Big_divideBy l D g q u26 10 220 (n_b10 g q) (by decide) k3 R3 hB3 zk3 12 220 (n_b12 g q) (by decide)  (by have z := ne_k3_10; omega) (by decide) (by have z := ne_k3_12; omega) hI y29 y30 hO28 f31 hA32 t4_0 t4_1 hT4 t5_0 hT5 t2_0 t2_1 hT2 t3_0 hT3 ob50 _) rfl rfl hO28 rfl hl.1 rfl (Nat.le_of_ble_eq_true rfl) ⟨by decide, by decide⟩ ⟨Nat.le_of_ble_eq_true rfl, Nat.le_of_ble_eq_true rfl⟩ d_8_3_17) (fun u51 H locs hp52 V => ?_)
  obtain ⟨hI, hu84, y54, y55, f56, y59, y60, f61, y64, y65, f66, hO53, hA57, hO58, hA62, hO63, hA67, b68, b69, b70, b71, b72, b73, b74, b75, b76, b77, b78, b79, b80, b81, b82, hE83⟩ := hp52
  replace hO53 : u51[10]? = (some (q 10, .inr (2, [.ref (q 11), .int y54, .int y55])) : Option (Nat × va_E)) := hO53
  replace hA57 : u51[11]? = (some (q 11, .inl (g 0, (220 : Int32).toNatClampNeg, .inl f56)) : Option (Nat × va_E)) := hA57
  replace hO58 : u51[k3]? = (some (q k3, .inr (2, [.ref (q (k3 + 1)), .int y59, .int y60])) : Option (Nat × va_E)) := hO58
  replace hA62 : u51[k3 + 1]? = (some (q (k3 + 1), .inl (g 0, R3.toNatClampNeg, .inl f61)) : Option (Nat × va_E)) := hA62
  replace hO63 : u51[12]? = (some (q 12, .inr (2, [.ref (q 13), .int y64, .int y65])) : Option (Nat × va_E)) := hO63
  replace hA67 : u51[13]? = (some (q 13, .inl (g 0, (220 : Int32).toNatClampNeg, .inl f66)) : Option (Nat × va_E)) := hA67
  obtain ⟨p85, e86⟩ : ∃ z, z = (F_Big_divideBy (220 : Int32) R3 (220 : Int32) y29 y30 f31 t4_0 t4_1 t5_0 t2_0 t2_1 t3_0) := ⟨_, rfl⟩
  have e87 : y54 = p85.1 := congrArg (fun z => z.1) (hE83.trans e86.symm)
  have e88 : y55 = p85.2.1 := congrArg (fun z => z.2.1) (hE83.trans e86.symm)
  have e89 : f56 = p85.2.2.1 := congrArg (fun z => z.2.2.1) (hE83.trans e86.symm)
  have e90 : y59 = p85.2.2.2.1 := congrArg (fun z => z.2.2.2.1) (hE83.trans e86.symm)
  have e91 : y60 = p85.2.2.2.2.1 := congrArg (fun z => z.2.2.2.2.1) (hE83.trans e86.symm)
  have e92 : f61 = p85.2.2.2.2.2.1 := congrArg (fun z => z.2.2.2.2.2.1) (hE83.trans e86.symm)
  have e93 : y64 = p85.2.2.2.2.2.2.1 := congrArg (fun z => z.2.2.2.2.2.2.1) (hE83.trans e86.symm)
  have e94 : y65 = p85.2.2.2.2.2.2.2.1 := congrArg (fun z => z.2.2.2.2.2.2.2.1) (hE83.trans e86.symm)
  have e95 : f66 = p85.2.2.2.2.2.2.2.2 := congrArg (fun z => z.2.2.2.2.2.2.2.2) (hE83.trans e86.symm)
  replace b68 : q_F (0 ≤ y65.toInt) := b68
  replace b69 : q_F (y65.toInt ≤ 0) := b69
  replace b70 : q_F (y54.toInt ≤ 220) := b70
  replace b71 : q_F (y55.toInt ≤ y30.toInt) := b71
  replace b72 : q_F (y59.toInt ≤ t4_0.toInt + 218) := b72
  replace b73 : q_F (y59.toInt ≤ R3.toInt) := b73
  replace b74 : q_F (y60.toInt ≤ t4_1.toInt) := b74
  replace b75 : q_F (y64.toInt ≤ t4_0.toInt + 219) := b75
  replace b76 : q_F (y64.toInt ≤ 220 + 1) := b76
  replace b77 : q_F (y64.toInt ≤ 220) := b77
  replace b78 : q_F (y65.toInt ≤ y54.toInt) := b78
  replace b79 : q_F (y65.toInt ≤ y55.toInt) := b79
  replace b80 : q_F (y65.toInt ≤ y59.toInt) := b80
  replace b81 : q_F (y65.toInt ≤ y60.toInt) := b81
  replace b82 : q_F (y65.toInt ≤ y64.toInt) := b82
  replace hO25 := (hu84 _ (by have z0 := zk3; simp only [List.mem_cons, List.not_mem_nil, or_false, not_or]; omega)).trans hO25
  replace hF := q_uc hF hu84 (by simp)
  have hR96 := (show F_Mil_quotientOrRest_a_c17 x2 R3 t0_0 t0_1 t1_0 t2_0 t2_1 t3_0 t4_0 t4_1 t5_0 p40 p85 = (F_Mil_quotientOrRest_a x2 R3 t0_0 t0_1 t1_0 t2_0 t2_1 t3_0 t4_0 t4_1 t5_0) from Eq.trans (by rw [e86, e44, e43, e42, F_Mil_quotientOrRest_a_c5.eq_1]) hR45)
  have hS97 := (show True ∧ S_Mil_quotientOrRest_a_c17 x2 R3 t0_0 t0_1 t1_0 t2_0 t2_1 t3_0 t4_0 t4_1 t5_0 p40 p85 from (by rw [e86, e44, e43, e42]; have h := hS46; rw [S_Mil_quotientOrRest_a_c5.eq_1] at h; replace h := q_s2 h; with_reducible exact h))
  refine lv_iload_n hx hb d_8_3_20 rfl (lv_at hl 1 rfl) ?_
  refine lv_if_eq (tgt := 68) hx hb d_8_3_21 (by decide) (fun c101 => ?_) (fun c101 => ?_)
  ·
    have b102 : q_F (x2.toInt = 0) := (q_eqI c101)
    exact q_retv C0 V (⟨hI, hF, y54, y55, f56, y64, y65, f66, y59, y60, f61, hO53, hA57, hO63, hA67, hO58, hA62, (show 0 ≤ y65.toInt from (by have t1 : 0 ≤ y65.toInt := b68; omega)), (show y65.toInt ≤ 0 from (by have t1 : y65.toInt ≤ 0 := b69; omega)), (show y55.toInt ≤ t4_1.toInt from (by have t1 : y30.toInt ≤ t4_1.toInt := b37; have t2 : y55.toInt ≤ y30.toInt := b71; omega)), (show y64.toInt ≤ t4_0.toInt + 219 from (by have t1 : y64.toInt ≤ t4_0.toInt + 219 := b75; omega)), (show y59.toInt ≤ t4_0.toInt + 218 from (by have t1 : y59.toInt ≤ t4_0.toInt + 218 := b72; omega)), (show y59.toInt ≤ R3.toInt from (by have t1 : y59.toInt ≤ R3.toInt := b73; omega)), (show y60.toInt ≤ t4_1.toInt from (by have t1 : y60.toInt ≤ t4_1.toInt := b74; omega)), (show y65.toInt ≤ y54.toInt from (by have t1 : y65.toInt ≤ y54.toInt := b78; omega)), (show y54.toInt ≤ y65.toInt + 220 from (by have t1 : 0 ≤ y65.toInt := b68; have t2 : y54.toInt ≤ 220 := b70; omega)), (show y65.toInt ≤ y55.toInt from (by have t1 : y65.toInt ≤ y55.toInt := b79; omega)), (show y65.toInt ≤ y64.toInt from (by have t1 : y65.toInt ≤ y64.toInt := b82; omega)), (show y64.toInt ≤ y65.toInt + 220 from (by have t1 : 0 ≤ y65.toInt := b68; have t2 : y64.toInt ≤ 220 := b77; omega)), (show y65.toInt ≤ y59.toInt from (by have t1 : y65.toInt ≤ y59.toInt := b80; omega)), (show y65.toInt ≤ y60.toInt from (by have t1 : y65.toInt ≤ y60.toInt := b81; omega)), (show (y54, y55, f56, y64, y65, f66, y59, y60, f61) = (F_Mil_quotientOrRest_a x2 R3 t0_0 t0_1 t1_0 t2_0 t2_1 t3_0 t4_0 t4_1 t5_0) from Eq.trans (by rw [e95, e94, e93, e92, e91, e90, e89, e88, e87, F_Mil_quotientOrRest_a_c17.eq_1, if_pos c101]) hR96)⟩) d_8_3_68
  ·
    have b103 : q_F (x2.toInt ≠ 0) := (q_neI c101)
    refine lv_aload_n hx hb d_8_3_24 rfl (lv_at hl 0 rfl) ?_
    refine q_get (ci := 4) (j := 0) (v := .ref (q 10)) C0 V i_Mil rfl rfl hO25 (by decide) w_108 rfl d_8_3_25 ?_
    refine lv_aload_n hx hb d_8_3_28 rfl (lv_at hl 0 rfl) ?_
    refine q_get (ci := 4) (j := 1) (v := .ref (q 12)) C0 V i_Mil rfl rfl hO25 (by decide) w_114 rfl d_8_3_29 ?_
    refine q_gov V (q_runV (As := [.ref (q 12)]) (rest := []) (d := 2) (mc := 0) (ms := 0) (ci := 2) C0 V rfl LV_Mil_51 (X_Big_copy l D g q u51 10 220 (n_b10 g q) (by decide) 12 220 (n_b12 g q) (by decide)  (by decide) hI y54 y55 hO53 f56 hA57 y64 y65 hO63 f66 hA67  _) rfl rfl hO53 rfl hl.1 rfl (Nat.le_of_ble_eq_true rfl) ⟨by decide, by decide⟩ ⟨Nat.le_of_ble_eq_true rfl, Nat.le_of_ble_eq_true rfl⟩ d_8_3_32) (fun u104 H locs hp105 V => ?_)
    obtain ⟨hI, hu117, y107, y108, f109, hO106, hA110, b111, b112, b113, b114, b115, hE116⟩ := hp105
    replace hO106 : u104[10]? = (some (q 10, .inr (2, [.ref (q 11), .int y107, .int y108])) : Option (Nat × va_E)) := hO106
    replace hA110 : u104[11]? = (some (q 11, .inl (g 0, (220 : Int32).toNatClampNeg, .inl f109)) : Option (Nat × va_E)) := hA110
    obtain ⟨p118, e119⟩ : ∃ z, z = (F_Big_copy (220 : Int32) (220 : Int32) y54 y55 f56 y64 y65 f66) := ⟨_, rfl⟩
    have e120 : y107 = p118.1 := congrArg (fun z => z.1) (hE116.trans e119.symm)
    have e121 : y108 = p118.2.1 := congrArg (fun z => z.2.1) (hE116.trans e119.symm)
    have e122 : f109 = p118.2.2 := congrArg (fun z => z.2.2) (hE116.trans e119.symm)
    replace b111 : q_F (0 ≤ y107.toInt) := b111
    replace b112 : q_F (y107.toInt ≤ y64.toInt) := b112
    replace b113 : q_F (y107.toInt ≤ 220) := b113
    replace b114 : q_F (y65.toInt ≤ y108.toInt) := b114
    replace b115 : q_F (y108.toInt ≤ y65.toInt) := b115
    replace hO63 := (hu117 _ (by decide)).trans hO63
    replace hA67 := (hu117 _ (by decide)).trans hA67
    replace hO58 := (hu117 _ (by have z0 := zk3; simp only [List.mem_cons, List.not_mem_nil, or_false, not_or]; omega)).trans hO58
    replace hA62 := (hu117 _ (by have z0 := zk3; simp only [List.mem_cons, List.not_mem_nil, or_false, not_or]; omega)).trans hA62
    replace hO25 := (hu117 _ (by decide)).trans hO25
    replace hF := q_uc hF hu117 (by simp)
    have hR123 := (show F_Mil_quotientOrRest_a_c32 x2 R3 t0_0 t0_1 t1_0 t2_0 t2_1 t3_0 t4_0 t4_1 t5_0 p40 p85 y64 y65 f66 y59 y60 f61 p118 = (F_Mil_quotientOrRest_a x2 R3 t0_0 t0_1 t1_0 t2_0 t2_1 t3_0 t4_0 t4_1 t5_0) from Eq.trans (by rw [e119, e95, e94, e93, e92, e91, e90, e89, e88, e87, F_Mil_quotientOrRest_a_c17.eq_1, if_neg c101]) hR96)
    have hS124 := (show True ∧ S_Mil_quotientOrRest_a_c32 x2 R3 t0_0 t0_1 t1_0 t2_0 t2_1 t3_0 t4_0 t4_1 t5_0 p40 p85 y64 y65 f66 y59 y60 f61 p118 from (by rw [e119, e95, e94, e93, e92, e91, e90, e89, e88, e87]; have h := hS97; rw [S_Mil_quotientOrRest_a_c17.eq_1] at h; rw [if_neg c101] at h; with_reducible exact h))
    refine lv_aload_n hx hb d_8_3_35 rfl (lv_at hl 0 rfl) ?_
    refine q_get (ci := 4) (j := 0) (v := .ref (q 10)) C0 V i_Mil rfl rfl hO25 (by decide) w_108 rfl d_8_3_36 ?_
    refine lv_aload_n hx hb d_8_3_39 rfl (lv_at hl 0 rfl) ?_
    refine q_get (ci := 4) (j := 1) (v := .ref (q 12)) C0 V i_Mil rfl rfl hO25 (by decide) w_114 rfl d_8_3_40 ?_
    refine q_get (ci := 2) (j := 1) (v := .int y64) C0 V i_Big rfl rfl hO63 (by decide) w_89 rfl d_8_3_43 ?_
    refine lv_if_le (tgt := 64) hx hb d_8_3_46 (by decide) (fun c128 => ?_) (fun c128 => ?_)
    ·
      have b129 : q_F (y64.toInt ≤ 0) := (q_leI c128)
      refine lv_iconst (v := 0) hx hb d_8_3_64 (by decide) ?_
      refine q_put (ci := 2) (j := 2) (v := .int 0) (ty := .boolean) C0 V i_Big o_Big n_Big rfl rfl hO106 (by decide) w_96 rfl rfl rfl rfl (Nat.le_of_ble_eq_true rfl) d_8_3_65 (fun H locs w130 hu131 hO106 V => ?_)
      replace hO106 : w130[10]? = (some (q 10, .inr (2, [.ref (q 11), .int y107, .int 0])) : Option (Nat × va_E)) := hO106
      replace hI := q_bigO' hI (n_b10 g q) hu131 hO106 ⟨(by have zR : (220 : Int32).toInt = 220 := rfl; have t1 : 0 ≤ y107.toInt := b111; omega), (by have zR : (220 : Int32).toInt = 220 := rfl; have t1 : y107.toInt ≤ 220 := b113; omega)⟩ ⟨(by have z9 : (0 : Int32).toInt = 0 := rfl; omega), (by have z9 : (0 : Int32).toInt = 0 := rfl; omega)⟩
      replace hA110 := (hu131 _ (by decide)).trans hA110
      replace hO63 := (hu131 _ (by decide)).trans hO63
      replace hA67 := (hu131 _ (by decide)).trans hA67
      replace hO58 := (hu131 _ (by have z := ne_k3_10; omega)).trans hO58
      replace hA62 := (hu131 _ (by have z := ne_k3_9; omega)).trans hA62
      replace hO25 := (hu131 _ (by decide)).trans hO25
      replace hF := q_us hF hu131 (by simp)
      exact q_retv C0 V (⟨hI, hF, y107, 0, f109, y64, y65, f66, y59, y60, f61, hO106, hA110, hO63, hA67, hO58, hA62, (show 0 ≤ y65.toInt from (by have z12 : (0 : Int32).toInt = 0 := rfl; have t1 : 0 ≤ y65.toInt := b68; omega)), (show y65.toInt ≤ 0 from (by have z12 : (0 : Int32).toInt = 0 := rfl; have t1 : y65.toInt ≤ 0 := b69; omega)), (show (0 : Int32).toInt ≤ t4_1.toInt from (by have z12 : (0 : Int32).toInt = 0 := rfl; have t1 : 0 ≤ t4_1.toInt ∧ t4_1.toInt ≤ 1 := btt4_1; omega)), (show y64.toInt ≤ t4_0.toInt + 219 from (by have z12 : (0 : Int32).toInt = 0 := rfl; have t1 : y64.toInt ≤ t4_0.toInt + 219 := b75; omega)), (show y59.toInt ≤ t4_0.toInt + 218 from (by have z12 : (0 : Int32).toInt = 0 := rfl; have t1 : y59.toInt ≤ t4_0.toInt + 218 := b72; omega)), (show y59.toInt ≤ R3.toInt from (by have z12 : (0 : Int32).toInt = 0 := rfl; have t1 : y59.toInt ≤ R3.toInt := b73; omega)), (show y60.toInt ≤ t4_1.toInt from (by have z12 : (0 : Int32).toInt = 0 := rfl; have t1 : y60.toInt ≤ t4_1.toInt := b74; omega)), (show y65.toInt ≤ y107.toInt from (by have z12 : (0 : Int32).toInt = 0 := rfl; have t1 : y65.toInt ≤ 0 := b69; have t2 : 0 ≤ y107.toInt := b111; omega)), (show y107.toInt ≤ y65.toInt + 220 from (by have z12 : (0 : Int32).toInt = 0 := rfl; have t1 : 0 ≤ y65.toInt := b68; have t2 : y107.toInt ≤ 220 := b113; omega)), (show y65.toInt ≤ (0 : Int32).toInt from (by have z12 : (0 : Int32).toInt = 0 := rfl; have t1 : y65.toInt ≤ 0 := b69; omega)), (show y65.toInt ≤ y64.toInt from (by have z12 : (0 : Int32).toInt = 0 := rfl; have t1 : y65.toInt ≤ y64.toInt := b82; omega)), (show y64.toInt ≤ y65.toInt + 220 from (by have z12 : (0 : Int32).toInt = 0 := rfl; have t1 : 0 ≤ y65.toInt := b68; have t2 : y64.toInt ≤ 220 := b77; omega)), (show y65.toInt ≤ y59.toInt from (by have z12 : (0 : Int32).toInt = 0 := rfl; have t1 : y65.toInt ≤ y59.toInt := b80; omega)), (show y65.toInt ≤ y60.toInt from (by have z12 : (0 : Int32).toInt = 0 := rfl; have t1 : y65.toInt ≤ y60.toInt := b81; omega)), (show (y107, (0 : Int32), f109, y64, y65, f66, y59, y60, f61) = (F_Mil_quotientOrRest_a x2 R3 t0_0 t0_1 t1_0 t2_0 t2_1 t3_0 t4_0 t4_1 t5_0) from Eq.trans (by rw [e122, e120, F_Mil_quotientOrRest_a_c32.eq_1, if_pos c128]) hR123)⟩) d_8_3_68
    ·
      have b132 : q_F (0 < y64.toInt) := (q_nleI c128)
      refine lv_aload_n hx hb d_8_3_49 rfl (lv_at hl 2 rfl) ?_
      refine q_get (ci := 2) (j := 2) (v := .int y60) C0 V i_Big rfl rfl hO58 (by decide) w_96 rfl d_8_3_50 ?_
      refine lv_aload_n hx hb d_8_3_53 rfl (lv_at hl 3 rfl) ?_
      refine q_get (ci := 2) (j := 2) (v := .int y60) C0 V i_Big rfl rfl hO58 (by decide) w_96 rfl d_8_3_54 ?_
      refine lv_icmp_eq (tgt := 64) hx hb d_8_3_57 (by decide) (fun c133 => ?_) (fun c133 => absurd (show y60.toInt ≠ y60.toInt from q_neI c133) (by omega))
      refine lv_iconst (v := 0) hx hb d_8_3_64 (by decide) ?_
      refine q_put (ci := 2) (j := 2) (v := .int 0) (ty := .boolean) C0 V i_Big o_Big n_Big rfl rfl hO106 (by decide) w_96 rfl rfl rfl rfl (Nat.le_of_ble_eq_true rfl) d_8_3_65 (fun H locs w134 hu135 hO106 V => ?_)
      replace hO106 : w134[10]? = (some (q 10, .inr (2, [.ref (q 11), .int y107, .int 0])) : Option (Nat × va_E)) := hO106
      replace hI := q_bigO' hI (n_b10 g q) hu135 hO106 ⟨(by have zR : (220 : Int32).toInt = 220 := rfl; have t1 : 0 ≤ y107.toInt := b111; omega), (by have zR : (220 : Int32).toInt = 220 := rfl; have t1 : y107.toInt ≤ 220 := b113; omega)⟩ ⟨(by have z9 : (0 : Int32).toInt = 0 := rfl; omega), (by have z9 : (0 : Int32).toInt = 0 := rfl; omega)⟩
      replace hA110 := (hu135 _ (by decide)).trans hA110
      replace hO63 := (hu135 _ (by decide)).trans hO63
      replace hA67 := (hu135 _ (by decide)).trans hA67
      replace hO58 := (hu135 _ (by have z := ne_k3_10; omega)).trans hO58
      replace hA62 := (hu135 _ (by have z := ne_k3_9; omega)).trans hA62
      replace hO25 := (hu135 _ (by decide)).trans hO25
      replace hF := q_us hF hu135 (by simp)
      exact q_retv C0 V (⟨hI, hF, y107, 0, f109, y64, y65, f66, y59, y60, f61, hO106, hA110, hO63, hA67, hO58, hA62, (show 0 ≤ y65.toInt from (by have z12 : (0 : Int32).toInt = 0 := rfl; have t1 : 0 ≤ y65.toInt := b68; omega)), (show y65.toInt ≤ 0 from (by have z12 : (0 : Int32).toInt = 0 := rfl; have t1 : y65.toInt ≤ 0 := b69; omega)), (show (0 : Int32).toInt ≤ t4_1.toInt from (by have z12 : (0 : Int32).toInt = 0 := rfl; have t1 : 0 ≤ t4_1.toInt ∧ t4_1.toInt ≤ 1 := btt4_1; omega)), (show y64.toInt ≤ t4_0.toInt + 219 from (by have z12 : (0 : Int32).toInt = 0 := rfl; have t1 : y64.toInt ≤ t4_0.toInt + 219 := b75; omega)), (show y59.toInt ≤ t4_0.toInt + 218 from (by have z12 : (0 : Int32).toInt = 0 := rfl; have t1 : y59.toInt ≤ t4_0.toInt + 218 := b72; omega)), (show y59.toInt ≤ R3.toInt from (by have z12 : (0 : Int32).toInt = 0 := rfl; have t1 : y59.toInt ≤ R3.toInt := b73; omega)), (show y60.toInt ≤ t4_1.toInt from (by have z12 : (0 : Int32).toInt = 0 := rfl; have t1 : y60.toInt ≤ t4_1.toInt := b74; omega)), (show y65.toInt ≤ y107.toInt from (by have z12 : (0 : Int32).toInt = 0 := rfl; have t1 : y65.toInt ≤ 0 := b69; have t2 : 0 ≤ y107.toInt := b111; omega)), (show y107.toInt ≤ y65.toInt + 220 from (by have z12 : (0 : Int32).toInt = 0 := rfl; have t1 : 0 ≤ y65.toInt := b68; have t2 : y107.toInt ≤ 220 := b113; omega)), (show y65.toInt ≤ (0 : Int32).toInt from (by have z12 : (0 : Int32).toInt = 0 := rfl; have t1 : y65.toInt ≤ 0 := b69; omega)), (show y65.toInt ≤ y64.toInt from (by have z12 : (0 : Int32).toInt = 0 := rfl; have t1 : y65.toInt ≤ y64.toInt := b82; omega)), (show y64.toInt ≤ y65.toInt + 220 from (by have z12 : (0 : Int32).toInt = 0 := rfl; have t1 : 0 ≤ y65.toInt := b68; have t2 : y64.toInt ≤ 220 := b77; omega)), (show y65.toInt ≤ y59.toInt from (by have z12 : (0 : Int32).toInt = 0 := rfl; have t1 : y65.toInt ≤ y59.toInt := b80; omega)), (show y65.toInt ≤ y60.toInt from (by have z12 : (0 : Int32).toInt = 0 := rfl; have t1 : y65.toInt ≤ y60.toInt := b81; omega)), (show (y107, (0 : Int32), f109, y64, y65, f66, y59, y60, f61) = (F_Mil_quotientOrRest_a x2 R3 t0_0 t0_1 t1_0 t2_0 t2_1 t3_0 t4_0 t4_1 t5_0) from Eq.trans (by rw [e122, e120, F_Mil_quotientOrRest_a_c32.eq_1, if_neg c128]) hR123)⟩) d_8_3_68
theorem d_8_4_0 : decode prog_8_method_4_code 0 = .ok (.aload_n 3, 1) := by decide +kernel
theorem d_8_4_1 : decode prog_8_method_4_code 1 = .ok (.aload_n 1, 1) := by decide +kernel
theorem d_8_4_2 : decode prog_8_method_4_code 2 = .ok (.invokevirtual 51, 3) := by decide +kernel
theorem d_8_4_5 : decode prog_8_method_4_code 5 = .ok (.aload_n 3, 1) := by decide +kernel
theorem d_8_4_6 : decode prog_8_method_4_code 6 = .ok (.aload_n 2, 1) := by decide +kernel
theorem d_8_4_7 : decode prog_8_method_4_code 7 = .ok (.aload_n 0, 1) := by decide +kernel
theorem d_8_4_8 : decode prog_8_method_4_code 8 = .ok (.getfield 20, 3) := by decide +kernel
theorem d_8_4_11 : decode prog_8_method_4_code 11 = .ok (.invokevirtual 59, 3) := by decide +kernel
theorem d_8_4_14 : decode prog_8_method_4_code 14 = .ok (.aload_n 3, 1) := by decide +kernel
theorem d_8_4_15 : decode prog_8_method_4_code 15 = .ok (.getfield 66, 3) := by decide +kernel
theorem d_8_4_18 : decode prog_8_method_4_code 18 = .ok (.ifCond .eq 9, 3) := by decide +kernel
theorem d_8_4_27 : decode prog_8_method_4_code 27 = .ok (.return_, 1) := by decide +kernel
theorem d_8_4_21 : decode prog_8_method_4_code 21 = .ok (.aload_n 3, 1) := by decide +kernel
theorem d_8_4_22 : decode prog_8_method_4_code 22 = .ok (.aload_n 2, 1) := by decide +kernel
theorem d_8_4_23 : decode prog_8_method_4_code 23 = .ok (.iconst 0, 1) := by decide +kernel
theorem d_8_4_24 : decode prog_8_method_4_code 24 = .ok (.invokevirtual 55, 3) := by decide +kernel
def y_Mil_modulo : MethodName := ⟨"NumberHouse$Mill", "modulo", "(LNumberHouse$Big;LNumberHouse$Big;LNumberHouse$Big;)V"⟩
def F_Mil_modulo_c24 (R : Int32) (R2 : Int32) (R3 : Int32) (t0_0 : Int32) (t0_1 : Int32) (t1_0 : (Nat → Int32)) (t2_0 : Int32) (t2_1 : Int32) (t3_0 : (Nat → Int32)) (t4_0 : Int32) (t4_1 : Int32) (t5_0 : (Nat → Int32)) (t6_0 : Int32) (t6_1 : Int32) (t7_0 : (Nat → Int32)) (p51 : (Int32 × Int32 × (Nat → Int32))) (p105 : (Int32 × Int32 × (Nat → Int32) × Int32 × Int32 × (Nat → Int32) × Int32 × Int32 × (Nat → Int32))) (y84 : Int32) (y85 : Int32) (f86 : (Nat → Int32)) (y79 : Int32) (y80 : Int32) (f81 : (Nat → Int32)) (p141 : (Int32 × Int32 × (Nat → Int32))) : Int32 × Int32 × (Nat → Int32) × Int32 × Int32 × (Nat → Int32) × Int32 × Int32 × (Nat → Int32) := (y84, y85, f86, y79, y80, f81, (p141.1 : Int32), (p141.2.1 : Int32), (p141.2.2 : (Nat → Int32)))
def F_Mil_modulo_c11 (R : Int32) (R2 : Int32) (R3 : Int32) (t0_0 : Int32) (t0_1 : Int32) (t1_0 : (Nat → Int32)) (t2_0 : Int32) (t2_1 : Int32) (t3_0 : (Nat → Int32)) (t4_0 : Int32) (t4_1 : Int32) (t5_0 : (Nat → Int32)) (t6_0 : Int32) (t6_1 : Int32) (t7_0 : (Nat → Int32)) (p51 : (Int32 × Int32 × (Nat → Int32))) (p105 : (Int32 × Int32 × (Nat → Int32) × Int32 × Int32 × (Nat → Int32) × Int32 × Int32 × (Nat → Int32))) : Int32 × Int32 × (Nat → Int32) × Int32 × Int32 × (Nat → Int32) × Int32 × Int32 × (Nat → Int32) := if (p105.2.1 : Int32) = (0 : Int32) then (((p105.2.2.2.2.2.2.1 : Int32), (p105.2.2.2.2.2.2.2.1 : Int32), (p105.2.2.2.2.2.2.2.2 : (Nat → Int32)), (p105.2.2.2.1 : Int32), (p105.2.2.2.2.1 : Int32), (p105.2.2.2.2.2.1 : (Nat → Int32)), (p105.1 : Int32), (p105.2.1 : Int32), (p105.2.2.1 : (Nat → Int32)))) else (F_Mil_modulo_c24 R R2 R3 t0_0 t0_1 t1_0 t2_0 t2_1 t3_0 t4_0 t4_1 t5_0 t6_0 t6_1 t7_0 p51 p105 (p105.2.2.2.2.2.2.1 : Int32) (p105.2.2.2.2.2.2.2.1 : Int32) (p105.2.2.2.2.2.2.2.2 : (Nat → Int32)) (p105.2.2.2.1 : Int32) (p105.2.2.2.2.1 : Int32) (p105.2.2.2.2.2.1 : (Nat → Int32)) ((F_Big_addSigned R3 R2 (0 : Int32) (p105.1 : Int32) (p105.2.1 : Int32) (p105.2.2.1 : (Nat → Int32)) (p105.2.2.2.1 : Int32) (p105.2.2.2.2.1 : Int32) (p105.2.2.2.2.2.1 : (Nat → Int32))) : (Int32 × Int32 × (Nat → Int32))))
def F_Mil_modulo_c2 (R : Int32) (R2 : Int32) (R3 : Int32) (t0_0 : Int32) (t0_1 : Int32) (t1_0 : (Nat → Int32)) (t2_0 : Int32) (t2_1 : Int32) (t3_0 : (Nat → Int32)) (t4_0 : Int32) (t4_1 : Int32) (t5_0 : (Nat → Int32)) (t6_0 : Int32) (t6_1 : Int32) (t7_0 : (Nat → Int32)) (p51 : (Int32 × Int32 × (Nat → Int32))) : Int32 × Int32 × (Nat → Int32) × Int32 × Int32 × (Nat → Int32) × Int32 × Int32 × (Nat → Int32) := F_Mil_modulo_c11 R R2 R3 t0_0 t0_1 t1_0 t2_0 t2_1 t3_0 t4_0 t4_1 t5_0 t6_0 t6_1 t7_0 p51 ((F_Big_divideBy R3 R2 (220 : Int32) (p51.1 : Int32) (p51.2.1 : Int32) (p51.2.2 : (Nat → Int32)) t4_0 t4_1 t5_0 t0_0 t0_1 t1_0) : (Int32 × Int32 × (Nat → Int32) × Int32 × Int32 × (Nat → Int32) × Int32 × Int32 × (Nat → Int32)))
def F_Mil_modulo (R : Int32) (R2 : Int32) (R3 : Int32) (t0_0 : Int32) (t0_1 : Int32) (t1_0 : (Nat → Int32)) (t2_0 : Int32) (t2_1 : Int32) (t3_0 : (Nat → Int32)) (t4_0 : Int32) (t4_1 : Int32) (t5_0 : (Nat → Int32)) (t6_0 : Int32) (t6_1 : Int32) (t7_0 : (Nat → Int32)) : Int32 × Int32 × (Nat → Int32) × Int32 × Int32 × (Nat → Int32) × Int32 × Int32 × (Nat → Int32) := F_Mil_modulo_c2 R R2 R3 t0_0 t0_1 t1_0 t2_0 t2_1 t3_0 t4_0 t4_1 t5_0 t6_0 t6_1 t7_0 ((F_Big_copy R3 R t6_0 t6_1 t7_0 t2_0 t2_1 t3_0) : (Int32 × Int32 × (Nat → Int32)))
def S_Mil_modulo_c24 (R : Int32) (R2 : Int32) (R3 : Int32) (t0_0 : Int32) (t0_1 : Int32) (t1_0 : (Nat → Int32)) (t2_0 : Int32) (t2_1 : Int32) (t3_0 : (Nat → Int32)) (t4_0 : Int32) (t4_1 : Int32) (t5_0 : (Nat → Int32)) (t6_0 : Int32) (t6_1 : Int32) (t7_0 : (Nat → Int32)) (p51 : (Int32 × Int32 × (Nat → Int32))) (p105 : (Int32 × Int32 × (Nat → Int32) × Int32 × Int32 × (Nat → Int32) × Int32 × Int32 × (Nat → Int32))) (y84 : Int32) (y85 : Int32) (f86 : (Nat → Int32)) (y79 : Int32) (y80 : Int32) (f81 : (Nat → Int32)) (p141 : (Int32 × Int32 × (Nat → Int32))) : Prop := True
def S_Mil_modulo_c11 (R : Int32) (R2 : Int32) (R3 : Int32) (t0_0 : Int32) (t0_1 : Int32) (t1_0 : (Nat → Int32)) (t2_0 : Int32) (t2_1 : Int32) (t3_0 : (Nat → Int32)) (t4_0 : Int32) (t4_1 : Int32) (t5_0 : (Nat → Int32)) (t6_0 : Int32) (t6_1 : Int32) (t7_0 : (Nat → Int32)) (p51 : (Int32 × Int32 × (Nat → Int32))) (p105 : (Int32 × Int32 × (Nat → Int32) × Int32 × Int32 × (Nat → Int32) × Int32 × Int32 × (Nat → Int32))) : Prop := if (p105.2.1 : Int32) = (0 : Int32) then (True) else (S_Mil_modulo_c24 R R2 R3 t0_0 t0_1 t1_0 t2_0 t2_1 t3_0 t4_0 t4_1 t5_0 t6_0 t6_1 t7_0 p51 p105 (p105.2.2.2.2.2.2.1 : Int32) (p105.2.2.2.2.2.2.2.1 : Int32) (p105.2.2.2.2.2.2.2.2 : (Nat → Int32)) (p105.2.2.2.1 : Int32) (p105.2.2.2.2.1 : Int32) (p105.2.2.2.2.2.1 : (Nat → Int32)) ((F_Big_addSigned R3 R2 (0 : Int32) (p105.1 : Int32) (p105.2.1 : Int32) (p105.2.2.1 : (Nat → Int32)) (p105.2.2.2.1 : Int32) (p105.2.2.2.2.1 : Int32) (p105.2.2.2.2.2.1 : (Nat → Int32))) : (Int32 × Int32 × (Nat → Int32))))
def S_Mil_modulo_c2 (R : Int32) (R2 : Int32) (R3 : Int32) (t0_0 : Int32) (t0_1 : Int32) (t1_0 : (Nat → Int32)) (t2_0 : Int32) (t2_1 : Int32) (t3_0 : (Nat → Int32)) (t4_0 : Int32) (t4_1 : Int32) (t5_0 : (Nat → Int32)) (t6_0 : Int32) (t6_1 : Int32) (t7_0 : (Nat → Int32)) (p51 : (Int32 × Int32 × (Nat → Int32))) : Prop := (True ∧ S_Big_divideBy R3 R2 (220 : Int32) (p51.1 : Int32) (p51.2.1 : Int32) (p51.2.2 : (Nat → Int32)) t4_0 t4_1 t5_0 t0_0 t0_1 t1_0) ∧ (S_Mil_modulo_c11 R R2 R3 t0_0 t0_1 t1_0 t2_0 t2_1 t3_0 t4_0 t4_1 t5_0 t6_0 t6_1 t7_0 p51 ((F_Big_divideBy R3 R2 (220 : Int32) (p51.1 : Int32) (p51.2.1 : Int32) (p51.2.2 : (Nat → Int32)) t4_0 t4_1 t5_0 t0_0 t0_1 t1_0) : (Int32 × Int32 × (Nat → Int32) × Int32 × Int32 × (Nat → Int32) × Int32 × Int32 × (Nat → Int32))))
def S_Mil_modulo (R : Int32) (R2 : Int32) (R3 : Int32) (t0_0 : Int32) (t0_1 : Int32) (t1_0 : (Nat → Int32)) (t2_0 : Int32) (t2_1 : Int32) (t3_0 : (Nat → Int32)) (t4_0 : Int32) (t4_1 : Int32) (t5_0 : (Nat → Int32)) (t6_0 : Int32) (t6_1 : Int32) (t7_0 : (Nat → Int32)) : Prop := S_Mil_modulo_c2 R R2 R3 t0_0 t0_1 t1_0 t2_0 t2_1 t3_0 t4_0 t4_1 t5_0 t6_0 t6_1 t7_0 ((F_Big_copy R3 R t6_0 t6_1 t7_0 t2_0 t2_1 t3_0) : (Int32 × Int32 × (Nat → Int32)))
set_option maxRecDepth 100000 in
set_option maxHeartbeats 4000000 in
theorem X_Mil_modulo (l : Launch) (D : va_G) (g : Nat → ClassId) (q : Nat → Nat) (ws : va_W) (k2 : Nat) (R : Int32) (hB2 : q_isBig (nsh g q) g q k2 R) (zk2 : (10 ≤ k2 ∧ k2 ≤ 32) ∨ 66 ≤ k2) (k3 : Nat) (R2 : Int32) (hB3 : q_isBig (nsh g q) g q k3 R2) (zk3 : (10 ≤ k3 ∧ k3 ≤ 32) ∨ 66 ≤ k3) (k4 : Nat) (R3 : Int32) (hB4 : q_isBig (nsh g q) g q k4 R3) (zk4 : (10 ≤ k4 ∧ k4 ≤ 32) ∨ 66 ≤ k4) (ne_k2_12 : k2 ≠ 12) (ne_k2_13 : k2 ≠ 13) (ne_k2_11 : k2 ≠ 11) (ne_k3_12 : k3 ≠ 12) (ne_k3_13 : k3 ≠ 13) (ne_k3_11 : k3 ≠ 11) (ne_k4_12 : k4 ≠ 12) (ne_k4_13 : k4 ≠ 13) (ne_k4_11 : k4 ≠ 11) (ne_k2_k4 : k2 ≠ k4) (ne_k3_k4 : k3 ≠ k4) (ne_k2_k3 : k2 ≠ k3) (hI : q_I (nsh g q) q ws) (t0_0 : Int32) (t0_1 : Int32) (hT0 : ws[12]? = (some (q 12, .inr (2, [.ref (q 13), .int t0_0, .int t0_1])) : Option (Nat × va_E))) (t1_0 : (Nat → Int32)) (hT1 : ws[13]? = (some (q 13, .inl (g 0, (220 : Int32).toNatClampNeg, .inl t1_0)) : Option (Nat × va_E))) (t2_0 : Int32) (t2_1 : Int32) (hT2 : ws[k2]? = (some (q k2, .inr (2, [.ref (q (k2 + 1)), .int t2_0, .int t2_1])) : Option (Nat × va_E))) (t3_0 : (Nat → Int32)) (hT3 : ws[k2 + 1]? = (some (q (k2 + 1), .inl (g 0, R.toNatClampNeg, .inl t3_0)) : Option (Nat × va_E))) (t4_0 : Int32) (t4_1 : Int32) (hT4 : ws[k3]? = (some (q k3, .inr (2, [.ref (q (k3 + 1)), .int t4_0, .int t4_1])) : Option (Nat × va_E))) (t5_0 : (Nat → Int32)) (hT5 : ws[k3 + 1]? = (some (q (k3 + 1), .inl (g 0, R2.toNatClampNeg, .inl t5_0)) : Option (Nat × va_E))) (t6_0 : Int32) (t6_1 : Int32) (hT6 : ws[k4]? = (some (q k4, .inr (2, [.ref (q (k4 + 1)), .int t6_0, .int t6_1])) : Option (Nat × va_E))) (t7_0 : (Nat → Int32)) (hT7 : ws[k4 + 1]? = (some (q (k4 + 1), .inl (g 0, R3.toNatClampNeg, .inl t7_0)) : Option (Nat × va_E))) (hS : True ∧ S_Mil_modulo R R2 R3 t0_0 t0_1 t1_0 t2_0 t2_1 t3_0 t4_0 t4_1 t5_0 t6_0 t6_1 t7_0) : q_mV l y_Mil_modulo prog_8_method_4_code 4 5 0 0 D g [.ref (q 9), .ref (q k2), .ref (q k3), .ref (q k4)] ws (fun u => q_I (nsh g q) q u ∧ q_un ws u [12, 13, k3, k3 + 1, k4, k4 + 1] ∧ ∃ (u0_0 : Int32) (u0_1 : Int32) (u1_0 : (Nat → Int32)) (u4_0 : Int32) (u4_1 : Int32) (u5_0 : (Nat → Int32)) (u6_0 : Int32) (u6_1 : Int32) (u7_0 : (Nat → Int32)), u[12]? = (some (q 12, .inr (2, [.ref (q 13), .int u0_0, .int u0_1])) : Option (Nat × va_E)) ∧ u[13]? = (some (q 13, .inl (g 0, (220 : Int32).toNatClampNeg, .inl u1_0)) : Option (Nat × va_E)) ∧ u[k3]? = (some (q k3, .inr (2, [.ref (q (k3 + 1)), .int u4_0, .int u4_1])) : Option (Nat × va_E)) ∧ u[k3 + 1]? = (some (q (k3 + 1), .inl (g 0, R2.toNatClampNeg, .inl u5_0)) : Option (Nat × va_E)) ∧ u[k4]? = (some (q k4, .inr (2, [.ref (q (k4 + 1)), .int u6_0, .int u6_1])) : Option (Nat × va_E)) ∧ u[k4 + 1]? = (some (q (k4 + 1), .inl (g 0, R3.toNatClampNeg, .inl u7_0)) : Option (Nat × va_E)) ∧ (0 ≤ u0_1.toInt) ∧ (u0_1.toInt ≤ 0) ∧ (u0_0.toInt ≤ t4_0.toInt + 219) ∧ (u0_0.toInt ≤ R3.toInt + 1) ∧ (u4_0.toInt ≤ t4_0.toInt + 218) ∧ (u4_0.toInt ≤ R2.toInt) ∧ (u4_1.toInt ≤ t4_1.toInt) ∧ (u6_0.toInt ≤ R3.toInt) ∧ (u0_1.toInt ≤ u0_0.toInt) ∧ (u0_0.toInt ≤ u0_1.toInt + 220) ∧ (u0_1.toInt ≤ u4_0.toInt) ∧ (u0_1.toInt ≤ u4_1.toInt) ∧ (u0_1.toInt ≤ u6_0.toInt) ∧ (u6_1.toInt ≤ u0_1.toInt + 1) ∧ (u0_1.toInt ≤ u6_1.toInt) ∧ (u0_0, u0_1, u1_0, u4_0, u4_1, u5_0, u6_0, u6_1, u7_0) = (F_Mil_modulo R R2 R3 t0_0 t0_1 t1_0 t2_0 t2_1 t3_0 t4_0 t4_1 t5_0 t6_0 t6_1 t7_0)) := by
  intro sz
  refine q_into (by decide) (Nat.le_of_ble_eq_true rfl) ?_
  intro p e s m below meth c ls hsz C0 V hl
  have hx := C0.1
  have hb := C0.2.1
  have hfk20 : q_F (0 ≤ R.toInt ∧ R.toInt ≤ 220) := hB2.2.2
  have hfk30 : q_F (0 ≤ R2.toInt ∧ R2.toInt ≤ 220) := hB3.2.2
  have hfk40 : q_F (0 ≤ R3.toInt ∧ R3.toInt ≤ 220) := hB4.2.2
  obtain ⟨yy0_0, yy0_1, hh0, btt0_0, btt0_1⟩ := q_bigO hI (n_b12 g q)
  obtain ⟨rfl, rfl⟩ : t0_0 = yy0_0 ∧ t0_1 = yy0_1 := by have z := Option.some.inj (hT0.symm.trans hh0); simpa using z
  replace btt0_0 : q_F (0 ≤ t0_0.toInt ∧ t0_0.toInt ≤ 220) := btt0_0
  replace btt0_1 : q_F (0 ≤ t0_1.toInt ∧ t0_1.toInt ≤ 1) := btt0_1
  obtain ⟨yy2_0, yy2_1, hh2, btt2_0, btt2_1⟩ := q_bigO hI hB2
  obtain ⟨rfl, rfl⟩ : t2_0 = yy2_0 ∧ t2_1 = yy2_1 := by have z := Option.some.inj (hT2.symm.trans hh2); simpa using z
  replace btt2_0 : q_F (0 ≤ t2_0.toInt ∧ t2_0.toInt ≤ R.toInt) := btt2_0
  replace btt2_1 : q_F (0 ≤ t2_1.toInt ∧ t2_1.toInt ≤ 1) := btt2_1
  obtain ⟨yy4_0, yy4_1, hh4, btt4_0, btt4_1⟩ := q_bigO hI hB3
  obtain ⟨rfl, rfl⟩ : t4_0 = yy4_0 ∧ t4_1 = yy4_1 := by have z := Option.some.inj (hT4.symm.trans hh4); simpa using z
  replace btt4_0 : q_F (0 ≤ t4_0.toInt ∧ t4_0.toInt ≤ R2.toInt) := btt4_0
  replace btt4_1 : q_F (0 ≤ t4_1.toInt ∧ t4_1.toInt ≤ 1) := btt4_1
  obtain ⟨yy6_0, yy6_1, hh6, btt6_0, btt6_1⟩ := q_bigO hI hB4
  obtain ⟨rfl, rfl⟩ : t6_0 = yy6_0 ∧ t6_1 = yy6_1 := by have z := Option.some.inj (hT6.symm.trans hh6); simpa using z
  replace btt6_0 : q_F (0 ≤ t6_0.toInt ∧ t6_0.toInt ≤ R3.toInt) := btt6_0
  replace btt6_1 : q_F (0 ≤ t6_1.toInt ∧ t6_1.toInt ≤ 1) := btt6_1
  have hF : q_un ws ws [12, 13, k3, k3 + 1, k4, k4 + 1] := q_u0
  have hl : lv_has ls 4 [(0, .ref (q 9)), (1, .ref (q k2)), (2, .ref (q k3)), (3, .ref (q k4))] := hl
  refine lv_aload_n hx hb d_8_4_0 rfl (lv_at hl 3 rfl) ?_
  refine lv_aload_n hx hb d_8_4_1 rfl (lv_at hl 1 rfl) ?_
  have ne33 := q_df hT3 hT6
  have ne34 := q_df hT5 hT6
  have ne35 := q_df hT7 hT2
  have ne36 := q_df hT7 hT4
  refine q_gov V (q_runV (As := [.ref (q k2)]) (rest := []) (d := 2) (mc := 0) (ms := 0) (ci := 2) C0 V rfl LV_Mil_51 (X_Big_copy l D g q ws k4 R3 hB4 zk4 k2 R hB2 zk2  (by have z := ne_k2_k4; omega) hI t6_0 t6_1 hT6 t7_0 hT7 t2_0 t2_1 hT2 t3_0 hT3  _) rfl rfl hT6 rfl hl.1 rfl (Nat.le_of_ble_eq_true rfl) ⟨by decide, by decide⟩ ⟨Nat.le_of_ble_eq_true rfl, Nat.le_of_ble_eq_true rfl⟩ d_8_4_2) (fun u37 H locs hp38 V => ?_)
  obtain ⟨hI, hu50, y40, y41, f42, hO39, hA43, b44, b45, b46, b47, b48, hE49⟩ := hp38
  replace hO39 : u37[k4]? = (some (q k4, .inr (2, [.ref (q (k4 + 1)), .int y40, .int y41])) : Option (Nat × va_E)) := hO39
  replace hA43 : u37[k4 + 1]? = (some (q (k4 + 1), .inl (g 0, R3.toNatClampNeg, .inl f42)) : Option (Nat × va_E)) := hA43
  obtain ⟨p51, e52⟩ : ∃ z, z = (F_Big_copy R3 R t6_0 t6_1 t7_0 t2_0 t2_1 t3_0) := ⟨_, rfl⟩
  have e53 : y40 = p51.1 := congrArg (fun z => z.1) (hE49.trans e52.symm)
  have e54 : y41 = p51.2.1 := congrArg (fun z => z.2.1) (hE49.trans e52.symm)
  have e55 : f42 = p51.2.2 := congrArg (fun z => z.2.2) (hE49.trans e52.symm)
  replace b44 : q_F (0 ≤ y40.toInt) := b44
  replace b45 : q_F (y40.toInt ≤ t2_0.toInt) := b45
  replace b46 : q_F (y40.toInt ≤ R3.toInt) := b46
  replace b47 : q_F (t2_1.toInt ≤ y41.toInt) := b47
  replace b48 : q_F (y41.toInt ≤ t2_1.toInt) := b48
  replace hT0 := (hu50 _ (by have z0 := zk4; simp only [List.mem_cons, List.not_mem_nil, or_false, not_or]; omega)).trans hT0
  replace hT1 := (hu50 _ (by have z0 := zk4; simp only [List.mem_cons, List.not_mem_nil, or_false, not_or]; omega)).trans hT1
  replace hT2 := (hu50 _ (q_nc (by have z := ne_k2_k4; omega) (q_nc (Ne.symm ne35) List.not_mem_nil))).trans hT2
  replace hT3 := (hu50 _ (q_nc ne33 (q_nc (by have z := ne_k2_k4; omega) List.not_mem_nil))).trans hT3
  replace hT4 := (hu50 _ (q_nc (by have z := ne_k3_k4; omega) (q_nc (Ne.symm ne36) List.not_mem_nil))).trans hT4
  replace hT5 := (hu50 _ (q_nc ne34 (q_nc (by have z := ne_k3_k4; omega) List.not_mem_nil))).trans hT5
  replace hF := q_uc hF hu50 (by simp)
  have hR56 := (show F_Mil_modulo_c2 R R2 R3 t0_0 t0_1 t1_0 t2_0 t2_1 t3_0 t4_0 t4_1 t5_0 t6_0 t6_1 t7_0 p51 = (F_Mil_modulo R R2 R3 t0_0 t0_1 t1_0 t2_0 t2_1 t3_0 t4_0 t4_1 t5_0 t6_0 t6_1 t7_0) from (by rw [e52, F_Mil_modulo.eq_1]))
  have hS57 := (show True ∧ S_Mil_modulo_c2 R R2 R3 t0_0 t0_1 t1_0 t2_0 t2_1 t3_0 t4_0 t4_1 t5_0 t6_0 t6_1 t7_0 p51 from (by rw [e52]; have h := hS; rw [S_Mil_modulo.eq_1] at h; with_reducible exact h))
  refine lv_aload_n hx hb d_8_4_5 rfl (lv_at hl 3 rfl) ?_
  refine lv_aload_n hx hb d_8_4_6 rfl (lv_at hl 2 rfl) ?_
  refine lv_aload_n hx hb d_8_4_7 rfl (lv_at hl 0 rfl) ?_
  have hO61 := n_o9 hI
  refine q_get (ci := 4) (j := 1) (v := .ref (q 12)) C0 V i_Mil rfl rfl hO61 (by decide) w_114 rfl d_8_4_8 ?_
  have ne62 := q_df hT3 hO39
  have ne63 := q_df hT5 hO39
  have ne64 := q_df hA43 hT2
  have ne65 := q_df hA43 hT4
  have ne66 := q_df hT3 hT4
  have ne67 := q_df hA43 hT4
  have ne68 := q_df hT5 hT2
  have ne69 := q_df hT5 hO39
  have ob70 : True ∧ S_Big_divideBy R3 R2 (220 : Int32) y40 y41 f42 t4_0 t4_1 t5_0 t0_0 t0_1 t1_0 := (by rw [e55, e54, e53]; have h := hS57; rw [S_Mil_modulo_c2.eq_1] at h; with_reducible exact h.2.1)
  refine q_gov V (q_runV (As := [.ref (q k3), .ref (q 12)]) (rest := []) (d := 4) (mc := 0) (ms := 0) (ci := 2) C0 V rfl LV_Mil_59 (X_Big_divideBy l D g q u37 k4 R3 hB4 zk4 k3 R2 hB3 zk3 12 220 (n_b12 g q) (by decide)  (by have z := ne_k3_k4; omega) (by have z := ne_k4_12; omega) (by have z := ne_k3_12; omega) hI y40 y41 hO39 f42 hA43 t4_0 t4_1 hT4 t5_0 hT5 t0_0 t0_1 hT0 t1_0 hT1 ob70 _) rfl rfl hO39 rfl hl.1 rfl (Nat.le_of_ble_eq_true rfl) ⟨by decide, by decide⟩ ⟨Nat.le_of_ble_eq_true rfl, Nat.le_of_ble_eq_true rfl⟩ d_8_4_11) (fun u71 H locs hp72 V => ?_)
  obtain ⟨hI, hu104, y74, y75, f76, y79, y80, f81, y84, y85, f86, hO73, hA77, hO78, hA82, hO83, hA87, b88, b89, b90, b91, b92, b93, b94, b95, b96, b97, b98, b99, b100, b101, b102, hE103⟩ := hp72
  replace hO73 : u71[k4]? = (some (q k4, .inr (2, [.ref (q (k4 + 1)), .int y74, .int y75])) : Option (Nat × va_E)) := hO73
  replace hA77 : u71[k4 + 1]? = (some (q (k4 + 1), .inl (g 0, R3.toNatClampNeg, .inl f76)) : Option (Nat × va_E)) := hA77
  replace hO78 : u71[k3]? = (some (q k3, .inr (2, [.ref (q (k3 + 1)), .int y79, .int y80])) : Option (Nat × va_E)) := hO78
  replace hA82 : u71[k3 + 1]? = (some (q (k3 + 1), .inl (g 0, R2.toNatClampNeg, .inl f81)) : Option (Nat × va_E)) := hA82
  replace hO83 : u71[12]? = (some (q 12, .inr (2, [.ref (q 13), .int y84, .int y85])) : Option (Nat × va_E)) := hO83
  replace hA87 : u71[13]? = (some (q 13, .inl (g 0, (220 : Int32).toNatClampNeg, .inl f86)) : Option (Nat × va_E)) := hA87
  obtain ⟨p105, e106⟩ : ∃ z, z = (F_Big_divideBy R3 R2 (220 : Int32) y40 y41 f42 t4_0 t4_1 t5_0 t0_0 t0_1 t1_0) := ⟨_, rfl⟩
  have e107 : y74 = p105.1 := congrArg (fun z => z.1) (hE103.trans e106.symm)
  have e108 : y75 = p105.2.1 := congrArg (fun z => z.2.1) (hE103.trans e106.symm)
  have e109 : f76 = p105.2.2.1 := congrArg (fun z => z.2.2.1) (hE103.trans e106.symm)
  have e110 : y79 = p105.2.2.2.1 := congrArg (fun z => z.2.2.2.1) (hE103.trans e106.symm)
  have e111 : y80 = p105.2.2.2.2.1 := congrArg (fun z => z.2.2.2.2.1) (hE103.trans e106.symm)
  have e112 : f81 = p105.2.2.2.2.2.1 := congrArg (fun z => z.2.2.2.2.2.1) (hE103.trans e106.symm)
  have e113 : y84 = p105.2.2.2.2.2.2.1 := congrArg (fun z => z.2.2.2.2.2.2.1) (hE103.trans e106.symm)
  have e114 : y85 = p105.2.2.2.2.2.2.2.1 := congrArg (fun z => z.2.2.2.2.2.2.2.1) (hE103.trans e106.symm)
  have e115 : f86 = p105.2.2.2.2.2.2.2.2 := congrArg (fun z => z.2.2.2.2.2.2.2.2) (hE103.trans e106.symm)
  replace b88 : q_F (0 ≤ y85.toInt) := b88
  replace b89 : q_F (y85.toInt ≤ 0) := b89
  replace b90 : q_F (y74.toInt ≤ R3.toInt) := b90
  replace b91 : q_F (y75.toInt ≤ y41.toInt) := b91
  replace b92 : q_F (y79.toInt ≤ t4_0.toInt + 218) := b92
  replace b93 : q_F (y79.toInt ≤ R2.toInt) := b93
  replace b94 : q_F (y80.toInt ≤ t4_1.toInt) := b94
  replace b95 : q_F (y84.toInt ≤ t4_0.toInt + 219) := b95
  replace b96 : q_F (y84.toInt ≤ R3.toInt + 1) := b96
  replace b97 : q_F (y84.toInt ≤ 220) := b97
  replace b98 : q_F (y85.toInt ≤ y74.toInt) := b98
  replace b99 : q_F (y85.toInt ≤ y75.toInt) := b99
  replace b100 : q_F (y85.toInt ≤ y79.toInt) := b100
  replace b101 : q_F (y85.toInt ≤ y80.toInt) := b101
  replace b102 : q_F (y85.toInt ≤ y84.toInt) := b102
  replace hT2 := (hu104 _ (q_nc (by have z := ne_k2_k4; omega) (q_nc (Ne.symm ne64) (q_nc (by have z := ne_k2_k3; omega) (q_nc (Ne.symm ne68) (q_nc (by have z := ne_k2_12; omega) (q_nc (by have z := ne_k2_13; omega) List.not_mem_nil))))))).trans hT2
  replace hT3 := (hu104 _ (q_nc ne62 (q_nc (by have z := ne_k2_k4; omega) (q_nc ne66 (q_nc (by have z := ne_k2_k3; omega) (q_nc (by have z := ne_k2_11; omega) (q_nc (by have z := ne_k2_12; omega) List.not_mem_nil))))))).trans hT3
  replace hO61 := (hu104 _ (by have z0 := zk4; have z1 := zk3; simp only [List.mem_cons, List.not_mem_nil, or_false, not_or]; omega)).trans hO61
  replace hF := q_uc hF hu104 (by simp)
  have hR116 := (show F_Mil_modulo_c11 R R2 R3 t0_0 t0_1 t1_0 t2_0 t2_1 t3_0 t4_0 t4_1 t5_0 t6_0 t6_1 t7_0 p51 p105 = (F_Mil_modulo R R2 R3 t0_0 t0_1 t1_0 t2_0 t2_1 t3_0 t4_0 t4_1 t5_0 t6_0 t6_1 t7_0) from Eq.trans (by rw [e106, e55, e54, e53, F_Mil_modulo_c2.eq_1]) hR56)
  have hS117 := (show True ∧ S_Mil_modulo_c11 R R2 R3 t0_0 t0_1 t1_0 t2_0 t2_1 t3_0 t4_0 t4_1 t5_0 t6_0 t6_1 t7_0 p51 p105 from (by rw [e106, e55, e54, e53]; have h := hS57; rw [S_Mil_modulo_c2.eq_1] at h; replace h := q_s2 h; with_reducible exact h))
  refine lv_aload_n hx hb d_8_4_14 rfl (lv_at hl 3 rfl) ?_
  refine q_get (ci := 2) (j := 2) (v := .int y75) C0 V i_Big rfl rfl hO73 (by decide) w_96 rfl d_8_4_15 ?_
  refine lv_if_eq (tgt := 27) hx hb d_8_4_18 (by decide) (fun c121 => ?_) (fun c121 => ?_)
  ·
    have b122 : q_F (y75.toInt = 0) := (q_eqI c121)
    exact q_retv C0 V (⟨hI, hF, y84, y85, f86, y79, y80, f81, y74, y75, f76, hO83, hA87, hO78, hA82, hO73, hA77, (show 0 ≤ y85.toInt from (by have t1 : 0 ≤ y85.toInt := b88; omega)), (show y85.toInt ≤ 0 from (by have t1 : y85.toInt ≤ 0 := b89; omega)), (show y84.toInt ≤ t4_0.toInt + 219 from (by have t1 : y84.toInt ≤ t4_0.toInt + 219 := b95; omega)), (show y84.toInt ≤ R3.toInt + 1 from (by have t1 : y84.toInt ≤ R3.toInt + 1 := b96; omega)), (show y79.toInt ≤ t4_0.toInt + 218 from (by have t1 : y79.toInt ≤ t4_0.toInt + 218 := b92; omega)), (show y79.toInt ≤ R2.toInt from (by have t1 : y79.toInt ≤ R2.toInt := b93; omega)), (show y80.toInt ≤ t4_1.toInt from (by have t1 : y80.toInt ≤ t4_1.toInt := b94; omega)), (show y74.toInt ≤ R3.toInt from (by have t1 : y74.toInt ≤ R3.toInt := b90; omega)), (show y85.toInt ≤ y84.toInt from (by have t1 : y85.toInt ≤ y84.toInt := b102; omega)), (show y84.toInt ≤ y85.toInt + 220 from (by have t1 : 0 ≤ y85.toInt := b88; have t2 : y84.toInt ≤ 220 := b97; omega)), (show y85.toInt ≤ y79.toInt from (by have t1 : y85.toInt ≤ y79.toInt := b100; omega)), (show y85.toInt ≤ y80.toInt from (by have t1 : y85.toInt ≤ y80.toInt := b101; omega)), (show y85.toInt ≤ y74.toInt from (by have t1 : y85.toInt ≤ y74.toInt := b98; omega)), (show y75.toInt ≤ y85.toInt + 1 from (by have t1 : 0 ≤ y85.toInt := b88; have t2 : y75.toInt = 0 := b122; omega)), (show y85.toInt ≤ y75.toInt from (by have t1 : y85.toInt ≤ y75.toInt := b99; omega)), (show (y84, y85, f86, y79, y80, f81, y74, y75, f76) = (F_Mil_modulo R R2 R3 t0_0 t0_1 t1_0 t2_0 t2_1 t3_0 t4_0 t4_1 t5_0 t6_0 t6_1 t7_0) from Eq.trans (by have c121x := c121; rw [e108] at c121x; rw [e115, e114, e113, e112, e111, e110, e109, e108, e107, F_Mil_modulo_c11.eq_1, if_pos c121x]) hR116)⟩) d_8_4_27
  ·
    have b123 : q_F (y75.toInt ≠ 0) := (q_neI c121)
    refine lv_aload_n hx hb d_8_4_21 rfl (lv_at hl 3 rfl) ?_
    refine lv_aload_n hx hb d_8_4_22 rfl (lv_at hl 2 rfl) ?_
    refine lv_iconst (v := 0) hx hb d_8_4_23 (by decide) ?_
    have ne124 := q_df hT3 hO73
    have ne125 := q_df hA82 hO73
    have ne126 := q_df hA77 hT2
    have ne127 := q_df hA77 hO78
    refine q_gov V (q_runV (As := [.ref (q k3), .int 0]) (rest := []) (d := 3) (mc := 0) (ms := 0) (ci := 2) C0 V rfl LV_Mil_55 (X_Big_addSigned l D g q u71 k4 R3 hB4 zk4 k3 R2 hB3 zk3 0 (by have z := ne_k3_k4; omega) hI y74 y75 hO73 f76 hA77 y79 y80 hO78 f81 hA82 ⟨(by have y0 : (0 : Int32).toInt = 0 := rfl; omega), (by have y0 : (0 : Int32).toInt = 0 := rfl; omega)⟩ _) rfl rfl hO73 rfl hl.1 rfl (Nat.le_of_ble_eq_true rfl) ⟨by decide, by decide⟩ ⟨Nat.le_of_ble_eq_true rfl, Nat.le_of_ble_eq_true rfl⟩ d_8_4_24) (fun u128 H locs hp129 V => ?_)
    obtain ⟨hI, hu140, y131, y132, f133, hO130, hA134, b135, b136, b137, b138, hE139⟩ := hp129
    replace hO130 : u128[k4]? = (some (q k4, .inr (2, [.ref (q (k4 + 1)), .int y131, .int y132])) : Option (Nat × va_E)) := hO130
    replace hA134 : u128[k4 + 1]? = (some (q (k4 + 1), .inl (g 0, R3.toNatClampNeg, .inl f133)) : Option (Nat × va_E)) := hA134
    obtain ⟨p141, e142⟩ : ∃ z, z = (F_Big_addSigned R3 R2 (0 : Int32) y74 y75 f76 y79 y80 f81) := ⟨_, rfl⟩
    have e143 : y131 = p141.1 := congrArg (fun z => z.1) (hE139.trans e142.symm)
    have e144 : y132 = p141.2.1 := congrArg (fun z => z.2.1) (hE139.trans e142.symm)
    have e145 : f133 = p141.2.2 := congrArg (fun z => z.2.2) (hE139.trans e142.symm)
    replace b135 : q_F (0 ≤ y131.toInt) := b135
    replace b136 : q_F (0 ≤ y132.toInt) := b136
    replace b137 : q_F (y132.toInt ≤ 1) := b137
    replace b138 : q_F (y131.toInt ≤ R3.toInt) := b138
    replace hO83 := (hu140 _ (by have z0 := zk4; simp only [List.mem_cons, List.not_mem_nil, or_false, not_or]; omega)).trans hO83
    replace hA87 := (hu140 _ (by have z0 := zk4; simp only [List.mem_cons, List.not_mem_nil, or_false, not_or]; omega)).trans hA87
    replace hT2 := (hu140 _ (q_nc (by have z := ne_k2_k4; omega) (q_nc (Ne.symm ne126) List.not_mem_nil))).trans hT2
    replace hT3 := (hu140 _ (q_nc ne124 (q_nc (by have z := ne_k2_k4; omega) List.not_mem_nil))).trans hT3
    replace hO78 := (hu140 _ (q_nc (by have z := ne_k3_k4; omega) (q_nc (Ne.symm ne127) List.not_mem_nil))).trans hO78
    replace hA82 := (hu140 _ (q_nc ne125 (q_nc (by have z := ne_k3_k4; omega) List.not_mem_nil))).trans hA82
    replace hO61 := (hu140 _ (by have z0 := zk4; simp only [List.mem_cons, List.not_mem_nil, or_false, not_or]; omega)).trans hO61
    replace hF := q_uc hF hu140 (by simp)
    have hR146 := (show F_Mil_modulo_c24 R R2 R3 t0_0 t0_1 t1_0 t2_0 t2_1 t3_0 t4_0 t4_1 t5_0 t6_0 t6_1 t7_0 p51 p105 y84 y85 f86 y79 y80 f81 p141 = (F_Mil_modulo R R2 R3 t0_0 t0_1 t1_0 t2_0 t2_1 t3_0 t4_0 t4_1 t5_0 t6_0 t6_1 t7_0) from Eq.trans (by have c121x := c121; rw [e108] at c121x; rw [e142, e115, e114, e113, e112, e111, e110, e109, e108, e107, F_Mil_modulo_c11.eq_1, if_neg c121x]) hR116)
    have hS147 := (show True ∧ S_Mil_modulo_c24 R R2 R3 t0_0 t0_1 t1_0 t2_0 t2_1 t3_0 t4_0 t4_1 t5_0 t6_0 t6_1 t7_0 p51 p105 y84 y85 f86 y79 y80 f81 p141 from (by rw [e142, e115, e114, e113, e112, e111, e110, e109, e108, e107]; have h := hS117; rw [S_Mil_modulo_c11.eq_1] at h; have c121x := c121; rw [e108] at c121x; rw [if_neg c121x] at h; with_reducible exact h))
    exact q_retv C0 V (⟨hI, hF, y84, y85, f86, y79, y80, f81, y131, y132, f133, hO83, hA87, hO78, hA82, hO130, hA134, (show 0 ≤ y85.toInt from (by have t1 : 0 ≤ y85.toInt := b88; omega)), (show y85.toInt ≤ 0 from (by have t1 : y85.toInt ≤ 0 := b89; omega)), (show y84.toInt ≤ t4_0.toInt + 219 from (by have t1 : y84.toInt ≤ t4_0.toInt + 219 := b95; omega)), (show y84.toInt ≤ R3.toInt + 1 from (by have t1 : y84.toInt ≤ R3.toInt + 1 := b96; omega)), (show y79.toInt ≤ t4_0.toInt + 218 from (by have t1 : y79.toInt ≤ t4_0.toInt + 218 := b92; omega)), (show y79.toInt ≤ R2.toInt from (by have t1 : y79.toInt ≤ R2.toInt := b93; omega)), (show y80.toInt ≤ t4_1.toInt from (by have t1 : y80.toInt ≤ t4_1.toInt := b94; omega)), (show y131.toInt ≤ R3.toInt from (by have t1 : y131.toInt ≤ R3.toInt := b138; omega)), (show y85.toInt ≤ y84.toInt from (by have t1 : y85.toInt ≤ y84.toInt := b102; omega)), (show y84.toInt ≤ y85.toInt + 220 from (by have t1 : 0 ≤ y85.toInt := b88; have t2 : y84.toInt ≤ 220 := b97; omega)), (show y85.toInt ≤ y79.toInt from (by have t1 : y85.toInt ≤ y79.toInt := b100; omega)), (show y85.toInt ≤ y80.toInt from (by have t1 : y85.toInt ≤ y80.toInt := b101; omega)), (show y85.toInt ≤ y131.toInt from (by have t1 : y85.toInt ≤ 0 := b89; have t2 : 0 ≤ y131.toInt := b135; omega)), (show y132.toInt ≤ y85.toInt + 1 from (by have t1 : 0 ≤ y85.toInt := b88; have t2 : y132.toInt ≤ 1 := b137; omega)), (show y85.toInt ≤ y132.toInt from (by have t1 : y85.toInt ≤ 0 := b89; have t2 : 0 ≤ y132.toInt := b136; omega)), (show (y84, y85, f86, y79, y80, f81, y131, y132, f133) = (F_Mil_modulo R R2 R3 t0_0 t0_1 t1_0 t2_0 t2_1 t3_0 t4_0 t4_1 t5_0 t6_0 t6_1 t7_0) from Eq.trans (by rw [e145, e144, e143, F_Mil_modulo_c24.eq_1]) hR146)⟩) d_8_4_27
