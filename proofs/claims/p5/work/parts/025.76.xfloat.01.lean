def F_Flo_changed_c59 (A : Int32) (B : Int32) (C : Int32) (x2 : Int64) (A2 : Int32) (B2 : Int32) (C2 : Int32) (t0_0 : Int32) (t0_1 : Int32) (t1_0 : (Nat → Int32)) (j36 : Int64) (p68 : (Int32 × Int32 × (Nat → Int32))) : Int64 × Int32 × Int32 × (Nat → Int32) := ((((F_Flo_nearest A B C (220 : Int32) (((F_Flo_power A2 B2 C2 x2) : Int32).toInt64 : Int64) (0 : Int32) (p68.1 : Int32) (p68.2.1 : Int32) (p68.2.2 : (Nat → Int32))) : Int64) ||| j36 : Int64), (p68.1 : Int32), (p68.2.1 : Int32), (p68.2.2 : (Nat → Int32)))
def F_Flo_changed (A : Int32) (B : Int32) (C : Int32) (x2 : Int64) (A2 : Int32) (B2 : Int32) (C2 : Int32) (t0_0 : Int32) (t0_1 : Int32) (t1_0 : (Nat → Int32)) : Int64 × Int32 × Int32 × (Nat → Int32) := if ((F_Flo_isNoNumber A2 B2 C2 x2) : Int32) = (0 : Int32) then (if ((F_Flo_isFinite A2 B2 C2 x2) : Int32) = (0 : Int32) then (((((F_Flo_infinity A B C) : Int64) ||| ((F_Flo_signBit A B C ((F_Flo_isNegative A2 B2 C2 x2) : Int32)) : Int64) : Int64), t0_0, t0_1, t1_0)) else (F_Flo_changed_c59 A B C x2 A2 B2 C2 t0_0 t0_1 t1_0 ((F_Flo_signBit A B C ((F_Flo_isNegative A2 B2 C2 x2) : Int32)) : Int64) ((F_Big_setLong (220 : Int32) ((F_Flo_number A2 B2 C2 x2) : Int64) t0_0 t0_1 t1_0) : (Int32 × Int32 × (Nat → Int32))))) else ((((F_Flo_noNumber A B C) : Int64), t0_0, t0_1, t1_0))
set_option maxRecDepth 100000 in
set_option maxHeartbeats 4000000 in
theorem X_Flo_changed (l : Launch) (D : va_G) (g : Nat → ClassId) (q : Nat → Nat) (ws : va_W) (k1 : Nat) (A B C : Int32) (hB1 : q_isFlo (nsh g q) q k1 A B C) (k3 : Nat) (A2 B2 C2 : Int32) (hB3 : q_isFlo (nsh g q) q k3 A2 B2 C2) (x2 : Int64) (ne_k1_k3 : k1 ≠ k3) (hI : q_I (nsh g q) q ws) (t0_0 : Int32) (t0_1 : Int32) (hT0 : ws[10]? = (some (q 10, .inr (2, [.ref (q 11), .int t0_0, .int t0_1])) : Option (Nat × va_E))) (t1_0 : (Nat → Int32)) (hT1 : ws[11]? = (some (q 11, .inl (g 0, (220 : Int32).toNatClampNeg, .inl t1_0)) : Option (Nat × va_E))) : q_mL l y_Flo_changed prog_7_method_16_code 6 5 0 0 D g [.ref (q k1), .long x2, .ref (q k3)] ws (fun r u => q_I (nsh g q) q u ∧ q_un ws u [10, 11] ∧ ∃ (u0_0 : Int32) (u0_1 : Int32) (u1_0 : (Nat → Int32)), u[10]? = (some (q 10, .inr (2, [.ref (q 11), .int u0_0, .int u0_1])) : Option (Nat × va_E)) ∧ u[11]? = (some (q 11, .inl (g 0, (220 : Int32).toNatClampNeg, .inl u1_0)) : Option (Nat × va_E)) ∧ (0 ≤ u0_0.toInt) ∧ (u0_0.toInt ≤ 220) ∧ (0 ≤ u0_1.toInt) ∧ (u0_1.toInt ≤ 1) ∧ (u0_0.toInt ≤ t0_0.toInt + 3) ∧ (r, u0_0, u0_1, u1_0) = (F_Flo_changed A B C x2 A2 B2 C2 t0_0 t0_1 t1_0)) := by
  intro sz
  refine q_into (by decide) (Nat.le_of_ble_eq_true rfl) ?_
  intro p e s m below meth c ls hsz C0 V hl
  have hx := C0.1
  have hb := C0.2.1
  obtain ⟨btt0_0, btt0_1⟩ := q_bigW hI (n_b10 g q) hT0
  replace btt0_0 : q_F (0 ≤ t0_0.toInt ∧ t0_0.toInt ≤ 220) := btt0_0
  replace btt0_1 : q_F (0 ≤ t0_1.toInt ∧ t0_1.toInt ≤ 1) := btt0_1
  have hF : q_un ws ws [10, 11] := q_u0
  have hl : lv_has ls 6 [(0, .ref (q k1)), (1, .long x2), (3, .ref (q k3))] := hl
  refine lv_aload_n hx hb d_7_16_0 rfl (lv_at hl 2 rfl) ?_
  refine lv_aload_n hx hb d_7_16_1 rfl (lv_at hl 0 rfl) ?_
  obtain ⟨y11, y12, y13, hO10⟩ := n_flO hI hB3
  obtain ⟨y15, y16, y17, hO14⟩ := n_flO hI hB1
  refine lv_acmp_ne (rx := some (q k3)) (ry := some (q k1)) (tgt := 7) hx hb d_7_16_2 (by decide) (fun _ => ?_) (fun c9 => absurd c9 (fun e => absurd (V.2.1.1 _ _ _ _ hO10 hO14 (Option.some.inj e)) (by have z := ne_k1_k3; omega)))
  refine lv_aload_n hx hb d_7_16_7 rfl (lv_at hl 2 rfl) ?_
  refine lv_lload_n hx hb d_7_16_8 rfl (lv_at hl 1 rfl) ?_
  refine q_goi V (q_runV (As := [.long x2]) (rest := []) (d := 3) (mc := 0) (ms := 0) (ci := 6) C0 V rfl LV_Flo_94 (X_Flo_isNoNumber l D g q ws k3 A2 B2 C2 hB3 x2 hI   _) rfl rfl hO10 rfl hl.1 rfl (Nat.le_of_ble_eq_true rfl) ⟨by decide, by decide⟩ ⟨Nat.le_of_ble_eq_true rfl, Nat.le_of_ble_eq_true rfl⟩ d_7_16_9) (fun a20 u18 H locs hp19 V => ?_)
  obtain ⟨rfl, b21, b22, hE23⟩ := hp19
  have e24 : a20 = (F_Flo_isNoNumber A2 B2 C2 x2) := hE23
  clear b21
  clear b22
  refine lv_if_eq (tgt := 20) hx hb d_7_16_12 (by decide) (fun c25 => ?_) (fun c25 => ?_)
  ·
    refine lv_aload_n hx hb d_7_16_20 rfl (lv_at hl 0 rfl) ?_
    refine lv_aload_n hx hb d_7_16_21 rfl (lv_at hl 2 rfl) ?_
    refine lv_lload_n hx hb d_7_16_22 rfl (lv_at hl 1 rfl) ?_
    refine q_goi V (q_runV (As := [.long x2]) (rest := [.ref (q k1)]) (d := 2) (mc := 0) (ms := 0) (ci := 6) C0 V rfl LV_Flo_43 (X_Flo_isNegative l D g q ws k3 A2 B2 C2 hB3 x2 hI   _) rfl rfl hO10 rfl hl.1 rfl (Nat.le_of_ble_eq_true rfl) ⟨by decide, by decide⟩ ⟨Nat.le_of_ble_eq_true rfl, Nat.le_of_ble_eq_true rfl⟩ d_7_16_23) (fun a29 u27 H locs hp28 V => ?_)
    obtain ⟨rfl, b30, b31, hE32⟩ := hp28
    have e33 : a29 = (F_Flo_isNegative A2 B2 C2 x2) := hE32
    replace b30 : q_F (0 ≤ a29.toInt) := b30
    replace b31 : q_F (a29.toInt ≤ 1) := b31
    refine q_gol V (q_runV (As := [.int a29]) (rest := []) (d := 1) (mc := 0) (ms := 0) (ci := 6) C0 V rfl LV_Flo_23 (X_Flo_signBit l D g q ws k1 A B C hB1 a29 hI  ⟨(by first | with_reducible exact q_fe b30 | (have t1 : 0 ≤ a29.toInt := b30; omega)), (by first | with_reducible exact q_fe b31 | (have t1 : a29.toInt ≤ 1 := b31; omega))⟩ _) rfl rfl hO14 rfl hl.1 rfl (Nat.le_of_ble_eq_true rfl) ⟨by decide, by decide⟩ ⟨Nat.le_of_ble_eq_true rfl, Nat.le_of_ble_eq_true rfl⟩ d_7_16_26) (fun j36 u34 H locs hp35 V => ?_)
    obtain ⟨rfl, hE37⟩ := hp35
    have e38 : j36 = (F_Flo_signBit A B C a29) := hE37
    refine lv_lstore (lv' := [(4, .long j36), (0, .ref (q k1)), (1, .long x2), (3, .ref (q k3))]) hx hb d_7_16_29 hl (by decide) rfl (fun ls hl => ?_)
    refine lv_aload_n hx hb d_7_16_31 rfl (lv_at hl 3 rfl) ?_
    refine lv_lload_n hx hb d_7_16_32 rfl (lv_at hl 2 rfl) ?_
    refine q_goi V (q_runV (As := [.long x2]) (rest := []) (d := 2) (mc := 0) (ms := 0) (ci := 6) C0 V rfl LV_Flo_31 (X_Flo_isFinite l D g q ws k3 A2 B2 C2 hB3 x2 hI   _) rfl rfl hO10 rfl hl.1 rfl (Nat.le_of_ble_eq_true rfl) ⟨by decide, by decide⟩ ⟨Nat.le_of_ble_eq_true rfl, Nat.le_of_ble_eq_true rfl⟩ d_7_16_33) (fun a41 u39 H locs hp40 V => ?_)
    obtain ⟨rfl, b42, b43, hE44⟩ := hp40
    have e45 : a41 = (F_Flo_isFinite A2 B2 C2 x2) := hE44
    clear b42
    clear b43
    refine lv_if_ne (tgt := 47) hx hb d_7_16_36 (by decide) (fun c46 => ?_) (fun c46 => ?_)
    ·
      refine lv_aload_n hx hb d_7_16_47 rfl (lv_at hl 1 rfl) ?_
      refine q_get (ci := 6) (j := 5) (v := .ref (q 9)) C0 V i_Flo rfl rfl hO14 (by decide) w_241 rfl d_7_16_48 ?_
      have hO48 := n_o9 hI
      refine q_get (ci := 4) (j := 0) (v := .ref (q 10)) C0 V i_Mil rfl rfl hO48 (by decide) w_113 rfl d_7_16_51 ?_
      refine lv_aload_n hx hb d_7_16_54 rfl (lv_at hl 3 rfl) ?_
      refine lv_lload_n hx hb d_7_16_55 rfl (lv_at hl 2 rfl) ?_
      refine q_gol V (q_runV (As := [.long x2]) (rest := [.ref (q 10)]) (d := 2) (mc := 0) (ms := 0) (ci := 6) C0 V rfl LV_Flo_61 (X_Flo_number l D g q ws k3 A2 B2 C2 hB3 x2 hI   _) rfl rfl hO10 rfl hl.1 rfl (Nat.le_of_ble_eq_true rfl) ⟨by decide, by decide⟩ ⟨Nat.le_of_ble_eq_true rfl, Nat.le_of_ble_eq_true rfl⟩ d_7_16_56) (fun j51 u49 H locs hp50 V => ?_)
      obtain ⟨rfl, hE52⟩ := hp50
      have e53 : j51 = (F_Flo_number A2 B2 C2 x2) := hE52
      refine q_gov V (q_runV (As := [.long j51]) (rest := []) (d := 2) (mc := 0) (ms := 0) (ci := 2) C0 V rfl LV_Flo_63 (X_Big_setLong l D g q ws 10 220 (n_b10 g q) (by decide) j51 hI t0_0 t0_1 hT0 t1_0 hT1  _) rfl rfl hT0 rfl hl.1 rfl (Nat.le_of_ble_eq_true rfl) ⟨by decide, by decide⟩ ⟨Nat.le_of_ble_eq_true rfl, Nat.le_of_ble_eq_true rfl⟩ d_7_16_59) (fun u54 H locs hp55 V => ?_)
      obtain ⟨hI, hZ9⟩ := hp55
      obtain ⟨hu67, hZ9⟩ := hZ9
      obtain ⟨y57, hZ9⟩ := hZ9
      obtain ⟨y58, hZ9⟩ := hZ9
      obtain ⟨f59, hZ9⟩ := hZ9
      obtain ⟨hO56, hZ9⟩ := hZ9
      obtain ⟨hA60, hZ9⟩ := hZ9
      obtain ⟨b61, hZ9⟩ := hZ9
      obtain ⟨b62, hZ9⟩ := hZ9
      obtain ⟨b63, hZ9⟩ := hZ9
      obtain ⟨b64, hZ9⟩ := hZ9
      obtain ⟨-, hE66⟩ := hZ9
      replace hO56 : u54[10]? = (some (q 10, .inr (2, [.ref (q 11), .int y57, .int y58])) : Option (Nat × va_E)) := hO56
      replace hA60 : u54[11]? = (some (q 11, .inl (g 0, (220 : Int32).toNatClampNeg, .inl f59)) : Option (Nat × va_E)) := hA60
      obtain ⟨p68, e69⟩ : ∃ z, z = (F_Big_setLong (220 : Int32) j51 t0_0 t0_1 t1_0) := ⟨_, rfl⟩
      have e70 : y57 = p68.1 := congrArg (fun z => z.1) (hE66.trans e69.symm)
      have e71 : y58 = p68.2.1 := congrArg (fun z => z.2.1) (hE66.trans e69.symm)
      have e72 : f59 = p68.2.2 := congrArg (fun z => z.2.2) (hE66.trans e69.symm)
      replace b61 : q_F (0 ≤ y57.toInt) := b61
      replace b62 : q_F (y57.toInt ≤ 3) := b62
      replace b63 : q_F (0 ≤ y58.toInt) := b63
      replace b64 : q_F (y58.toInt ≤ 1) := b64
      replace hO10 := (hu67 _ (by have z0 := hB3.2.2.2.2; simp only [List.mem_cons, List.not_mem_nil, or_false, not_or]; omega)).trans hO10
      replace hO14 := (hu67 _ (by have z0 := hB1.2.2.2.2; simp only [List.mem_cons, List.not_mem_nil, or_false, not_or]; omega)).trans hO14
      replace hO48 := (hu67 _ (by decide)).trans hO48
      replace hF := q_uc hF hu67 (by simp)
      have hR73 := (show F_Flo_changed_c59 A B C x2 A2 B2 C2 t0_0 t0_1 t1_0 j36 p68 = (F_Flo_changed A B C x2 A2 B2 C2 t0_0 t0_1 t1_0) from (by have c25x := c25; rw [e24] at c25x; have c46x := c46; rw [e45] at c46x; rw [e69, e53, e38, e33, F_Flo_changed.eq_1, if_pos c25x, if_neg c46x]))
      refine lv_aload_n hx hb d_7_16_62 rfl (lv_at hl 1 rfl) ?_
      refine lv_aload_n hx hb d_7_16_63 rfl (lv_at hl 1 rfl) ?_
      refine q_get (ci := 6) (j := 5) (v := .ref (q 9)) C0 V i_Flo rfl rfl hO14 (by decide) w_241 rfl d_7_16_64 ?_
      refine q_get (ci := 4) (j := 0) (v := .ref (q 10)) C0 V i_Mil rfl rfl hO48 (by decide) w_113 rfl d_7_16_67 ?_
      refine lv_aload_n hx hb d_7_16_70 rfl (lv_at hl 3 rfl) ?_
      refine lv_lload_n hx hb d_7_16_71 rfl (lv_at hl 2 rfl) ?_
      refine q_goi V (q_runV (As := [.long x2]) (rest := [.ref (q 10), .ref (q k1)]) (d := 2) (mc := 0) (ms := 0) (ci := 6) C0 V rfl LV_Flo_52 (X_Flo_power l D g q u54 k3 A2 B2 C2 hB3 x2 hI   _) rfl rfl hO10 rfl hl.1 rfl (Nat.le_of_ble_eq_true rfl) ⟨by decide, by decide⟩ ⟨Nat.le_of_ble_eq_true rfl, Nat.le_of_ble_eq_true rfl⟩ d_7_16_72) (fun a80 u78 H locs hp79 V => ?_)
      obtain ⟨rfl, b81, b82, hE83⟩ := hp79
      have e84 : a80 = (F_Flo_power A2 B2 C2 x2) := hE83
      clear b81
      clear b82
      refine lv_i2l hx hb d_7_16_75 rfl ?_
      obtain ⟨j85, e86⟩ := q_nm (a80.toInt64 : Int64)
      refine q_tl (v := j85) e86 ?_
      refine lv_iconst (v := 0) hx hb d_7_16_76 (by decide) ?_
      refine q_gol V (q_runV (As := [.ref (q 10), .long j85, .int 0]) (rest := []) (d := 4) (mc := 0) (ms := 0) (ci := 6) C0 V rfl LV_Flo_100 (X_Flo_nearest l D g q u54 k1 A B C hB1 10 220 (n_b10 g q) (by decide) j85 0 hI y57 y58 hO56 f59 hA60 ⟨(by have y0 : (220 : Int32).toInt = 220 := rfl; have y1 : (0 : Int32).toInt = 0 := rfl; omega), (by have y0 : (220 : Int32).toInt = 220 := rfl; have y1 : (0 : Int32).toInt = 0 := rfl; omega)⟩ _) rfl rfl hO14 rfl hl.1 rfl (Nat.le_of_ble_eq_true rfl) ⟨by decide, by decide⟩ ⟨Nat.le_of_ble_eq_true rfl, Nat.le_of_ble_eq_true rfl⟩ d_7_16_77) (fun j90 u88 H locs hp89 V => ?_)
      obtain ⟨rfl, hE91⟩ := hp89
      have e92 : j90 = (F_Flo_nearest A B C (220 : Int32) j85 (0 : Int32) y57 y58 f59) := hE91
      refine lv_lload hx hb d_7_16_80 (lv_at hl 0 rfl) ?_
      refine lv_lor hx hb d_7_16_82 ?_
      obtain ⟨j93, e94⟩ := q_nm (j90 ||| j36 : Int64)
      refine q_tl (v := j93) e94 ?_
      exact q_retl C0 V (⟨hI, hF, y57, y58, f59, hO56, hA60, (show 0 ≤ y57.toInt from (by first | with_reducible exact q_fe b61 | (have t1 : 0 ≤ y57.toInt := b61; omega))), (show y57.toInt ≤ 220 from (by first | with_reducible exact q_fe b62 | (have t1 : y57.toInt ≤ 3 := b62; omega))), (show 0 ≤ y58.toInt from (by first | with_reducible exact q_fe b63 | (have t1 : 0 ≤ y58.toInt := b63; omega))), (show y58.toInt ≤ 1 from (by first | with_reducible exact q_fe b64 | (have t1 : y58.toInt ≤ 1 := b64; omega))), (show y57.toInt ≤ t0_0.toInt + 3 from (by have t1 : 0 ≤ t0_0.toInt ∧ t0_0.toInt ≤ 220 := btt0_0; have t2 : y57.toInt ≤ 3 := b62; omega)), (show (j93, y57, y58, f59) = (F_Flo_changed A B C x2 A2 B2 C2 t0_0 t0_1 t1_0) from Eq.trans (by rw [← e94, e92, ← e86, e84, e72, e71, e70, F_Flo_changed_c59.eq_1]) hR73)⟩) d_7_16_83
    ·
      refine lv_aload_n hx hb d_7_16_39 rfl (lv_at hl 1 rfl) ?_
      refine q_gol V (q_runV (As := []) (rest := []) (d := 1) (mc := 0) (ms := 0) (ci := 6) C0 V rfl LV_Flo_39 (X_Flo_infinity l D g q ws k1 A B C hB1  hI   _) rfl rfl hO14 rfl hl.1 rfl (Nat.le_of_ble_eq_true rfl) ⟨by decide, by decide⟩ ⟨Nat.le_of_ble_eq_true rfl, Nat.le_of_ble_eq_true rfl⟩ d_7_16_40) (fun j98 u96 H locs hp97 V => ?_)
      obtain ⟨rfl, hE99⟩ := hp97
      have e100 : j98 = (F_Flo_infinity A B C) := hE99
      refine lv_lload hx hb d_7_16_43 (lv_at hl 0 rfl) ?_
      refine lv_lor hx hb d_7_16_45 ?_
      obtain ⟨j101, e102⟩ := q_nm (j98 ||| j36 : Int64)
      refine q_tl (v := j101) e102 ?_
      exact q_retl C0 V (⟨hI, hF, t0_0, t0_1, t1_0, hT0, hT1, (show 0 ≤ t0_0.toInt from (by first | with_reducible exact (q_fe btt0_0).2 | with_reducible exact (q_fe btt0_0).1 | (have t1 : 0 ≤ t0_0.toInt ∧ t0_0.toInt ≤ 220 := btt0_0; omega))), (show t0_0.toInt ≤ 220 from (by first | with_reducible exact (q_fe btt0_0).2 | with_reducible exact (q_fe btt0_0).1 | (have t1 : 0 ≤ t0_0.toInt ∧ t0_0.toInt ≤ 220 := btt0_0; omega))), (show 0 ≤ t0_1.toInt from (by first | with_reducible exact (q_fe btt0_1).2 | with_reducible exact (q_fe btt0_1).1 | (have t1 : 0 ≤ t0_1.toInt ∧ t0_1.toInt ≤ 1 := btt0_1; omega))), (show t0_1.toInt ≤ 1 from (by first | with_reducible exact (q_fe btt0_1).2 | with_reducible exact (q_fe btt0_1).1 | (have t1 : 0 ≤ t0_1.toInt ∧ t0_1.toInt ≤ 1 := btt0_1; omega))), (show t0_0.toInt ≤ t0_0.toInt + 3 from (by omega)), (show (j101, t0_0, t0_1, t1_0) = (F_Flo_changed A B C x2 A2 B2 C2 t0_0 t0_1 t1_0) from (by have c25x := c25; rw [e24] at c25x; have c46x := c46; rw [e45] at c46x; rw [← e102, e100, e38, e33, F_Flo_changed.eq_1, if_pos c25x, if_pos c46x]))⟩) d_7_16_46
  ·
    refine lv_aload_n hx hb d_7_16_15 rfl (lv_at hl 0 rfl) ?_
    refine q_gol V (q_runV (As := []) (rest := []) (d := 2) (mc := 0) (ms := 0) (ci := 6) C0 V rfl LV_Flo_97 (X_Flo_noNumber l D g q ws k1 A B C hB1  hI   _) rfl rfl hO14 rfl hl.1 rfl (Nat.le_of_ble_eq_true rfl) ⟨by decide, by decide⟩ ⟨Nat.le_of_ble_eq_true rfl, Nat.le_of_ble_eq_true rfl⟩ d_7_16_16) (fun j106 u104 H locs hp105 V => ?_)
    obtain ⟨rfl, hE107⟩ := hp105
    have e108 : j106 = (F_Flo_noNumber A B C) := hE107
    exact q_retl C0 V (⟨hI, hF, t0_0, t0_1, t1_0, hT0, hT1, (show 0 ≤ t0_0.toInt from (by first | with_reducible exact (q_fe btt0_0).2 | with_reducible exact (q_fe btt0_0).1 | (have t1 : 0 ≤ t0_0.toInt ∧ t0_0.toInt ≤ 220 := btt0_0; omega))), (show t0_0.toInt ≤ 220 from (by first | with_reducible exact (q_fe btt0_0).2 | with_reducible exact (q_fe btt0_0).1 | (have t1 : 0 ≤ t0_0.toInt ∧ t0_0.toInt ≤ 220 := btt0_0; omega))), (show 0 ≤ t0_1.toInt from (by first | with_reducible exact (q_fe btt0_1).2 | with_reducible exact (q_fe btt0_1).1 | (have t1 : 0 ≤ t0_1.toInt ∧ t0_1.toInt ≤ 1 := btt0_1; omega))), (show t0_1.toInt ≤ 1 from (by first | with_reducible exact (q_fe btt0_1).2 | with_reducible exact (q_fe btt0_1).1 | (have t1 : 0 ≤ t0_1.toInt ∧ t0_1.toInt ≤ 1 := btt0_1; omega))), (show t0_0.toInt ≤ t0_0.toInt + 3 from (by omega)), (show (j106, t0_0, t0_1, t1_0) = (F_Flo_changed A B C x2 A2 B2 C2 t0_0 t0_1 t1_0) from (by have c25x := c25; rw [e24] at c25x; rw [e108, F_Flo_changed.eq_1, if_neg c25x]))⟩) d_7_16_19
def F_Flo_changed_a (A : Int32) (B : Int32) (C : Int32) (x2 : Int64) (t0_0 : Int32) (t0_1 : Int32) (t1_0 : (Nat → Int32)) : Int64 := x2
set_option maxRecDepth 100000 in
set_option maxHeartbeats 4000000 in
theorem X_Flo_changed_a (l : Launch) (D : va_G) (g : Nat → ClassId) (q : Nat → Nat) (ws : va_W) (k1 : Nat) (A B C : Int32) (hB1 : q_isFlo (nsh g q) q k1 A B C) (x2 : Int64) (hI : q_I (nsh g q) q ws) (t0_0 : Int32) (t0_1 : Int32) (hT0 : ws[10]? = (some (q 10, .inr (2, [.ref (q 11), .int t0_0, .int t0_1])) : Option (Nat × va_E))) (t1_0 : (Nat → Int32)) (hT1 : ws[11]? = (some (q 11, .inl (g 0, (220 : Int32).toNatClampNeg, .inl t1_0)) : Option (Nat × va_E))) : q_mL l y_Flo_changed prog_7_method_16_code 6 1 0 0 D g [.ref (q k1), .long x2, .ref (q k1)] ws (fun r u => ws = u ∧ (x2.toInt ≤ r.toInt) ∧ (r.toInt ≤ x2.toInt) ∧ r = (F_Flo_changed_a A B C x2 t0_0 t0_1 t1_0)) := by
  intro sz
  refine q_into (by decide) (Nat.le_of_ble_eq_true rfl) ?_
  intro p e s m below meth c ls hsz C0 V hl
  have hx := C0.1
  have hb := C0.2.1
  have btt0_1 := (q_bigW hI (n_b10 g q) hT0).2
  clear btt0_1
  have hl : lv_has ls 6 [(0, .ref (q k1)), (1, .long x2), (3, .ref (q k1))] := hl
  refine lv_aload_n hx hb d_7_16_0 rfl (lv_at hl 2 rfl) ?_
  refine lv_aload_n hx hb d_7_16_1 rfl (lv_at hl 0 rfl) ?_
  refine lv_acmp_ne (rx := some (q k1)) (ry := some (q k1)) (tgt := 7) hx hb d_7_16_2 (by decide) (fun c9 => absurd rfl c9) (fun _ => ?_)
  refine lv_lload_n hx hb d_7_16_5 rfl (lv_at hl 1 rfl) ?_
  exact q_retl C0 V (⟨rfl, (show x2.toInt ≤ x2.toInt from (by omega)), (show x2.toInt ≤ x2.toInt from (by omega)), (show x2 = (F_Flo_changed_a A B C x2 t0_0 t0_1 t1_0) from (by rw [F_Flo_changed_a.eq_1]))⟩) d_7_16_6
theorem d_7_18_0 : decode prog_7_method_18_code 0 = .ok (.aload_n 1, 1) := by decide +kernel
theorem d_7_18_1 : decode prog_7_method_18_code 1 = .ok (.getfield 77, 3) := by decide +kernel
theorem d_7_18_4 : decode prog_7_method_18_code 4 = .ok (.ifCond .ne 5, 3) := by decide +kernel
theorem d_7_18_9 : decode prog_7_method_18_code 9 = .ok (.aload_n 0, 1) := by decide +kernel
theorem d_7_18_10 : decode prog_7_method_18_code 10 = .ok (.getfield 19, 3) := by decide +kernel
theorem d_7_18_13 : decode prog_7_method_18_code 13 = .ok (.aload_n 1, 1) := by decide +kernel
theorem d_7_18_14 : decode prog_7_method_18_code 14 = .ok (.invokevirtual 116, 3) := by decide +kernel
set_option maxRecDepth 100000 in
theorem w_759 : (Cond.methodLink "NumberHouse$Floats" (116 : Nat) ({ cls := "NumberHouse$Mill", name := "countFigures", desc := "(LNumberHouse$Big;)I" } : MethodName)) ∈ q_tbl := q_of4 39 rfl (by decide +kernel)
theorem LV_Flo_116 : q_LV "NumberHouse$Floats" 116 y_Mil_countFigures prog_8_method_13_code 4 (some .int) 1 := ⟨w_762, w_3, w_759, w_760, w_761, ⟨by decide, by decide, by decide +kernel⟩⟩
theorem d_7_18_17 : decode prog_7_method_18_code 17 = .ok (.i2l, 1) := by decide +kernel
theorem d_7_18_18 : decode prog_7_method_18_code 18 = .ok (.lload_n 2, 1) := by decide +kernel
theorem d_7_18_19 : decode prog_7_method_18_code 19 = .ok (.lsub, 1) := by decide +kernel
theorem d_7_18_20 : decode prog_7_method_18_code 20 = .ok (.lstore 4, 2) := by decide +kernel
theorem d_7_18_22 : decode prog_7_method_18_code 22 = .ok (.lload 4, 2) := by decide +kernel
theorem d_7_18_24 : decode prog_7_method_18_code 24 = .ok (.ldc2_w 120, 3) := by decide +kernel
set_option maxRecDepth 100000 in
theorem w_785 : (Cond.constantLong "NumberHouse$Floats" (120 : Nat) (400 : Int64)) ∈ q_tbl := q_of4 65 rfl (by decide +kernel)
theorem d_7_18_27 : decode prog_7_method_18_code 27 = .ok (.lcmp, 1) := by decide +kernel
theorem d_7_18_28 : decode prog_7_method_18_code 28 = .ok (.ifCond .gt 12, 3) := by decide +kernel
theorem d_7_18_40 : decode prog_7_method_18_code 40 = .ok (.lload 4, 2) := by decide +kernel
theorem d_7_18_42 : decode prog_7_method_18_code 42 = .ok (.lconst 0, 1) := by decide +kernel
theorem d_7_18_43 : decode prog_7_method_18_code 43 = .ok (.lcmp, 1) := by decide +kernel
theorem d_7_18_44 : decode prog_7_method_18_code 44 = .ok (.ifCond .le 10, 3) := by decide +kernel
theorem d_7_18_47 : decode prog_7_method_18_code 47 = .ok (.aload_n 0, 1) := by decide +kernel
theorem d_7_18_48 : decode prog_7_method_18_code 48 = .ok (.invokevirtual 39, 3) := by decide +kernel
theorem d_7_18_51 : decode prog_7_method_18_code 51 = .ok (.goto 4, 3) := by decide +kernel
theorem d_7_18_55 : decode prog_7_method_18_code 55 = .ok (.lreturn, 1) := by decide +kernel
theorem d_7_18_31 : decode prog_7_method_18_code 31 = .ok (.lload 4, 2) := by decide +kernel
theorem d_7_18_33 : decode prog_7_method_18_code 33 = .ok (.ldc2_w 122, 3) := by decide +kernel
set_option maxRecDepth 100000 in
theorem w_786 : (Cond.constantLong "NumberHouse$Floats" (122 : Nat) (-400 : Int64)) ∈ q_tbl := q_of4 66 rfl (by decide +kernel)
theorem d_7_18_36 : decode prog_7_method_18_code 36 = .ok (.lcmp, 1) := by decide +kernel
theorem d_7_18_37 : decode prog_7_method_18_code 37 = .ok (.ifCond .ge 19, 3) := by decide +kernel
theorem d_7_18_56 : decode prog_7_method_18_code 56 = .ok (.aload_n 0, 1) := by decide +kernel
theorem d_7_18_57 : decode prog_7_method_18_code 57 = .ok (.getfield 19, 3) := by decide +kernel
theorem d_7_18_60 : decode prog_7_method_18_code 60 = .ok (.getfield 124, 3) := by decide +kernel
theorem d_7_18_63 : decode prog_7_method_18_code 63 = .ok (.astore 6, 2) := by decide +kernel
theorem d_7_18_65 : decode prog_7_method_18_code 65 = .ok (.aload 6, 2) := by decide +kernel
theorem d_7_18_67 : decode prog_7_method_18_code 67 = .ok (.aload_n 1, 1) := by decide +kernel
theorem d_7_18_68 : decode prog_7_method_18_code 68 = .ok (.invokevirtual 127, 3) := by decide +kernel
theorem d_7_18_71 : decode prog_7_method_18_code 71 = .ok (.lload_n 2, 1) := by decide +kernel
theorem d_7_18_72 : decode prog_7_method_18_code 72 = .ok (.lconst 0, 1) := by decide +kernel
theorem d_7_18_73 : decode prog_7_method_18_code 73 = .ok (.lcmp, 1) := by decide +kernel
theorem d_7_18_74 : decode prog_7_method_18_code 74 = .ok (.ifCond .gt 21, 3) := by decide +kernel
theorem d_7_18_95 : decode prog_7_method_18_code 95 = .ok (.aload_n 0, 1) := by decide +kernel
theorem d_7_18_96 : decode prog_7_method_18_code 96 = .ok (.getfield 19, 3) := by decide +kernel
theorem d_7_18_99 : decode prog_7_method_18_code 99 = .ok (.getfield 131, 3) := by decide +kernel
theorem d_7_18_102 : decode prog_7_method_18_code 102 = .ok (.astore 7, 2) := by decide +kernel
theorem d_7_18_104 : decode prog_7_method_18_code 104 = .ok (.aload 7, 2) := by decide +kernel
theorem d_7_18_106 : decode prog_7_method_18_code 106 = .ok (.lconst 1, 1) := by decide +kernel
theorem d_7_18_107 : decode prog_7_method_18_code 107 = .ok (.invokevirtual 63, 3) := by decide +kernel
theorem d_7_18_110 : decode prog_7_method_18_code 110 = .ok (.aload 7, 2) := by decide +kernel
theorem d_7_18_112 : decode prog_7_method_18_code 112 = .ok (.lload_n 2, 1) := by decide +kernel
theorem d_7_18_113 : decode prog_7_method_18_code 113 = .ok (.l2i, 1) := by decide +kernel
theorem d_7_18_114 : decode prog_7_method_18_code 114 = .ok (.invokevirtual 91, 3) := by decide +kernel
theorem d_7_18_117 : decode prog_7_method_18_code 117 = .ok (.iconst 0, 1) := by decide +kernel
theorem d_7_18_118 : decode prog_7_method_18_code 118 = .ok (.aload 7, 2) := by decide +kernel
theorem d_7_18_120 : decode prog_7_method_18_code 120 = .ok (.invokevirtual 104, 3) := by decide +kernel
theorem d_7_18_123 : decode prog_7_method_18_code 123 = .ok (.aload 6, 2) := by decide +kernel
theorem d_7_18_125 : decode prog_7_method_18_code 125 = .ok (.invokevirtual 104, 3) := by decide +kernel
theorem d_7_18_128 : decode prog_7_method_18_code 128 = .ok (.isub, 1) := by decide +kernel
theorem d_7_18_129 : decode prog_7_method_18_code 129 = .ok (.bipush 70, 2) := by decide +kernel
theorem d_7_18_131 : decode prog_7_method_18_code 131 = .ok (.iadd, 1) := by decide +kernel
theorem d_7_18_132 : decode prog_7_method_18_code 132 = .ok (.invokestatic 46, 3) := by decide +kernel
theorem d_7_18_135 : decode prog_7_method_18_code 135 = .ok (.istore 8, 2) := by decide +kernel
theorem d_7_18_137 : decode prog_7_method_18_code 137 = .ok (.aload 6, 2) := by decide +kernel
theorem d_7_18_139 : decode prog_7_method_18_code 139 = .ok (.iload 8, 2) := by decide +kernel
theorem d_7_18_141 : decode prog_7_method_18_code 141 = .ok (.invokevirtual 69, 3) := by decide +kernel
theorem d_7_18_144 : decode prog_7_method_18_code 144 = .ok (.aload 6, 2) := by decide +kernel
theorem d_7_18_146 : decode prog_7_method_18_code 146 = .ok (.aload 7, 2) := by decide +kernel
theorem d_7_18_148 : decode prog_7_method_18_code 148 = .ok (.aload_n 0, 1) := by decide +kernel
theorem d_7_18_149 : decode prog_7_method_18_code 149 = .ok (.getfield 19, 3) := by decide +kernel
theorem d_7_18_152 : decode prog_7_method_18_code 152 = .ok (.getfield 134, 3) := by decide +kernel
set_option maxRecDepth 100000 in
theorem w_116 : (Cond.fieldLink "NumberHouse$Floats" (134 : Nat) "NumberHouse$Mill" "quotient" "LNumberHouse$Big;") ∈ q_tbl := q_of1 116 rfl (by decide +kernel)
theorem d_7_18_155 : decode prog_7_method_18_code 155 = .ok (.invokevirtual 137, 3) := by decide +kernel
set_option maxRecDepth 100000 in
theorem w_1029 : (Cond.methodLink "NumberHouse$Floats" (137 : Nat) ({ cls := "NumberHouse$Big", name := "divideBy", desc := "(LNumberHouse$Big;LNumberHouse$Big;)V" } : MethodName)) ∈ q_tbl := q_of5 69 rfl (by decide +kernel)
theorem LV_Flo_137 : q_LV "NumberHouse$Floats" 137 y_Big_divideBy prog_2_method_34_code 7 none 2 := ⟨w_1032, w_4, w_1029, w_1030, w_1031, ⟨by decide, by decide, by decide +kernel⟩⟩
theorem d_7_18_158 : decode prog_7_method_18_code 158 = .ok (.aload_n 0, 1) := by decide +kernel
theorem d_7_18_159 : decode prog_7_method_18_code 159 = .ok (.aload_n 0, 1) := by decide +kernel
theorem d_7_18_160 : decode prog_7_method_18_code 160 = .ok (.getfield 19, 3) := by decide +kernel
theorem d_7_18_163 : decode prog_7_method_18_code 163 = .ok (.getfield 134, 3) := by decide +kernel
theorem d_7_18_166 : decode prog_7_method_18_code 166 = .ok (.iload 8, 2) := by decide +kernel
theorem d_7_18_168 : decode prog_7_method_18_code 168 = .ok (.ineg, 1) := by decide +kernel
theorem d_7_18_169 : decode prog_7_method_18_code 169 = .ok (.i2l, 1) := by decide +kernel
theorem d_7_18_170 : decode prog_7_method_18_code 170 = .ok (.lload_n 2, 1) := by decide +kernel
theorem d_7_18_171 : decode prog_7_method_18_code 171 = .ok (.lsub, 1) := by decide +kernel
theorem d_7_18_172 : decode prog_7_method_18_code 172 = .ok (.aload 6, 2) := by decide +kernel
theorem d_7_18_174 : decode prog_7_method_18_code 174 = .ok (.getfield 77, 3) := by decide +kernel
theorem d_7_18_177 : decode prog_7_method_18_code 177 = .ok (.ifCond .le 7, 3) := by decide +kernel
theorem d_7_18_184 : decode prog_7_method_18_code 184 = .ok (.iconst 0, 1) := by decide +kernel
theorem d_7_18_185 : decode prog_7_method_18_code 185 = .ok (.invokevirtual 100, 3) := by decide +kernel
theorem d_7_18_188 : decode prog_7_method_18_code 188 = .ok (.lreturn, 1) := by decide +kernel
theorem d_7_18_180 : decode prog_7_method_18_code 180 = .ok (.iconst 1, 1) := by decide +kernel
theorem d_7_18_181 : decode prog_7_method_18_code 181 = .ok (.goto 4, 3) := by decide +kernel
theorem d_7_18_77 : decode prog_7_method_18_code 77 = .ok (.aload 6, 2) := by decide +kernel
theorem d_7_18_79 : decode prog_7_method_18_code 79 = .ok (.lload_n 2, 1) := by decide +kernel
theorem d_7_18_80 : decode prog_7_method_18_code 80 = .ok (.lneg, 1) := by decide +kernel
theorem d_7_18_81 : decode prog_7_method_18_code 81 = .ok (.l2i, 1) := by decide +kernel
theorem d_7_18_82 : decode prog_7_method_18_code 82 = .ok (.invokevirtual 91, 3) := by decide +kernel
theorem d_7_18_85 : decode prog_7_method_18_code 85 = .ok (.aload_n 0, 1) := by decide +kernel
theorem d_7_18_86 : decode prog_7_method_18_code 86 = .ok (.aload 6, 2) := by decide +kernel
theorem d_7_18_88 : decode prog_7_method_18_code 88 = .ok (.lload_n 2, 1) := by decide +kernel
theorem d_7_18_89 : decode prog_7_method_18_code 89 = .ok (.lneg, 1) := by decide +kernel
theorem d_7_18_90 : decode prog_7_method_18_code 90 = .ok (.iconst 0, 1) := by decide +kernel
theorem d_7_18_91 : decode prog_7_method_18_code 91 = .ok (.invokevirtual 100, 3) := by decide +kernel
theorem d_7_18_94 : decode prog_7_method_18_code 94 = .ok (.lreturn, 1) := by decide +kernel
theorem d_7_18_54 : decode prog_7_method_18_code 54 = .ok (.lconst 0, 1) := by decide +kernel
theorem d_7_18_7 : decode prog_7_method_18_code 7 = .ok (.lconst 0, 1) := by decide +kernel
theorem d_7_18_8 : decode prog_7_method_18_code 8 = .ok (.lreturn, 1) := by decide +kernel
def y_Flo_nearestDecimal : MethodName := ⟨"NumberHouse$Floats", "nearestDecimal", "(LNumberHouse$Big;J)J"⟩
def F_Flo_nearestDecimal_c155 (A : Int32) (B : Int32) (C : Int32) (R2 : Int32) (x3 : Int64) (t0_0 : Int32) (t0_1 : Int32) (t1_0 : (Nat → Int32)) (t2_0 : Int32) (t2_1 : Int32) (t3_0 : (Nat → Int32)) (t4_0 : Int32) (t4_1 : Int32) (t5_0 : (Nat → Int32)) (t6_0 : Int32) (t6_1 : Int32) (t7_0 : (Nat → Int32)) (t8_0 : Int32) (t8_1 : Int32) (t9_0 : (Nat → Int32)) (p62 : (Int32 × Int32 × Int32 × (Nat → Int32))) (j76 : Int64) (y52 : Int32) (y53 : Int32) (f54 : (Nat → Int32)) (p112 : (Int32 × Int32 × (Nat → Int32))) (y101 : Int32) (y102 : Int32) (f103 : (Nat → Int32)) (p141 : (Int32 × Int32 × (Nat → Int32))) (p166 : (Int32 × Int32 × (Nat → Int32))) (a198 : Int32) (y156 : Int32) (y157 : Int32) (f158 : (Nat → Int32)) (p215 : (Int32 × Int32 × (Nat → Int32))) (p260 : (Int32 × Int32 × (Nat → Int32) × Int32 × Int32 × (Nat → Int32) × Int32 × Int32 × (Nat → Int32))) : Int64 × Int32 × Int32 × (Nat → Int32) × Int32 × Int32 × (Nat → Int32) × Int32 × Int32 × (Nat → Int32) × Int32 × Int32 × (Nat → Int32) := if (p260.1 : Int32) ≤ (0 : Int32) then ((((F_Flo_nearest A B C (220 : Int32) (((-a198 : Int32).toInt64 : Int64) - x3 : Int64) (0 : Int32) (p260.2.2.2.2.2.2.1 : Int32) (p260.2.2.2.2.2.2.2.1 : Int32) (p260.2.2.2.2.2.2.2.2 : (Nat → Int32))) : Int64), (p260.1 : Int32), (p260.2.1 : Int32), (p260.2.2.1 : (Nat → Int32)), (p260.2.2.2.1 : Int32), (p260.2.2.2.2.1 : Int32), (p260.2.2.2.2.2.1 : (Nat → Int32)), (p260.2.2.2.2.2.2.1 : Int32), (p260.2.2.2.2.2.2.2.1 : Int32), (p260.2.2.2.2.2.2.2.2 : (Nat → Int32)), y52, y53, f54)) else ((((F_Flo_nearest A B C (220 : Int32) (((-a198 : Int32).toInt64 : Int64) - x3 : Int64) (1 : Int32) (p260.2.2.2.2.2.2.1 : Int32) (p260.2.2.2.2.2.2.2.1 : Int32) (p260.2.2.2.2.2.2.2.2 : (Nat → Int32))) : Int64), (p260.1 : Int32), (p260.2.1 : Int32), (p260.2.2.1 : (Nat → Int32)), (p260.2.2.2.1 : Int32), (p260.2.2.2.2.1 : Int32), (p260.2.2.2.2.2.1 : (Nat → Int32)), (p260.2.2.2.2.2.2.1 : Int32), (p260.2.2.2.2.2.2.2.1 : Int32), (p260.2.2.2.2.2.2.2.2 : (Nat → Int32)), y52, y53, f54))
def F_Flo_nearestDecimal_c141 (A : Int32) (B : Int32) (C : Int32) (R2 : Int32) (x3 : Int64) (t0_0 : Int32) (t0_1 : Int32) (t1_0 : (Nat → Int32)) (t2_0 : Int32) (t2_1 : Int32) (t3_0 : (Nat → Int32)) (t4_0 : Int32) (t4_1 : Int32) (t5_0 : (Nat → Int32)) (t6_0 : Int32) (t6_1 : Int32) (t7_0 : (Nat → Int32)) (t8_0 : Int32) (t8_1 : Int32) (t9_0 : (Nat → Int32)) (p62 : (Int32 × Int32 × Int32 × (Nat → Int32))) (j76 : Int64) (y52 : Int32) (y53 : Int32) (f54 : (Nat → Int32)) (p112 : (Int32 × Int32 × (Nat → Int32))) (y101 : Int32) (y102 : Int32) (f103 : (Nat → Int32)) (p141 : (Int32 × Int32 × (Nat → Int32))) (p166 : (Int32 × Int32 × (Nat → Int32))) (a198 : Int32) (y156 : Int32) (y157 : Int32) (f158 : (Nat → Int32)) (p215 : (Int32 × Int32 × (Nat → Int32))) : Int64 × Int32 × Int32 × (Nat → Int32) × Int32 × Int32 × (Nat → Int32) × Int32 × Int32 × (Nat → Int32) × Int32 × Int32 × (Nat → Int32) := F_Flo_nearestDecimal_c155 A B C R2 x3 t0_0 t0_1 t1_0 t2_0 t2_1 t3_0 t4_0 t4_1 t5_0 t6_0 t6_1 t7_0 t8_0 t8_1 t9_0 p62 j76 y52 y53 f54 p112 y101 y102 f103 p141 p166 a198 y156 y157 f158 p215 ((F_Big_divideBy (220 : Int32) (220 : Int32) (220 : Int32) (p215.1 : Int32) (p215.2.1 : Int32) (p215.2.2 : (Nat → Int32)) y156 y157 f158 t4_0 t4_1 t5_0) : (Int32 × Int32 × (Nat → Int32) × Int32 × Int32 × (Nat → Int32) × Int32 × Int32 × (Nat → Int32)))
def F_Flo_nearestDecimal_c114 (A : Int32) (B : Int32) (C : Int32) (R2 : Int32) (x3 : Int64) (t0_0 : Int32) (t0_1 : Int32) (t1_0 : (Nat → Int32)) (t2_0 : Int32) (t2_1 : Int32) (t3_0 : (Nat → Int32)) (t4_0 : Int32) (t4_1 : Int32) (t5_0 : (Nat → Int32)) (t6_0 : Int32) (t6_1 : Int32) (t7_0 : (Nat → Int32)) (t8_0 : Int32) (t8_1 : Int32) (t9_0 : (Nat → Int32)) (p62 : (Int32 × Int32 × Int32 × (Nat → Int32))) (j76 : Int64) (y52 : Int32) (y53 : Int32) (f54 : (Nat → Int32)) (p112 : (Int32 × Int32 × (Nat → Int32))) (y101 : Int32) (y102 : Int32) (f103 : (Nat → Int32)) (p141 : (Int32 × Int32 × (Nat → Int32))) (p166 : (Int32 × Int32 × (Nat → Int32))) : Int64 × Int32 × Int32 × (Nat → Int32) × Int32 × Int32 × (Nat → Int32) × Int32 × Int32 × (Nat → Int32) × Int32 × Int32 × (Nat → Int32) := F_Flo_nearestDecimal_c141 A B C R2 x3 t0_0 t0_1 t1_0 t2_0 t2_1 t3_0 t4_0 t4_1 t5_0 t6_0 t6_1 t7_0 t8_0 t8_1 t9_0 p62 j76 y52 y53 f54 p112 y101 y102 f103 p141 p166 (if 0 < ((((F_Big_bitLength (220 : Int32) (p166.1 : Int32) (p166.2.1 : Int32) (p166.2.2 : (Nat → Int32))) : Int32) - ((F_Big_bitLength (220 : Int32) y101 y102 f103) : Int32) : Int32) + 70 : Int32) then ((((F_Big_bitLength (220 : Int32) (p166.1 : Int32) (p166.2.1 : Int32) (p166.2.2 : (Nat → Int32))) : Int32) - ((F_Big_bitLength (220 : Int32) y101 y102 f103) : Int32) : Int32) + 70 : Int32) else 0 : Int32) (p166.1 : Int32) (p166.2.1 : Int32) (p166.2.2 : (Nat → Int32)) ((F_Big_shiftLeft (220 : Int32) (if 0 < ((((F_Big_bitLength (220 : Int32) (p166.1 : Int32) (p166.2.1 : Int32) (p166.2.2 : (Nat → Int32))) : Int32) - ((F_Big_bitLength (220 : Int32) y101 y102 f103) : Int32) : Int32) + 70 : Int32) then ((((F_Big_bitLength (220 : Int32) (p166.1 : Int32) (p166.2.1 : Int32) (p166.2.2 : (Nat → Int32))) : Int32) - ((F_Big_bitLength (220 : Int32) y101 y102 f103) : Int32) : Int32) + 70 : Int32) else 0 : Int32) y101 y102 f103) : (Int32 × Int32 × (Nat → Int32)))
def F_Flo_nearestDecimal_c107 (A : Int32) (B : Int32) (C : Int32) (R2 : Int32) (x3 : Int64) (t0_0 : Int32) (t0_1 : Int32) (t1_0 : (Nat → Int32)) (t2_0 : Int32) (t2_1 : Int32) (t3_0 : (Nat → Int32)) (t4_0 : Int32) (t4_1 : Int32) (t5_0 : (Nat → Int32)) (t6_0 : Int32) (t6_1 : Int32) (t7_0 : (Nat → Int32)) (t8_0 : Int32) (t8_1 : Int32) (t9_0 : (Nat → Int32)) (p62 : (Int32 × Int32 × Int32 × (Nat → Int32))) (j76 : Int64) (y52 : Int32) (y53 : Int32) (f54 : (Nat → Int32)) (p112 : (Int32 × Int32 × (Nat → Int32))) (y101 : Int32) (y102 : Int32) (f103 : (Nat → Int32)) (p141 : (Int32 × Int32 × (Nat → Int32))) : Int64 × Int32 × Int32 × (Nat → Int32) × Int32 × Int32 × (Nat → Int32) × Int32 × Int32 × (Nat → Int32) × Int32 × Int32 × (Nat → Int32) := F_Flo_nearestDecimal_c114 A B C R2 x3 t0_0 t0_1 t1_0 t2_0 t2_1 t3_0 t4_0 t4_1 t5_0 t6_0 t6_1 t7_0 t8_0 t8_1 t9_0 p62 j76 y52 y53 f54 p112 y101 y102 f103 p141 ((F_Big_timesFive (220 : Int32) (x3.toInt32 : Int32) (p141.1 : Int32) (p141.2.1 : Int32) (p141.2.2 : (Nat → Int32))) : (Int32 × Int32 × (Nat → Int32)))
def F_Flo_nearestDecimal_c82 (A : Int32) (B : Int32) (C : Int32) (R2 : Int32) (x3 : Int64) (t0_0 : Int32) (t0_1 : Int32) (t1_0 : (Nat → Int32)) (t2_0 : Int32) (t2_1 : Int32) (t3_0 : (Nat → Int32)) (t4_0 : Int32) (t4_1 : Int32) (t5_0 : (Nat → Int32)) (t6_0 : Int32) (t6_1 : Int32) (t7_0 : (Nat → Int32)) (t8_0 : Int32) (t8_1 : Int32) (t9_0 : (Nat → Int32)) (p62 : (Int32 × Int32 × Int32 × (Nat → Int32))) (j76 : Int64) (y52 : Int32) (y53 : Int32) (f54 : (Nat → Int32)) (p112 : (Int32 × Int32 × (Nat → Int32))) (p315 : (Int32 × Int32 × (Nat → Int32))) : Int64 × Int32 × Int32 × (Nat → Int32) × Int32 × Int32 × (Nat → Int32) × Int32 × Int32 × (Nat → Int32) × Int32 × Int32 × (Nat → Int32) := (((F_Flo_nearest A B C (220 : Int32) (-x3 : Int64) (0 : Int32) (p315.1 : Int32) (p315.2.1 : Int32) (p315.2.2 : (Nat → Int32))) : Int64), (p315.1 : Int32), (p315.2.1 : Int32), (p315.2.2 : (Nat → Int32)), t2_0, t2_1, t3_0, t4_0, t4_1, t5_0, y52, y53, f54)
def F_Flo_nearestDecimal_c68 (A : Int32) (B : Int32) (C : Int32) (R2 : Int32) (x3 : Int64) (t0_0 : Int32) (t0_1 : Int32) (t1_0 : (Nat → Int32)) (t2_0 : Int32) (t2_1 : Int32) (t3_0 : (Nat → Int32)) (t4_0 : Int32) (t4_1 : Int32) (t5_0 : (Nat → Int32)) (t6_0 : Int32) (t6_1 : Int32) (t7_0 : (Nat → Int32)) (t8_0 : Int32) (t8_1 : Int32) (t9_0 : (Nat → Int32)) (p62 : (Int32 × Int32 × Int32 × (Nat → Int32))) (j76 : Int64) (y52 : Int32) (y53 : Int32) (f54 : (Nat → Int32)) (p112 : (Int32 × Int32 × (Nat → Int32))) : Int64 × Int32 × Int32 × (Nat → Int32) × Int32 × Int32 × (Nat → Int32) × Int32 × Int32 × (Nat → Int32) × Int32 × Int32 × (Nat → Int32) := if (0 : Int32) < (lg_cmp x3 0 : Int32) then (F_Flo_nearestDecimal_c107 A B C R2 x3 t0_0 t0_1 t1_0 t2_0 t2_1 t3_0 t4_0 t4_1 t5_0 t6_0 t6_1 t7_0 t8_0 t8_1 t9_0 p62 j76 y52 y53 f54 p112 (p112.1 : Int32) (p112.2.1 : Int32) (p112.2.2 : (Nat → Int32)) ((F_Big_setLong (220 : Int32) (1 : Int64) t2_0 t2_1 t3_0) : (Int32 × Int32 × (Nat → Int32)))) else (F_Flo_nearestDecimal_c82 A B C R2 x3 t0_0 t0_1 t1_0 t2_0 t2_1 t3_0 t4_0 t4_1 t5_0 t6_0 t6_1 t7_0 t8_0 t8_1 t9_0 p62 j76 y52 y53 f54 p112 ((F_Big_timesFive (220 : Int32) ((-x3 : Int64).toInt32 : Int32) (p112.1 : Int32) (p112.2.1 : Int32) (p112.2.2 : (Nat → Int32))) : (Int32 × Int32 × (Nat → Int32))))
def F_Flo_nearestDecimal_c14 (A : Int32) (B : Int32) (C : Int32) (R2 : Int32) (x3 : Int64) (t0_0 : Int32) (t0_1 : Int32) (t1_0 : (Nat → Int32)) (t2_0 : Int32) (t2_1 : Int32) (t3_0 : (Nat → Int32)) (t4_0 : Int32) (t4_1 : Int32) (t5_0 : (Nat → Int32)) (t6_0 : Int32) (t6_1 : Int32) (t7_0 : (Nat → Int32)) (t8_0 : Int32) (t8_1 : Int32) (t9_0 : (Nat → Int32)) (p62 : (Int32 × Int32 × Int32 × (Nat → Int32))) : Int64 × Int32 × Int32 × (Nat → Int32) × Int32 × Int32 × (Nat → Int32) × Int32 × Int32 × (Nat → Int32) × Int32 × Int32 × (Nat → Int32) := if (0 : Int32) < (lg_cmp (((p62.1 : Int32).toInt64 : Int64) - x3 : Int64) 400 : Int32) then ((((F_Flo_infinity A B C) : Int64), t0_0, t0_1, t1_0, t2_0, t2_1, t3_0, t4_0, t4_1, t5_0, (p62.2.1 : Int32), (p62.2.2.1 : Int32), (p62.2.2.2 : (Nat → Int32)))) else (if (0 : Int32) ≤ (lg_cmp (((p62.1 : Int32).toInt64 : Int64) - x3 : Int64) (-400) : Int32) then (F_Flo_nearestDecimal_c68 A B C R2 x3 t0_0 t0_1 t1_0 t2_0 t2_1 t3_0 t4_0 t4_1 t5_0 t6_0 t6_1 t7_0 t8_0 t8_1 t9_0 p62 (((p62.1 : Int32).toInt64 : Int64) - x3 : Int64) (p62.2.1 : Int32) (p62.2.2.1 : Int32) (p62.2.2.2 : (Nat → Int32)) ((F_Big_copy (220 : Int32) R2 t0_0 t0_1 t1_0 t8_0 t8_1 t9_0) : (Int32 × Int32 × (Nat → Int32)))) else (((0 : Int64), t0_0, t0_1, t1_0, t2_0, t2_1, t3_0, t4_0, t4_1, t5_0, (p62.2.1 : Int32), (p62.2.2.1 : Int32), (p62.2.2.2 : (Nat → Int32)))))
def F_Flo_nearestDecimal (A : Int32) (B : Int32) (C : Int32) (R2 : Int32) (x3 : Int64) (t0_0 : Int32) (t0_1 : Int32) (t1_0 : (Nat → Int32)) (t2_0 : Int32) (t2_1 : Int32) (t3_0 : (Nat → Int32)) (t4_0 : Int32) (t4_1 : Int32) (t5_0 : (Nat → Int32)) (t6_0 : Int32) (t6_1 : Int32) (t7_0 : (Nat → Int32)) (t8_0 : Int32) (t8_1 : Int32) (t9_0 : (Nat → Int32)) : Int64 × Int32 × Int32 × (Nat → Int32) × Int32 × Int32 × (Nat → Int32) × Int32 × Int32 × (Nat → Int32) × Int32 × Int32 × (Nat → Int32) := if t8_0 = (0 : Int32) then (((0 : Int64), t0_0, t0_1, t1_0, t2_0, t2_1, t3_0, t4_0, t4_1, t5_0, t6_0, t6_1, t7_0)) else (F_Flo_nearestDecimal_c14 A B C R2 x3 t0_0 t0_1 t1_0 t2_0 t2_1 t3_0 t4_0 t4_1 t5_0 t6_0 t6_1 t7_0 t8_0 t8_1 t9_0 ((F_Mil_countFigures R2 t6_0 t6_1 t7_0 t8_0 t8_1 t9_0) : (Int32 × Int32 × Int32 × (Nat → Int32))))
def S_Flo_nearestDecimal_c155 (A : Int32) (B : Int32) (C : Int32) (R2 : Int32) (x3 : Int64) (t0_0 : Int32) (t0_1 : Int32) (t1_0 : (Nat → Int32)) (t2_0 : Int32) (t2_1 : Int32) (t3_0 : (Nat → Int32)) (t4_0 : Int32) (t4_1 : Int32) (t5_0 : (Nat → Int32)) (t6_0 : Int32) (t6_1 : Int32) (t7_0 : (Nat → Int32)) (t8_0 : Int32) (t8_1 : Int32) (t9_0 : (Nat → Int32)) (p62 : (Int32 × Int32 × Int32 × (Nat → Int32))) (j76 : Int64) (y52 : Int32) (y53 : Int32) (f54 : (Nat → Int32)) (p112 : (Int32 × Int32 × (Nat → Int32))) (y101 : Int32) (y102 : Int32) (f103 : (Nat → Int32)) (p141 : (Int32 × Int32 × (Nat → Int32))) (p166 : (Int32 × Int32 × (Nat → Int32))) (a198 : Int32) (y156 : Int32) (y157 : Int32) (f158 : (Nat → Int32)) (p215 : (Int32 × Int32 × (Nat → Int32))) (p260 : (Int32 × Int32 × (Nat → Int32) × Int32 × Int32 × (Nat → Int32) × Int32 × Int32 × (Nat → Int32))) : Prop := if (p260.1 : Int32) ≤ (0 : Int32) then (True) else (True)
def S_Flo_nearestDecimal_c141 (A : Int32) (B : Int32) (C : Int32) (R2 : Int32) (x3 : Int64) (t0_0 : Int32) (t0_1 : Int32) (t1_0 : (Nat → Int32)) (t2_0 : Int32) (t2_1 : Int32) (t3_0 : (Nat → Int32)) (t4_0 : Int32) (t4_1 : Int32) (t5_0 : (Nat → Int32)) (t6_0 : Int32) (t6_1 : Int32) (t7_0 : (Nat → Int32)) (t8_0 : Int32) (t8_1 : Int32) (t9_0 : (Nat → Int32)) (p62 : (Int32 × Int32 × Int32 × (Nat → Int32))) (j76 : Int64) (y52 : Int32) (y53 : Int32) (f54 : (Nat → Int32)) (p112 : (Int32 × Int32 × (Nat → Int32))) (y101 : Int32) (y102 : Int32) (f103 : (Nat → Int32)) (p141 : (Int32 × Int32 × (Nat → Int32))) (p166 : (Int32 × Int32 × (Nat → Int32))) (a198 : Int32) (y156 : Int32) (y157 : Int32) (f158 : (Nat → Int32)) (p215 : (Int32 × Int32 × (Nat → Int32))) : Prop := (True ∧ S_Big_divideBy (220 : Int32) (220 : Int32) (220 : Int32) (p215.1 : Int32) (p215.2.1 : Int32) (p215.2.2 : (Nat → Int32)) y156 y157 f158 t4_0 t4_1 t5_0) ∧ (S_Flo_nearestDecimal_c155 A B C R2 x3 t0_0 t0_1 t1_0 t2_0 t2_1 t3_0 t4_0 t4_1 t5_0 t6_0 t6_1 t7_0 t8_0 t8_1 t9_0 p62 j76 y52 y53 f54 p112 y101 y102 f103 p141 p166 a198 y156 y157 f158 p215 ((F_Big_divideBy (220 : Int32) (220 : Int32) (220 : Int32) (p215.1 : Int32) (p215.2.1 : Int32) (p215.2.2 : (Nat → Int32)) y156 y157 f158 t4_0 t4_1 t5_0) : (Int32 × Int32 × (Nat → Int32) × Int32 × Int32 × (Nat → Int32) × Int32 × Int32 × (Nat → Int32))))
def S_Flo_nearestDecimal_c114 (A : Int32) (B : Int32) (C : Int32) (R2 : Int32) (x3 : Int64) (t0_0 : Int32) (t0_1 : Int32) (t1_0 : (Nat → Int32)) (t2_0 : Int32) (t2_1 : Int32) (t3_0 : (Nat → Int32)) (t4_0 : Int32) (t4_1 : Int32) (t5_0 : (Nat → Int32)) (t6_0 : Int32) (t6_1 : Int32) (t7_0 : (Nat → Int32)) (t8_0 : Int32) (t8_1 : Int32) (t9_0 : (Nat → Int32)) (p62 : (Int32 × Int32 × Int32 × (Nat → Int32))) (j76 : Int64) (y52 : Int32) (y53 : Int32) (f54 : (Nat → Int32)) (p112 : (Int32 × Int32 × (Nat → Int32))) (y101 : Int32) (y102 : Int32) (f103 : (Nat → Int32)) (p141 : (Int32 × Int32 × (Nat → Int32))) (p166 : (Int32 × Int32 × (Nat → Int32))) : Prop := S_Flo_nearestDecimal_c141 A B C R2 x3 t0_0 t0_1 t1_0 t2_0 t2_1 t3_0 t4_0 t4_1 t5_0 t6_0 t6_1 t7_0 t8_0 t8_1 t9_0 p62 j76 y52 y53 f54 p112 y101 y102 f103 p141 p166 (if 0 < ((((F_Big_bitLength (220 : Int32) (p166.1 : Int32) (p166.2.1 : Int32) (p166.2.2 : (Nat → Int32))) : Int32) - ((F_Big_bitLength (220 : Int32) y101 y102 f103) : Int32) : Int32) + 70 : Int32) then ((((F_Big_bitLength (220 : Int32) (p166.1 : Int32) (p166.2.1 : Int32) (p166.2.2 : (Nat → Int32))) : Int32) - ((F_Big_bitLength (220 : Int32) y101 y102 f103) : Int32) : Int32) + 70 : Int32) else 0 : Int32) (p166.1 : Int32) (p166.2.1 : Int32) (p166.2.2 : (Nat → Int32)) ((F_Big_shiftLeft (220 : Int32) (if 0 < ((((F_Big_bitLength (220 : Int32) (p166.1 : Int32) (p166.2.1 : Int32) (p166.2.2 : (Nat → Int32))) : Int32) - ((F_Big_bitLength (220 : Int32) y101 y102 f103) : Int32) : Int32) + 70 : Int32) then ((((F_Big_bitLength (220 : Int32) (p166.1 : Int32) (p166.2.1 : Int32) (p166.2.2 : (Nat → Int32))) : Int32) - ((F_Big_bitLength (220 : Int32) y101 y102 f103) : Int32) : Int32) + 70 : Int32) else 0 : Int32) y101 y102 f103) : (Int32 × Int32 × (Nat → Int32)))
def S_Flo_nearestDecimal_c107 (A : Int32) (B : Int32) (C : Int32) (R2 : Int32) (x3 : Int64) (t0_0 : Int32) (t0_1 : Int32) (t1_0 : (Nat → Int32)) (t2_0 : Int32) (t2_1 : Int32) (t3_0 : (Nat → Int32)) (t4_0 : Int32) (t4_1 : Int32) (t5_0 : (Nat → Int32)) (t6_0 : Int32) (t6_1 : Int32) (t7_0 : (Nat → Int32)) (t8_0 : Int32) (t8_1 : Int32) (t9_0 : (Nat → Int32)) (p62 : (Int32 × Int32 × Int32 × (Nat → Int32))) (j76 : Int64) (y52 : Int32) (y53 : Int32) (f54 : (Nat → Int32)) (p112 : (Int32 × Int32 × (Nat → Int32))) (y101 : Int32) (y102 : Int32) (f103 : (Nat → Int32)) (p141 : (Int32 × Int32 × (Nat → Int32))) : Prop := S_Flo_nearestDecimal_c114 A B C R2 x3 t0_0 t0_1 t1_0 t2_0 t2_1 t3_0 t4_0 t4_1 t5_0 t6_0 t6_1 t7_0 t8_0 t8_1 t9_0 p62 j76 y52 y53 f54 p112 y101 y102 f103 p141 ((F_Big_timesFive (220 : Int32) (x3.toInt32 : Int32) (p141.1 : Int32) (p141.2.1 : Int32) (p141.2.2 : (Nat → Int32))) : (Int32 × Int32 × (Nat → Int32)))
def S_Flo_nearestDecimal_c82 (A : Int32) (B : Int32) (C : Int32) (R2 : Int32) (x3 : Int64) (t0_0 : Int32) (t0_1 : Int32) (t1_0 : (Nat → Int32)) (t2_0 : Int32) (t2_1 : Int32) (t3_0 : (Nat → Int32)) (t4_0 : Int32) (t4_1 : Int32) (t5_0 : (Nat → Int32)) (t6_0 : Int32) (t6_1 : Int32) (t7_0 : (Nat → Int32)) (t8_0 : Int32) (t8_1 : Int32) (t9_0 : (Nat → Int32)) (p62 : (Int32 × Int32 × Int32 × (Nat → Int32))) (j76 : Int64) (y52 : Int32) (y53 : Int32) (f54 : (Nat → Int32)) (p112 : (Int32 × Int32 × (Nat → Int32))) (p315 : (Int32 × Int32 × (Nat → Int32))) : Prop := True
def S_Flo_nearestDecimal_c68 (A : Int32) (B : Int32) (C : Int32) (R2 : Int32) (x3 : Int64) (t0_0 : Int32) (t0_1 : Int32) (t1_0 : (Nat → Int32)) (t2_0 : Int32) (t2_1 : Int32) (t3_0 : (Nat → Int32)) (t4_0 : Int32) (t4_1 : Int32) (t5_0 : (Nat → Int32)) (t6_0 : Int32) (t6_1 : Int32) (t7_0 : (Nat → Int32)) (t8_0 : Int32) (t8_1 : Int32) (t9_0 : (Nat → Int32)) (p62 : (Int32 × Int32 × Int32 × (Nat → Int32))) (j76 : Int64) (y52 : Int32) (y53 : Int32) (f54 : (Nat → Int32)) (p112 : (Int32 × Int32 × (Nat → Int32))) : Prop := if (0 : Int32) < (lg_cmp x3 0 : Int32) then (S_Flo_nearestDecimal_c107 A B C R2 x3 t0_0 t0_1 t1_0 t2_0 t2_1 t3_0 t4_0 t4_1 t5_0 t6_0 t6_1 t7_0 t8_0 t8_1 t9_0 p62 j76 y52 y53 f54 p112 (p112.1 : Int32) (p112.2.1 : Int32) (p112.2.2 : (Nat → Int32)) ((F_Big_setLong (220 : Int32) (1 : Int64) t2_0 t2_1 t3_0) : (Int32 × Int32 × (Nat → Int32)))) else (S_Flo_nearestDecimal_c82 A B C R2 x3 t0_0 t0_1 t1_0 t2_0 t2_1 t3_0 t4_0 t4_1 t5_0 t6_0 t6_1 t7_0 t8_0 t8_1 t9_0 p62 j76 y52 y53 f54 p112 ((F_Big_timesFive (220 : Int32) ((-x3 : Int64).toInt32 : Int32) (p112.1 : Int32) (p112.2.1 : Int32) (p112.2.2 : (Nat → Int32))) : (Int32 × Int32 × (Nat → Int32))))
def S_Flo_nearestDecimal_c14 (A : Int32) (B : Int32) (C : Int32) (R2 : Int32) (x3 : Int64) (t0_0 : Int32) (t0_1 : Int32) (t1_0 : (Nat → Int32)) (t2_0 : Int32) (t2_1 : Int32) (t3_0 : (Nat → Int32)) (t4_0 : Int32) (t4_1 : Int32) (t5_0 : (Nat → Int32)) (t6_0 : Int32) (t6_1 : Int32) (t7_0 : (Nat → Int32)) (t8_0 : Int32) (t8_1 : Int32) (t9_0 : (Nat → Int32)) (p62 : (Int32 × Int32 × Int32 × (Nat → Int32))) : Prop := if (0 : Int32) < (lg_cmp (((p62.1 : Int32).toInt64 : Int64) - x3 : Int64) 400 : Int32) then (True) else (if (0 : Int32) ≤ (lg_cmp (((p62.1 : Int32).toInt64 : Int64) - x3 : Int64) (-400) : Int32) then (S_Flo_nearestDecimal_c68 A B C R2 x3 t0_0 t0_1 t1_0 t2_0 t2_1 t3_0 t4_0 t4_1 t5_0 t6_0 t6_1 t7_0 t8_0 t8_1 t9_0 p62 (((p62.1 : Int32).toInt64 : Int64) - x3 : Int64) (p62.2.1 : Int32) (p62.2.2.1 : Int32) (p62.2.2.2 : (Nat → Int32)) ((F_Big_copy (220 : Int32) R2 t0_0 t0_1 t1_0 t8_0 t8_1 t9_0) : (Int32 × Int32 × (Nat → Int32)))) else (True))
def S_Flo_nearestDecimal (A : Int32) (B : Int32) (C : Int32) (R2 : Int32) (x3 : Int64) (t0_0 : Int32) (t0_1 : Int32) (t1_0 : (Nat → Int32)) (t2_0 : Int32) (t2_1 : Int32) (t3_0 : (Nat → Int32)) (t4_0 : Int32) (t4_1 : Int32) (t5_0 : (Nat → Int32)) (t6_0 : Int32) (t6_1 : Int32) (t7_0 : (Nat → Int32)) (t8_0 : Int32) (t8_1 : Int32) (t9_0 : (Nat → Int32)) : Prop := if t8_0 = (0 : Int32) then (True) else (S_Flo_nearestDecimal_c14 A B C R2 x3 t0_0 t0_1 t1_0 t2_0 t2_1 t3_0 t4_0 t4_1 t5_0 t6_0 t6_1 t7_0 t8_0 t8_1 t9_0 ((F_Mil_countFigures R2 t6_0 t6_1 t7_0 t8_0 t8_1 t9_0) : (Int32 × Int32 × Int32 × (Nat → Int32))))
set_option maxRecDepth 100000 in
set_option maxHeartbeats 4000000 in
theorem X_Flo_nearestDecimal (l : Launch) (D : va_G) (g : Nat → ClassId) (q : Nat → Nat) (ws : va_W) (k1 : Nat) (A B C : Int32) (hB1 : q_isFlo (nsh g q) q k1 A B C) (k2 : Nat) (R2 : Int32) (hB2 : q_isBig (nsh g q) g q k2 R2) (zk2 : (10 ≤ k2 ∧ k2 ≤ 32) ∨ 66 ≤ k2) (x3 : Int64) (ne_k2_22 : k2 ≠ 22) (ne_k2_23 : k2 ≠ 23) (ne_k2_21 : k2 ≠ 21) (ne_k2_24 : k2 ≠ 24) (ne_k2_25 : k2 ≠ 25) (ne_k2_12 : k2 ≠ 12) (ne_k2_13 : k2 ≠ 13) (ne_k2_11 : k2 ≠ 11) (ne_k2_20 : k2 ≠ 20) (ne_k2_19 : k2 ≠ 19) (hI : q_I (nsh g q) q ws) (t0_0 : Int32) (t0_1 : Int32) (hT0 : ws[22]? = (some (q 22, .inr (2, [.ref (q 23), .int t0_0, .int t0_1])) : Option (Nat × va_E))) (t1_0 : (Nat → Int32)) (hT1 : ws[23]? = (some (q 23, .inl (g 0, (220 : Int32).toNatClampNeg, .inl t1_0)) : Option (Nat × va_E))) (t2_0 : Int32) (t2_1 : Int32) (hT2 : ws[24]? = (some (q 24, .inr (2, [.ref (q 25), .int t2_0, .int t2_1])) : Option (Nat × va_E))) (t3_0 : (Nat → Int32)) (hT3 : ws[25]? = (some (q 25, .inl (g 0, (220 : Int32).toNatClampNeg, .inl t3_0)) : Option (Nat × va_E))) (t4_0 : Int32) (t4_1 : Int32) (hT4 : ws[12]? = (some (q 12, .inr (2, [.ref (q 13), .int t4_0, .int t4_1])) : Option (Nat × va_E))) (t5_0 : (Nat → Int32)) (hT5 : ws[13]? = (some (q 13, .inl (g 0, (220 : Int32).toNatClampNeg, .inl t5_0)) : Option (Nat × va_E))) (t6_0 : Int32) (t6_1 : Int32) (hT6 : ws[20]? = (some (q 20, .inr (2, [.ref (q 21), .int t6_0, .int t6_1])) : Option (Nat × va_E))) (t7_0 : (Nat → Int32)) (hT7 : ws[21]? = (some (q 21, .inl (g 0, (220 : Int32).toNatClampNeg, .inl t7_0)) : Option (Nat × va_E))) (t8_0 : Int32) (t8_1 : Int32) (hT8 : ws[k2]? = (some (q k2, .inr (2, [.ref (q (k2 + 1)), .int t8_0, .int t8_1])) : Option (Nat × va_E))) (t9_0 : (Nat → Int32)) (hT9 : ws[k2 + 1]? = (some (q (k2 + 1), .inl (g 0, R2.toNatClampNeg, .inl t9_0)) : Option (Nat × va_E))) (hS : True ∧ S_Flo_nearestDecimal A B C R2 x3 t0_0 t0_1 t1_0 t2_0 t2_1 t3_0 t4_0 t4_1 t5_0 t6_0 t6_1 t7_0 t8_0 t8_1 t9_0) : q_mL l y_Flo_nearestDecimal prog_7_method_18_code 9 5 0 0 D g [.ref (q k1), .ref (q k2), .long x3] ws (fun r u => q_I (nsh g q) q u ∧ q_un ws u [12, 13, 20, 21, 22, 23, 24, 25] ∧ ∃ (u0_0 : Int32) (u0_1 : Int32) (u1_0 : (Nat → Int32)) (u2_0 : Int32) (u2_1 : Int32) (u3_0 : (Nat → Int32)) (u4_0 : Int32) (u4_1 : Int32) (u5_0 : (Nat → Int32)) (u6_0 : Int32) (u6_1 : Int32) (u7_0 : (Nat → Int32)), u[22]? = (some (q 22, .inr (2, [.ref (q 23), .int u0_0, .int u0_1])) : Option (Nat × va_E)) ∧ u[23]? = (some (q 23, .inl (g 0, (220 : Int32).toNatClampNeg, .inl u1_0)) : Option (Nat × va_E)) ∧ u[24]? = (some (q 24, .inr (2, [.ref (q 25), .int u2_0, .int u2_1])) : Option (Nat × va_E)) ∧ u[25]? = (some (q 25, .inl (g 0, (220 : Int32).toNatClampNeg, .inl u3_0)) : Option (Nat × va_E)) ∧ u[12]? = (some (q 12, .inr (2, [.ref (q 13), .int u4_0, .int u4_1])) : Option (Nat × va_E)) ∧ u[13]? = (some (q 13, .inl (g 0, (220 : Int32).toNatClampNeg, .inl u5_0)) : Option (Nat × va_E)) ∧ u[20]? = (some (q 20, .inr (2, [.ref (q 21), .int u6_0, .int u6_1])) : Option (Nat × va_E)) ∧ u[21]? = (some (q 21, .inl (g 0, (220 : Int32).toNatClampNeg, .inl u7_0)) : Option (Nat × va_E)) ∧ (0 ≤ u0_0.toInt) ∧ (u0_0.toInt ≤ 220) ∧ (0 ≤ u0_1.toInt) ∧ (0 ≤ u2_0.toInt) ∧ (u2_0.toInt ≤ 220) ∧ (0 ≤ u2_1.toInt) ∧ (u2_1.toInt ≤ 1) ∧ (0 ≤ u4_0.toInt) ∧ (u4_0.toInt ≤ 220) ∧ (0 ≤ u4_1.toInt) ∧ (0 ≤ u6_0.toInt) ∧ (u6_0.toInt ≤ 220) ∧ (0 ≤ u6_1.toInt) ∧ (u6_1.toInt ≤ 1) ∧ (u0_1.toInt ≤ t8_1.toInt + 1) ∧ (u4_1.toInt ≤ t4_1.toInt) ∧ (r, u0_0, u0_1, u1_0, u2_0, u2_1, u3_0, u4_0, u4_1, u5_0, u6_0, u6_1, u7_0) = (F_Flo_nearestDecimal A B C R2 x3 t0_0 t0_1 t1_0 t2_0 t2_1 t3_0 t4_0 t4_1 t5_0 t6_0 t6_1 t7_0 t8_0 t8_1 t9_0)) := by
  intro sz
  refine q_into (by decide) (Nat.le_of_ble_eq_true rfl) ?_
  intro p e s m below meth c ls hsz C0 V hl
  have hx := C0.1
  have hb := C0.2.1
  obtain ⟨btt0_0, btt0_1⟩ := q_bigW hI (n_b22 g q) hT0
  replace btt0_0 : q_F (0 ≤ t0_0.toInt ∧ t0_0.toInt ≤ 220) := btt0_0
  replace btt0_1 : q_F (0 ≤ t0_1.toInt ∧ t0_1.toInt ≤ 1) := btt0_1
  obtain ⟨btt2_0, btt2_1⟩ := q_bigW hI (n_b24 g q) hT2
  replace btt2_0 : q_F (0 ≤ t2_0.toInt ∧ t2_0.toInt ≤ 220) := btt2_0
  replace btt2_1 : q_F (0 ≤ t2_1.toInt ∧ t2_1.toInt ≤ 1) := btt2_1
  obtain ⟨btt4_0, btt4_1⟩ := q_bigW hI (n_b12 g q) hT4
  replace btt4_0 : q_F (0 ≤ t4_0.toInt ∧ t4_0.toInt ≤ 220) := btt4_0
  replace btt4_1 : q_F (0 ≤ t4_1.toInt ∧ t4_1.toInt ≤ 1) := btt4_1
  obtain ⟨btt6_0, btt6_1⟩ := q_bigW hI (n_b20 g q) hT6
  replace btt6_0 : q_F (0 ≤ t6_0.toInt ∧ t6_0.toInt ≤ 220) := btt6_0
  replace btt6_1 : q_F (0 ≤ t6_1.toInt ∧ t6_1.toInt ≤ 1) := btt6_1
  have btt8_1 := (q_bigW hI hB2 hT8).2
  replace btt8_1 : q_F (0 ≤ t8_1.toInt ∧ t8_1.toInt ≤ 1) := btt8_1
  have hF : q_un ws ws [12, 13, 20, 21, 22, 23, 24, 25] := q_u0
  have hl : lv_has ls 9 [(0, .ref (q k1)), (1, .ref (q k2)), (2, .long x3)] := hl
  refine lv_aload_n hx hb d_7_18_0 rfl (lv_at hl 1 rfl) ?_
  refine q_get (ci := 2) (j := 1) (v := .int t8_0) C0 V i_Big rfl rfl hT8 (by decide) w_92 rfl d_7_18_1 ?_
  refine lv_if_ne (tgt := 9) hx hb d_7_18_4 (by decide) (fun c41 => ?_) (fun c41 => ?_)
  ·
    refine lv_aload_n hx hb d_7_18_9 rfl (lv_at hl 0 rfl) ?_
    obtain ⟨y44, y45, y46, hO43⟩ := n_flO hI hB1
    refine q_get (ci := 6) (j := 5) (v := .ref (q 9)) C0 V i_Flo rfl rfl hO43 (by decide) w_241 rfl d_7_18_10 ?_
    refine lv_aload_n hx hb d_7_18_13 rfl (lv_at hl 1 rfl) ?_
    have hO47 := n_o9 hI
    refine q_goi V (q_runV (As := [.ref (q k2)]) (rest := []) (d := 4) (mc := 0) (ms := 0) (ci := 4) C0 V rfl LV_Flo_116 (X_Mil_countFigures l D g q ws k2 R2 hB2 zk2  (by have z := ne_k2_20; omega) (by have z := ne_k2_21; omega) (by have z := ne_k2_19; omega) hI t6_0 t6_1 hT6 t7_0 hT7 t8_0 t8_1 hT8 t9_0 hT9  _) rfl rfl hO47 rfl hl.1 rfl (Nat.le_of_ble_eq_true rfl) ⟨by decide, by decide⟩ ⟨Nat.le_of_ble_eq_true rfl, Nat.le_of_ble_eq_true rfl⟩ d_7_18_14) (fun a50 u48 H locs hp49 V => ?_)
    obtain ⟨hI, hZ9⟩ := hp49
    obtain ⟨hu61, hZ9⟩ := hZ9
    obtain ⟨y52, hZ9⟩ := hZ9
    obtain ⟨y53, hZ9⟩ := hZ9
    obtain ⟨f54, hZ9⟩ := hZ9
    obtain ⟨hO51, hZ9⟩ := hZ9
    obtain ⟨hA55, hZ9⟩ := hZ9
    obtain ⟨b56, hZ9⟩ := hZ9
    obtain ⟨b57, hZ9⟩ := hZ9
    obtain ⟨b58, hZ9⟩ := hZ9
    obtain ⟨b59, hE60⟩ := hZ9
    replace hO51 : u48[20]? = (some (q 20, .inr (2, [.ref (q 21), .int y52, .int y53])) : Option (Nat × va_E)) := hO51
    replace hA55 : u48[21]? = (some (q 21, .inl (g 0, (220 : Int32).toNatClampNeg, .inl f54)) : Option (Nat × va_E)) := hA55
    obtain ⟨p62, e63⟩ : ∃ z, z = (F_Mil_countFigures R2 t6_0 t6_1 t7_0 t8_0 t8_1 t9_0) := ⟨_, rfl⟩
    have e64 : a50 = p62.1 := congrArg (fun z => z.1) (hE60.trans e63.symm)
    have e65 : y52 = p62.2.1 := congrArg (fun z => z.2.1) (hE60.trans e63.symm)
    have e66 : y53 = p62.2.2.1 := congrArg (fun z => z.2.2.1) (hE60.trans e63.symm)
    have e67 : f54 = p62.2.2.2 := congrArg (fun z => z.2.2.2) (hE60.trans e63.symm)
    replace b56 : q_F (0 ≤ y52.toInt) := b56
    replace b57 : q_F (y52.toInt ≤ 220) := b57
    replace b58 : q_F (0 ≤ y53.toInt) := b58
    replace b59 : q_F (y53.toInt ≤ 1) := b59
    replace hT0 := (hu61 _ (by decide)).trans hT0
    replace hT1 := (hu61 _ (by decide)).trans hT1
    replace hT2 := (hu61 _ (by decide)).trans hT2
    replace hT3 := (hu61 _ (by decide)).trans hT3
    replace hT4 := (hu61 _ (by decide)).trans hT4
    replace hT5 := (hu61 _ (by decide)).trans hT5
    replace hT8 := (hu61 _ (by have z0 := zk2; simp only [List.mem_cons, List.not_mem_nil, or_false, not_or]; omega)).trans hT8
    replace hT9 := (hu61 _ (by have z0 := zk2; simp only [List.mem_cons, List.not_mem_nil, or_false, not_or]; omega)).trans hT9
    replace hO43 := (hu61 _ (by have z0 := hB1.2.2.2.2; simp only [List.mem_cons, List.not_mem_nil, or_false, not_or]; omega)).trans hO43
    replace hO47 := (hu61 _ (by decide)).trans hO47
    replace hF := q_uc hF hu61 (by simp)
    have hR68 := (show F_Flo_nearestDecimal_c14 A B C R2 x3 t0_0 t0_1 t1_0 t2_0 t2_1 t3_0 t4_0 t4_1 t5_0 t6_0 t6_1 t7_0 t8_0 t8_1 t9_0 p62 = (F_Flo_nearestDecimal A B C R2 x3 t0_0 t0_1 t1_0 t2_0 t2_1 t3_0 t4_0 t4_1 t5_0 t6_0 t6_1 t7_0 t8_0 t8_1 t9_0) from (by rw [e63, F_Flo_nearestDecimal.eq_1, if_neg c41]))
    have hS69 := (show True ∧ S_Flo_nearestDecimal_c14 A B C R2 x3 t0_0 t0_1 t1_0 t2_0 t2_1 t3_0 t4_0 t4_1 t5_0 t6_0 t6_1 t7_0 t8_0 t8_1 t9_0 p62 from (by rw [e63]; have h := hS; rw [S_Flo_nearestDecimal.eq_1] at h; rw [if_neg c41] at h; with_reducible exact h))
    refine lv_i2l hx hb d_7_18_17 rfl ?_
    obtain ⟨j73, e74⟩ := q_nm (a50.toInt64 : Int64)
    refine q_tl (v := j73) e74 ?_
    refine lv_lload_n hx hb d_7_18_18 rfl (lv_at hl 2 rfl) ?_
    refine lv_lsub hx hb d_7_18_19 ?_
    obtain ⟨j76, e77⟩ := q_nm (j73 - x3 : Int64)
    refine q_tl (v := j76) e77 ?_
    refine lv_lstore (lv' := [(4, .long j76), (0, .ref (q k1)), (1, .ref (q k2)), (2, .long x3)]) hx hb d_7_18_20 hl (by decide) rfl (fun ls hl => ?_)
    refine lv_lload hx hb d_7_18_22 (lv_at hl 0 rfl) ?_
    refine q_ldc2 C0 rfl w_785 d_7_18_24 ?_
    refine W.lcmp hx hb d_7_18_27 ?_
    obtain ⟨a78, e79⟩ := q_nm (lg_cmp j76 400 : Int32)
    refine q_ti (v := a78) e79 ?_
    have b80 : q_F (-1 ≤ a78.toInt ∧ a78.toInt ≤ 1 ∧ ((a78.toInt = -1 ∧ j76.toInt < 400) ∨ (a78.toInt = 0 ∧ j76.toInt = 400) ∨ (a78.toInt = 1 ∧ 400 < j76.toInt))) := (by rw [← e79]; show -1 ≤ (lg_cmp j76 400 : Int32).toInt ∧ (lg_cmp j76 400 : Int32).toInt ≤ 1 ∧ (((lg_cmp j76 400 : Int32).toInt = -1 ∧ j76.toInt < 400) ∨ ((lg_cmp j76 400 : Int32).toInt = 0 ∧ j76.toInt = 400) ∨ ((lg_cmp j76 400 : Int32).toInt = 1 ∧ 400 < j76.toInt)); exact (by have y1 : (400 : Int64).toInt = 400 := rfl; have z := s_lcmp (a := j76) (b := 400); omega))
    refine lv_if_gt (tgt := 40) hx hb d_7_18_28 (by decide) (fun c81 => ?_) (fun c81 => ?_)
    ·
      have b82 : q_F (0 < a78.toInt) := (q_ltI c81)
      refine lv_lload hx hb d_7_18_40 (lv_at hl 0 rfl) ?_
      refine lv_lconst (v := 0) hx hb d_7_18_42 (by decide) ?_
      refine W.lcmp hx hb d_7_18_43 ?_
      obtain ⟨a83, e84⟩ := q_nm (lg_cmp j76 0 : Int32)
      refine q_ti (v := a83) e84 ?_
      have b85 : q_F (-1 ≤ a83.toInt ∧ a83.toInt ≤ 1 ∧ ((a83.toInt = -1 ∧ j76.toInt < 0) ∨ (a83.toInt = 0 ∧ j76.toInt = 0) ∨ (a83.toInt = 1 ∧ 0 < j76.toInt))) := (by rw [← e84]; show -1 ≤ (lg_cmp j76 0 : Int32).toInt ∧ (lg_cmp j76 0 : Int32).toInt ≤ 1 ∧ (((lg_cmp j76 0 : Int32).toInt = -1 ∧ j76.toInt < 0) ∨ ((lg_cmp j76 0 : Int32).toInt = 0 ∧ j76.toInt = 0) ∨ ((lg_cmp j76 0 : Int32).toInt = 1 ∧ 0 < j76.toInt)); exact (by have y1 : (0 : Int64).toInt = 0 := rfl; have z := s_lcmp (a := j76) (b := 0); omega))
      refine lv_if_le (tgt := 54) hx hb d_7_18_44 (by decide) (fun c86 => absurd (show a83.toInt ≤ 0 from q_leI c86) (by have t1 : -1 ≤ a78.toInt ∧ a78.toInt ≤ 1 ∧ ((a78.toInt = -1 ∧ j76.toInt < 400) ∨ (a78.toInt = 0 ∧ j76.toInt = 400) ∨ (a78.toInt = 1 ∧ 400 < j76.toInt)) := b80; have t2 : 0 < a78.toInt := b82; have t3 : -1 ≤ a83.toInt ∧ a83.toInt ≤ 1 ∧ ((a83.toInt = -1 ∧ j76.toInt < 0) ∨ (a83.toInt = 0 ∧ j76.toInt = 0) ∨ (a83.toInt = 1 ∧ 0 < j76.toInt)) := b85; omega)) (fun c86 => ?_)
      refine lv_aload_n hx hb d_7_18_47 rfl (lv_at hl 1 rfl) ?_
      refine q_gol V (q_runV (As := []) (rest := []) (d := 1) (mc := 0) (ms := 0) (ci := 6) C0 V rfl LV_Flo_39 (X_Flo_infinity l D g q u48 k1 A B C hB1  hI   _) rfl rfl hO43 rfl hl.1 rfl (Nat.le_of_ble_eq_true rfl) ⟨by decide, by decide⟩ ⟨Nat.le_of_ble_eq_true rfl, Nat.le_of_ble_eq_true rfl⟩ d_7_18_48) (fun j89 u87 H locs hp88 V => ?_)
      obtain ⟨rfl, hE90⟩ := hp88
      have e91 : j89 = (F_Flo_infinity A B C) := hE90
      refine lv_goto (tgt := 55) hx hb d_7_18_51 (by decide) ?_
      exact q_retl C0 V (⟨hI, hF, t0_0, t0_1, t1_0, t2_0, t2_1, t3_0, t4_0, t4_1, t5_0, y52, y53, f54, hT0, hT1, hT2, hT3, hT4, hT5, hO51, hA55, (show 0 ≤ t0_0.toInt from (by first | with_reducible exact (q_fe btt0_0).2 | with_reducible exact (q_fe btt0_0).1 | (have t1 : 0 ≤ t0_0.toInt ∧ t0_0.toInt ≤ 220 := btt0_0; omega))), (show t0_0.toInt ≤ 220 from (by first | with_reducible exact (q_fe btt0_0).2 | with_reducible exact (q_fe btt0_0).1 | (have t1 : 0 ≤ t0_0.toInt ∧ t0_0.toInt ≤ 220 := btt0_0; omega))), (show 0 ≤ t0_1.toInt from (by first | with_reducible exact (q_fe btt0_1).2 | with_reducible exact (q_fe btt0_1).1 | (have t1 : 0 ≤ t0_1.toInt ∧ t0_1.toInt ≤ 1 := btt0_1; omega))), (show 0 ≤ t2_0.toInt from (by first | with_reducible exact (q_fe btt2_0).2 | with_reducible exact (q_fe btt2_0).1 | (have t1 : 0 ≤ t2_0.toInt ∧ t2_0.toInt ≤ 220 := btt2_0; omega))), (show t2_0.toInt ≤ 220 from (by first | with_reducible exact (q_fe btt2_0).2 | with_reducible exact (q_fe btt2_0).1 | (have t1 : 0 ≤ t2_0.toInt ∧ t2_0.toInt ≤ 220 := btt2_0; omega))), (show 0 ≤ t2_1.toInt from (by first | with_reducible exact (q_fe btt2_1).2 | with_reducible exact (q_fe btt2_1).1 | (have t1 : 0 ≤ t2_1.toInt ∧ t2_1.toInt ≤ 1 := btt2_1; omega))), (show t2_1.toInt ≤ 1 from (by first | with_reducible exact (q_fe btt2_1).2 | with_reducible exact (q_fe btt2_1).1 | (have t1 : 0 ≤ t2_1.toInt ∧ t2_1.toInt ≤ 1 := btt2_1; omega))), (show 0 ≤ t4_0.toInt from (by first | with_reducible exact (q_fe btt4_0).2 | with_reducible exact (q_fe btt4_0).1 | (have t1 : 0 ≤ t4_0.toInt ∧ t4_0.toInt ≤ 220 := btt4_0; omega))), (show t4_0.toInt ≤ 220 from (by first | with_reducible exact (q_fe btt4_0).2 | with_reducible exact (q_fe btt4_0).1 | (have t1 : 0 ≤ t4_0.toInt ∧ t4_0.toInt ≤ 220 := btt4_0; omega))), (show 0 ≤ t4_1.toInt from (by first | with_reducible exact (q_fe btt4_1).2 | with_reducible exact (q_fe btt4_1).1 | (have t1 : 0 ≤ t4_1.toInt ∧ t4_1.toInt ≤ 1 := btt4_1; omega))), (show 0 ≤ y52.toInt from (by first | with_reducible exact q_fe b56 | (have t1 : 0 ≤ y52.toInt := b56; omega))), (show y52.toInt ≤ 220 from (by first | with_reducible exact q_fe b57 | (have t1 : y52.toInt ≤ 220 := b57; omega))), (show 0 ≤ y53.toInt from (by first | with_reducible exact q_fe b58 | (have t1 : 0 ≤ y53.toInt := b58; omega))), (show y53.toInt ≤ 1 from (by first | with_reducible exact q_fe b59 | (have t1 : y53.toInt ≤ 1 := b59; omega))), (show t0_1.toInt ≤ t8_1.toInt + 1 from (by have t1 : 0 ≤ t0_1.toInt ∧ t0_1.toInt ≤ 1 := btt0_1; have t2 : 0 ≤ t8_1.toInt ∧ t8_1.toInt ≤ 1 := btt8_1; omega)), (show t4_1.toInt ≤ t4_1.toInt from (by omega)), (show (j89, t0_0, t0_1, t1_0, t2_0, t2_1, t3_0, t4_0, t4_1, t5_0, y52, y53, f54) = (F_Flo_nearestDecimal A B C R2 x3 t0_0 t0_1 t1_0 t2_0 t2_1 t3_0 t4_0 t4_1 t5_0 t6_0 t6_1 t7_0 t8_0 t8_1 t9_0) from Eq.trans (by have c81x := c81; rw [← e79, ← e77, ← e74, e64] at c81x; rw [e91, e67, e66, e65, F_Flo_nearestDecimal_c14.eq_1, if_pos c81x]) hR68)⟩) d_7_18_55
    ·
      refine lv_lload hx hb d_7_18_31 (lv_at hl 0 rfl) ?_
      refine q_ldc2 C0 rfl w_786 d_7_18_33 ?_
      refine W.lcmp hx hb d_7_18_36 ?_
      obtain ⟨a93, e94⟩ := q_nm (lg_cmp j76 (-400) : Int32)
      refine q_ti (v := a93) e94 ?_
      have b95 : q_F (-1 ≤ a93.toInt ∧ a93.toInt ≤ 1 ∧ ((a93.toInt = -1 ∧ j76.toInt < (-400)) ∨ (a93.toInt = 0 ∧ j76.toInt = (-400)) ∨ (a93.toInt = 1 ∧ (-400) < j76.toInt))) := (by rw [← e94]; show -1 ≤ (lg_cmp j76 (-400) : Int32).toInt ∧ (lg_cmp j76 (-400) : Int32).toInt ≤ 1 ∧ (((lg_cmp j76 (-400) : Int32).toInt = -1 ∧ j76.toInt < (-400)) ∨ ((lg_cmp j76 (-400) : Int32).toInt = 0 ∧ j76.toInt = (-400)) ∨ ((lg_cmp j76 (-400) : Int32).toInt = 1 ∧ (-400) < j76.toInt)); exact (by have y1 : (-400 : Int64).toInt = -400 := rfl; have z := s_lcmp (a := j76) (b := (-400)); omega))
      refine lv_if_ge (tgt := 56) hx hb d_7_18_37 (by decide) (fun c96 => ?_) (fun c96 => ?_)
      ·
        refine lv_aload_n hx hb d_7_18_56 rfl (lv_at hl 1 rfl) ?_
        refine q_get (ci := 6) (j := 5) (v := .ref (q 9)) C0 V i_Flo rfl rfl hO43 (by decide) w_241 rfl d_7_18_57 ?_
        refine q_get (ci := 4) (j := 6) (v := .ref (q 22)) C0 V i_Mil rfl rfl hO47 (by decide) w_127 rfl d_7_18_60 ?_
        refine lv_astore (lv' := [(6, .ref (q 22)), (4, .long j76), (0, .ref (q k1)), (1, .ref (q k2)), (2, .long x3)]) hx hb d_7_18_63 hl (by decide) rfl (fun ls hl => ?_)
        refine lv_aload hx hb d_7_18_65 (lv_at hl 0 rfl) ?_
        refine lv_aload_n hx hb d_7_18_67 rfl (lv_at hl 3 rfl) ?_
        refine q_gov V (q_runV (As := [.ref (q k2)]) (rest := []) (d := 2) (mc := 0) (ms := 0) (ci := 2) C0 V rfl LV_Flo_127 (X_Big_copy l D g q u48 22 220 (n_b22 g q) (by decide) k2 R2 hB2 zk2  (by have z := ne_k2_22; omega) hI t0_0 t0_1 hT0 t1_0 hT1 t8_0 t8_1 hT8 t9_0 hT9  _) rfl rfl hT0 rfl hl.1 rfl (Nat.le_of_ble_eq_true rfl) ⟨by decide, by decide⟩ ⟨Nat.le_of_ble_eq_true rfl, Nat.le_of_ble_eq_true rfl⟩ d_7_18_68) (fun u98 H locs hp99 V => ?_)
        obtain ⟨hI, hZ9⟩ := hp99
        obtain ⟨hu111, hZ9⟩ := hZ9
        obtain ⟨y101, hZ9⟩ := hZ9
        obtain ⟨y102, hZ9⟩ := hZ9
        obtain ⟨f103, hZ9⟩ := hZ9
        obtain ⟨hO100, hZ9⟩ := hZ9
        obtain ⟨hA104, hZ9⟩ := hZ9
        obtain ⟨b105, hZ9⟩ := hZ9
        replace hZ9 := hZ9.2.2
        obtain ⟨b108, hZ9⟩ := hZ9
        obtain ⟨b109, hE110⟩ := hZ9
        replace hO100 : u98[22]? = (some (q 22, .inr (2, [.ref (q 23), .int y101, .int y102])) : Option (Nat × va_E)) := hO100
        replace hA104 : u98[23]? = (some (q 23, .inl (g 0, (220 : Int32).toNatClampNeg, .inl f103)) : Option (Nat × va_E)) := hA104
        obtain ⟨p112, e113⟩ : ∃ z, z = (F_Big_copy (220 : Int32) R2 t0_0 t0_1 t1_0 t8_0 t8_1 t9_0) := ⟨_, rfl⟩
        have e114 : y101 = p112.1 := congrArg (fun z => z.1) (hE110.trans e113.symm)
        have e115 : y102 = p112.2.1 := congrArg (fun z => z.2.1) (hE110.trans e113.symm)
        have e116 : f103 = p112.2.2 := congrArg (fun z => z.2.2) (hE110.trans e113.symm)
        replace b105 : q_F (0 ≤ y101.toInt) := b105
        replace b108 : q_F (t8_1.toInt ≤ y102.toInt) := b108
        replace b109 : q_F (y102.toInt ≤ t8_1.toInt) := b109
        replace hT2 := (hu111 _ (by decide)).trans hT2
        replace hT3 := (hu111 _ (by decide)).trans hT3
        replace hT4 := (hu111 _ (by decide)).trans hT4
        replace hT5 := (hu111 _ (by decide)).trans hT5
        replace hO51 := (hu111 _ (by decide)).trans hO51
        replace hA55 := (hu111 _ (by decide)).trans hA55
        replace hO43 := (hu111 _ (by have z0 := hB1.2.2.2.2; simp only [List.mem_cons, List.not_mem_nil, or_false, not_or]; omega)).trans hO43
        replace hO47 := (hu111 _ (by decide)).trans hO47
        replace hF := q_uc hF hu111 (by simp)
        have hR117 := (show F_Flo_nearestDecimal_c68 A B C R2 x3 t0_0 t0_1 t1_0 t2_0 t2_1 t3_0 t4_0 t4_1 t5_0 t6_0 t6_1 t7_0 t8_0 t8_1 t9_0 p62 j76 y52 y53 f54 p112 = (F_Flo_nearestDecimal A B C R2 x3 t0_0 t0_1 t1_0 t2_0 t2_1 t3_0 t4_0 t4_1 t5_0 t6_0 t6_1 t7_0 t8_0 t8_1 t9_0) from Eq.trans (by have c81x := c81; rw [← e79, ← e77, ← e74, e64] at c81x; have c96x := c96; rw [← e94, ← e77, ← e74, e64] at c96x; rw [e113, ← e77, ← e74, e67, e66, e65, e64, F_Flo_nearestDecimal_c14.eq_1, if_neg c81x, if_pos c96x]) hR68)
        have hS118 := (show True ∧ S_Flo_nearestDecimal_c68 A B C R2 x3 t0_0 t0_1 t1_0 t2_0 t2_1 t3_0 t4_0 t4_1 t5_0 t6_0 t6_1 t7_0 t8_0 t8_1 t9_0 p62 j76 y52 y53 f54 p112 from (by rw [e113, ← e77, ← e74, e67, e66, e65, e64]; have h := hS69; rw [S_Flo_nearestDecimal_c14.eq_1] at h; have c81x := c81; rw [← e79, ← e77, ← e74, e64] at c81x; rw [if_neg c81x] at h; have c96x := c96; rw [← e94, ← e77, ← e74, e64] at c96x; rw [if_pos c96x] at h; with_reducible exact h))
        refine lv_lload_n hx hb d_7_18_71 rfl (lv_at hl 4 rfl) ?_
        refine lv_lconst (v := 0) hx hb d_7_18_72 (by decide) ?_
        refine W.lcmp hx hb d_7_18_73 ?_
        obtain ⟨a122, e123⟩ := q_nm (lg_cmp x3 0 : Int32)
        refine q_ti (v := a122) e123 ?_
        refine lv_if_gt (tgt := 95) hx hb d_7_18_74 (by decide) (fun c125 => ?_) (fun c125 => ?_)
        ·
          refine lv_aload_n hx hb d_7_18_95 rfl (lv_at hl 2 rfl) ?_
          refine q_get (ci := 6) (j := 5) (v := .ref (q 9)) C0 V i_Flo rfl rfl hO43 (by decide) w_241 rfl d_7_18_96 ?_
          refine q_get (ci := 4) (j := 7) (v := .ref (q 24)) C0 V i_Mil rfl rfl hO47 (by decide) w_130 rfl d_7_18_99 ?_
          refine lv_astore (lv' := [(7, .ref (q 24)), (6, .ref (q 22)), (4, .long j76), (0, .ref (q k1)), (1, .ref (q k2)), (2, .long x3)]) hx hb d_7_18_102 hl (by decide) rfl (fun ls hl => ?_)
          refine lv_aload hx hb d_7_18_104 (lv_at hl 0 rfl) ?_
          refine lv_lconst (v := 1) hx hb d_7_18_106 (by decide) ?_
          refine q_gov V (q_runV (As := [.long 1]) (rest := []) (d := 2) (mc := 0) (ms := 0) (ci := 2) C0 V rfl LV_Flo_63 (X_Big_setLong l D g q u98 24 220 (n_b24 g q) (by decide) 1 hI t2_0 t2_1 hT2 t3_0 hT3  _) rfl rfl hT2 rfl hl.1 rfl (Nat.le_of_ble_eq_true rfl) ⟨by decide, by decide⟩ ⟨Nat.le_of_ble_eq_true rfl, Nat.le_of_ble_eq_true rfl⟩ d_7_18_107) (fun u127 H locs hp128 V => ?_)
          obtain ⟨hI, hZ9⟩ := hp128
          obtain ⟨hu140, hZ9⟩ := hZ9
          obtain ⟨y130, hZ9⟩ := hZ9
          obtain ⟨y131, hZ9⟩ := hZ9
          obtain ⟨f132, hZ9⟩ := hZ9
          obtain ⟨hO129, hZ9⟩ := hZ9
          obtain ⟨hA133, hZ9⟩ := hZ9
          replace hZ9 := hZ9.2.2.2
          obtain ⟨b137, hZ9⟩ := hZ9
          obtain ⟨-, hE139⟩ := hZ9
          replace hO129 : u127[24]? = (some (q 24, .inr (2, [.ref (q 25), .int y130, .int y131])) : Option (Nat × va_E)) := hO129
          replace hA133 : u127[25]? = (some (q 25, .inl (g 0, (220 : Int32).toNatClampNeg, .inl f132)) : Option (Nat × va_E)) := hA133
          obtain ⟨p141, e142⟩ : ∃ z, z = (F_Big_setLong (220 : Int32) (1 : Int64) t2_0 t2_1 t3_0) := ⟨_, rfl⟩
          have e143 : y130 = p141.1 := congrArg (fun z => z.1) (hE139.trans e142.symm)
          have e144 : y131 = p141.2.1 := congrArg (fun z => z.2.1) (hE139.trans e142.symm)
          have e145 : f132 = p141.2.2 := congrArg (fun z => z.2.2) (hE139.trans e142.symm)
          replace b137 : q_F (y131.toInt ≤ 1) := b137
          replace hO100 := (hu140 _ (by decide)).trans hO100
          replace hA104 := (hu140 _ (by decide)).trans hA104
          replace hT4 := (hu140 _ (by decide)).trans hT4
          replace hT5 := (hu140 _ (by decide)).trans hT5
          replace hO51 := (hu140 _ (by decide)).trans hO51
          replace hA55 := (hu140 _ (by decide)).trans hA55
          replace hO43 := (hu140 _ (by have z0 := hB1.2.2.2.2; simp only [List.mem_cons, List.not_mem_nil, or_false, not_or]; omega)).trans hO43
          replace hO47 := (hu140 _ (by decide)).trans hO47
          replace hF := q_uc hF hu140 (by simp)
          have hR146 := (show F_Flo_nearestDecimal_c107 A B C R2 x3 t0_0 t0_1 t1_0 t2_0 t2_1 t3_0 t4_0 t4_1 t5_0 t6_0 t6_1 t7_0 t8_0 t8_1 t9_0 p62 j76 y52 y53 f54 p112 y101 y102 f103 p141 = (F_Flo_nearestDecimal A B C R2 x3 t0_0 t0_1 t1_0 t2_0 t2_1 t3_0 t4_0 t4_1 t5_0 t6_0 t6_1 t7_0 t8_0 t8_1 t9_0) from Eq.trans (by have c125x := c125; rw [← e123] at c125x; rw [e142, e116, e115, e114, F_Flo_nearestDecimal_c68.eq_1, if_pos c125x]) hR117)
          have hS147 := (show True ∧ S_Flo_nearestDecimal_c107 A B C R2 x3 t0_0 t0_1 t1_0 t2_0 t2_1 t3_0 t4_0 t4_1 t5_0 t6_0 t6_1 t7_0 t8_0 t8_1 t9_0 p62 j76 y52 y53 f54 p112 y101 y102 f103 p141 from (by rw [e142, e116, e115, e114]; have h := hS118; rw [S_Flo_nearestDecimal_c68.eq_1] at h; have c125x := c125; rw [← e123] at c125x; rw [if_pos c125x] at h; with_reducible exact h))
          refine lv_aload hx hb d_7_18_110 (lv_at hl 0 rfl) ?_
          refine lv_lload_n hx hb d_7_18_112 rfl (lv_at hl 5 rfl) ?_
          refine lv_l2i hx hb d_7_18_113 rfl ?_
          obtain ⟨a151, e152⟩ := q_nm (x3.toInt32 : Int32)
          refine q_ti (v := a151) e152 ?_
          refine q_gov V (q_runV (As := [.int a151]) (rest := []) (d := 2) (mc := 0) (ms := 0) (ci := 2) C0 V rfl LV_Flo_91 (X_Big_timesFive l D g q u127 24 220 (n_b24 g q) (by decide) a151 hI y130 y131 hO129 f132 hA133  _) rfl rfl hO129 rfl hl.1 rfl (Nat.le_of_ble_eq_true rfl) ⟨by decide, by decide⟩ ⟨Nat.le_of_ble_eq_true rfl, Nat.le_of_ble_eq_true rfl⟩ d_7_18_114) (fun u153 H locs hp154 V => ?_)
          obtain ⟨hI, hZ9⟩ := hp154
          obtain ⟨hu165, hZ9⟩ := hZ9
          obtain ⟨y156, hZ9⟩ := hZ9
          obtain ⟨y157, hZ9⟩ := hZ9
          obtain ⟨f158, hZ9⟩ := hZ9
          obtain ⟨hO155, hZ9⟩ := hZ9
          obtain ⟨hA159, hZ9⟩ := hZ9
          replace hZ9 := hZ9.2.2.2
          obtain ⟨b163, hE164⟩ := hZ9
          replace hO155 : u153[24]? = (some (q 24, .inr (2, [.ref (q 25), .int y156, .int y157])) : Option (Nat × va_E)) := hO155
          replace hA159 : u153[25]? = (some (q 25, .inl (g 0, (220 : Int32).toNatClampNeg, .inl f158)) : Option (Nat × va_E)) := hA159
          obtain ⟨p166, e167⟩ : ∃ z, z = (F_Big_timesFive (220 : Int32) a151 y130 y131 f132) := ⟨_, rfl⟩
          have e168 : y156 = p166.1 := congrArg (fun z => z.1) (hE164.trans e167.symm)
          have e169 : y157 = p166.2.1 := congrArg (fun z => z.2.1) (hE164.trans e167.symm)
          have e170 : f158 = p166.2.2 := congrArg (fun z => z.2.2) (hE164.trans e167.symm)
          replace b163 : q_F (y157.toInt ≤ y131.toInt) := b163
          replace hO100 := (hu165 _ (by decide)).trans hO100
          replace hA104 := (hu165 _ (by decide)).trans hA104
          replace hT4 := (hu165 _ (by decide)).trans hT4
          replace hT5 := (hu165 _ (by decide)).trans hT5
          replace hO51 := (hu165 _ (by decide)).trans hO51
          replace hA55 := (hu165 _ (by decide)).trans hA55
          replace hO43 := (hu165 _ (by have z0 := hB1.2.2.2.2; simp only [List.mem_cons, List.not_mem_nil, or_false, not_or]; omega)).trans hO43
          replace hO47 := (hu165 _ (by decide)).trans hO47
          replace hF := q_uc hF hu165 (by simp)
          have hR171 := (show F_Flo_nearestDecimal_c114 A B C R2 x3 t0_0 t0_1 t1_0 t2_0 t2_1 t3_0 t4_0 t4_1 t5_0 t6_0 t6_1 t7_0 t8_0 t8_1 t9_0 p62 j76 y52 y53 f54 p112 y101 y102 f103 p141 p166 = (F_Flo_nearestDecimal A B C R2 x3 t0_0 t0_1 t1_0 t2_0 t2_1 t3_0 t4_0 t4_1 t5_0 t6_0 t6_1 t7_0 t8_0 t8_1 t9_0) from Eq.trans (by rw [e167, ← e152, e145, e144, e143, F_Flo_nearestDecimal_c107.eq_1]) hR146)
          have hS172 := (show True ∧ S_Flo_nearestDecimal_c114 A B C R2 x3 t0_0 t0_1 t1_0 t2_0 t2_1 t3_0 t4_0 t4_1 t5_0 t6_0 t6_1 t7_0 t8_0 t8_1 t9_0 p62 j76 y52 y53 f54 p112 y101 y102 f103 p141 p166 from (by rw [e167, ← e152, e145, e144, e143]; have h := hS147; rw [S_Flo_nearestDecimal_c107.eq_1] at h; with_reducible exact h))
          refine lv_iconst (v := 0) hx hb d_7_18_117 (by decide) ?_
          refine lv_aload hx hb d_7_18_118 (lv_at hl 0 rfl) ?_
          refine q_goi V (q_runV (As := []) (rest := [.int 0]) (d := 3) (mc := 0) (ms := 0) (ci := 2) C0 V rfl LV_Flo_104 (X_Big_bitLength l D g q u153 24 220 (n_b24 g q) (by decide)  hI y156 y157 hO155 f158 hA159  _) rfl rfl hO155 rfl hl.1 rfl (Nat.le_of_ble_eq_true rfl) ⟨by decide, by decide⟩ ⟨Nat.le_of_ble_eq_true rfl, Nat.le_of_ble_eq_true rfl⟩ d_7_18_120) (fun a178 u176 H locs hp177 V => ?_)
          obtain ⟨rfl, b179, b180, b181, hE182⟩ := hp177
          have e183 : a178 = (F_Big_bitLength (220 : Int32) y156 y157 f158) := hE182
          clear b179
          clear b180
          clear b181
          refine lv_aload hx hb d_7_18_123 (lv_at hl 1 rfl) ?_
          refine q_goi V (q_runV (As := []) (rest := [.int a178, .int 0]) (d := 3) (mc := 0) (ms := 0) (ci := 2) C0 V rfl LV_Flo_104 (X_Big_bitLength l D g q u153 22 220 (n_b22 g q) (by decide)  hI y101 y102 hO100 f103 hA104  _) rfl rfl hO100 rfl hl.1 rfl (Nat.le_of_ble_eq_true rfl) ⟨by decide, by decide⟩ ⟨Nat.le_of_ble_eq_true rfl, Nat.le_of_ble_eq_true rfl⟩ d_7_18_125) (fun a186 u184 H locs hp185 V => ?_)
          obtain ⟨rfl, b187, b188, b189, hE190⟩ := hp185
          have e191 : a186 = (F_Big_bitLength (220 : Int32) y101 y102 f103) := hE190
          clear b187
          clear b188
          clear b189
          refine lv_isub hx hb d_7_18_128 ?_
          obtain ⟨a192, e193⟩ := q_nm (a178 - a186 : Int32)
          refine q_ti (v := a192) e193 ?_
          refine lv_bipush (v := 70) hx hb d_7_18_129 (by decide) ?_
          refine lv_iadd hx hb d_7_18_131 ?_
          obtain ⟨a195, e196⟩ := q_nm (a192 + 70 : Int32)
          refine q_ti (v := a195) e196 ?_
          refine q_max C0 hl.1 rfl w_802 w_803 w_7 w_804 ⟨Nat.le_of_ble_eq_true rfl, Nat.le_of_ble_eq_true rfl⟩ ⟨Nat.le_of_ble_eq_true rfl, Nat.le_of_ble_eq_true rfl⟩ d_7_18_132 ?_
          obtain ⟨a198, e199⟩ := q_nm (if 0 < a195 then a195 else 0 : Int32)
          refine q_ti (v := a198) e199 ?_
          refine lv_istore (lv' := [(8, .int a198), (7, .ref (q 24)), (6, .ref (q 22)), (4, .long j76), (0, .ref (q k1)), (1, .ref (q k2)), (2, .long x3)]) hx hb d_7_18_135 hl (by decide) rfl (fun ls hl => ?_)
          refine lv_aload hx hb d_7_18_137 (lv_at hl 2 rfl) ?_
          refine lv_iload hx hb d_7_18_139 (lv_at hl 0 rfl) ?_
          refine q_gov V (q_runV (As := [.int a198]) (rest := []) (d := 3) (mc := 0) (ms := 0) (ci := 2) C0 V rfl LV_Flo_69 (X_Big_shiftLeft l D g q u153 22 220 (n_b22 g q) (by decide) a198 hI y101 y102 hO100 f103 hA104  _) rfl rfl hO100 rfl hl.1 rfl (Nat.le_of_ble_eq_true rfl) ⟨by decide, by decide⟩ ⟨Nat.le_of_ble_eq_true rfl, Nat.le_of_ble_eq_true rfl⟩ d_7_18_141) (fun u201 H locs hp202 V => ?_)
          obtain ⟨hI, hZ9⟩ := hp202
          obtain ⟨hu214, hZ9⟩ := hZ9
          obtain ⟨y204, hZ9⟩ := hZ9
          obtain ⟨y205, hZ9⟩ := hZ9
          obtain ⟨f206, hZ9⟩ := hZ9
          obtain ⟨hO203, hZ9⟩ := hZ9
          obtain ⟨hA207, hZ9⟩ := hZ9
          replace hZ9 := hZ9.2.2.2.2
          obtain ⟨b212, hE213⟩ := hZ9
          replace hO203 : u201[22]? = (some (q 22, .inr (2, [.ref (q 23), .int y204, .int y205])) : Option (Nat × va_E)) := hO203
          replace hA207 : u201[23]? = (some (q 23, .inl (g 0, (220 : Int32).toNatClampNeg, .inl f206)) : Option (Nat × va_E)) := hA207
          obtain ⟨p215, e216⟩ : ∃ z, z = (F_Big_shiftLeft (220 : Int32) a198 y101 y102 f103) := ⟨_, rfl⟩
          have e217 : y204 = p215.1 := congrArg (fun z => z.1) (hE213.trans e216.symm)
          have e218 : y205 = p215.2.1 := congrArg (fun z => z.2.1) (hE213.trans e216.symm)
          have e219 : f206 = p215.2.2 := congrArg (fun z => z.2.2) (hE213.trans e216.symm)
          replace b212 : q_F (y205.toInt ≤ y102.toInt) := b212
          replace hO155 := (hu214 _ (by decide)).trans hO155
          replace hA159 := (hu214 _ (by decide)).trans hA159
          replace hT4 := (hu214 _ (by decide)).trans hT4
          replace hT5 := (hu214 _ (by decide)).trans hT5
          replace hO51 := (hu214 _ (by decide)).trans hO51
          replace hA55 := (hu214 _ (by decide)).trans hA55
          replace hO43 := (hu214 _ (by have z0 := hB1.2.2.2.2; simp only [List.mem_cons, List.not_mem_nil, or_false, not_or]; omega)).trans hO43
          replace hO47 := (hu214 _ (by decide)).trans hO47
          replace hF := q_uc hF hu214 (by simp)
          have hR220 := (show F_Flo_nearestDecimal_c141 A B C R2 x3 t0_0 t0_1 t1_0 t2_0 t2_1 t3_0 t4_0 t4_1 t5_0 t6_0 t6_1 t7_0 t8_0 t8_1 t9_0 p62 j76 y52 y53 f54 p112 y101 y102 f103 p141 p166 a198 y156 y157 f158 p215 = (F_Flo_nearestDecimal A B C R2 x3 t0_0 t0_1 t1_0 t2_0 t2_1 t3_0 t4_0 t4_1 t5_0 t6_0 t6_1 t7_0 t8_0 t8_1 t9_0) from Eq.trans (by rw [e216, ← e199, ← e196, ← e193, e191, e183, e170, e169, e168, F_Flo_nearestDecimal_c114.eq_1]) hR171)
          have hS221 := (show True ∧ S_Flo_nearestDecimal_c141 A B C R2 x3 t0_0 t0_1 t1_0 t2_0 t2_1 t3_0 t4_0 t4_1 t5_0 t6_0 t6_1 t7_0 t8_0 t8_1 t9_0 p62 j76 y52 y53 f54 p112 y101 y102 f103 p141 p166 a198 y156 y157 f158 p215 from (by rw [e216, ← e199, ← e196, ← e193, e191, e183, e170, e169, e168]; have h := hS172; rw [S_Flo_nearestDecimal_c114.eq_1] at h; with_reducible exact h))
          refine lv_aload hx hb d_7_18_144 (lv_at hl 2 rfl) ?_
          refine lv_aload hx hb d_7_18_146 (lv_at hl 1 rfl) ?_
          refine lv_aload_n hx hb d_7_18_148 rfl (lv_at hl 4 rfl) ?_
          refine q_get (ci := 6) (j := 5) (v := .ref (q 9)) C0 V i_Flo rfl rfl hO43 (by decide) w_241 rfl d_7_18_149 ?_
          refine q_get (ci := 4) (j := 1) (v := .ref (q 12)) C0 V i_Mil rfl rfl hO47 (by decide) w_116 rfl d_7_18_152 ?_
          have ob225 : True ∧ S_Big_divideBy (220 : Int32) (220 : Int32) (220 : Int32) y204 y205 f206 y156 y157 f158 t4_0 t4_1 t5_0 := (by rw [e219, e218, e217]; have h := hS221; rw [S_Flo_nearestDecimal_c141.eq_1] at h; with_reducible exact h.2.1)
          refine q_gov V (q_runV (As := [.ref (q 24), .ref (q 12)]) (rest := []) (d := 4) (mc := 0) (ms := 0) (ci := 2) C0 V rfl LV_Flo_137 (X_Big_divideBy l D g q u201 22 220 (n_b22 g q) (by decide) 24 220 (n_b24 g q) (by decide) 12 220 (n_b12 g q) (by decide)  (by decide) (by decide) (by decide) hI y204 y205 hO203 f206 hA207 y156 y157 hO155 f158 hA159 t4_0 t4_1 hT4 t5_0 hT5 ob225 _) rfl rfl hO203 rfl hl.1 rfl (Nat.le_of_ble_eq_true rfl) ⟨by decide, by decide⟩ ⟨Nat.le_of_ble_eq_true rfl, Nat.le_of_ble_eq_true rfl⟩ d_7_18_155) (fun u226 H locs hp227 V => ?_)
          obtain ⟨hI, hZ9⟩ := hp227
          obtain ⟨hu259, hZ9⟩ := hZ9
          obtain ⟨y229, hZ9⟩ := hZ9
          obtain ⟨y230, hZ9⟩ := hZ9
          obtain ⟨f231, hZ9⟩ := hZ9
          obtain ⟨y234, hZ9⟩ := hZ9
          obtain ⟨y235, hZ9⟩ := hZ9
          obtain ⟨f236, hZ9⟩ := hZ9
          obtain ⟨y239, hZ9⟩ := hZ9
          obtain ⟨y240, hZ9⟩ := hZ9
          obtain ⟨f241, hZ9⟩ := hZ9
          obtain ⟨hO228, hZ9⟩ := hZ9
          obtain ⟨hA232, hZ9⟩ := hZ9
          obtain ⟨hO233, hZ9⟩ := hZ9
          obtain ⟨hA237, hZ9⟩ := hZ9
          obtain ⟨hO238, hZ9⟩ := hZ9
          obtain ⟨hA242, hZ9⟩ := hZ9
          obtain ⟨b243, hZ9⟩ := hZ9
          obtain ⟨b244, hZ9⟩ := hZ9
          obtain ⟨b245, hZ9⟩ := hZ9
          obtain ⟨b246, hZ9⟩ := hZ9
          replace hZ9 := hZ9.2
          obtain ⟨b248, hZ9⟩ := hZ9
          obtain ⟨b249, hZ9⟩ := hZ9
          replace hZ9 := hZ9.2.2
          obtain ⟨b252, hZ9⟩ := hZ9
          obtain ⟨b253, hZ9⟩ := hZ9
          obtain ⟨b254, hZ9⟩ := hZ9
          obtain ⟨b255, hZ9⟩ := hZ9
          obtain ⟨b256, hZ9⟩ := hZ9
          obtain ⟨b257, hE258⟩ := hZ9
          replace hO228 : u226[22]? = (some (q 22, .inr (2, [.ref (q 23), .int y229, .int y230])) : Option (Nat × va_E)) := hO228
          replace hA232 : u226[23]? = (some (q 23, .inl (g 0, (220 : Int32).toNatClampNeg, .inl f231)) : Option (Nat × va_E)) := hA232
          replace hO233 : u226[24]? = (some (q 24, .inr (2, [.ref (q 25), .int y234, .int y235])) : Option (Nat × va_E)) := hO233
          replace hA237 : u226[25]? = (some (q 25, .inl (g 0, (220 : Int32).toNatClampNeg, .inl f236)) : Option (Nat × va_E)) := hA237
          replace hO238 : u226[12]? = (some (q 12, .inr (2, [.ref (q 13), .int y239, .int y240])) : Option (Nat × va_E)) := hO238
          replace hA242 : u226[13]? = (some (q 13, .inl (g 0, (220 : Int32).toNatClampNeg, .inl f241)) : Option (Nat × va_E)) := hA242
          obtain ⟨p260, e261⟩ : ∃ z, z = (F_Big_divideBy (220 : Int32) (220 : Int32) (220 : Int32) y204 y205 f206 y156 y157 f158 t4_0 t4_1 t5_0) := ⟨_, rfl⟩
          have e262 : y229 = p260.1 := congrArg (fun z => z.1) (hE258.trans e261.symm)
          have e263 : y230 = p260.2.1 := congrArg (fun z => z.2.1) (hE258.trans e261.symm)
          have e264 : f231 = p260.2.2.1 := congrArg (fun z => z.2.2.1) (hE258.trans e261.symm)
          have e265 : y234 = p260.2.2.2.1 := congrArg (fun z => z.2.2.2.1) (hE258.trans e261.symm)
          have e266 : y235 = p260.2.2.2.2.1 := congrArg (fun z => z.2.2.2.2.1) (hE258.trans e261.symm)
          have e267 : f236 = p260.2.2.2.2.2.1 := congrArg (fun z => z.2.2.2.2.2.1) (hE258.trans e261.symm)
          have e268 : y239 = p260.2.2.2.2.2.2.1 := congrArg (fun z => z.2.2.2.2.2.2.1) (hE258.trans e261.symm)
          have e269 : y240 = p260.2.2.2.2.2.2.2.1 := congrArg (fun z => z.2.2.2.2.2.2.2.1) (hE258.trans e261.symm)
          have e270 : f241 = p260.2.2.2.2.2.2.2.2 := congrArg (fun z => z.2.2.2.2.2.2.2.2) (hE258.trans e261.symm)
          replace b243 : q_F (0 ≤ y240.toInt) := b243
          replace b244 : q_F (y240.toInt ≤ 0) := b244
          replace b245 : q_F (y229.toInt ≤ 220) := b245
          replace b246 : q_F (y230.toInt ≤ y205.toInt) := b246
          replace b248 : q_F (y234.toInt ≤ 220) := b248
          replace b249 : q_F (y235.toInt ≤ y157.toInt) := b249
          replace b252 : q_F (y239.toInt ≤ 220) := b252
          replace b253 : q_F (y240.toInt ≤ y229.toInt) := b253
          replace b254 : q_F (y240.toInt ≤ y230.toInt) := b254
          replace b255 : q_F (y240.toInt ≤ y234.toInt) := b255
          replace b256 : q_F (y240.toInt ≤ y235.toInt) := b256
          replace b257 : q_F (y240.toInt ≤ y239.toInt) := b257
          replace hO51 := (hu259 _ (by decide)).trans hO51
          replace hA55 := (hu259 _ (by decide)).trans hA55
          replace hO43 := (hu259 _ (by have z0 := hB1.2.2.2.2; simp only [List.mem_cons, List.not_mem_nil, or_false, not_or]; omega)).trans hO43
          replace hO47 := (hu259 _ (by decide)).trans hO47
          replace hF := q_uc hF hu259 (by simp)
          have hR271 := (show F_Flo_nearestDecimal_c155 A B C R2 x3 t0_0 t0_1 t1_0 t2_0 t2_1 t3_0 t4_0 t4_1 t5_0 t6_0 t6_1 t7_0 t8_0 t8_1 t9_0 p62 j76 y52 y53 f54 p112 y101 y102 f103 p141 p166 a198 y156 y157 f158 p215 p260 = (F_Flo_nearestDecimal A B C R2 x3 t0_0 t0_1 t1_0 t2_0 t2_1 t3_0 t4_0 t4_1 t5_0 t6_0 t6_1 t7_0 t8_0 t8_1 t9_0) from Eq.trans (by rw [e261, e219, e218, e217, F_Flo_nearestDecimal_c141.eq_1]) hR220)
          have hS272 := (show True ∧ S_Flo_nearestDecimal_c155 A B C R2 x3 t0_0 t0_1 t1_0 t2_0 t2_1 t3_0 t4_0 t4_1 t5_0 t6_0 t6_1 t7_0 t8_0 t8_1 t9_0 p62 j76 y52 y53 f54 p112 y101 y102 f103 p141 p166 a198 y156 y157 f158 p215 p260 from (by rw [e261, e219, e218, e217]; have h := hS221; rw [S_Flo_nearestDecimal_c141.eq_1] at h; replace h := q_s2 h; with_reducible exact h))
          refine lv_aload_n hx hb d_7_18_158 rfl (lv_at hl 4 rfl) ?_
          refine lv_aload_n hx hb d_7_18_159 rfl (lv_at hl 4 rfl) ?_
          refine q_get (ci := 6) (j := 5) (v := .ref (q 9)) C0 V i_Flo rfl rfl hO43 (by decide) w_241 rfl d_7_18_160 ?_
          refine q_get (ci := 4) (j := 1) (v := .ref (q 12)) C0 V i_Mil rfl rfl hO47 (by decide) w_116 rfl d_7_18_163 ?_
          refine lv_iload hx hb d_7_18_166 (lv_at hl 0 rfl) ?_
          refine lv_ineg hx hb d_7_18_168 ?_
          obtain ⟨a276, e277⟩ := q_nm (-a198 : Int32)
          refine q_ti (v := a276) e277 ?_
          refine lv_i2l hx hb d_7_18_169 rfl ?_
          obtain ⟨j279, e280⟩ := q_nm (a276.toInt64 : Int64)
          refine q_tl (v := j279) e280 ?_
          refine lv_lload_n hx hb d_7_18_170 rfl (lv_at hl 6 rfl) ?_
          refine lv_lsub hx hb d_7_18_171 ?_
          obtain ⟨j282, e283⟩ := q_nm (j279 - x3 : Int64)
          refine q_tl (v := j282) e283 ?_
          refine lv_aload hx hb d_7_18_172 (lv_at hl 2 rfl) ?_
          refine q_get (ci := 2) (j := 1) (v := .int y229) C0 V i_Big rfl rfl hO228 (by decide) w_92 rfl d_7_18_174 ?_
          refine lv_if_le (tgt := 184) hx hb d_7_18_177 (by decide) (fun c284 => ?_) (fun c284 => ?_)
          ·
            refine lv_iconst (v := 0) hx hb d_7_18_184 (by decide) ?_
            refine q_gol V (q_runV (As := [.ref (q 12), .long j282, .int 0]) (rest := []) (d := 4) (mc := 0) (ms := 0) (ci := 6) C0 V rfl LV_Flo_100 (X_Flo_nearest l D g q u226 k1 A B C hB1 12 220 (n_b12 g q) (by decide) j282 0 hI y239 y240 hO238 f241 hA242 ⟨(by have y0 : (220 : Int32).toInt = 220 := rfl; have y1 : (0 : Int32).toInt = 0 := rfl; omega), (by have y0 : (220 : Int32).toInt = 220 := rfl; have y1 : (0 : Int32).toInt = 0 := rfl; omega)⟩ _) rfl rfl hO43 rfl hl.1 rfl (Nat.le_of_ble_eq_true rfl) ⟨by decide, by decide⟩ ⟨Nat.le_of_ble_eq_true rfl, Nat.le_of_ble_eq_true rfl⟩ d_7_18_185) (fun j288 u286 H locs hp287 V => ?_)
            obtain ⟨rfl, hE289⟩ := hp287
            have e290 : j288 = (F_Flo_nearest A B C (220 : Int32) j282 (0 : Int32) y239 y240 f241) := hE289
            exact q_retl C0 V (⟨hI, hF, y229, y230, f231, y234, y235, f236, y239, y240, f241, y52, y53, f54, hO228, hA232, hO233, hA237, hO238, hA242, hO51, hA55, (show 0 ≤ y229.toInt from (by have t1 : 0 ≤ y240.toInt := b243; have t2 : y240.toInt ≤ y229.toInt := b253; omega)), (show y229.toInt ≤ 220 from (by first | with_reducible exact q_fe b245 | (have t1 : y229.toInt ≤ 220 := b245; omega))), (show 0 ≤ y230.toInt from (by have t1 : 0 ≤ y240.toInt := b243; have t2 : y240.toInt ≤ y230.toInt := b254; omega)), (show 0 ≤ y234.toInt from (by have t1 : 0 ≤ y240.toInt := b243; have t2 : y240.toInt ≤ y234.toInt := b255; omega)), (show y234.toInt ≤ 220 from (by first | with_reducible exact q_fe b248 | (have t1 : y234.toInt ≤ 220 := b248; omega))), (show 0 ≤ y235.toInt from (by have t1 : 0 ≤ y240.toInt := b243; have t2 : y240.toInt ≤ y235.toInt := b256; omega)), (show y235.toInt ≤ 1 from (by have t1 : y131.toInt ≤ 1 := b137; have t2 : y157.toInt ≤ y131.toInt := b163; have t3 : y235.toInt ≤ y157.toInt := b249; omega)), (show 0 ≤ y239.toInt from (by have t1 : 0 ≤ y240.toInt := b243; have t2 : y240.toInt ≤ y239.toInt := b257; omega)), (show y239.toInt ≤ 220 from (by first | with_reducible exact q_fe b252 | (have t1 : y239.toInt ≤ 220 := b252; omega))), (show 0 ≤ y240.toInt from (by first | with_reducible exact q_fe b243 | (have t1 : 0 ≤ y240.toInt := b243; omega))), (show 0 ≤ y52.toInt from (by first | with_reducible exact q_fe b56 | (have t1 : 0 ≤ y52.toInt := b56; omega))), (show y52.toInt ≤ 220 from (by first | with_reducible exact q_fe b57 | (have t1 : y52.toInt ≤ 220 := b57; omega))), (show 0 ≤ y53.toInt from (by first | with_reducible exact q_fe b58 | (have t1 : 0 ≤ y53.toInt := b58; omega))), (show y53.toInt ≤ 1 from (by first | with_reducible exact q_fe b59 | (have t1 : y53.toInt ≤ 1 := b59; omega))), (show y230.toInt ≤ t8_1.toInt + 1 from (by have t1 : y102.toInt ≤ t8_1.toInt := b109; have t2 : y205.toInt ≤ y102.toInt := b212; have t3 : y230.toInt ≤ y205.toInt := b246; omega)), (show y240.toInt ≤ t4_1.toInt from (by have t1 : 0 ≤ t4_1.toInt ∧ t4_1.toInt ≤ 1 := btt4_1; have t2 : y240.toInt ≤ 0 := b244; omega)), (show (j288, y229, y230, f231, y234, y235, f236, y239, y240, f241, y52, y53, f54) = (F_Flo_nearestDecimal A B C R2 x3 t0_0 t0_1 t1_0 t2_0 t2_1 t3_0 t4_0 t4_1 t5_0 t6_0 t6_1 t7_0 t8_0 t8_1 t9_0) from Eq.trans (by have c284x := c284; rw [e262] at c284x; rw [e290, ← e283, ← e280, ← e277, e270, e269, e268, e267, e266, e265, e264, e263, e262, F_Flo_nearestDecimal_c155.eq_1, if_pos c284x]) hR271)⟩) d_7_18_188
          ·
            have b291 : q_F (0 < y229.toInt) := (q_nleI c284)
            refine lv_iconst (v := 1) hx hb d_7_18_180 (by decide) ?_
            refine lv_goto (tgt := 185) hx hb d_7_18_181 (by decide) ?_
            refine q_gol V (q_runV (As := [.ref (q 12), .long j282, .int 1]) (rest := []) (d := 4) (mc := 0) (ms := 0) (ci := 6) C0 V rfl LV_Flo_100 (X_Flo_nearest l D g q u226 k1 A B C hB1 12 220 (n_b12 g q) (by decide) j282 1 hI y239 y240 hO238 f241 hA242 ⟨(by have y0 : (220 : Int32).toInt = 220 := rfl; have y1 : (1 : Int32).toInt = 1 := rfl; omega), (by have y0 : (220 : Int32).toInt = 220 := rfl; have y1 : (1 : Int32).toInt = 1 := rfl; omega)⟩ _) rfl rfl hO43 rfl hl.1 rfl (Nat.le_of_ble_eq_true rfl) ⟨by decide, by decide⟩ ⟨Nat.le_of_ble_eq_true rfl, Nat.le_of_ble_eq_true rfl⟩ d_7_18_185) (fun j294 u292 H locs hp293 V => ?_)
            obtain ⟨rfl, hE295⟩ := hp293
            have e296 : j294 = (F_Flo_nearest A B C (220 : Int32) j282 (1 : Int32) y239 y240 f241) := hE295
            exact q_retl C0 V (⟨hI, hF, y229, y230, f231, y234, y235, f236, y239, y240, f241, y52, y53, f54, hO228, hA232, hO233, hA237, hO238, hA242, hO51, hA55, (show 0 ≤ y229.toInt from (by first | with_reducible exact q_fe b291 | (have t1 : 0 < y229.toInt := b291; omega))), (show y229.toInt ≤ 220 from (by first | with_reducible exact q_fe b245 | (have t1 : y229.toInt ≤ 220 := b245; omega))), (show 0 ≤ y230.toInt from (by have t1 : 0 ≤ y240.toInt := b243; have t2 : y240.toInt ≤ y230.toInt := b254; omega)), (show 0 ≤ y234.toInt from (by have t1 : 0 ≤ y240.toInt := b243; have t2 : y240.toInt ≤ y234.toInt := b255; omega)), (show y234.toInt ≤ 220 from (by first | with_reducible exact q_fe b248 | (have t1 : y234.toInt ≤ 220 := b248; omega))), (show 0 ≤ y235.toInt from (by have t1 : 0 ≤ y240.toInt := b243; have t2 : y240.toInt ≤ y235.toInt := b256; omega)), (show y235.toInt ≤ 1 from (by have t1 : y131.toInt ≤ 1 := b137; have t2 : y157.toInt ≤ y131.toInt := b163; have t3 : y235.toInt ≤ y157.toInt := b249; omega)), (show 0 ≤ y239.toInt from (by have t1 : 0 ≤ y240.toInt := b243; have t2 : y240.toInt ≤ y239.toInt := b257; omega)), (show y239.toInt ≤ 220 from (by first | with_reducible exact q_fe b252 | (have t1 : y239.toInt ≤ 220 := b252; omega))), (show 0 ≤ y240.toInt from (by first | with_reducible exact q_fe b243 | (have t1 : 0 ≤ y240.toInt := b243; omega))), (show 0 ≤ y52.toInt from (by first | with_reducible exact q_fe b56 | (have t1 : 0 ≤ y52.toInt := b56; omega))), (show y52.toInt ≤ 220 from (by first | with_reducible exact q_fe b57 | (have t1 : y52.toInt ≤ 220 := b57; omega))), (show 0 ≤ y53.toInt from (by first | with_reducible exact q_fe b58 | (have t1 : 0 ≤ y53.toInt := b58; omega))), (show y53.toInt ≤ 1 from (by first | with_reducible exact q_fe b59 | (have t1 : y53.toInt ≤ 1 := b59; omega))), (show y230.toInt ≤ t8_1.toInt + 1 from (by have t1 : y102.toInt ≤ t8_1.toInt := b109; have t2 : y205.toInt ≤ y102.toInt := b212; have t3 : y230.toInt ≤ y205.toInt := b246; omega)), (show y240.toInt ≤ t4_1.toInt from (by have t1 : 0 ≤ t4_1.toInt ∧ t4_1.toInt ≤ 1 := btt4_1; have t2 : y240.toInt ≤ 0 := b244; omega)), (show (j294, y229, y230, f231, y234, y235, f236, y239, y240, f241, y52, y53, f54) = (F_Flo_nearestDecimal A B C R2 x3 t0_0 t0_1 t1_0 t2_0 t2_1 t3_0 t4_0 t4_1 t5_0 t6_0 t6_1 t7_0 t8_0 t8_1 t9_0) from Eq.trans (by have c284x := c284; rw [e262] at c284x; rw [e296, ← e283, ← e280, ← e277, e270, e269, e268, e267, e266, e265, e264, e263, e262, F_Flo_nearestDecimal_c155.eq_1, if_neg c284x]) hR271)⟩) d_7_18_188
        ·
          refine lv_aload hx hb d_7_18_77 (lv_at hl 0 rfl) ?_
          refine lv_lload_n hx hb d_7_18_79 rfl (lv_at hl 4 rfl) ?_
          refine lv_lneg hx hb d_7_18_80 ?_
          obtain ⟨j298, e299⟩ := q_nm (-x3 : Int64)
          refine q_tl (v := j298) e299 ?_
          refine lv_l2i hx hb d_7_18_81 rfl ?_
          obtain ⟨a300, e301⟩ := q_nm (j298.toInt32 : Int32)
          refine q_ti (v := a300) e301 ?_
          refine q_gov V (q_runV (As := [.int a300]) (rest := []) (d := 2) (mc := 0) (ms := 0) (ci := 2) C0 V rfl LV_Flo_91 (X_Big_timesFive l D g q u98 22 220 (n_b22 g q) (by decide) a300 hI y101 y102 hO100 f103 hA104  _) rfl rfl hO100 rfl hl.1 rfl (Nat.le_of_ble_eq_true rfl) ⟨by decide, by decide⟩ ⟨Nat.le_of_ble_eq_true rfl, Nat.le_of_ble_eq_true rfl⟩ d_7_18_82) (fun u302 H locs hp303 V => ?_)
          obtain ⟨hI, hZ9⟩ := hp303
          obtain ⟨hu314, hZ9⟩ := hZ9
          obtain ⟨y305, hZ9⟩ := hZ9
          obtain ⟨y306, hZ9⟩ := hZ9
          obtain ⟨f307, hZ9⟩ := hZ9
          obtain ⟨hO304, hZ9⟩ := hZ9
          obtain ⟨hA308, hZ9⟩ := hZ9
          obtain ⟨b309, hZ9⟩ := hZ9
          obtain ⟨b310, hZ9⟩ := hZ9
          obtain ⟨b311, hZ9⟩ := hZ9
          obtain ⟨b312, hE313⟩ := hZ9
          replace hO304 : u302[22]? = (some (q 22, .inr (2, [.ref (q 23), .int y305, .int y306])) : Option (Nat × va_E)) := hO304
          replace hA308 : u302[23]? = (some (q 23, .inl (g 0, (220 : Int32).toNatClampNeg, .inl f307)) : Option (Nat × va_E)) := hA308
          obtain ⟨p315, e316⟩ : ∃ z, z = (F_Big_timesFive (220 : Int32) a300 y101 y102 f103) := ⟨_, rfl⟩
          have e317 : y305 = p315.1 := congrArg (fun z => z.1) (hE313.trans e316.symm)
          have e318 : y306 = p315.2.1 := congrArg (fun z => z.2.1) (hE313.trans e316.symm)
          have e319 : f307 = p315.2.2 := congrArg (fun z => z.2.2) (hE313.trans e316.symm)
          replace b309 : q_F (y101.toInt ≤ y305.toInt) := b309
          replace b310 : q_F (y305.toInt ≤ 220) := b310
          replace b311 : q_F (y102.toInt ≤ y306.toInt) := b311
          replace b312 : q_F (y306.toInt ≤ y102.toInt) := b312
          replace hT2 := (hu314 _ (by decide)).trans hT2
          replace hT3 := (hu314 _ (by decide)).trans hT3
          replace hT4 := (hu314 _ (by decide)).trans hT4
          replace hT5 := (hu314 _ (by decide)).trans hT5
          replace hO51 := (hu314 _ (by decide)).trans hO51
          replace hA55 := (hu314 _ (by decide)).trans hA55
          replace hO43 := (hu314 _ (by have z0 := hB1.2.2.2.2; simp only [List.mem_cons, List.not_mem_nil, or_false, not_or]; omega)).trans hO43
          replace hF := q_uc hF hu314 (by simp)
          have hR320 := (show F_Flo_nearestDecimal_c82 A B C R2 x3 t0_0 t0_1 t1_0 t2_0 t2_1 t3_0 t4_0 t4_1 t5_0 t6_0 t6_1 t7_0 t8_0 t8_1 t9_0 p62 j76 y52 y53 f54 p112 p315 = (F_Flo_nearestDecimal A B C R2 x3 t0_0 t0_1 t1_0 t2_0 t2_1 t3_0 t4_0 t4_1 t5_0 t6_0 t6_1 t7_0 t8_0 t8_1 t9_0) from Eq.trans (by have c125x := c125; rw [← e123] at c125x; rw [e316, ← e301, ← e299, e116, e115, e114, F_Flo_nearestDecimal_c68.eq_1, if_neg c125x]) hR117)
          have hS321 := (show True ∧ S_Flo_nearestDecimal_c82 A B C R2 x3 t0_0 t0_1 t1_0 t2_0 t2_1 t3_0 t4_0 t4_1 t5_0 t6_0 t6_1 t7_0 t8_0 t8_1 t9_0 p62 j76 y52 y53 f54 p112 p315 from (by rw [e316, ← e301, ← e299, e116, e115, e114]; have h := hS118; rw [S_Flo_nearestDecimal_c68.eq_1] at h; have c125x := c125; rw [← e123] at c125x; rw [if_neg c125x] at h; with_reducible exact h))
          refine lv_aload_n hx hb d_7_18_85 rfl (lv_at hl 2 rfl) ?_
          refine lv_aload hx hb d_7_18_86 (lv_at hl 0 rfl) ?_
          refine lv_lload_n hx hb d_7_18_88 rfl (lv_at hl 4 rfl) ?_
          refine lv_lneg hx hb d_7_18_89 ?_
          obtain ⟨j325, e326⟩ := q_nm (-x3 : Int64)
          refine q_tl (v := j325) e326 ?_
          refine lv_iconst (v := 0) hx hb d_7_18_90 (by decide) ?_
          refine q_gol V (q_runV (As := [.ref (q 22), .long j325, .int 0]) (rest := []) (d := 4) (mc := 0) (ms := 0) (ci := 6) C0 V rfl LV_Flo_100 (X_Flo_nearest l D g q u302 k1 A B C hB1 22 220 (n_b22 g q) (by decide) j325 0 hI y305 y306 hO304 f307 hA308 ⟨(by have y0 : (220 : Int32).toInt = 220 := rfl; have y1 : (0 : Int32).toInt = 0 := rfl; omega), (by have y0 : (220 : Int32).toInt = 220 := rfl; have y1 : (0 : Int32).toInt = 0 := rfl; omega)⟩ _) rfl rfl hO43 rfl hl.1 rfl (Nat.le_of_ble_eq_true rfl) ⟨by decide, by decide⟩ ⟨Nat.le_of_ble_eq_true rfl, Nat.le_of_ble_eq_true rfl⟩ d_7_18_91) (fun j329 u327 H locs hp328 V => ?_)
          obtain ⟨rfl, hE330⟩ := hp328
          have e331 : j329 = (F_Flo_nearest A B C (220 : Int32) j325 (0 : Int32) y305 y306 f307) := hE330
          exact q_retl C0 V (⟨hI, hF, y305, y306, f307, t2_0, t2_1, t3_0, t4_0, t4_1, t5_0, y52, y53, f54, hO304, hA308, hT2, hT3, hT4, hT5, hO51, hA55, (show 0 ≤ y305.toInt from (by have t1 : 0 ≤ y101.toInt := b105; have t2 : y101.toInt ≤ y305.toInt := b309; omega)), (show y305.toInt ≤ 220 from (by first | with_reducible exact q_fe b310 | (have t1 : y305.toInt ≤ 220 := b310; omega))), (show 0 ≤ y306.toInt from (by have t1 : 0 ≤ t8_1.toInt ∧ t8_1.toInt ≤ 1 := btt8_1; have t2 : t8_1.toInt ≤ y102.toInt := b108; have t3 : y102.toInt ≤ y306.toInt := b311; omega)), (show 0 ≤ t2_0.toInt from (by first | with_reducible exact (q_fe btt2_0).2 | with_reducible exact (q_fe btt2_0).1 | (have t1 : 0 ≤ t2_0.toInt ∧ t2_0.toInt ≤ 220 := btt2_0; omega))), (show t2_0.toInt ≤ 220 from (by first | with_reducible exact (q_fe btt2_0).2 | with_reducible exact (q_fe btt2_0).1 | (have t1 : 0 ≤ t2_0.toInt ∧ t2_0.toInt ≤ 220 := btt2_0; omega))), (show 0 ≤ t2_1.toInt from (by first | with_reducible exact (q_fe btt2_1).2 | with_reducible exact (q_fe btt2_1).1 | (have t1 : 0 ≤ t2_1.toInt ∧ t2_1.toInt ≤ 1 := btt2_1; omega))), (show t2_1.toInt ≤ 1 from (by first | with_reducible exact (q_fe btt2_1).2 | with_reducible exact (q_fe btt2_1).1 | (have t1 : 0 ≤ t2_1.toInt ∧ t2_1.toInt ≤ 1 := btt2_1; omega))), (show 0 ≤ t4_0.toInt from (by first | with_reducible exact (q_fe btt4_0).2 | with_reducible exact (q_fe btt4_0).1 | (have t1 : 0 ≤ t4_0.toInt ∧ t4_0.toInt ≤ 220 := btt4_0; omega))), (show t4_0.toInt ≤ 220 from (by first | with_reducible exact (q_fe btt4_0).2 | with_reducible exact (q_fe btt4_0).1 | (have t1 : 0 ≤ t4_0.toInt ∧ t4_0.toInt ≤ 220 := btt4_0; omega))), (show 0 ≤ t4_1.toInt from (by first | with_reducible exact (q_fe btt4_1).2 | with_reducible exact (q_fe btt4_1).1 | (have t1 : 0 ≤ t4_1.toInt ∧ t4_1.toInt ≤ 1 := btt4_1; omega))), (show 0 ≤ y52.toInt from (by first | with_reducible exact q_fe b56 | (have t1 : 0 ≤ y52.toInt := b56; omega))), (show y52.toInt ≤ 220 from (by first | with_reducible exact q_fe b57 | (have t1 : y52.toInt ≤ 220 := b57; omega))), (show 0 ≤ y53.toInt from (by first | with_reducible exact q_fe b58 | (have t1 : 0 ≤ y53.toInt := b58; omega))), (show y53.toInt ≤ 1 from (by first | with_reducible exact q_fe b59 | (have t1 : y53.toInt ≤ 1 := b59; omega))), (show y306.toInt ≤ t8_1.toInt + 1 from (by have t1 : y102.toInt ≤ t8_1.toInt := b109; have t2 : y306.toInt ≤ y102.toInt := b312; omega)), (show t4_1.toInt ≤ t4_1.toInt from (by omega)), (show (j329, y305, y306, f307, t2_0, t2_1, t3_0, t4_0, t4_1, t5_0, y52, y53, f54) = (F_Flo_nearestDecimal A B C R2 x3 t0_0 t0_1 t1_0 t2_0 t2_1 t3_0 t4_0 t4_1 t5_0 t6_0 t6_1 t7_0 t8_0 t8_1 t9_0) from Eq.trans (by rw [e331, ← e326, e319, e318, e317, F_Flo_nearestDecimal_c82.eq_1]) hR320)⟩) d_7_18_94
      ·
        have b332 : q_F (a93.toInt < 0) := (q_nleI c96)
        refine lv_lload hx hb d_7_18_40 (lv_at hl 0 rfl) ?_
        refine lv_lconst (v := 0) hx hb d_7_18_42 (by decide) ?_
        refine W.lcmp hx hb d_7_18_43 ?_
        obtain ⟨a333, e334⟩ := q_nm (lg_cmp j76 0 : Int32)
        refine q_ti (v := a333) e334 ?_
        have b335 : q_F (-1 ≤ a333.toInt ∧ a333.toInt ≤ 1 ∧ ((a333.toInt = -1 ∧ j76.toInt < 0) ∨ (a333.toInt = 0 ∧ j76.toInt = 0) ∨ (a333.toInt = 1 ∧ 0 < j76.toInt))) := (by rw [← e334]; show -1 ≤ (lg_cmp j76 0 : Int32).toInt ∧ (lg_cmp j76 0 : Int32).toInt ≤ 1 ∧ (((lg_cmp j76 0 : Int32).toInt = -1 ∧ j76.toInt < 0) ∨ ((lg_cmp j76 0 : Int32).toInt = 0 ∧ j76.toInt = 0) ∨ ((lg_cmp j76 0 : Int32).toInt = 1 ∧ 0 < j76.toInt)); exact (by have y1 : (0 : Int64).toInt = 0 := rfl; have z := s_lcmp (a := j76) (b := 0); omega))
        refine lv_if_le (tgt := 54) hx hb d_7_18_44 (by decide) (fun c336 => ?_) (fun c336 => absurd (show 0 < a333.toInt from q_nleI c336) (by have t1 : -1 ≤ a93.toInt ∧ a93.toInt ≤ 1 ∧ ((a93.toInt = -1 ∧ j76.toInt < (-400)) ∨ (a93.toInt = 0 ∧ j76.toInt = (-400)) ∨ (a93.toInt = 1 ∧ (-400) < j76.toInt)) := b95; have t2 : a93.toInt < 0 := b332; have t3 : -1 ≤ a333.toInt ∧ a333.toInt ≤ 1 ∧ ((a333.toInt = -1 ∧ j76.toInt < 0) ∨ (a333.toInt = 0 ∧ j76.toInt = 0) ∨ (a333.toInt = 1 ∧ 0 < j76.toInt)) := b335; omega))
        refine lv_lconst (v := 0) hx hb d_7_18_54 (by decide) ?_
        exact q_retl C0 V (⟨hI, hF, t0_0, t0_1, t1_0, t2_0, t2_1, t3_0, t4_0, t4_1, t5_0, y52, y53, f54, hT0, hT1, hT2, hT3, hT4, hT5, hO51, hA55, (show 0 ≤ t0_0.toInt from (by have z20 : (0 : Int64).toInt = 0 := rfl; have t1 : 0 ≤ t0_0.toInt ∧ t0_0.toInt ≤ 220 := btt0_0; omega)), (show t0_0.toInt ≤ 220 from (by have z20 : (0 : Int64).toInt = 0 := rfl; have t1 : 0 ≤ t0_0.toInt ∧ t0_0.toInt ≤ 220 := btt0_0; omega)), (show 0 ≤ t0_1.toInt from (by have z20 : (0 : Int64).toInt = 0 := rfl; have t1 : 0 ≤ t0_1.toInt ∧ t0_1.toInt ≤ 1 := btt0_1; omega)), (show 0 ≤ t2_0.toInt from (by have z20 : (0 : Int64).toInt = 0 := rfl; have t1 : 0 ≤ t2_0.toInt ∧ t2_0.toInt ≤ 220 := btt2_0; omega)), (show t2_0.toInt ≤ 220 from (by have z20 : (0 : Int64).toInt = 0 := rfl; have t1 : 0 ≤ t2_0.toInt ∧ t2_0.toInt ≤ 220 := btt2_0; omega)), (show 0 ≤ t2_1.toInt from (by have z20 : (0 : Int64).toInt = 0 := rfl; have t1 : 0 ≤ t2_1.toInt ∧ t2_1.toInt ≤ 1 := btt2_1; omega)), (show t2_1.toInt ≤ 1 from (by have z20 : (0 : Int64).toInt = 0 := rfl; have t1 : 0 ≤ t2_1.toInt ∧ t2_1.toInt ≤ 1 := btt2_1; omega)), (show 0 ≤ t4_0.toInt from (by have z20 : (0 : Int64).toInt = 0 := rfl; have t1 : 0 ≤ t4_0.toInt ∧ t4_0.toInt ≤ 220 := btt4_0; omega)), (show t4_0.toInt ≤ 220 from (by have z20 : (0 : Int64).toInt = 0 := rfl; have t1 : 0 ≤ t4_0.toInt ∧ t4_0.toInt ≤ 220 := btt4_0; omega)), (show 0 ≤ t4_1.toInt from (by have z20 : (0 : Int64).toInt = 0 := rfl; have t1 : 0 ≤ t4_1.toInt ∧ t4_1.toInt ≤ 1 := btt4_1; omega)), (show 0 ≤ y52.toInt from (by have z20 : (0 : Int64).toInt = 0 := rfl; have t1 : 0 ≤ y52.toInt := b56; omega)), (show y52.toInt ≤ 220 from (by have z20 : (0 : Int64).toInt = 0 := rfl; have t1 : y52.toInt ≤ 220 := b57; omega)), (show 0 ≤ y53.toInt from (by have z20 : (0 : Int64).toInt = 0 := rfl; have t1 : 0 ≤ y53.toInt := b58; omega)), (show y53.toInt ≤ 1 from (by have z20 : (0 : Int64).toInt = 0 := rfl; have t1 : y53.toInt ≤ 1 := b59; omega)), (show t0_1.toInt ≤ t8_1.toInt + 1 from (by have z20 : (0 : Int64).toInt = 0 := rfl; have t1 : 0 ≤ t0_1.toInt ∧ t0_1.toInt ≤ 1 := btt0_1; have t2 : 0 ≤ t8_1.toInt ∧ t8_1.toInt ≤ 1 := btt8_1; omega)), (show t4_1.toInt ≤ t4_1.toInt from (by have z20 : (0 : Int64).toInt = 0 := rfl; omega)), (show ((0 : Int64), t0_0, t0_1, t1_0, t2_0, t2_1, t3_0, t4_0, t4_1, t5_0, y52, y53, f54) = (F_Flo_nearestDecimal A B C R2 x3 t0_0 t0_1 t1_0 t2_0 t2_1 t3_0 t4_0 t4_1 t5_0 t6_0 t6_1 t7_0 t8_0 t8_1 t9_0) from Eq.trans (by have c81x := c81; rw [← e79, ← e77, ← e74, e64] at c81x; have c96x := c96; rw [← e94, ← e77, ← e74, e64] at c96x; rw [e67, e66, e65, F_Flo_nearestDecimal_c14.eq_1, if_neg c81x, if_neg c96x]) hR68)⟩) d_7_18_55
  ·
    refine lv_lconst (v := 0) hx hb d_7_18_7 (by decide) ?_
    exact q_retl C0 V (⟨hI, hF, t0_0, t0_1, t1_0, t2_0, t2_1, t3_0, t4_0, t4_1, t5_0, t6_0, t6_1, t7_0, hT0, hT1, hT2, hT3, hT4, hT5, hT6, hT7, (show 0 ≤ t0_0.toInt from (by have z20 : (0 : Int64).toInt = 0 := rfl; have t1 : 0 ≤ t0_0.toInt ∧ t0_0.toInt ≤ 220 := btt0_0; omega)), (show t0_0.toInt ≤ 220 from (by have z20 : (0 : Int64).toInt = 0 := rfl; have t1 : 0 ≤ t0_0.toInt ∧ t0_0.toInt ≤ 220 := btt0_0; omega)), (show 0 ≤ t0_1.toInt from (by have z20 : (0 : Int64).toInt = 0 := rfl; have t1 : 0 ≤ t0_1.toInt ∧ t0_1.toInt ≤ 1 := btt0_1; omega)), (show 0 ≤ t2_0.toInt from (by have z20 : (0 : Int64).toInt = 0 := rfl; have t1 : 0 ≤ t2_0.toInt ∧ t2_0.toInt ≤ 220 := btt2_0; omega)), (show t2_0.toInt ≤ 220 from (by have z20 : (0 : Int64).toInt = 0 := rfl; have t1 : 0 ≤ t2_0.toInt ∧ t2_0.toInt ≤ 220 := btt2_0; omega)), (show 0 ≤ t2_1.toInt from (by have z20 : (0 : Int64).toInt = 0 := rfl; have t1 : 0 ≤ t2_1.toInt ∧ t2_1.toInt ≤ 1 := btt2_1; omega)), (show t2_1.toInt ≤ 1 from (by have z20 : (0 : Int64).toInt = 0 := rfl; have t1 : 0 ≤ t2_1.toInt ∧ t2_1.toInt ≤ 1 := btt2_1; omega)), (show 0 ≤ t4_0.toInt from (by have z20 : (0 : Int64).toInt = 0 := rfl; have t1 : 0 ≤ t4_0.toInt ∧ t4_0.toInt ≤ 220 := btt4_0; omega)), (show t4_0.toInt ≤ 220 from (by have z20 : (0 : Int64).toInt = 0 := rfl; have t1 : 0 ≤ t4_0.toInt ∧ t4_0.toInt ≤ 220 := btt4_0; omega)), (show 0 ≤ t4_1.toInt from (by have z20 : (0 : Int64).toInt = 0 := rfl; have t1 : 0 ≤ t4_1.toInt ∧ t4_1.toInt ≤ 1 := btt4_1; omega)), (show 0 ≤ t6_0.toInt from (by have z20 : (0 : Int64).toInt = 0 := rfl; have t1 : 0 ≤ t6_0.toInt ∧ t6_0.toInt ≤ 220 := btt6_0; omega)), (show t6_0.toInt ≤ 220 from (by have z20 : (0 : Int64).toInt = 0 := rfl; have t1 : 0 ≤ t6_0.toInt ∧ t6_0.toInt ≤ 220 := btt6_0; omega)), (show 0 ≤ t6_1.toInt from (by have z20 : (0 : Int64).toInt = 0 := rfl; have t1 : 0 ≤ t6_1.toInt ∧ t6_1.toInt ≤ 1 := btt6_1; omega)), (show t6_1.toInt ≤ 1 from (by have z20 : (0 : Int64).toInt = 0 := rfl; have t1 : 0 ≤ t6_1.toInt ∧ t6_1.toInt ≤ 1 := btt6_1; omega)), (show t0_1.toInt ≤ t8_1.toInt + 1 from (by have z20 : (0 : Int64).toInt = 0 := rfl; have t1 : 0 ≤ t0_1.toInt ∧ t0_1.toInt ≤ 1 := btt0_1; have t2 : 0 ≤ t8_1.toInt ∧ t8_1.toInt ≤ 1 := btt8_1; omega)), (show t4_1.toInt ≤ t4_1.toInt from (by have z20 : (0 : Int64).toInt = 0 := rfl; omega)), (show ((0 : Int64), t0_0, t0_1, t1_0, t2_0, t2_1, t3_0, t4_0, t4_1, t5_0, t6_0, t6_1, t7_0) = (F_Flo_nearestDecimal A B C R2 x3 t0_0 t0_1 t1_0 t2_0 t2_1 t3_0 t4_0 t4_1 t5_0 t6_0 t6_1 t7_0 t8_0 t8_1 t9_0) from (by rw [F_Flo_nearestDecimal.eq_1, if_pos c41]))⟩) d_7_18_8
def F_Flo_nextFigure_c81 (K_F_Flo_nextFigure_L41 : Int32 → Int32 → Int32 → (Nat → Int32) → (Int32 × Int32 × Int32 × (Nat → Int32) × Int32 × Int32 × (Nat → Int32) × Int32 × Int32 × (Nat → Int32))) (A : Int32) (B : Int32) (C : Int32) (t0_0 : Int32) (t0_1 : Int32) (t1_0 : (Nat → Int32)) (t2_0 : Int32) (t2_1 : Int32) (t3_0 : (Nat → Int32)) (t4_0 : Int32) (t4_1 : Int32) (t5_0 : (Nat → Int32)) (t6_0 : Int32) (t6_1 : Int32) (t7_0 : (Nat → Int32)) (p52 : (Int32 × Int32 × (Nat → Int32))) (y41 : Int32) (y42 : Int32) (f43 : (Nat → Int32)) (p76 : (Int32 × Int32 × (Nat → Int32))) (y65 : Int32) (y66 : Int32) (f67 : (Nat → Int32)) (p100 : (Int32 × Int32 × (Nat → Int32))) (y89 : Int32) (y90 : Int32) (f91 : (Nat → Int32)) (lx111 : Int32) (lx112 : Int32) (lx113 : Int32) (lx114 : (Nat → Int32)) (p168 : (Int32 × Int32 × (Nat → Int32))) : Int32 × Int32 × Int32 × (Nat → Int32) × Int32 × Int32 × (Nat → Int32) × Int32 × Int32 × (Nat → Int32) := K_F_Flo_nextFigure_L41 (lx111 + 1 : Int32) (p168.1 : Int32) (p168.2.1 : Int32) (p168.2.2 : (Nat → Int32))
def F_Flo_nextFigure_L41 (A : Int32) (B : Int32) (C : Int32) (t0_0 : Int32) (t0_1 : Int32) (t1_0 : (Nat → Int32)) (t2_0 : Int32) (t2_1 : Int32) (t3_0 : (Nat → Int32)) (t4_0 : Int32) (t4_1 : Int32) (t5_0 : (Nat → Int32)) (t6_0 : Int32) (t6_1 : Int32) (t7_0 : (Nat → Int32)) (p52 : (Int32 × Int32 × (Nat → Int32))) (y41 : Int32) (y42 : Int32) (f43 : (Nat → Int32)) (p76 : (Int32 × Int32 × (Nat → Int32))) (y65 : Int32) (y66 : Int32) (f67 : (Nat → Int32)) (p100 : (Int32 × Int32 × (Nat → Int32))) (y89 : Int32) (y90 : Int32) (f91 : (Nat → Int32)) : Nat → Int32 → Int32 → Int32 → (Nat → Int32) → (Int32 × Int32 × Int32 × (Nat → Int32) × Int32 × Int32 × (Nat → Int32) × Int32 × Int32 × (Nat → Int32))
  | 0, _, _, _, _ => default
  | fm + 1, lx111, lx112, lx113, lx114 => if (9 : Int32) ≤ lx111 then ((lx111, lx112, lx113, lx114, y65, y66, f67, y89, y90, f91)) else (if ((F_Big_compareSize (220 : Int32) (220 : Int32) lx112 lx113 lx114 t2_0 t2_1 t3_0) : Int32) < (0 : Int32) then ((lx111, lx112, lx113, lx114, y65, y66, f67, y89, y90, f91)) else (F_Flo_nextFigure_c81 (F_Flo_nextFigure_L41 A B C t0_0 t0_1 t1_0 t2_0 t2_1 t3_0 t4_0 t4_1 t5_0 t6_0 t6_1 t7_0 p52 y41 y42 f43 p76 y65 y66 f67 p100 y89 y90 f91 fm) A B C t0_0 t0_1 t1_0 t2_0 t2_1 t3_0 t4_0 t4_1 t5_0 t6_0 t6_1 t7_0 p52 y41 y42 f43 p76 y65 y66 f67 p100 y89 y90 f91 lx111 lx112 lx113 lx114 ((F_Big_subtractSize (220 : Int32) (220 : Int32) lx112 lx113 lx114 t2_0 t2_1 t3_0) : (Int32 × Int32 × (Nat → Int32)))))
def F_Flo_nextFigure_c36 (A : Int32) (B : Int32) (C : Int32) (t0_0 : Int32) (t0_1 : Int32) (t1_0 : (Nat → Int32)) (t2_0 : Int32) (t2_1 : Int32) (t3_0 : (Nat → Int32)) (t4_0 : Int32) (t4_1 : Int32) (t5_0 : (Nat → Int32)) (t6_0 : Int32) (t6_1 : Int32) (t7_0 : (Nat → Int32)) (p52 : (Int32 × Int32 × (Nat → Int32))) (y41 : Int32) (y42 : Int32) (f43 : (Nat → Int32)) (p76 : (Int32 × Int32 × (Nat → Int32))) (y65 : Int32) (y66 : Int32) (f67 : (Nat → Int32)) (p100 : (Int32 × Int32 × (Nat → Int32))) : Int32 × Int32 × Int32 × (Nat → Int32) × Int32 × Int32 × (Nat → Int32) × Int32 × Int32 × (Nat → Int32) := F_Flo_nextFigure_L41 A B C t0_0 t0_1 t1_0 t2_0 t2_1 t3_0 t4_0 t4_1 t5_0 t6_0 t6_1 t7_0 p52 y41 y42 f43 p76 y65 y66 f67 p100 (p100.1 : Int32) (p100.2.1 : Int32) (p100.2.2 : (Nat → Int32)) ((9 - (0 : Int32).toInt).toNat + 1) 0 y41 y42 f43
def F_Flo_nextFigure_c23 (A : Int32) (B : Int32) (C : Int32) (t0_0 : Int32) (t0_1 : Int32) (t1_0 : (Nat → Int32)) (t2_0 : Int32) (t2_1 : Int32) (t3_0 : (Nat → Int32)) (t4_0 : Int32) (t4_1 : Int32) (t5_0 : (Nat → Int32)) (t6_0 : Int32) (t6_1 : Int32) (t7_0 : (Nat → Int32)) (p52 : (Int32 × Int32 × (Nat → Int32))) (y41 : Int32) (y42 : Int32) (f43 : (Nat → Int32)) (p76 : (Int32 × Int32 × (Nat → Int32))) : Int32 × Int32 × Int32 × (Nat → Int32) × Int32 × Int32 × (Nat → Int32) × Int32 × Int32 × (Nat → Int32) := F_Flo_nextFigure_c36 A B C t0_0 t0_1 t1_0 t2_0 t2_1 t3_0 t4_0 t4_1 t5_0 t6_0 t6_1 t7_0 p52 y41 y42 f43 p76 (p76.1 : Int32) (p76.2.1 : Int32) (p76.2.2 : (Nat → Int32)) ((F_Big_multiplySmall (220 : Int32) (10 : Int32) (0 : Int32) t6_0 t6_1 t7_0) : (Int32 × Int32 × (Nat → Int32)))
def F_Flo_nextFigure_c10 (A : Int32) (B : Int32) (C : Int32) (t0_0 : Int32) (t0_1 : Int32) (t1_0 : (Nat → Int32)) (t2_0 : Int32) (t2_1 : Int32) (t3_0 : (Nat → Int32)) (t4_0 : Int32) (t4_1 : Int32) (t5_0 : (Nat → Int32)) (t6_0 : Int32) (t6_1 : Int32) (t7_0 : (Nat → Int32)) (p52 : (Int32 × Int32 × (Nat → Int32))) : Int32 × Int32 × Int32 × (Nat → Int32) × Int32 × Int32 × (Nat → Int32) × Int32 × Int32 × (Nat → Int32) := F_Flo_nextFigure_c23 A B C t0_0 t0_1 t1_0 t2_0 t2_1 t3_0 t4_0 t4_1 t5_0 t6_0 t6_1 t7_0 p52 (p52.1 : Int32) (p52.2.1 : Int32) (p52.2.2 : (Nat → Int32)) ((F_Big_multiplySmall (220 : Int32) (10 : Int32) (0 : Int32) t4_0 t4_1 t5_0) : (Int32 × Int32 × (Nat → Int32)))
def F_Flo_nextFigure (A : Int32) (B : Int32) (C : Int32) (t0_0 : Int32) (t0_1 : Int32) (t1_0 : (Nat → Int32)) (t2_0 : Int32) (t2_1 : Int32) (t3_0 : (Nat → Int32)) (t4_0 : Int32) (t4_1 : Int32) (t5_0 : (Nat → Int32)) (t6_0 : Int32) (t6_1 : Int32) (t7_0 : (Nat → Int32)) : Int32 × Int32 × Int32 × (Nat → Int32) × Int32 × Int32 × (Nat → Int32) × Int32 × Int32 × (Nat → Int32) := F_Flo_nextFigure_c10 A B C t0_0 t0_1 t1_0 t2_0 t2_1 t3_0 t4_0 t4_1 t5_0 t6_0 t6_1 t7_0 ((F_Big_multiplySmall (220 : Int32) (10 : Int32) (0 : Int32) t0_0 t0_1 t1_0) : (Int32 × Int32 × (Nat → Int32)))
set_option maxRecDepth 100000 in
set_option maxHeartbeats 4000000 in
theorem X_Flo_nextFigure (l : Launch) (D : va_G) (g : Nat → ClassId) (q : Nat → Nat) (ws : va_W) (k1 : Nat) (A B C : Int32) (hB1 : q_isFlo (nsh g q) q k1 A B C) (hI : q_I (nsh g q) q ws) (t0_0 : Int32) (t0_1 : Int32) (hT0 : ws[22]? = (some (q 22, .inr (2, [.ref (q 23), .int t0_0, .int t0_1])) : Option (Nat × va_E))) (t1_0 : (Nat → Int32)) (hT1 : ws[23]? = (some (q 23, .inl (g 0, (220 : Int32).toNatClampNeg, .inl t1_0)) : Option (Nat × va_E))) (t2_0 : Int32) (t2_1 : Int32) (hT2 : ws[24]? = (some (q 24, .inr (2, [.ref (q 25), .int t2_0, .int t2_1])) : Option (Nat × va_E))) (t3_0 : (Nat → Int32)) (hT3 : ws[25]? = (some (q 25, .inl (g 0, (220 : Int32).toNatClampNeg, .inl t3_0)) : Option (Nat × va_E))) (t4_0 : Int32) (t4_1 : Int32) (hT4 : ws[26]? = (some (q 26, .inr (2, [.ref (q 27), .int t4_0, .int t4_1])) : Option (Nat × va_E))) (t5_0 : (Nat → Int32)) (hT5 : ws[27]? = (some (q 27, .inl (g 0, (220 : Int32).toNatClampNeg, .inl t5_0)) : Option (Nat × va_E))) (t6_0 : Int32) (t6_1 : Int32) (hT6 : ws[28]? = (some (q 28, .inr (2, [.ref (q 29), .int t6_0, .int t6_1])) : Option (Nat × va_E))) (t7_0 : (Nat → Int32)) (hT7 : ws[29]? = (some (q 29, .inl (g 0, (220 : Int32).toNatClampNeg, .inl t7_0)) : Option (Nat × va_E))) : q_mI l y_Flo_nextFigure prog_7_method_21_code 2 (.int) 3 0 0 D g [.ref (q k1)] ws (fun r u => q_I (nsh g q) q u ∧ q_un ws u [22, 23, 26, 27, 28, 29] ∧ ∃ (u0_0 : Int32) (u0_1 : Int32) (u1_0 : (Nat → Int32)) (u4_0 : Int32) (u4_1 : Int32) (u5_0 : (Nat → Int32)) (u6_0 : Int32) (u6_1 : Int32) (u7_0 : (Nat → Int32)), u[22]? = (some (q 22, .inr (2, [.ref (q 23), .int u0_0, .int u0_1])) : Option (Nat × va_E)) ∧ u[23]? = (some (q 23, .inl (g 0, (220 : Int32).toNatClampNeg, .inl u1_0)) : Option (Nat × va_E)) ∧ u[26]? = (some (q 26, .inr (2, [.ref (q 27), .int u4_0, .int u4_1])) : Option (Nat × va_E)) ∧ u[27]? = (some (q 27, .inl (g 0, (220 : Int32).toNatClampNeg, .inl u5_0)) : Option (Nat × va_E)) ∧ u[28]? = (some (q 28, .inr (2, [.ref (q 29), .int u6_0, .int u6_1])) : Option (Nat × va_E)) ∧ u[29]? = (some (q 29, .inl (g 0, (220 : Int32).toNatClampNeg, .inl u7_0)) : Option (Nat × va_E)) ∧ (0 ≤ r.toInt) ∧ (r.toInt ≤ 9) ∧ (0 ≤ u0_0.toInt) ∧ (u0_0.toInt ≤ 220) ∧ (0 ≤ u0_1.toInt) ∧ (u4_0.toInt ≤ 220) ∧ (u6_0.toInt ≤ 220) ∧ (u0_0.toInt ≤ t0_0.toInt + 1) ∧ (u0_1.toInt ≤ t0_1.toInt) ∧ (t4_0.toInt ≤ u4_0.toInt) ∧ (u4_0.toInt ≤ t4_0.toInt + 1) ∧ (t4_1.toInt ≤ u4_1.toInt) ∧ (u4_1.toInt ≤ t4_1.toInt) ∧ (t6_0.toInt ≤ u6_0.toInt) ∧ (u6_0.toInt ≤ t6_0.toInt + 1) ∧ (t6_1.toInt ≤ u6_1.toInt) ∧ (u6_1.toInt ≤ t6_1.toInt) ∧ (r, u0_0, u0_1, u1_0, u4_0, u4_1, u5_0, u6_0, u6_1, u7_0) = (F_Flo_nextFigure A B C t0_0 t0_1 t1_0 t2_0 t2_1 t3_0 t4_0 t4_1 t5_0 t6_0 t6_1 t7_0)) := by
  intro sz
  refine q_into (by decide) (Nat.le_of_ble_eq_true rfl) ?_
  intro p e s m below meth c ls hsz C0 V hl
  have hx := C0.1
  have hb := C0.2.1
  obtain ⟨btt0_0, btt0_1⟩ := q_bigW hI (n_b22 g q) hT0
  replace btt0_0 : q_F (0 ≤ t0_0.toInt ∧ t0_0.toInt ≤ 220) := btt0_0
  replace btt0_1 : q_F (0 ≤ t0_1.toInt ∧ t0_1.toInt ≤ 1) := btt0_1
  have btt2_1 := (q_bigW hI (n_b24 g q) hT2).2
  clear btt2_1
  have btt4_1 := (q_bigW hI (n_b26 g q) hT4).2
  clear btt4_1
  have btt6_1 := (q_bigW hI (n_b28 g q) hT6).2
  clear btt6_1
  have hF : q_un ws ws [22, 23, 26, 27, 28, 29] := q_u0
  have hl : lv_has ls 2 [(0, .ref (q k1))] := hl
  refine lv_aload_n hx hb d_7_21_0 rfl (lv_at hl 0 rfl) ?_
  obtain ⟨y34, y35, y36, hO33⟩ := n_flO hI hB1
  refine q_get (ci := 6) (j := 5) (v := .ref (q 9)) C0 V i_Flo rfl rfl hO33 (by decide) w_241 rfl d_7_21_1 ?_
  have hO37 := n_o9 hI
  refine q_get (ci := 4) (j := 6) (v := .ref (q 22)) C0 V i_Mil rfl rfl hO37 (by decide) w_127 rfl d_7_21_4 ?_
  refine lv_bipush (v := 10) hx hb d_7_21_7 (by decide) ?_
  refine lv_iconst (v := 0) hx hb d_7_21_9 (by decide) ?_
  refine q_gov V (q_runV (As := [.int 10, .int 0]) (rest := []) (d := 1) (mc := 0) (ms := 0) (ci := 2) C0 V rfl LV_Flo_190 (X_Big_multiplySmall l D g q ws 22 220 (n_b22 g q) (by decide) 10 0 hI t0_0 t0_1 hT0 t1_0 hT1  _) rfl rfl hT0 rfl hl.1 rfl (Nat.le_of_ble_eq_true rfl) ⟨by decide, by decide⟩ ⟨Nat.le_of_ble_eq_true rfl, Nat.le_of_ble_eq_true rfl⟩ d_7_21_10) (fun u38 H locs hp39 V => ?_)
  obtain ⟨hI, hZ9⟩ := hp39
  obtain ⟨hu51, hZ9⟩ := hZ9
  obtain ⟨y41, hZ9⟩ := hZ9
  obtain ⟨y42, hZ9⟩ := hZ9
  obtain ⟨f43, hZ9⟩ := hZ9
  obtain ⟨hO40, hZ9⟩ := hZ9
  obtain ⟨hA44, hZ9⟩ := hZ9
  obtain ⟨b45, hZ9⟩ := hZ9
  obtain ⟨b46, hZ9⟩ := hZ9
  obtain ⟨b47, hZ9⟩ := hZ9
  obtain ⟨b48, hZ9⟩ := hZ9
  obtain ⟨b49, hE50⟩ := hZ9
  replace hO40 : u38[22]? = (some (q 22, .inr (2, [.ref (q 23), .int y41, .int y42])) : Option (Nat × va_E)) := hO40
  replace hA44 : u38[23]? = (some (q 23, .inl (g 0, (220 : Int32).toNatClampNeg, .inl f43)) : Option (Nat × va_E)) := hA44
  obtain ⟨p52, e53⟩ : ∃ z, z = (F_Big_multiplySmall (220 : Int32) (10 : Int32) (0 : Int32) t0_0 t0_1 t1_0) := ⟨_, rfl⟩
  have e54 : y41 = p52.1 := congrArg (fun z => z.1) (hE50.trans e53.symm)
  have e55 : y42 = p52.2.1 := congrArg (fun z => z.2.1) (hE50.trans e53.symm)
  have e56 : f43 = p52.2.2 := congrArg (fun z => z.2.2) (hE50.trans e53.symm)
  replace b45 : q_F (t0_0.toInt ≤ y41.toInt) := b45
  replace b46 : q_F (y41.toInt ≤ t0_0.toInt + 1) := b46
  replace b47 : q_F (y41.toInt ≤ 220) := b47
  replace b48 : q_F (t0_1.toInt ≤ y42.toInt) := b48
  replace b49 : q_F (y42.toInt ≤ t0_1.toInt) := b49
  replace hT2 := (hu51 _ (by decide)).trans hT2
  replace hT3 := (hu51 _ (by decide)).trans hT3
  replace hT4 := (hu51 _ (by decide)).trans hT4
  replace hT5 := (hu51 _ (by decide)).trans hT5
  replace hT6 := (hu51 _ (by decide)).trans hT6
  replace hT7 := (hu51 _ (by decide)).trans hT7
  replace hO33 := (hu51 _ (by have z0 := hB1.2.2.2.2; simp only [List.mem_cons, List.not_mem_nil, or_false, not_or]; omega)).trans hO33
  replace hO37 := (hu51 _ (by decide)).trans hO37
  replace hF := q_uc hF hu51 (by simp)
  have hR57 := (show F_Flo_nextFigure_c10 A B C t0_0 t0_1 t1_0 t2_0 t2_1 t3_0 t4_0 t4_1 t5_0 t6_0 t6_1 t7_0 p52 = (F_Flo_nextFigure A B C t0_0 t0_1 t1_0 t2_0 t2_1 t3_0 t4_0 t4_1 t5_0 t6_0 t6_1 t7_0) from (by rw [e53, F_Flo_nextFigure.eq_1]))
  refine lv_aload_n hx hb d_7_21_13 rfl (lv_at hl 0 rfl) ?_
  refine q_get (ci := 6) (j := 5) (v := .ref (q 9)) C0 V i_Flo rfl rfl hO33 (by decide) w_241 rfl d_7_21_14 ?_
  refine q_get (ci := 4) (j := 8) (v := .ref (q 26)) C0 V i_Mil rfl rfl hO37 (by decide) w_132 rfl d_7_21_17 ?_
  refine lv_bipush (v := 10) hx hb d_7_21_20 (by decide) ?_
  refine lv_iconst (v := 0) hx hb d_7_21_22 (by decide) ?_
  refine q_gov V (q_runV (As := [.int 10, .int 0]) (rest := []) (d := 1) (mc := 0) (ms := 0) (ci := 2) C0 V rfl LV_Flo_190 (X_Big_multiplySmall l D g q u38 26 220 (n_b26 g q) (by decide) 10 0 hI t4_0 t4_1 hT4 t5_0 hT5  _) rfl rfl hT4 rfl hl.1 rfl (Nat.le_of_ble_eq_true rfl) ⟨by decide, by decide⟩ ⟨Nat.le_of_ble_eq_true rfl, Nat.le_of_ble_eq_true rfl⟩ d_7_21_23) (fun u62 H locs hp63 V => ?_)
  obtain ⟨hI, hZ9⟩ := hp63
  obtain ⟨hu75, hZ9⟩ := hZ9
  obtain ⟨y65, hZ9⟩ := hZ9
  obtain ⟨y66, hZ9⟩ := hZ9
  obtain ⟨f67, hZ9⟩ := hZ9
  obtain ⟨hO64, hZ9⟩ := hZ9
  obtain ⟨hA68, hZ9⟩ := hZ9
  obtain ⟨b69, hZ9⟩ := hZ9
  obtain ⟨b70, hZ9⟩ := hZ9
  obtain ⟨b71, hZ9⟩ := hZ9
  obtain ⟨b72, hZ9⟩ := hZ9
  obtain ⟨b73, hE74⟩ := hZ9
  replace hO64 : u62[26]? = (some (q 26, .inr (2, [.ref (q 27), .int y65, .int y66])) : Option (Nat × va_E)) := hO64
  replace hA68 : u62[27]? = (some (q 27, .inl (g 0, (220 : Int32).toNatClampNeg, .inl f67)) : Option (Nat × va_E)) := hA68
  obtain ⟨p76, e77⟩ : ∃ z, z = (F_Big_multiplySmall (220 : Int32) (10 : Int32) (0 : Int32) t4_0 t4_1 t5_0) := ⟨_, rfl⟩
  have e78 : y65 = p76.1 := congrArg (fun z => z.1) (hE74.trans e77.symm)
  have e79 : y66 = p76.2.1 := congrArg (fun z => z.2.1) (hE74.trans e77.symm)
  have e80 : f67 = p76.2.2 := congrArg (fun z => z.2.2) (hE74.trans e77.symm)
  replace b69 : q_F (t4_0.toInt ≤ y65.toInt) := b69
  replace b70 : q_F (y65.toInt ≤ t4_0.toInt + 1) := b70
  replace b71 : q_F (y65.toInt ≤ 220) := b71
  replace b72 : q_F (t4_1.toInt ≤ y66.toInt) := b72
  replace b73 : q_F (y66.toInt ≤ t4_1.toInt) := b73
  replace hO40 := (hu75 _ (by decide)).trans hO40
  replace hA44 := (hu75 _ (by decide)).trans hA44
  replace hT2 := (hu75 _ (by decide)).trans hT2
  replace hT3 := (hu75 _ (by decide)).trans hT3
  replace hT6 := (hu75 _ (by decide)).trans hT6
  replace hT7 := (hu75 _ (by decide)).trans hT7
  replace hO33 := (hu75 _ (by have z0 := hB1.2.2.2.2; simp only [List.mem_cons, List.not_mem_nil, or_false, not_or]; omega)).trans hO33
  replace hO37 := (hu75 _ (by decide)).trans hO37
  replace hF := q_uc hF hu75 (by simp)
  have hR81 := (show F_Flo_nextFigure_c23 A B C t0_0 t0_1 t1_0 t2_0 t2_1 t3_0 t4_0 t4_1 t5_0 t6_0 t6_1 t7_0 p52 y41 y42 f43 p76 = (F_Flo_nextFigure A B C t0_0 t0_1 t1_0 t2_0 t2_1 t3_0 t4_0 t4_1 t5_0 t6_0 t6_1 t7_0) from Eq.trans (by rw [e77, e56, e55, e54, F_Flo_nextFigure_c10.eq_1]) hR57)
  refine lv_aload_n hx hb d_7_21_26 rfl (lv_at hl 0 rfl) ?_
  refine q_get (ci := 6) (j := 5) (v := .ref (q 9)) C0 V i_Flo rfl rfl hO33 (by decide) w_241 rfl d_7_21_27 ?_
  refine q_get (ci := 4) (j := 9) (v := .ref (q 28)) C0 V i_Mil rfl rfl hO37 (by decide) w_134 rfl d_7_21_30 ?_
  refine lv_bipush (v := 10) hx hb d_7_21_33 (by decide) ?_
  refine lv_iconst (v := 0) hx hb d_7_21_35 (by decide) ?_
  refine q_gov V (q_runV (As := [.int 10, .int 0]) (rest := []) (d := 1) (mc := 0) (ms := 0) (ci := 2) C0 V rfl LV_Flo_190 (X_Big_multiplySmall l D g q u62 28 220 (n_b28 g q) (by decide) 10 0 hI t6_0 t6_1 hT6 t7_0 hT7  _) rfl rfl hT6 rfl hl.1 rfl (Nat.le_of_ble_eq_true rfl) ⟨by decide, by decide⟩ ⟨Nat.le_of_ble_eq_true rfl, Nat.le_of_ble_eq_true rfl⟩ d_7_21_36) (fun u86 H locs hp87 V => ?_)
  obtain ⟨hI, hZ9⟩ := hp87
  obtain ⟨hu99, hZ9⟩ := hZ9
  obtain ⟨y89, hZ9⟩ := hZ9
  obtain ⟨y90, hZ9⟩ := hZ9
  obtain ⟨f91, hZ9⟩ := hZ9
  obtain ⟨hO88, hZ9⟩ := hZ9
  obtain ⟨hA92, hZ9⟩ := hZ9
  obtain ⟨b93, hZ9⟩ := hZ9
  obtain ⟨b94, hZ9⟩ := hZ9
  obtain ⟨b95, hZ9⟩ := hZ9
  obtain ⟨b96, hZ9⟩ := hZ9
  obtain ⟨b97, hE98⟩ := hZ9
  replace hO88 : u86[28]? = (some (q 28, .inr (2, [.ref (q 29), .int y89, .int y90])) : Option (Nat × va_E)) := hO88
  replace hA92 : u86[29]? = (some (q 29, .inl (g 0, (220 : Int32).toNatClampNeg, .inl f91)) : Option (Nat × va_E)) := hA92
  obtain ⟨p100, e101⟩ : ∃ z, z = (F_Big_multiplySmall (220 : Int32) (10 : Int32) (0 : Int32) t6_0 t6_1 t7_0) := ⟨_, rfl⟩
  have e102 : y89 = p100.1 := congrArg (fun z => z.1) (hE98.trans e101.symm)
  have e103 : y90 = p100.2.1 := congrArg (fun z => z.2.1) (hE98.trans e101.symm)
  have e104 : f91 = p100.2.2 := congrArg (fun z => z.2.2) (hE98.trans e101.symm)
  replace b93 : q_F (t6_0.toInt ≤ y89.toInt) := b93
  replace b94 : q_F (y89.toInt ≤ t6_0.toInt + 1) := b94
  replace b95 : q_F (y89.toInt ≤ 220) := b95
  replace b96 : q_F (t6_1.toInt ≤ y90.toInt) := b96
  replace b97 : q_F (y90.toInt ≤ t6_1.toInt) := b97
  replace hO40 := (hu99 _ (by decide)).trans hO40
  replace hA44 := (hu99 _ (by decide)).trans hA44
  replace hT2 := (hu99 _ (by decide)).trans hT2
  replace hT3 := (hu99 _ (by decide)).trans hT3
  replace hO64 := (hu99 _ (by decide)).trans hO64
  replace hA68 := (hu99 _ (by decide)).trans hA68
  replace hF := q_uc hF hu99 (by simp)
  have hR105 := (show F_Flo_nextFigure_c36 A B C t0_0 t0_1 t1_0 t2_0 t2_1 t3_0 t4_0 t4_1 t5_0 t6_0 t6_1 t7_0 p52 y41 y42 f43 p76 y65 y66 f67 p100 = (F_Flo_nextFigure A B C t0_0 t0_1 t1_0 t2_0 t2_1 t3_0 t4_0 t4_1 t5_0 t6_0 t6_1 t7_0) from Eq.trans (by rw [e101, e80, e79, e78, F_Flo_nextFigure_c23.eq_1]) hR81)
  refine lv_iconst (v := 0) hx hb d_7_21_39 (by decide) ?_
  refine lv_istore_n (lv' := [(1, .int 0), (0, .ref (q k1))]) hx hb d_7_21_40 rfl hl (by decide) rfl (fun ls hl => ?_)
  refine q_loop (X := Int32 × Int32 × Int32 × (Nat → Int32)) (fun z H locs ls w123 => q_F (z.1.toInt ≤ 9) ∧ q_F (0 ≤ z.2.2.1.toInt) ∧ q_F (z.2.1.toInt ≤ y41.toInt) ∧ q_F (z.2.2.1.toInt ≤ y42.toInt) ∧ q_F (z.2.2.1.toInt ≤ z.2.1.toInt + 1) ∧ q_F (0 ≤ z.2.1.toInt + z.2.2.1.toInt) ∧ q_F (y42.toInt ≤ z.1.toInt + z.2.2.1.toInt) ∧ q_Wd D g (va_A ws sz) s w123 H locs ∧ lv_has ls 2 [(1, .int z.1), (0, .ref (q k1))] ∧ q_I (nsh g q) q w123 ∧ q_un ws w123 [22, 23, 26, 27, 28, 29] ∧ w123[22]? = (some (q 22, .inr (2, [.ref (q 23), .int z.2.1, .int z.2.2.1])) : Option (Nat × va_E)) ∧ w123[23]? = (some (q 23, .inl (g 0, (220 : Int32).toNatClampNeg, .inl z.2.2.2)) : Option (Nat × va_E)) ∧ w123[24]? = (some (q 24, .inr (2, [.ref (q 25), .int t2_0, .int t2_1])) : Option (Nat × va_E)) ∧ w123[25]? = (some (q 25, .inl (g 0, (220 : Int32).toNatClampNeg, .inl t3_0)) : Option (Nat × va_E)) ∧ w123[26]? = (some (q 26, .inr (2, [.ref (q 27), .int y65, .int y66])) : Option (Nat × va_E)) ∧ w123[27]? = (some (q 27, .inl (g 0, (220 : Int32).toNatClampNeg, .inl f67)) : Option (Nat × va_E)) ∧ w123[28]? = (some (q 28, .inr (2, [.ref (q 29), .int y89, .int y90])) : Option (Nat × va_E)) ∧ w123[29]? = (some (q 29, .inl (g 0, (220 : Int32).toNatClampNeg, .inl f91)) : Option (Nat × va_E)) ∧ (∃ n, (9 - z.1.toInt).toNat < n ∧ F_Flo_nextFigure_L41 A B C t0_0 t0_1 t1_0 t2_0 t2_1 t3_0 t4_0 t4_1 t5_0 t6_0 t6_1 t7_0 p52 y41 y42 f43 p76 y65 y66 f67 p100 y89 y90 f91 n z.1 z.2.1 z.2.2.1 z.2.2.2 = (F_Flo_nextFigure A B C t0_0 t0_1 t1_0 t2_0 t2_1 t3_0 t4_0 t4_1 t5_0 t6_0 t6_1 t7_0))) (fun z => (9 - z.1.toInt).toNat) ?_ ((0 : Int32), (y41 : Int32), (y42 : Int32), (f43 : (Nat → Int32))) _ _ _ u86 ⟨(show q_F (0 ≤ 9) from (show 0 ≤ 9 from by omega)), (show q_F (0 ≤ y42.toInt) from (show 0 ≤ y42.toInt from by have t1 : 0 ≤ t0_1.toInt ∧ t0_1.toInt ≤ 1 := btt0_1; have t2 : t0_1.toInt ≤ y42.toInt := b48; omega)), (show q_F (y41.toInt ≤ y41.toInt) from (show y41.toInt ≤ y41.toInt from by omega)), (show q_F (y42.toInt ≤ y42.toInt) from (show y42.toInt ≤ y42.toInt from by omega)), (show q_F (y42.toInt ≤ y41.toInt + 1) from (show y42.toInt ≤ y41.toInt + 1 from by have t1 : 0 ≤ t0_0.toInt ∧ t0_0.toInt ≤ 220 := btt0_0; have t2 : 0 ≤ t0_1.toInt ∧ t0_1.toInt ≤ 1 := btt0_1; have t3 : t0_0.toInt ≤ y41.toInt := b45; have t4 : y42.toInt ≤ t0_1.toInt := b49; omega)), (show q_F (0 ≤ y41.toInt + y42.toInt) from (show 0 ≤ y41.toInt + y42.toInt from by have t1 : 0 ≤ t0_0.toInt ∧ t0_0.toInt ≤ 220 := btt0_0; have t2 : 0 ≤ t0_1.toInt ∧ t0_1.toInt ≤ 1 := btt0_1; have t3 : t0_0.toInt ≤ y41.toInt := b45; have t4 : t0_1.toInt ≤ y42.toInt := b48; omega)), (show q_F (y42.toInt ≤ 0 + y42.toInt) from (show y42.toInt ≤ 0 + y42.toInt from by omega)), V, q_lw hl (q_lw1 0 rfl (q_lw1 1 rfl q_lw0)), hI, hF, hO40, hA44, hT2, hT3, hO64, hA68, hO88, hA92, ⟨((9 - (0 : Int32).toInt).toNat + 1), Nat.lt_succ_self _, (show F_Flo_nextFigure_L41 A B C t0_0 t0_1 t1_0 t2_0 t2_1 t3_0 t4_0 t4_1 t5_0 t6_0 t6_1 t7_0 p52 y41 y42 f43 p76 y65 y66 f67 p100 y89 y90 f91 ((9 - (0 : Int32).toInt).toNat + 1) 0 y41 y42 f43 = (F_Flo_nextFigure A B C t0_0 t0_1 t1_0 t2_0 t2_1 t3_0 t4_0 t4_1 t5_0 t6_0 t6_1 t7_0) from Eq.trans (by rw [e104, e103, e102, F_Flo_nextFigure_c36.eq_1]) hR105)⟩⟩
  rintro ⟨lx111, lx112, lx113, lx114⟩ H locs ls w123 ⟨i115, i116, i117, i118, i119, i120, i121, V, hl, hI, hF, hO124, hO125, hO126, hO127, hO128, hO129, hO130, hO131, ⟨fu134, hf135, hR132⟩⟩ ih122
  obtain ⟨fm136, rfl⟩ : ∃ m, fu134 = m + 1 := ⟨fu134 - 1, by omega⟩
  replace i115 : q_F (lx111.toInt ≤ 9) := i115
  replace i116 : q_F (0 ≤ lx113.toInt) := i116
  replace i117 : q_F (lx112.toInt ≤ y41.toInt) := i117
  replace i118 : q_F (lx113.toInt ≤ y42.toInt) := i118
  replace i119 : q_F (lx113.toInt ≤ lx112.toInt + 1) := i119
  replace i120 : q_F (0 ≤ lx112.toInt + lx113.toInt) := i120
  replace i121 : q_F (y42.toInt ≤ lx111.toInt + lx113.toInt) := i121
  replace hl : lv_has ls 2 [(1, .int lx111), (0, .ref (q k1))] := hl
  replace hO124 : w123[22]? = (some (q 22, .inr (2, [.ref (q 23), .int lx112, .int lx113])) : Option (Nat × va_E)) := hO124
  replace hO125 : w123[23]? = (some (q 23, .inl (g 0, (220 : Int32).toNatClampNeg, .inl lx114)) : Option (Nat × va_E)) := hO125
  replace hO126 : w123[24]? = (some (q 24, .inr (2, [.ref (q 25), .int t2_0, .int t2_1])) : Option (Nat × va_E)) := hO126
  replace hO127 : w123[25]? = (some (q 25, .inl (g 0, (220 : Int32).toNatClampNeg, .inl t3_0)) : Option (Nat × va_E)) := hO127
  replace hO128 : w123[26]? = (some (q 26, .inr (2, [.ref (q 27), .int y65, .int y66])) : Option (Nat × va_E)) := hO128
  replace hO129 : w123[27]? = (some (q 27, .inl (g 0, (220 : Int32).toNatClampNeg, .inl f67)) : Option (Nat × va_E)) := hO129
  replace hO130 : w123[28]? = (some (q 28, .inr (2, [.ref (q 29), .int y89, .int y90])) : Option (Nat × va_E)) := hO130
  replace hO131 : w123[29]? = (some (q 29, .inl (g 0, (220 : Int32).toNatClampNeg, .inl f91)) : Option (Nat × va_E)) := hO131
  refine lv_iload_n hx hb d_7_21_41 rfl (lv_at hl 0 rfl) ?_
  refine lv_bipush (v := 9) hx hb d_7_21_42 (by decide) ?_
  refine lv_icmp_ge (tgt := 90) hx hb d_7_21_44 (by decide) (fun c137 => ?_) (fun c137 => ?_)
  ·
    have b138 : q_F (9 ≤ lx111.toInt) := (q_leI c137)
    refine lv_iload_n hx hb d_7_21_90 rfl (lv_at hl 0 rfl) ?_
    exact q_reti C0 V (⟨hI, hF, lx112, lx113, lx114, y65, y66, f67, y89, y90, f91, hO124, hO125, hO128, hO129, hO130, hO131, (show 0 ≤ lx111.toInt from (by first | with_reducible exact q_fe b138 | (have t1 : 9 ≤ lx111.toInt := b138; omega))), (show lx111.toInt ≤ 9 from (by first | with_reducible exact q_fe i115 | (have t1 : lx111.toInt ≤ 9 := i115; omega))), (show 0 ≤ lx112.toInt from (by have t1 : lx113.toInt ≤ lx112.toInt + 1 := i119; have t2 : 0 ≤ lx112.toInt + lx113.toInt := i120; omega)), (show lx112.toInt ≤ 220 from (by have t1 : y41.toInt ≤ 220 := b47; have t2 : lx112.toInt ≤ y41.toInt := i117; omega)), (show 0 ≤ lx113.toInt from (by first | with_reducible exact q_fe i116 | (have t1 : 0 ≤ lx113.toInt := i116; omega))), (show y65.toInt ≤ 220 from (by first | with_reducible exact q_fe b71 | (have t1 : y65.toInt ≤ 220 := b71; omega))), (show y89.toInt ≤ 220 from (by first | with_reducible exact q_fe b95 | (have t1 : y89.toInt ≤ 220 := b95; omega))), (show lx112.toInt ≤ t0_0.toInt + 1 from (by have t1 : y41.toInt ≤ t0_0.toInt + 1 := b46; have t2 : lx112.toInt ≤ y41.toInt := i117; omega)), (show lx113.toInt ≤ t0_1.toInt from (by have t1 : y42.toInt ≤ t0_1.toInt := b49; have t2 : lx113.toInt ≤ y42.toInt := i118; omega)), (show t4_0.toInt ≤ y65.toInt from (by first | with_reducible exact q_fe b69 | (have t1 : t4_0.toInt ≤ y65.toInt := b69; omega))), (show y65.toInt ≤ t4_0.toInt + 1 from (by first | with_reducible exact q_fe b70 | (have t1 : y65.toInt ≤ t4_0.toInt + 1 := b70; omega))), (show t4_1.toInt ≤ y66.toInt from (by first | with_reducible exact q_fe b72 | (have t1 : t4_1.toInt ≤ y66.toInt := b72; omega))), (show y66.toInt ≤ t4_1.toInt from (by first | with_reducible exact q_fe b73 | (have t1 : y66.toInt ≤ t4_1.toInt := b73; omega))), (show t6_0.toInt ≤ y89.toInt from (by first | with_reducible exact q_fe b93 | (have t1 : t6_0.toInt ≤ y89.toInt := b93; omega))), (show y89.toInt ≤ t6_0.toInt + 1 from (by first | with_reducible exact q_fe b94 | (have t1 : y89.toInt ≤ t6_0.toInt + 1 := b94; omega))), (show t6_1.toInt ≤ y90.toInt from (by first | with_reducible exact q_fe b96 | (have t1 : t6_1.toInt ≤ y90.toInt := b96; omega))), (show y90.toInt ≤ t6_1.toInt from (by first | with_reducible exact q_fe b97 | (have t1 : y90.toInt ≤ t6_1.toInt := b97; omega))), (show (lx111, lx112, lx113, lx114, y65, y66, f67, y89, y90, f91) = (F_Flo_nextFigure A B C t0_0 t0_1 t1_0 t2_0 t2_1 t3_0 t4_0 t4_1 t5_0 t6_0 t6_1 t7_0) from Eq.trans (by rw [F_Flo_nextFigure_L41.eq_2, if_pos c137]) hR132)⟩) d_7_21_91
  ·
    have b139 : q_F (lx111.toInt < 9) := (q_nleI c137)
    refine lv_aload_n hx hb d_7_21_47 rfl (lv_at hl 1 rfl) ?_
    obtain ⟨y141, y142, y143, hO140⟩ := n_flO hI hB1
    refine q_get (ci := 6) (j := 5) (v := .ref (q 9)) C0 V i_Flo rfl rfl hO140 (by decide) w_241 rfl d_7_21_48 ?_
    have hO144 := n_o9 hI
    refine q_get (ci := 4) (j := 6) (v := .ref (q 22)) C0 V i_Mil rfl rfl hO144 (by decide) w_127 rfl d_7_21_51 ?_
    refine lv_aload_n hx hb d_7_21_54 rfl (lv_at hl 1 rfl) ?_
    refine q_get (ci := 6) (j := 5) (v := .ref (q 9)) C0 V i_Flo rfl rfl hO140 (by decide) w_241 rfl d_7_21_55 ?_
    refine q_get (ci := 4) (j := 7) (v := .ref (q 24)) C0 V i_Mil rfl rfl hO144 (by decide) w_130 rfl d_7_21_58 ?_
    refine q_goi V (q_runV (As := [.ref (q 24)]) (rest := []) (d := 2) (mc := 0) (ms := 0) (ci := 2) C0 V rfl LV_Flo_162 (X_Big_compareSize l D g q w123 22 220 (n_b22 g q) (by decide) 24 220 (n_b24 g q) (by decide)  hI lx112 lx113 hO124 lx114 hO125 t2_0 t2_1 hO126 t3_0 hO127  _) rfl rfl hO124 rfl hl.1 rfl (Nat.le_of_ble_eq_true rfl) ⟨by decide, by decide⟩ ⟨Nat.le_of_ble_eq_true rfl, Nat.le_of_ble_eq_true rfl⟩ d_7_21_61) (fun a147 u145 H locs hp146 V => ?_)
    obtain ⟨rfl, b148, b149, hE150⟩ := hp146
    have e151 : a147 = (F_Big_compareSize (220 : Int32) (220 : Int32) lx112 lx113 lx114 t2_0 t2_1 t3_0) := hE150
    clear b148
    clear b149
    refine lv_if_lt (tgt := 90) hx hb d_7_21_64 (by decide) (fun c152 => ?_) (fun c152 => ?_)
    ·
      refine lv_iload_n hx hb d_7_21_90 rfl (lv_at hl 0 rfl) ?_
      exact q_reti C0 V (⟨hI, hF, lx112, lx113, lx114, y65, y66, f67, y89, y90, f91, hO124, hO125, hO128, hO129, hO130, hO131, (show 0 ≤ lx111.toInt from (by have t1 : lx113.toInt ≤ y42.toInt := i118; have t2 : y42.toInt ≤ lx111.toInt + lx113.toInt := i121; omega)), (show lx111.toInt ≤ 9 from (by first | with_reducible exact q_fe i115 | (have t1 : lx111.toInt ≤ 9 := i115; omega))), (show 0 ≤ lx112.toInt from (by have t1 : lx113.toInt ≤ lx112.toInt + 1 := i119; have t2 : 0 ≤ lx112.toInt + lx113.toInt := i120; omega)), (show lx112.toInt ≤ 220 from (by have t1 : y41.toInt ≤ 220 := b47; have t2 : lx112.toInt ≤ y41.toInt := i117; omega)), (show 0 ≤ lx113.toInt from (by first | with_reducible exact q_fe i116 | (have t1 : 0 ≤ lx113.toInt := i116; omega))), (show y65.toInt ≤ 220 from (by first | with_reducible exact q_fe b71 | (have t1 : y65.toInt ≤ 220 := b71; omega))), (show y89.toInt ≤ 220 from (by first | with_reducible exact q_fe b95 | (have t1 : y89.toInt ≤ 220 := b95; omega))), (show lx112.toInt ≤ t0_0.toInt + 1 from (by have t1 : y41.toInt ≤ t0_0.toInt + 1 := b46; have t2 : lx112.toInt ≤ y41.toInt := i117; omega)), (show lx113.toInt ≤ t0_1.toInt from (by have t1 : y42.toInt ≤ t0_1.toInt := b49; have t2 : lx113.toInt ≤ y42.toInt := i118; omega)), (show t4_0.toInt ≤ y65.toInt from (by first | with_reducible exact q_fe b69 | (have t1 : t4_0.toInt ≤ y65.toInt := b69; omega))), (show y65.toInt ≤ t4_0.toInt + 1 from (by first | with_reducible exact q_fe b70 | (have t1 : y65.toInt ≤ t4_0.toInt + 1 := b70; omega))), (show t4_1.toInt ≤ y66.toInt from (by first | with_reducible exact q_fe b72 | (have t1 : t4_1.toInt ≤ y66.toInt := b72; omega))), (show y66.toInt ≤ t4_1.toInt from (by first | with_reducible exact q_fe b73 | (have t1 : y66.toInt ≤ t4_1.toInt := b73; omega))), (show t6_0.toInt ≤ y89.toInt from (by first | with_reducible exact q_fe b93 | (have t1 : t6_0.toInt ≤ y89.toInt := b93; omega))), (show y89.toInt ≤ t6_0.toInt + 1 from (by first | with_reducible exact q_fe b94 | (have t1 : y89.toInt ≤ t6_0.toInt + 1 := b94; omega))), (show t6_1.toInt ≤ y90.toInt from (by first | with_reducible exact q_fe b96 | (have t1 : t6_1.toInt ≤ y90.toInt := b96; omega))), (show y90.toInt ≤ t6_1.toInt from (by first | with_reducible exact q_fe b97 | (have t1 : y90.toInt ≤ t6_1.toInt := b97; omega))), (show (lx111, lx112, lx113, lx114, y65, y66, f67, y89, y90, f91) = (F_Flo_nextFigure A B C t0_0 t0_1 t1_0 t2_0 t2_1 t3_0 t4_0 t4_1 t5_0 t6_0 t6_1 t7_0) from Eq.trans (by have c152x := c152; rw [e151] at c152x; rw [F_Flo_nextFigure_L41.eq_2, if_neg c137, if_pos c152x]) hR132)⟩) d_7_21_91
    ·
      refine lv_aload_n hx hb d_7_21_67 rfl (lv_at hl 1 rfl) ?_
      refine q_get (ci := 6) (j := 5) (v := .ref (q 9)) C0 V i_Flo rfl rfl hO140 (by decide) w_241 rfl d_7_21_68 ?_
      refine q_get (ci := 4) (j := 6) (v := .ref (q 22)) C0 V i_Mil rfl rfl hO144 (by decide) w_127 rfl d_7_21_71 ?_
      refine lv_aload_n hx hb d_7_21_74 rfl (lv_at hl 1 rfl) ?_
      refine q_get (ci := 6) (j := 5) (v := .ref (q 9)) C0 V i_Flo rfl rfl hO140 (by decide) w_241 rfl d_7_21_75 ?_
      refine q_get (ci := 4) (j := 7) (v := .ref (q 24)) C0 V i_Mil rfl rfl hO144 (by decide) w_130 rfl d_7_21_78 ?_
      refine q_gov V (q_runV (As := [.ref (q 24)]) (rest := []) (d := 2) (mc := 0) (ms := 0) (ci := 2) C0 V rfl LV_Flo_194 (X_Big_subtractSize l D g q w123 22 220 (n_b22 g q) (by decide) 24 220 (n_b24 g q) (by decide)  (by decide) hI lx112 lx113 hO124 lx114 hO125 t2_0 t2_1 hO126 t3_0 hO127  _) rfl rfl hO124 rfl hl.1 rfl (Nat.le_of_ble_eq_true rfl) ⟨by decide, by decide⟩ ⟨Nat.le_of_ble_eq_true rfl, Nat.le_of_ble_eq_true rfl⟩ d_7_21_81) (fun u155 H locs hp156 V => ?_)
      obtain ⟨hI, hZ9⟩ := hp156
      obtain ⟨hu167, hZ9⟩ := hZ9
      obtain ⟨y158, hZ9⟩ := hZ9
      obtain ⟨y159, hZ9⟩ := hZ9
      obtain ⟨f160, hZ9⟩ := hZ9
      obtain ⟨hO157, hZ9⟩ := hZ9
      obtain ⟨hA161, hZ9⟩ := hZ9
      obtain ⟨b162, hZ9⟩ := hZ9
      obtain ⟨b163, hZ9⟩ := hZ9
      obtain ⟨b164, hZ9⟩ := hZ9
      obtain ⟨b165, hE166⟩ := hZ9
      replace hO157 : u155[22]? = (some (q 22, .inr (2, [.ref (q 23), .int y158, .int y159])) : Option (Nat × va_E)) := hO157
      replace hA161 : u155[23]? = (some (q 23, .inl (g 0, (220 : Int32).toNatClampNeg, .inl f160)) : Option (Nat × va_E)) := hA161
      obtain ⟨p168, e169⟩ : ∃ z, z = (F_Big_subtractSize (220 : Int32) (220 : Int32) lx112 lx113 lx114 t2_0 t2_1 t3_0) := ⟨_, rfl⟩
      have e170 : y158 = p168.1 := congrArg (fun z => z.1) (hE166.trans e169.symm)
      have e171 : y159 = p168.2.1 := congrArg (fun z => z.2.1) (hE166.trans e169.symm)
      have e172 : f160 = p168.2.2 := congrArg (fun z => z.2.2) (hE166.trans e169.symm)
      replace b162 : q_F (0 ≤ y159.toInt) := b162
      replace b163 : q_F (y158.toInt ≤ lx112.toInt) := b163
      replace b164 : q_F (y159.toInt ≤ lx113.toInt) := b164
      replace b165 : q_F (y159.toInt ≤ y158.toInt) := b165
      replace hO126 := (hu167 _ (by decide)).trans hO126
      replace hO127 := (hu167 _ (by decide)).trans hO127
      replace hO128 := (hu167 _ (by decide)).trans hO128
      replace hO129 := (hu167 _ (by decide)).trans hO129
      replace hO130 := (hu167 _ (by decide)).trans hO130
      replace hO131 := (hu167 _ (by decide)).trans hO131
      replace hF := q_uc hF hu167 (by simp)
      have hR173 := (show F_Flo_nextFigure_c81 (F_Flo_nextFigure_L41 A B C t0_0 t0_1 t1_0 t2_0 t2_1 t3_0 t4_0 t4_1 t5_0 t6_0 t6_1 t7_0 p52 y41 y42 f43 p76 y65 y66 f67 p100 y89 y90 f91 fm136) A B C t0_0 t0_1 t1_0 t2_0 t2_1 t3_0 t4_0 t4_1 t5_0 t6_0 t6_1 t7_0 p52 y41 y42 f43 p76 y65 y66 f67 p100 y89 y90 f91 lx111 lx112 lx113 lx114 p168 = (F_Flo_nextFigure A B C t0_0 t0_1 t1_0 t2_0 t2_1 t3_0 t4_0 t4_1 t5_0 t6_0 t6_1 t7_0) from Eq.trans (by have c152x := c152; rw [e151] at c152x; rw [e169, F_Flo_nextFigure_L41.eq_2, if_neg c137, if_neg c152x]) hR132)
      obtain ⟨a178, e179⟩ := q_nm (lx111 + 1 : Int32)
      have b180 : q_F (a178.toInt = lx111.toInt + 1) := (by rw [← e179]; exact q_addI (y := 1) rfl (by decide) (by have _ := q_lo32 (x := lx111); have _ := q_hi32 (x := lx111); have t1 : lx111.toInt ≤ 9 := i115; omega) (by have _ := q_lo32 (x := lx111); have _ := q_hi32 (x := lx111); have t1 : lx111.toInt ≤ 9 := i115; omega))
      refine lv_iinc (v := a178) (lv' := [(1, .int a178), (0, .ref (q k1))]) hx hb d_7_21_84 hl (k := 0) rfl (e179) (by decide) rfl (fun ls hl => ?_)
      refine lv_goto (tgt := 41) hx hb d_7_21_87 (by decide) ?_
      exact ih122 ((a178 : Int32), (y158 : Int32), (y159 : Int32), (f160 : (Nat → Int32))) _ _ _ _ (show (9 - a178.toInt).toNat < (9 - lx111.toInt).toNat from by have t1 : a178.toInt = lx111.toInt + 1 := b180; have t2 : lx111.toInt ≤ 9 := i115; have t3 : lx111.toInt < 9 := b139; omega) ⟨(show q_F (a178.toInt ≤ 9) from (show a178.toInt ≤ 9 from by have t1 : lx111.toInt < 9 := b139; have t2 : a178.toInt = lx111.toInt + 1 := b180; omega)), (show q_F (0 ≤ y159.toInt) from (show 0 ≤ y159.toInt from by have t1 : 0 ≤ y159.toInt := b162; omega)), (show q_F (y158.toInt ≤ y41.toInt) from (show y158.toInt ≤ y41.toInt from by have t1 : lx112.toInt ≤ y41.toInt := i117; have t2 : y158.toInt ≤ lx112.toInt := b163; omega)), (show q_F (y159.toInt ≤ y42.toInt) from (show y159.toInt ≤ y42.toInt from by have t1 : lx113.toInt ≤ y42.toInt := i118; have t2 : y159.toInt ≤ lx113.toInt := b164; omega)), (show q_F (y159.toInt ≤ y158.toInt + 1) from (show y159.toInt ≤ y158.toInt + 1 from by have t1 : y159.toInt ≤ y158.toInt := b165; omega)), (show q_F (0 ≤ y158.toInt + y159.toInt) from (show 0 ≤ y158.toInt + y159.toInt from by have t1 : 0 ≤ y159.toInt := b162; have t2 : y159.toInt ≤ y158.toInt := b165; omega)), (show q_F (y42.toInt ≤ a178.toInt + y159.toInt) from (show y42.toInt ≤ a178.toInt + y159.toInt from by have t1 : 0 ≤ t0_1.toInt ∧ t0_1.toInt ≤ 1 := btt0_1; have t2 : y42.toInt ≤ t0_1.toInt := b49; have t3 : lx113.toInt ≤ y42.toInt := i118; have t4 : y42.toInt ≤ lx111.toInt + lx113.toInt := i121; have t5 : 0 ≤ y159.toInt := b162; have t6 : a178.toInt = lx111.toInt + 1 := b180; omega)), V, q_lw hl (q_lw1 0 rfl (q_lw1 1 rfl q_lw0)), hI, hF, hO157, hA161, hO126, hO127, hO128, hO129, hO130, hO131, ⟨fm136, Nat.lt_of_lt_of_le (show (9 - a178.toInt).toNat < (9 - lx111.toInt).toNat from by have t1 : a178.toInt = lx111.toInt + 1 := b180; have t2 : lx111.toInt ≤ 9 := i115; have t3 : lx111.toInt < 9 := b139; omega) (Nat.le_of_lt_succ hf135), (show F_Flo_nextFigure_L41 A B C t0_0 t0_1 t1_0 t2_0 t2_1 t3_0 t4_0 t4_1 t5_0 t6_0 t6_1 t7_0 p52 y41 y42 f43 p76 y65 y66 f67 p100 y89 y90 f91 fm136 a178 y158 y159 f160 = (F_Flo_nextFigure A B C t0_0 t0_1 t1_0 t2_0 t2_1 t3_0 t4_0 t4_1 t5_0 t6_0 t6_1 t7_0) from Eq.trans (by rw [← e179, e172, e171, e170, F_Flo_nextFigure_c81.eq_1]) hR173)⟩⟩

