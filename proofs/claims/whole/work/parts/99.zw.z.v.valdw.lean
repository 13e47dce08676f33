/-! values, for whole: the reference's floats written to figures: from the figures set on -/
theorem V_scS {x2 : Int64} {x3 : Int32} {x4 : Int32} {x5 : Int32} {t0_0 : Int32} {t0_1 : Int32} {t0_2 : Int32} {t0_3 : Int32} {t0_4 : Int64} {t0_5 : Int32} {t0_6 : Int32} {t0_7 : Int64} {t0_8 : Int32} {t0_9 : Int64} {t0_10 : Int32} {t1_0 : (Nat → Int32)} {t2_0 : (Nat → Int32)} {t3_0 : (Nat → Int32)} {t4_0 : (Nat → Int32)} {t5_0 : (Nat → Int32)} {lx29 : Int32} {p81 : (Int32 × Int32 × Int32 × Int32 × Int64 × Int32 × Int32 × Int64 × Int32 × Int64 × Int32)} {y47 : Int32} {y48 : Int32} {y49 : Int32} {y50 : Int32} {y51 : Int64} {y52 : Int32} {y53 : Int32} {y54 : Int64} {y55 : Int32} {y56 : Int64} {y57 : Int32} {lx106 : Int32} {p136 : ((Nat → Int32) × (Nat → Int32) × (Nat → Int32))} {f128 : (Nat → Int32)} {f130 : (Nat → Int32)} {f132 : (Nat → Int32)} {lx149 : Int32} {lx168 : Int32} {f192 : (Nat → Int32)} {lx203 : Int32} {p259 : (Int32 × Int32 × Int32 × Int32 × Int64 × Int32 × Int32 × Int64 × Int32 × Int64 × Int32 × (Nat → Int32))} {Y t al : Nat} (hv : yRw f192 Y) (h2 : lx203.toInt = (t : Int)) (ht : t ≤ 1403) (h4 : x4.toInt = (al : Int)) (hal1 : 1 ≤ al) (hal : al ≤ 800) : ∀ (n : Nat) (lx279 : Int32) (lx280 : Int32) (lx281 : Int32) (lx282 : Int32) (lx283 : Int32) (lx284 : Int64) (lx285 : Int32) (lx286 : Int32) (lx287 : Int64) (lx288 : Int32) (lx289 : Int64) (lx290 : Int32) (lx291 : (Nat → Int32)), ∀ (l : List Nat), lx279 = 0 → al < n → yRt lx281 lx291 l → l.length ≤ 100 → (F_FR_scientific_L186 x2 x3 x4 x5 t0_0 t0_1 t0_2 t0_3 t0_4 t0_5 t0_6 t0_7 t0_8 t0_9 t0_10 t1_0 t2_0 t3_0 t4_0 t5_0 lx29 p81 y47 y48 y49 y50 y51 y52 y53 y54 y55 y56 y57 lx106 p136 f128 f130 f132 lx149 lx168 f192 lx203 p259 n lx279 lx280 lx281 lx282 lx283 lx284 lx285 lx286 lx287 lx288 lx289 lx290 lx291).2.1 = lx280 ∧ yRt (F_FR_scientific_L186 x2 x3 x4 x5 t0_0 t0_1 t0_2 t0_3 t0_4 t0_5 t0_6 t0_7 t0_8 t0_9 t0_10 t1_0 t2_0 t3_0 t4_0 t5_0 lx29 p81 y47 y48 y49 y50 y51 y52 y53 y54 y55 y56 y57 lx106 p136 f128 f130 f132 lx149 lx168 f192 lx203 p259 n lx279 lx280 lx281 lx282 lx283 lx284 lx285 lx286 lx287 lx288 lx289 lx290 lx291).1 (F_FR_scientific_L186 x2 x3 x4 x5 t0_0 t0_1 t0_2 t0_3 t0_4 t0_5 t0_6 t0_7 t0_8 t0_9 t0_10 t1_0 t2_0 t3_0 t4_0 t5_0 lx29 p81 y47 y48 y49 y50 y51 y52 y53 y54 y55 y56 y57 lx106 p136 f128 f130 f132 lx149 lx168 f192 lx203 p259 n lx279 lx280 lx281 lx282 lx283 lx284 lx285 lx286 lx287 lx288 lx289 lx290 lx291).2.2.2.2.2.2.2.2.2.2.2.2.2.2.2.2 (l ++ (yHead Y (t + 1) al 0 ++ yE2 ((t : Int) - 1080))) := by
  have e48 : (48 : Int32).toInt = 48 := rfl
  have e1 : (1 : Int32).toInt = 1 := rfl
  have e0 : (0 : Int32).toInt = 0 := rfl
  intro n
  cases n with
  | zero =>
    intro lx279 lx280 lx281 lx282 lx283 lx284 lx285 lx286 lx287 lx288 lx289 lx290 lx291 l g1 g2
    omega
  | succ n =>
    intro lx279 lx280 lx281 lx282 lx283 lx284 lx285 lx286 lx287 lx288 lx289 lx290 lx291 l g1 g2 g5 g6
    subst g1
    rw [F_FR_scientific_L186.eq_2, if_neg (fun q => by have := q_leI q; omega)]
    have fg := V_figA (t0_0 := lx280) (t0_1 := lx281) (t0_2 := lx282) (t0_3 := lx283) (t0_4 := lx284) (t0_5 := lx285) (t0_6 := lx286) (t0_7 := lx287) (t0_8 := lx288) (t0_9 := lx289) (t0_10 := lx290) hv (y_scF (j := 0) h2 ht e0 (by omega)) (by omega)
    rw [show (t : Int) - 1080 - ((0 : Nat) : Int) + 1080 = ((t + 1 : Nat) : Int) - 1 from by omega] at fg
    have f9 := yFz_9 Y (((t + 1 : Nat) : Int) - 1)
    have ch : (48 + F_FR_figureAt (lx203 - 1080 - 0) lx280 lx281 lx282 lx283 lx284 lx285 lx286 lx287 lx288 lx289 lx290 f192).toInt = ((48 + yFz Y (((t + 1 : Nat) : Int) - 1) : Nat) : Int) := by
      rw [q_addI e48 fg (by omega) (by omega)]
      omega
    have w := V_rt g5 (by omega) ch
    unfold F_FR_add F_FR_scientific_c210 yHead
    rw [if_pos (rfl : (0 : Int32) = 0), show ((t + 1 : Nat) : Int) - 2 = (t : Int) - ((1 : Nat) : Int) from by omega]
    by_cases d : x4 ≤ 1
    · rw [if_pos d]
      have d := q_leI d
      have a1 : al = 1 := by omega
      rw [if_neg (fun q => by rcases q with q | q
                              · omega
                              · exact q rfl), List.append_nil, List.append_assoc, ← List.append_assoc]
      exact V_scM hv h2 ht h4 hal n (0 + 1) lx280 (lx281 + 1) lx282 lx283 lx284 lx285 lx286 lx287 lx288 lx289 lx290 _ 1 _ rfl (by omega) (by omega) (by omega) w (by rw [List.length_append, List.length_singleton]; omega)
    · rw [if_neg d]
      have d := q_nleI d
      rw [if_pos (Or.inl (by omega))]
      have w2 := V_rt (x := 46) (v := 46) w (by rw [List.length_append, List.length_singleton]; omega) rfl
      unfold F_FR_add F_FR_scientific_c227
      have r : ∀ a D E : List Nat, l ++ (a ++ [46] ++ D ++ E) = l ++ a ++ [46] ++ (D ++ E) := fun a D E => by simp only [List.append_assoc]
      rw [r]
      exact V_scM hv h2 ht h4 hal n (0 + 1) lx280 (lx281 + 1 + 1) lx282 lx283 lx284 lx285 lx286 lx287 lx288 lx289 lx290 _ 1 _ rfl (by omega) (by omega) (by omega) w2 (by simp only [List.length_append, List.length_singleton]; omega)
theorem V_sc177 {x2 : Int64} {x3 : Int32} {x4 : Int32} {x5 : Int32} {t0_0 : Int32} {t0_1 : Int32} {t0_2 : Int32} {t0_3 : Int32} {t0_4 : Int64} {t0_5 : Int32} {t0_6 : Int32} {t0_7 : Int64} {t0_8 : Int32} {t0_9 : Int64} {t0_10 : Int32} {t1_0 : (Nat → Int32)} {t2_0 : (Nat → Int32)} {t3_0 : (Nat → Int32)} {t4_0 : (Nat → Int32)} {t5_0 : (Nat → Int32)} {lx29 : Int32} {p81 : (Int32 × Int32 × Int32 × Int32 × Int64 × Int32 × Int32 × Int64 × Int32 × Int64 × Int32)} {y47 : Int32} {y48 : Int32} {y49 : Int32} {y50 : Int32} {y51 : Int64} {y52 : Int32} {y53 : Int32} {y54 : Int64} {y55 : Int32} {y56 : Int64} {y57 : Int32} {lx106 : Int32} {p136 : ((Nat → Int32) × (Nat → Int32) × (Nat → Int32))} {f128 : (Nat → Int32)} {f130 : (Nat → Int32)} {f132 : (Nat → Int32)} {lx149 : Int32} {lx168 : Int32} {f192 : (Nat → Int32)} {lx203 : Int32} {Y t al sg : Nat} (hv : yRw f192 Y) (h2 : lx203.toInt = (t : Int)) (ht : t ≤ 1403) (h4 : x4.toInt = (al : Int)) (hal1 : 1 ≤ al) (hal : al ≤ 800) (hs : yMin (¬ y49 = 0) = yMin (sg = 1)) : (F_FR_scientific_J177 x2 x3 x4 x5 t0_0 t0_1 t0_2 t0_3 t0_4 t0_5 t0_6 t0_7 t0_8 t0_9 t0_10 t1_0 t2_0 t3_0 t4_0 t5_0 lx29 p81 y47 y48 y49 y50 y51 y52 y53 y54 y55 y56 y57 lx106 p136 f128 f130 f132 lx149 lx168 f192 lx203).2.1 = lx106 ∧ yRt (F_FR_scientific_J177 x2 x3 x4 x5 t0_0 t0_1 t0_2 t0_3 t0_4 t0_5 t0_6 t0_7 t0_8 t0_9 t0_10 t1_0 t2_0 t3_0 t4_0 t5_0 lx29 p81 y47 y48 y49 y50 y51 y52 y53 y54 y55 y56 y57 lx106 p136 f128 f130 f132 lx149 lx168 f192 lx203).1 (F_FR_scientific_J177 x2 x3 x4 x5 t0_0 t0_1 t0_2 t0_3 t0_4 t0_5 t0_6 t0_7 t0_8 t0_9 t0_10 t1_0 t2_0 t3_0 t4_0 t5_0 lx29 p81 y47 y48 y49 y50 y51 y52 y53 y54 y55 y56 y57 lx106 p136 f128 f130 f132 lx149 lx168 f192 lx203).2.2.2.2.2.2.2.2.2.2.2.2.2.2.2.2 (yMin (sg = 1) ++ (yHead Y (t + 1) al 0 ++ yE2 ((t : Int) - 1080))) := by
  unfold F_FR_scientific_J177
  have bg := V_FRbeg (t0_0 := lx106) (t0_1 := y48) (t0_2 := y49) (t0_3 := y50) (t0_4 := y51) (t0_5 := y52) (t0_6 := y53) (t0_7 := y54) (t0_8 := y55) (t0_9 := y56) (t0_10 := y57) (t1_0 := t5_0)
  rw [hs] at bg
  have ml := yMin_l (a := sg = 1)
  revert bg
  generalize F_FR_begin lx106 y48 y49 y50 y51 y52 y53 y54 y55 y56 y57 t5_0 = p259
  intro bg
  have hr := bg.1
  unfold F_FR_scientific_c180
  rw [← bg.2.1]
  exact V_scS hv h2 ht h4 hal1 hal 1000000 0 p259.1 p259.2.1 p259.2.2.1 p259.2.2.2.1 p259.2.2.2.2.1 p259.2.2.2.2.2.1 p259.2.2.2.2.2.2.1 p259.2.2.2.2.2.2.2.1 p259.2.2.2.2.2.2.2.2.1 p259.2.2.2.2.2.2.2.2.2.1 p259.2.2.2.2.2.2.2.2.2.2.1 p259.2.2.2.2.2.2.2.2.2.2.2 _ rfl (by omega) hr (by omega)
theorem V_sc130 {x2 : Int64} {x3 : Int32} {x4 : Int32} {x5 : Int32} {t0_0 : Int32} {t0_1 : Int32} {t0_2 : Int32} {t0_3 : Int32} {t0_4 : Int64} {t0_5 : Int32} {t0_6 : Int32} {t0_7 : Int64} {t0_8 : Int32} {t0_9 : Int64} {t0_10 : Int32} {t1_0 : (Nat → Int32)} {t2_0 : (Nat → Int32)} {t3_0 : (Nat → Int32)} {t4_0 : (Nat → Int32)} {t5_0 : (Nat → Int32)} {lx29 : Int32} {p81 : (Int32 × Int32 × Int32 × Int32 × Int64 × Int32 × Int32 × Int64 × Int32 × Int64 × Int32)} {y47 : Int32} {y48 : Int32} {y49 : Int32} {y50 : Int32} {y51 : Int64} {y52 : Int32} {y53 : Int32} {y54 : Int64} {y55 : Int32} {y56 : Int64} {y57 : Int32} {lx106 : Int32} {p136 : ((Nat → Int32) × (Nat → Int32) × (Nat → Int32))} {f128 : (Nat → Int32)} {f130 : (Nat → Int32)} {f132 : (Nat → Int32)} {lx149 : Int32} {lx168 : Int32} {V k t al dY sg N : Nat} (hv : yRw f132 V) (hV : V < 10 ^ 1390) (hk : lx168.toInt = (k : Int)) (hk2 : k ≤ 1390) (h1 : lx149.toInt = (t : Int)) (ht : t ≤ 1400) (h4 : x4.toInt = (al : Int)) (hal1 : 1 ≤ al) (hal : al ≤ 800) (hmd : 0 ≤ x5.toInt ∧ x5.toInt ≤ 3) (hs : yMin (¬ y49 = 0) = yMin (sg = 1)) (hN : y54.toInt = (N : Int)) (hd : yDt ((V / 10 ^ k + yOut x5 V k) * 10 ^ k) dY) (h : (dY = t + 1) ∨ (dY = t + 2 ∧ N ≠ 0 ∧ yLo ((V / 10 ^ k + yOut x5 V k) * 10 ^ k) (t + 1) = 1) ∨ (dY = 0 ∧ N = 0)) : (F_FR_scientific_J130 x2 x3 x4 x5 t0_0 t0_1 t0_2 t0_3 t0_4 t0_5 t0_6 t0_7 t0_8 t0_9 t0_10 t1_0 t2_0 t3_0 t4_0 t5_0 lx29 p81 y47 y48 y49 y50 y51 y52 y53 y54 y55 y56 y57 lx106 p136 f128 f130 f132 lx149 lx168).2.1 = lx106 ∧ yRt (F_FR_scientific_J130 x2 x3 x4 x5 t0_0 t0_1 t0_2 t0_3 t0_4 t0_5 t0_6 t0_7 t0_8 t0_9 t0_10 t1_0 t2_0 t3_0 t4_0 t5_0 lx29 p81 y47 y48 y49 y50 y51 y52 y53 y54 y55 y56 y57 lx106 p136 f128 f130 f132 lx149 lx168).1 (F_FR_scientific_J130 x2 x3 x4 x5 t0_0 t0_1 t0_2 t0_3 t0_4 t0_5 t0_6 t0_7 t0_8 t0_9 t0_10 t1_0 t2_0 t3_0 t4_0 t5_0 lx29 p81 y47 y48 y49 y50 y51 y52 y53 y54 y55 y56 y57 lx106 p136 f128 f130 f132 lx149 lx168).2.2.2.2.2.2.2.2.2.2.2.2.2.2.2.2 (yMin (sg = 1) ++ (yHead ((V / 10 ^ k + yOut x5 V k) * 10 ^ k) (if N = 0 then t + 1 else dY) al 0 ++ yE2 (((if N = 0 then t + 1 else dY : Nat) : Int) - 1 - 1080))) := by
  have e1 : (1 : Int32).toInt = 1 := rfl
  have e0L : (0 : Int64).toInt = 0 := rfl
  unfold F_FR_scientific_J130
  have mo := V_isMore (x2 := lx168) (x3 := x5) (t0_0 := lx106) (t0_1 := y48) (t0_2 := y49) (t0_3 := y50) (t0_4 := y51) (t0_5 := y52) (t0_6 := y53) (t0_7 := y54) (t0_8 := y55) (t0_9 := y56) (t0_10 := y57) hv hk hk2 hmd
  have lim : (V / 10 ^ k + 1) * 10 ^ k < 10 ^ 1400 := by
    rw [Nat.add_mul, Nat.one_mul]
    have a := Nat.div_mul_le_self V (10 ^ k)
    have b : 10 ^ k ≤ 10 ^ 1390 := Nat.pow_le_pow_right (by decide) (by omega)
    have c : (10 : Nat) ^ 1390 + 10 ^ 1390 ≤ 10 ^ 1400 := by decide +kernel
    exact Nat.lt_of_lt_of_le (Nat.add_lt_add_of_lt_of_le (Nat.lt_of_le_of_lt a hV) b) c
  have ct : yRw (F_FR_cut lx168 (F_FR_isMore lx168 x5 lx106 y48 y49 y50 y51 y52 y53 y54 y55 y56 y57 f132) lx106 y48 y49 y50 y51 y52 y53 y54 y55 y56 y57 f132 t4_0) ((V / 10 ^ k + yOut x5 V k) * 10 ^ k) := by
    rcases yOut_01 (md := x5) (N := V) (m := k) with q | q
    · rw [q, Nat.add_zero]
      have z : F_FR_isMore lx168 x5 lx106 y48 y49 y50 y51 y52 y53 y54 y55 y56 y57 f132 = 0 := Int32.toInt_inj.mp (by rw [mo, q]; rfl)
      exact V_cut hv hk hk2 (Nat.lt_of_le_of_lt (Nat.mul_le_mul_right _ (Nat.le_succ _)) lim) (Or.inl ⟨z, rfl⟩)
    · rw [q]
      have z : F_FR_isMore lx168 x5 lx106 y48 y49 y50 y51 y52 y53 y54 y55 y56 y57 f132 = 1 := Int32.toInt_inj.mp (by rw [mo, q]; rfl)
      exact V_cut hv hk hk2 lim (Or.inr ⟨z, rfl⟩)
  revert ct h hd
  generalize F_FR_cut lx168 (F_FR_isMore lx168 x5 lx106 y48 y49 y50 y51 y52 y53 y54 y55 y56 y57 f132) lx106 y48 y49 y50 y51 y52 y53 y54 y55 y56 y57 f132 t4_0 = f192
  generalize (V / 10 ^ k + yOut x5 V k) * 10 ^ k = Y
  intro hd h ct
  have nx := q_addI h1 e1 (by omega) (by omega)
  have ix : (lx149 + 1).toNatClampNeg = t + 1 := by
    show (lx149 + 1).toInt.toNat = t + 1
    omega
  have dg := ct.d (j := t + 1) (by omega)
  rw [ix]
  have up : ∀ r, N ≠ 0 → dY = t + 2 → r = F_FR_scientific_J177 x2 x3 x4 x5 t0_0 t0_1 t0_2 t0_3 t0_4 t0_5 t0_6 t0_7 t0_8 t0_9 t0_10 t1_0 t2_0 t3_0 t4_0 t5_0 lx29 p81 y47 y48 y49 y50 y51 y52 y53 y54 y55 y56 y57 lx106 p136 f128 f130 f132 lx149 lx168 f192 (lx149 + 1) → r.2.1 = lx106 ∧ yRt r.1 r.2.2.2.2.2.2.2.2.2.2.2.2.2.2.2.2 (yMin (sg = 1) ++ (yHead Y (if N = 0 then t + 1 else dY) al 0 ++ yE2 (((if N = 0 then t + 1 else dY : Nat) : Int) - 1 - 1080))) := by
    intro r n0 hdd hr
    rw [hr, if_neg n0, hdd, show ((t + 2 : Nat) : Int) - 1 - 1080 = ((t + 1 : Nat) : Int) - 1080 from by omega]
    exact V_sc177 ct nx (by omega) h4 hal1 hal hs
  have dn : ∀ r, (N = 0 ∨ dY = t + 1) → r = F_FR_scientific_J175 x2 x3 x4 x5 t0_0 t0_1 t0_2 t0_3 t0_4 t0_5 t0_6 t0_7 t0_8 t0_9 t0_10 t1_0 t2_0 t3_0 t4_0 t5_0 lx29 p81 y47 y48 y49 y50 y51 y52 y53 y54 y55 y56 y57 lx106 p136 f128 f130 f132 lx149 lx168 f192 → r.2.1 = lx106 ∧ yRt r.1 r.2.2.2.2.2.2.2.2.2.2.2.2.2.2.2.2 (yMin (sg = 1) ++ (yHead Y (if N = 0 then t + 1 else dY) al 0 ++ yE2 (((if N = 0 then t + 1 else dY : Nat) : Int) - 1 - 1080))) := by
    intro r hdd hr
    have e : (if N = 0 then t + 1 else dY) = t + 1 := by
      rcases hdd with q | q
      · rw [if_pos q]
      · rw [q]
        split <;> rfl
    rw [hr, e, show ((t + 1 : Nat) : Int) - 1 - 1080 = (t : Int) - 1080 from by omega]
    unfold F_FR_scientific_J175
    exact V_sc177 ct h1 (by omega) h4 hal1 hal hs
  by_cases g : f192 (t + 1) = 1
  · rw [if_pos g]
    rw [g, e1] at dg
    by_cases z : lg_cmp y54 0 = 0
    · rw [if_pos z]
      have z := g_lcz z
      exact dn _ (Or.inl (by omega)) rfl
    · rw [if_neg z]
      have n0 : N ≠ 0 := fun q => z (y_lcE.mpr (by rw [hN, q]; rfl))
      refine up _ n0 ?_ rfl
      rcases h with q | ⟨q, _⟩ | ⟨_, q⟩
      · exfalso
        have := yLo_h hd (i := t + 1) (by omega)
        omega
      · exact q
      · exact absurd q n0
  · rw [if_neg g]
    refine dn _ ?_ rfl
    rcases h with q | ⟨_, _, q⟩ | ⟨_, q⟩
    · exact Or.inr q
    · exact absurd (Int32.toInt_inj.mp (by rw [dg, q]; rfl)) g
    · exact Or.inl q
