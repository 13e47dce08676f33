/-! values, for whole: the reference's floats written to places, whole -/
theorem yOut_01 {md : Int32} {N m : Nat} : yOut md N m = 0 ∨ yOut md N m = 1 := by
  have : N / 10 ^ m % 2 = 0 ∨ N / 10 ^ m % 2 = 1 := Nat.mod_two_eq_zero_or_one _
  unfold yOut
  repeat' split
  all_goals first | exact Or.inl rfl | exact Or.inr rfl | assumption
theorem yOut_d {md : Int32} {N m : Nat} (h : N % 10 ^ m = 0) : yOut md N m = 0 := by
  unfold yOut
  rw [if_pos h]
  split <;> rfl
theorem yOut_sc {md : Int32} {u a m : Nat} : yOut md (u * 10 ^ a) (m + a) = yOut md u m := by
  have p : 0 < 10 ^ a := Nat.pow_pos (by decide)
  unfold yOut
  rw [Nat.pow_add, Nat.mul_mod_mul_right, Nat.mul_div_mul_right _ _ p]
  generalize u % 10 ^ m = r
  generalize u / 10 ^ m = q
  revert p
  generalize 10 ^ a = A
  generalize 10 ^ m = M
  intro p
  have c1 : r * A = 0 ↔ r = 0 := ⟨fun h => by
    rcases Nat.mul_eq_zero.mp h with k | k
    · exact k
    · omega, fun h => by rw [h, Nat.zero_mul]⟩
  have c2 : M * A < 2 * (r * A) ↔ M < 2 * r := by
    rw [← Nat.mul_assoc]
    exact Nat.mul_lt_mul_right p
  have c3 : 2 * (r * A) = M * A ↔ 2 * r = M := by
    rw [← Nat.mul_assoc]
    exact ⟨fun h => Nat.eq_of_mul_eq_mul_right p h, fun h => by rw [h]⟩
  simp only [c1, c2, c3]
theorem y_YW1 {md : Int32} {u c s pl : Nat} (hs : s ≤ 1080) (hp : pl ≤ 1080) : u * 10 ^ (1080 - s) / 10 ^ (1080 - pl) + yOut md (u * 10 ^ (1080 - s)) (1080 - pl) = yRk md u c ((c : Int) - s + pl) := by
  unfold yRk
  by_cases g : s ≤ pl
  · rw [if_pos (by omega), show ((c : Int) - s + pl - c).toNat = pl - s from by omega, show 1080 - s = (pl - s) + (1080 - pl) from by omega, Nat.pow_add, ← Nat.mul_assoc, yOut_d (Nat.mul_mod_left _ _), Nat.mul_div_cancel _ (Nat.pow_pos (by decide)), Nat.add_zero]
  · rw [if_neg (by omega), show ((c : Int) - (c - s + pl)).toNat = s - pl from by omega, show 1080 - pl = (s - pl) + (1080 - s) from by omega, yOut_sc, Nat.pow_add, Nat.mul_div_mul_right _ _ (Nat.pow_pos (by decide))]
theorem y_YW2 {md : Int32} {u c s pl : Nat} (hs : s ≤ 1080) (hp : ¬ pl ≤ 1080) : u * 10 ^ (1080 - s) * 10 ^ (pl - 1080) = yRk md u c ((c : Int) - s + pl) := by
  unfold yRk
  rw [if_pos (by omega), show ((c : Int) - s + pl - c).toNat = (1080 - s) + (pl - 1080) from by omega, Nat.pow_add, ← Nat.mul_assoc]
theorem yDt_z {d : Nat} (h : yDt 0 d) : d = 0 := by
  rcases Nat.eq_zero_or_pos d with k | k
  · exact k
  · exact absurd (Nat.pow_pos (by decide)) (h.2 (by omega))
/-- the text of Y, its units the 1080th, is that of W, its units the pl-th -/
theorem y_fixS {Y W pl d e : Nat} (hd : yDt Y d) (he : yDt W e) (h : (pl ≤ 1080 ∧ Y = W * 10 ^ (1080 - pl)) ∨ (¬ pl ≤ 1080 ∧ W = Y * 10 ^ (pl - 1080))) : yPlA Y 1080 0 (max (d - 1080) 1) ++ yTail Y 1080 pl 0 = yFix W pl e := by
  unfold yFix
  rcases h with ⟨g, hq⟩ | ⟨g, hq⟩
  · have k1 := yPlA_sc (N := W) (z := 1080 - pl) (A := max (e - pl) 1) (s := (pl : Int)) (cm := 0)
    have k2 := yTail_sc (N := W) (z := 1080 - pl) (pl := pl) (s := (pl : Int)) (ap := 0)
    rw [show (pl : Int) + ((1080 - pl : Nat) : Int) = 1080 from by omega] at k1 k2
    have dd : max (d - 1080) 1 = max (e - pl) 1 := by
      by_cases z : W = 0
      · rw [z] at he
        rw [hq, z, Nat.zero_mul] at hd
        rw [yDt_z he, yDt_z hd]
        omega
      · rw [hq] at hd
        rw [yDt_U hd (yDt_sc he z)]
        omega
    rw [dd, hq, k1, k2]
  · have k1 := yPlA_sc (N := Y) (z := pl - 1080) (A := max (e - pl) 1) (s := 1080) (cm := 0)
    have k2 := yTail_sc (N := Y) (z := pl - 1080) (pl := pl) (s := 1080) (ap := 0)
    rw [show (1080 : Int) + ((pl - 1080 : Nat) : Int) = pl from by omega] at k1 k2
    have dd : max (d - 1080) 1 = max (e - pl) 1 := by
      by_cases z : Y = 0
      · rw [z] at hd
        rw [hq, z, Nat.zero_mul] at he
        rw [yDt_z he, yDt_z hd]
        omega
      · rw [hq] at he
        rw [yDt_U he (yDt_sc hd z)]
        omega
    rw [dd, hq, k1, k2]
theorem V_fxK {x2 : Int64} {x3 : Int32} {x4 : Int32} {x5 : Int32} {t0_0 : Int32} {t0_1 : Int32} {t0_2 : Int32} {t0_3 : Int32} {t0_4 : Int64} {t0_5 : Int32} {t0_6 : Int32} {t0_7 : Int64} {t0_8 : Int32} {t0_9 : Int64} {t0_10 : Int32} {t1_0 : (Nat → Int32)} {t2_0 : (Nat → Int32)} {t3_0 : (Nat → Int32)} {t4_0 : (Nat → Int32)} {t5_0 : (Nat → Int32)} {lx29 : Int32} {p81 : (Int32 × Int32 × Int32 × Int32 × Int64 × Int32 × Int32 × Int64 × Int32 × Int64 × Int32)} {y47 : Int32} {y48 : Int32} {y49 : Int32} {y50 : Int32} {y51 : Int64} {y52 : Int32} {y53 : Int32} {y54 : Int64} {y55 : Int32} {y56 : Int64} {y57 : Int32} {lx106 : Int32} {p136 : ((Nat → Int32) × (Nat → Int32) × (Nat → Int32))} {f128 : (Nat → Int32)} {f130 : (Nat → Int32)} {f132 : (Nat → Int32)} {lx146 : Int32} {V k pl W e sg : Nat} (hv : yRw f132 V) (hV : V < 10 ^ 1390) (hk : lx146.toInt = (k : Int)) (hk2 : k ≤ 1080) (h4 : x4.toInt = (pl : Int)) (hpl : pl ≤ 1100) (hmd : 0 ≤ x5.toInt ∧ x5.toInt ≤ 3) (hs : yMin (¬ y49 = 0) = yMin (sg = 1)) (he : yDt W e) (h : (pl ≤ 1080 ∧ (V / 10 ^ k + yOut x5 V k) * 10 ^ k = W * 10 ^ (1080 - pl)) ∨ (¬ pl ≤ 1080 ∧ W = (V / 10 ^ k + yOut x5 V k) * 10 ^ k * 10 ^ (pl - 1080))) : (F_FR_fixed_J105 x2 x3 x4 x5 t0_0 t0_1 t0_2 t0_3 t0_4 t0_5 t0_6 t0_7 t0_8 t0_9 t0_10 t1_0 t2_0 t3_0 t4_0 t5_0 lx29 p81 y47 y48 y49 y50 y51 y52 y53 y54 y55 y56 y57 lx106 p136 f128 f130 f132 lx146).2.1 = lx106 ∧ yRt (F_FR_fixed_J105 x2 x3 x4 x5 t0_0 t0_1 t0_2 t0_3 t0_4 t0_5 t0_6 t0_7 t0_8 t0_9 t0_10 t1_0 t2_0 t3_0 t4_0 t5_0 lx29 p81 y47 y48 y49 y50 y51 y52 y53 y54 y55 y56 y57 lx106 p136 f128 f130 f132 lx146).1 (F_FR_fixed_J105 x2 x3 x4 x5 t0_0 t0_1 t0_2 t0_3 t0_4 t0_5 t0_6 t0_7 t0_8 t0_9 t0_10 t1_0 t2_0 t3_0 t4_0 t5_0 lx29 p81 y47 y48 y49 y50 y51 y52 y53 y54 y55 y56 y57 lx106 p136 f128 f130 f132 lx146).2.2.2.2.2.2.2.2.2.2.2.2.2.2.2.2 (yMin (sg = 1) ++ yFix W pl e) := by
  unfold F_FR_fixed_J105
  have mo := V_isMore (x2 := lx146) (x3 := x5) (t0_0 := lx106) (t0_1 := y48) (t0_2 := y49) (t0_3 := y50) (t0_4 := y51) (t0_5 := y52) (t0_6 := y53) (t0_7 := y54) (t0_8 := y55) (t0_9 := y56) (t0_10 := y57) hv hk (by omega) hmd
  have lim : (V / 10 ^ k + 1) * 10 ^ k < 10 ^ 1400 := by
    rw [Nat.add_mul, Nat.one_mul]
    have a := Nat.div_mul_le_self V (10 ^ k)
    have b : 10 ^ k ≤ 10 ^ 1390 := Nat.pow_le_pow_right (by decide) (by omega)
    have c : (10 : Nat) ^ 1390 + 10 ^ 1390 ≤ 10 ^ 1400 := by decide +kernel
    exact Nat.lt_of_lt_of_le (Nat.add_lt_add_of_lt_of_le (Nat.lt_of_le_of_lt a hV) b) c
  have ct : yRw (F_FR_cut lx146 (F_FR_isMore lx146 x5 lx106 y48 y49 y50 y51 y52 y53 y54 y55 y56 y57 f132) lx106 y48 y49 y50 y51 y52 y53 y54 y55 y56 y57 f132 t4_0) ((V / 10 ^ k + yOut x5 V k) * 10 ^ k) := by
    rcases yOut_01 (md := x5) (N := V) (m := k) with q | q
    · rw [q, Nat.add_zero]
      have z : F_FR_isMore lx146 x5 lx106 y48 y49 y50 y51 y52 y53 y54 y55 y56 y57 f132 = 0 := Int32.toInt_inj.mp (by rw [mo, q]; rfl)
      exact V_cut hv hk (by omega) (Nat.lt_of_le_of_lt (Nat.mul_le_mul_right _ (Nat.le_succ _)) lim) (Or.inl ⟨z, rfl⟩)
    · rw [q]
      have z : F_FR_isMore lx146 x5 lx106 y48 y49 y50 y51 y52 y53 y54 y55 y56 y57 f132 = 1 := Int32.toInt_inj.mp (by rw [mo, q]; rfl)
      exact V_cut hv hk (by omega) lim (Or.inr ⟨z, rfl⟩)
  revert ct h
  generalize F_FR_cut lx146 (F_FR_isMore lx146 x5 lx106 y48 y49 y50 y51 y52 y53 y54 y55 y56 y57 f132) lx106 y48 y49 y50 y51 y52 y53 y54 y55 y56 y57 f132 t4_0 = f170
  generalize (V / 10 ^ k + yOut x5 V k) * 10 ^ k = Y
  intro h ct
  have bg := V_FRbeg (t0_0 := lx106) (t0_1 := y48) (t0_2 := y49) (t0_3 := y50) (t0_4 := y51) (t0_5 := y52) (t0_6 := y53) (t0_7 := y54) (t0_8 := y55) (t0_9 := y56) (t0_10 := y57) (t1_0 := t5_0)
  rw [hs] at bg
  have ml := yMin_l (a := sg = 1)
  revert bg
  generalize F_FR_begin lx106 y48 y49 y50 y51 y52 y53 y54 y55 y56 y57 t5_0 = p216
  intro bg
  have hr := bg.1
  unfold F_FR_fixed_c122
  obtain ⟨dY, hdY⟩ := yDt_ex Y
  have dl : dY ≤ 1404 := by
    rcases Nat.lt_or_ge 1404 dY with q | q
    · have := (y_ge10 (i := 1404) hdY).mpr q
      exact absurd ct.lt (Nat.not_lt.mpr this)
    · exact q
  rw [← y_fixS hdY he h, ← bg.2.1]
  exact V_fx0 ct hdY h4 hpl hr ml (((1403 : Int32).toInt - (-1074)).toNat + 1) 1403 1403 rfl (by omega) (by omega) (by decide) (by omega)
