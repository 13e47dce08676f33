/-! values, for whole: the class's floats written exactly, to places or to figures -/
theorem yEq_B {n u s : Nat} {pw : Int} (h : yEq n pw u s) (hn : n < 9007199254740992) (h1 : -1074 ≤ pw) (h2 : pw ≤ 971) : yLt10 u 1026 := by
  obtain ⟨e, z⟩ := h
  unfold yLt10
  by_cases g : 0 ≤ pw
  · rw [show (-pw).toNat = 0 from by omega, Nat.pow_zero, Nat.mul_one] at e
    have s0 : s = 0 := by
      rcases z with q | q
      · exact q
      · cases s with
        | zero => rfl
        | succ s =>
          rw [e, Nat.pow_succ, ← Nat.mul_assoc, Nat.mul_mod_left] at q
          exact absurd rfl q
    rw [s0, Nat.pow_zero, Nat.mul_one] at e
    rw [e]
    have p : 2 ^ pw.toNat ≤ 2 ^ 971 := Nat.pow_le_pow_right (by decide) (by omega)
    have b : n * 2 ^ pw.toNat ≤ 9007199254740992 * 2 ^ 971 := Nat.mul_le_mul (Nat.le_of_lt hn) p
    exact Nat.lt_of_le_of_lt b (by decide +kernel)
  · obtain ⟨k, hk⟩ : ∃ k : Nat, (-pw).toNat = k := ⟨_, rfl⟩
    rw [hk, show pw.toNat = 0 from by omega, Nat.pow_zero, Nat.mul_one] at e
    have p2 : 0 < 2 ^ k := Nat.pow_pos (by decide)
    have sk : s ≤ k := by
      rcases Nat.lt_or_ge k s with q | q
      · exfalso
        obtain ⟨f, rfl⟩ : ∃ f, s = k + (f + 1) := ⟨s - k - 1, by omega⟩
        have e2 : u * 2 ^ k = (n * 5 ^ k * 10 ^ f * 10) * 2 ^ k := by
          rw [e, Nat.pow_add, show (10 : Nat) = 2 * 5 from rfl, Nat.mul_pow, Nat.pow_succ]
          generalize (2 * 5) ^ f = a
          generalize 2 ^ k = b
          generalize 5 ^ k = c
          rw [Nat.mul_assoc n c a, Nat.mul_assoc n, Nat.mul_assoc n, Nat.mul_assoc c a, Nat.mul_comm b c, Nat.mul_assoc c b, Nat.mul_comm b, Nat.mul_assoc c]
        have e3 := Nat.eq_of_mul_eq_mul_right p2 e2
        rcases z with w | w
        · omega
        · rw [e3, Nat.mul_mod_left] at w
          exact w rfl
      · exact q
    have b1 : u * 2 ^ k ≤ (n * 5 ^ k) * 2 ^ k := by
      rw [e, show (10 : Nat) = 2 * 5 from rfl, Nat.mul_pow, Nat.mul_assoc]
      refine Nat.mul_le_mul_left _ ?_
      rw [Nat.mul_comm]
      exact Nat.mul_le_mul (Nat.pow_le_pow_right (by decide) sk) (Nat.pow_le_pow_right (by decide) sk)
    have b2 : u ≤ n * 5 ^ k := Nat.le_of_mul_le_mul_right b1 p2
    have b3 : n * 5 ^ k ≤ 9007199254740992 * 5 ^ 1074 := Nat.mul_le_mul (Nat.le_of_lt hn) (Nat.pow_le_pow_right (by decide) (by omega))
    exact Nat.lt_of_le_of_lt (Nat.le_trans b2 b3) (by decide +kernel)
/-- S of c figures, to k figures, by the rounding -/
def yRk (md : Int32) (S c : Nat) (k : Int) : Nat := if (c : Int) ≤ k then S * 10 ^ (k - c).toNat else S / 10 ^ (c - k).toNat + yOut md S (c - k).toNat
theorem V_rouK {x2 : Int32} {x3 : Int32} {t0_0 : Int32} {t0_1 : Int32} {t1_0 : (Nat → Int32)} {S c : Nat} (h : yDgc t0_0 t1_0 S c) (h0 : c = 0 → t0_1.toInt = 0 ∧ 0 ≤ x2.toInt) (hx : -10000 ≤ x2.toInt ∧ x2.toInt ≤ 10000) (hmd : 0 ≤ x3.toInt ∧ x3.toInt ≤ 3) (hp : -10000 ≤ t0_1.toInt ∧ t0_1.toInt ≤ 10000) : ∃ S' c' z : Nat, yDgc (F_Dig_round x2 x3 t0_0 t0_1 t1_0).1 (F_Dig_round x2 x3 t0_0 t0_1 t1_0).2.2 S' c' ∧ S' * 10 ^ z = yRk x3 S c x2.toInt ∧ (c' ≠ 0 → (F_Dig_round x2 x3 t0_0 t0_1 t1_0).2.1.toInt = (c' : Int) + z + t0_1.toInt - x2.toInt) ∧ (c' = 0 → (F_Dig_round x2 x3 t0_0 t0_1 t1_0).2.1.toInt = 0) ∧ -50000 ≤ (F_Dig_round x2 x3 t0_0 t0_1 t1_0).2.1.toInt ∧ (F_Dig_round x2 x3 t0_0 t0_1 t1_0).2.1.toInt ≤ 50000 := by
  by_cases g : (c : Int) ≤ x2.toInt
  · have e : F_Dig_round x2 x3 t0_0 t0_1 t1_0 = (t0_0, t0_1, t1_0) := by
      unfold F_Dig_round
      rw [if_neg (fun q => by have := q_ltI q; have := h.1; omega)]
    rw [e]
    refine ⟨S, c, (x2.toInt - c).toNat, h, ?_, fun _ => ?_, fun q => (h0 q).1, ?_, ?_⟩
    · unfold yRk
      rw [if_pos g]
    · show t0_1.toInt = _
      omega
    · show -50000 ≤ t0_1.toInt
      omega
    · show t0_1.toInt ≤ 50000
      omega
  · obtain ⟨m, hm⟩ : ∃ m : Nat, x2.toInt + ((m + 1 : Nat) : Int) = (c : Int) := ⟨((c : Int) - x2.toInt - 1).toNat, by omega⟩
    have c0 : c ≠ 0 := fun q => by have := (h0 q).2; omega
    have hS : S ≠ 0 := by
      intro q
      have := h.2.2.1.2 c0
      rw [q] at this
      exact this (Nat.pow_pos (by decide))
    obtain ⟨S', c', z, r1, r2, r3, r4, r5⟩ := V_rou (x2 := x2) (x3 := x3) (t0_1 := t0_1) h hS hm (by omega) (Or.inl rfl) hmd (by omega)
    refine ⟨S', c', z, r1, ?_, r3, r4, ?_, ?_⟩
    · unfold yRk
      rw [if_neg g, r2, show ((c : Int) - x2.toInt).toNat = m + 1 from by omega]
    · by_cases q : c' = 0
      · rw [r4 q]
        omega
      · rw [r3 q]
        omega
    · by_cases q : c' = 0
      · rw [r4 q]
        omega
      · rw [r3 q]
        omega
/-- a number of pl places behind the point, W in units of the last, of d figures -/
def yFix (W pl d : Nat) : List Nat := yPlA W pl 0 (max (d - pl) 1) ++ yTail W pl pl 0
/-- a number u of c figures and s places, to al figures; W its figures, of d -/
def ySct (u s c W d al : Nat) : List Nat := yHead W d al 0 ++ yE2 (if u = 0 then 0 else (d : Int) - 1 + c - al - s)
theorem V_exT {A : Int32} {B : Int32} {C : Int32} {x3 : Int64} {x4 : Int32} {x5 : Int32} {x6 : Int32} {t0_0 : Int32} {t1_0 : (Nat → Int64)} {t2_0 : Int32} {t2_1 : Int32} {t3_0 : (Nat → Int32)} {t4_0 : Int32} {t4_1 : Int32} {t5_0 : (Nat → Int32)} {t6_0 : Int64} {t6_1 : Int32} {t6_2 : Int32} {P T pl : Nat} {l0 : Int} (hF : yF A B C P T l0) (hfin : yEx P T (yu x3) ≠ T) (hpl : x5.toInt = (pl : Int)) (hpl2 : pl ≤ 1100) (hal : x4 ≠ 0 → 1 ≤ pl) (hmd : 0 ≤ x6.toInt ∧ x6.toInt ≤ 3) : ∃ u s c d : Nat, yEq (yNx P T (yu x3)) (yPx l0 (yEx P T (yu x3))) u s ∧ s ≤ 1074 ∧ yDt u c ∧ ((x4 = 0 ∧ yDt (yRk x6 u c ((c : Int) - s + pl)) d ∧ yPa (F_Wri_exactText A B C x3 x4 x5 x6 t0_0 t1_0 t2_0 t2_1 t3_0 t4_0 t4_1 t5_0 t6_0 t6_1 t6_2).1 (F_Wri_exactText A B C x3 x4 x5 x6 t0_0 t1_0 t2_0 t2_1 t3_0 t4_0 t4_1 t5_0 t6_0 t6_1 t6_2).2.1 (yMin (ySx P T (yu x3) = 1) ++ yFix (yRk x6 u c ((c : Int) - s + pl)) pl d)) ∨ (x4 ≠ 0 ∧ yDt (yRk x6 u c (pl : Int)) d ∧ yPa (F_Wri_exactText A B C x3 x4 x5 x6 t0_0 t1_0 t2_0 t2_1 t3_0 t4_0 t4_1 t5_0 t6_0 t6_1 t6_2).1 (F_Wri_exactText A B C x3 x4 x5 x6 t0_0 t1_0 t2_0 t2_1 t3_0 t4_0 t4_1 t5_0 t6_0 t6_1 t6_2).2.1 (yMin (ySx P T (yu x3) = 1) ++ ySct u s c (yRk x6 u c (pl : Int)) d pl))) := by
  have e1 : (1 : Int32).toInt = 1 := rfl
  have sg : yMin (¬ F_Flo_isNegative A B C x3 = 0) = yMin (ySx P T (yu x3) = 1) := by
    refine yMin_c ?_
    rw [y_neg hF]
    by_cases s : ySx P T (yu x3) = 1
    · rw [if_pos s]
      exact ⟨fun _ => s, fun _ => by decide⟩
    · rw [if_neg s]
      exact ⟨fun q => absurd rfl q, fun q => absurd q s⟩
  have pb : -1074 ≤ yPx l0 (yEx P T (yu x3)) ∧ yPx l0 (yEx P T (yu x3)) ≤ 971 := by
    have le := yEx_le (P := P) (T := T) (u := yu x3)
    unfold yPx
    revert le hfin
    generalize yEx P T (yu x3) = e
    intro hfin le
    rcases hF with ⟨rfl, rfl, rfl, rfl, rfl, rfl⟩ | ⟨rfl, rfl, rfl, rfl, rfl, rfl⟩ <;> omega
  have nl := yNx_lt hF (u := yu x3)
  unfold F_Wri_exactText
  rw [y_begP]
  have b := V_begin (x2 := F_Flo_isNegative A B C x3) (t0_0 := t0_0) (t1_0 := t1_0)
  rw [sg] at b
  have ml := yMin_l (a := ySx P T (yu x3) = 1)
  revert b
  generalize F_Wri_begin (F_Flo_isNegative A B C x3) t0_0 t1_0 = p44
  intro b
  unfold F_Wri_exactText_c6
  have ex := V_exactly (x2 := x3) (t0_0 := t4_0) (t0_1 := t4_1) (t1_0 := t5_0) hF hfin
  revert ex
  generalize F_Flo_exactly A B C x3 t4_0 t4_1 t5_0 = p69
  intro ex
  obtain ⟨u, s, x1, x2', x3', x4', x5'⟩ := ex
  have uB := yEq_B x1 nl.1 pb.1 pb.2
  unfold F_Wri_exactText_c22
  have na : (sgI (if yNx P T (yu x3) = 0 then 0 else if ySx P T (yu x3) = 1 then 1 else 0) (u : Int)).natAbs = u := by
    rw [sgI_abs]
    rfl
  have fl := V_fill (R := 220) (x3 := p69.1) (t0_0 := t2_0) (t0_1 := t2_1) (t1_0 := t3_0) x4' (by rw [na]; exact uB) (by omega)
  rw [na] at fl
  revert fl
  generalize F_Dig_fill 220 p69.1 t2_0 t2_1 t3_0 p69.2.1 p69.2.2.1 p69.2.2.2 = p104
  intro fl
  obtain ⟨⟨c, d1, d2, d3, d4⟩, f2, f3⟩ := fl
  have hd : yDgc p104.1 p104.2.2.1 u c := ⟨d1, d2, d3, d4⟩
  have pw := f2 c d3
  rw [x2'] at pw
  have u0 : c = 0 → u = 0 := fun q => by
    have := d3.1
    rw [q] at this
    unfold yLt10 at this
    rw [Nat.pow_zero] at this
    omega
  have c0 : u = 0 → c = 0 := fun q => by
    rcases Nat.eq_zero_or_pos c with k | k
    · exact k
    · have := d3.2 (by omega)
      rw [q] at this
      exact absurd (Nat.pow_pos (by decide)) this
  have s0 : u = 0 → s = 0 := fun q => by
    rcases x1.2 with k | k
    · exact k
    · rw [q] at k
      exact absurd rfl k
  have pwb : -10000 ≤ p104.2.1.toInt ∧ p104.2.1.toInt ≤ 5000 := by
    rw [pw]
    split <;> omega
  unfold F_Wri_exactText_c25
  by_cases g4 : x4 = 0
  · rw [if_pos g4]
    unfold F_Wri_exactText_J54
    have a1 := q_addI (rfl : p104.2.1.toInt = p104.2.1.toInt) e1 (by omega) (by omega)
    have a2 := q_addI a1 hpl (by omega) (by omega)
    have r := V_rouK (x2 := p104.2.1 + 1 + x5) (x3 := x6) (t0_1 := p104.2.1) hd (fun q => by rw [a2, pw, if_pos q]; omega) (by rw [a2]; omega) hmd (by omega)
    revert r
    generalize F_Dig_round (p104.2.1 + 1 + x5) x6 p104.1 p104.2.1 p104.2.2.1 = p159
    intro r
    obtain ⟨S', c', z, r1, r2, r3, r4, r5, r6⟩ := r
    rw [a2] at r2 r3
    have W : yRk x6 u c (p104.2.1.toInt + 1 + pl) = yRk x6 u c ((c : Int) - s + pl) := by
      by_cases q : c = 0
      · have uz := u0 q
        have sz := s0 uz
        rw [pw, if_pos q]
        unfold yRk
        rw [if_pos (by omega), if_pos (by omega), uz, Nat.zero_mul, Nat.zero_mul]
      · rw [pw, if_neg q, show (c : Int) - 1 - s + 1 + pl = (c : Int) - s + pl from by omega]
    rw [W] at r2
    have sc' : c' ≠ 0 → S' ≠ 0 := fun q w => by
      have := r1.2.2.1.2 q
      rw [w] at this
      exact this (Nat.pow_pos (by decide))
    have zc' : c' = 0 → S' = 0 := fun q => by
      have := r1.2.2.1.1
      rw [q] at this
      unfold yLt10 at this
      rw [Nat.pow_zero] at this
      omega
    obtain ⟨d, hdd⟩ : ∃ d, yDt (yRk x6 u c ((c : Int) - s + pl)) d := yDt_ex _
    refine ⟨u, s, c, d, x1, x3', d3, Or.inl ⟨g4, hdd, ?_⟩⟩
    have cn : c' ≠ 0 → c ≠ 0 := fun q w => by
      have uz := u0 w
      have : S' * 10 ^ z = 0 := by
        rw [r2]
        unfold yRk
        have sz := s0 uz
        rw [if_pos (by omega), uz, Nat.zero_mul]
      rcases Nat.mul_eq_zero.mp this with k | k
      · exact sc' q k
      · have : 0 < 10 ^ z := Nat.pow_pos (by decide)
        omega
    have pp : c' ≠ 0 → p159.2.1.toInt = (c' : Int) - 1 - ((pl : Int) - z) := fun q => by
      rw [r3 q, pw, if_neg (cn q)]
      omega
    unfold F_Wri_exactText_c56
    rw [if_pos g4]
    have w := V_wPlain (N := 1376) (K := 1000000) (x4 := 0) (x5 := 0) rfl r1 pp (by omega) hpl (by omega) b (by omega)
    revert w
    generalize F_Dig_writePlain 11008 1376 1000000 x5 0 0 p159.1 p159.2.1 p159.2.2 p44.1 p44.2 = p186
    intro w
    unfold F_Wri_exactText_c93
    have tp : (if p159.2.1.toInt < 0 then 0 else p159.2.1.toInt).toNat + 1 = max (d - pl) 1 := by
      by_cases q : c' = 0
      · have dz : d = 0 := by
          have W0 : yRk x6 u c ((c : Int) - s + pl) = 0 := by
            rw [← r2, zc' q, Nat.zero_mul]
          rw [W0] at hdd
          rcases Nat.eq_zero_or_pos d with k | k
          · exact k
          · exact absurd (Nat.pow_pos (by decide)) (hdd.2 (by omega))
        rw [r4 q, dz, if_neg (by decide : ¬ (0 : Int) < 0)]
        show 0 + 1 = max (0 - pl) 1
        omega
      · have dd : d = c' + z := yDt_U hdd (by rw [← r2]; exact yDt_sc r1.2.2.1 (sc' q))
        rw [pp q, dd]
        by_cases n : (c' : Int) - 1 - ((pl : Int) - z) < 0
        · rw [if_pos n]
          show 0 + 1 = _
          omega
        · rw [if_neg n]
          omega
    rw [tp] at w
    unfold yFix
    rw [← r2, ← List.append_assoc]
    have k1 := yPlA_sc (N := S') (z := z) (A := max (d - pl) 1) (s := (pl : Int) - z) (cm := 0)
    have k2 := yTail_sc (N := S') (z := z) (pl := pl) (s := (pl : Int) - z) (ap := 0)
    rw [show (pl : Int) - z + z = pl from by omega] at k1 k2
    rw [k1, k2]
    exact w
  · rw [if_neg g4]
    unfold F_Wri_exactText_J54
    have r := V_rouK (x2 := x5) (x3 := x6) (t0_1 := p104.2.1) hd (fun q => by rw [hpl, pw, if_pos q]; omega) (by rw [hpl]; omega) hmd (by omega)
    revert r
    generalize F_Dig_round x5 x6 p104.1 p104.2.1 p104.2.2.1 = p159
    intro r
    obtain ⟨S', c', z, r1, r2, r3, r4, r5, r6⟩ := r
    rw [hpl] at r2 r3
    have sc' : c' ≠ 0 → S' ≠ 0 := fun q w => by
      have := r1.2.2.1.2 q
      rw [w] at this
      exact this (Nat.pow_pos (by decide))
    have zc' : c' = 0 → S' = 0 := fun q => by
      have := r1.2.2.1.1
      rw [q] at this
      unfold yLt10 at this
      rw [Nat.pow_zero] at this
      omega
    obtain ⟨d, hdd⟩ : ∃ d, yDt (yRk x6 u c (pl : Int)) d := yDt_ex _
    refine ⟨u, s, c, d, x1, x3', d3, Or.inr ⟨g4, hdd, ?_⟩⟩
    have al := hal g4
    unfold F_Wri_exactText_c56
    rw [if_neg g4]
    have w := V_wSci (N := 1376) (K := 1000000) (x4 := 0) (t0_1 := p159.2.1) rfl r1 hpl (by omega) (by omega) b (by omega)
    revert w
    generalize F_Dig_writeScience 11008 1376 1000000 x5 0 p159.1 p159.2.1 p159.2.2 p44.1 p44.2 = p208
    intro w
    unfold F_Wri_exactText_c75
    have fin : yHead S' c' pl 0 ++ yE2 p159.2.1.toInt = ySct u s c (yRk x6 u c (pl : Int)) d pl := by
      unfold ySct
      by_cases q : u = 0
      · have cz := c0 q
        have W0 : yRk x6 u c (pl : Int) = 0 := by
          unfold yRk
          rw [if_pos (by omega), q, Nat.zero_mul]
        rw [W0] at r2 hdd ⊢
        have Sz : S' = 0 := by
          rcases Nat.mul_eq_zero.mp r2 with k | k
          · exact k
          · have : 0 < 10 ^ z := Nat.pow_pos (by decide)
            omega
        have cz' : c' = 0 := by
          rcases Nat.eq_zero_or_pos c' with k | k
          · exact k
          · exact absurd Sz (sc' (by omega))
        have dz : d = 0 := by
          rcases Nat.eq_zero_or_pos d with k | k
          · exact k
          · exact absurd (Nat.pow_pos (by decide)) (hdd.2 (by omega))
        rw [if_pos q, r4 cz', cz', dz, Sz]
      · have cq : c ≠ 0 := fun k => q (u0 k)
        have Wn : yRk x6 u c (pl : Int) ≠ 0 := by
          unfold yRk
          by_cases k : (c : Int) ≤ (pl : Int)
          · rw [if_pos k]
            intro m
            rcases Nat.mul_eq_zero.mp m with n | n
            · exact q n
            · have : 0 < 10 ^ ((pl : Int) - c).toNat := Nat.pow_pos (by decide)
              omega
          · rw [if_neg k]
            have ge := (y_ge10 (i := ((c : Int) - pl).toNat) d3).mpr (by omega)
            have p := Nat.div_pos ge (Nat.pow_pos (by decide))
            intro m
            have := Nat.eq_zero_of_add_eq_zero_right m
            omega
        have cq' : c' ≠ 0 := fun k => Wn (by rw [← r2, zc' k, Nat.zero_mul])
        have dd : d = c' + z := yDt_U hdd (by rw [← r2]; exact yDt_sc r1.2.2.1 (sc' cq'))
        rw [if_neg q, ← r2, dd, yHead_sc, r3 cq', pw, if_neg cq, show (c' : Int) + z + (c - 1 - s) - pl = ((c' + z : Nat) : Int) - 1 + c - pl - s from by omega]
    rw [← fin]
    exact w
