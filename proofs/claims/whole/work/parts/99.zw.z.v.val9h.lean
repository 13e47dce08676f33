/-! values, for whole: the reference's DecimalRows: divide, all of it -/
theorem V_dv214 {x2 : Int32} {x3 : Int32} {x4 : Int32} {x5 : Int32} {x6 : Int32} {t0_0 : Int32} {t0_1 : Int32} {t0_2 : Int32} {t0_3 : Int64} {t0_4 : Int32} {t0_5 : Int32} {t0_6 : Int32} {t0_7 : Int32} {t0_8 : Int32} {t0_9 : Int32} {t0_10 : Int32} {t1_0 : (Nat → Int32)} {t2_0 : (Nat → Int32)} {t3_0 : (Nat → Int32)} {t4_0 : (Nat → Int32)} {t5_0 : (Nat → Int32)} {t6_0 : (Nat → Int32)} {t7_0 : (Nat → Int32)} {lx45 : Int32} {j100 : Int64} {j88 : Int64} {lx107 : Int32} {j126 : Int64} {lx187 : Int32} {D : Nat → Int × Int} (hD : dRv t1_0 t2_0 t3_0 t4_0 D) (hx4 : 0 ≤ x4.toInt ∧ x4.toInt ≤ 9) (h5 : -10000 ≤ x5.toInt ∧ x5.toInt ≤ 10000) (h107 : lx107 = 0 ∨ lx107 = 1) (h187 : lx187 = 0 ∨ lx187 = 1) : dAn x4 D ((sRnd x6 lx107 lx187 0).map (fun u => (sgI lx107 u, x5.toInt))) lx45 2 (F_DR_divide_J214 x2 x3 x4 x5 x6 t0_0 t0_1 t0_2 t0_3 t0_4 t0_5 t0_6 t0_7 t0_8 t0_9 t0_10 t1_0 t2_0 t3_0 t4_0 t5_0 t6_0 t7_0 lx45 j100 j88 lx107 j126 lx187).1 (F_DR_divide_J214 x2 x3 x4 x5 x6 t0_0 t0_1 t0_2 t0_3 t0_4 t0_5 t0_6 t0_7 t0_8 t0_9 t0_10 t1_0 t2_0 t3_0 t4_0 t5_0 t6_0 t7_0 lx45 j100 j88 lx107 j126 lx187).2.2.2.2.2.2.2.2.2.2.2.1 (F_DR_divide_J214 x2 x3 x4 x5 x6 t0_0 t0_1 t0_2 t0_3 t0_4 t0_5 t0_6 t0_7 t0_8 t0_9 t0_10 t1_0 t2_0 t3_0 t4_0 t5_0 t6_0 t7_0 lx45 j100 j88 lx107 j126 lx187).2.2.2.2.2.2.2.2.2.2.2.2.1 (F_DR_divide_J214 x2 x3 x4 x5 x6 t0_0 t0_1 t0_2 t0_3 t0_4 t0_5 t0_6 t0_7 t0_8 t0_9 t0_10 t1_0 t2_0 t3_0 t4_0 t5_0 t6_0 t7_0 lx45 j100 j88 lx107 j126 lx187).2.2.2.2.2.2.2.2.2.2.2.2.2.1 (F_DR_divide_J214 x2 x3 x4 x5 x6 t0_0 t0_1 t0_2 t0_3 t0_4 t0_5 t0_6 t0_7 t0_8 t0_9 t0_10 t1_0 t2_0 t3_0 t4_0 t5_0 t6_0 t7_0 lx45 j100 j88 lx107 j126 lx187).2.2.2.2.2.2.2.2.2.2.2.2.2.2.1 := by
  have e0 : (0 : Int32).toInt = 0 := rfl
  have e00 : (0 : Int32).toNatClampNeg = 0 := rfl
  have e10 : (1 : Int32).toNatClampNeg = 1 := rfl
  have e5 : (x5.toInt64 + 1 : Int64).toInt = x5.toInt + 1 := q_addL (Int32.toInt_toInt64 _) rfl (by omega) (by omega)
  have g1 : gO (upd t5_0 (0 : Int32).toNatClampNeg 0) (1 : Int32).toNatClampNeg := g_one
  have v1 : uV (upd t5_0 (0 : Int32).toNatClampNeg 0) (1 : Int32).toNatClampNeg = 0 := by
    rw [e10, e00]
    show 0 * 10 + (upd t5_0 0 0 0).toInt = 0
    rw [v_eq]
    rfl
  have rs : rSt 0 1 lx187 = lx187 := by
    unfold rSt
    rcases h187 with e | e
    · rw [e]
      exact if_pos ⟨rfl, rfl⟩
    · rw [e]
      exact if_neg (fun h => absurd h.2 (by decide))
  unfold F_DR_divide_J214
  have hc := V_DR_cut (x2 := 0) (x3 := x6) (t0_0 := lx45) (t0_1 := t0_1) (t0_2 := 1) (t0_3 := x5.toInt64 + 1) (t0_4 := lx187) (t0_5 := lx107) (t0_6 := t0_6) (t0_7 := t0_7) (t0_8 := t0_8) (t0_9 := t0_9) (t0_10 := 2) (t1_0 := upd t5_0 (0 : Int32).toNatClampNeg 0) (v := 0) (e := 1) ⟨by decide, by decide⟩ ⟨by decide, by decide⟩ rfl g1 v1 h187 ⟨by omega, by omega⟩
  generalize F_DR_cut 0 x6 lx45 t0_1 1 (x5.toInt64 + 1) lx187 lx107 t0_6 t0_7 t0_8 t0_9 2 (upd t5_0 (0 : Int32).toNatClampNeg 0) = y at hc ⊢
  unfold F_DR_divide_c397
  rw [rs, show (10 * (0 : Int)) / 10 ^ 1 = 0 from rfl] at hc
  unfold sRnd
  generalize rGr x6 lx107 lx187 0 = G at hc ⊢
  rcases hc with ⟨g2, r0, r1⟩ | ⟨gn, r0, r1, r2, r3, r4, r5, r6, r7, r8, r9, r10, r11, r12, r13⟩
  · rw [if_pos r0, if_pos g2]
    exact Or.inr ⟨Or.inl rfl, r1, hD⟩
  · rw [if_neg (show ¬ y.1 = 0 by rw [r0]; decide), if_neg gn]
    have hs := dSv_e (V_DR_store (x2 := x4) (t0_0 := y.2.1) (t0_1 := y.2.2.1) (t0_2 := y.2.2.2.1) (t0_3 := y.2.2.2.2.1) (t0_4 := y.2.2.2.2.2.1) (t0_5 := y.2.2.2.2.2.2.1) (t0_6 := y.2.2.2.2.2.2.2.1) (t0_7 := y.2.2.2.2.2.2.2.2.1) (t0_8 := y.2.2.2.2.2.2.2.2.2.1) (t0_9 := y.2.2.2.2.2.2.2.2.2.2.1) (t0_10 := y.2.2.2.2.2.2.2.2.2.2.2.1) (t5_0 := y.2.2.2.2.2.2.2.2.2.2.2.2) hD hx4 (by rw [r6]; exact h107) (by omega) r12 r13) r1 r6 r11 (show y.2.2.2.2.1.toInt = x5.toInt by rw [r4, e5]; omega)
    generalize F_DR_store x4 y.2.1 y.2.2.1 y.2.2.2.1 y.2.2.2.2.1 y.2.2.2.2.2.1 y.2.2.2.2.2.2.1 y.2.2.2.2.2.2.2.1 y.2.2.2.2.2.2.2.2.1 y.2.2.2.2.2.2.2.2.2.1 y.2.2.2.2.2.2.2.2.2.2.1 y.2.2.2.2.2.2.2.2.2.2.2.1 t1_0 t2_0 t3_0 t4_0 y.2.2.2.2.2.2.2.2.2.2.2.2 = w at hs ⊢
    unfold F_DR_divide_c405
    exact hs.an
/-- ten times the quotient, cut, and what is behind it -/
def dvN (a : Int) (z : Int) : Int := 10 * ((a.natAbs : Int) * 10 ^ z.toNat)
def dvU (b : Int) (z : Int) : Int := (b.natAbs : Int) * 10 ^ (-z).toNat
def sDiv (m : Int32) (q r : Int × Int) (w : Int) : Option (Int × Int) := if r.1 = 0 then none else (sRnd m (sXor (sF q.1) (sF r.1)) (if dvN q.1 (w + r.2 - q.2) % dvU r.1 (w + r.2 - q.2) = 0 then 0 else 1) (dvN q.1 (w + r.2 - q.2) / dvU r.1 (w + r.2 - q.2))).map (fun u => (sgI (sXor (sF q.1) (sF r.1)) u, w))
theorem d_bdI {v : Int} {m : Nat} (h : vG v m) (hv : v ≠ 0) : (10 : Int) ^ (m - 1) ≤ (v.natAbs : Int) ∧ (v.natAbs : Int) < 10 ^ m := by
  have := d_bd (d := 0) h hv
  rw [Int.pow_zero, Int.mul_one, Nat.add_zero, Nat.add_zero] at this
  exact this
/-- too long a quotient -/
theorem d_dvB {a b : Int} {m n : Nat} {z : Int} (ha : vG a m) (hb : vG b n) (a0 : a ≠ 0) (b0 : b ≠ 0) (h : 1000 < (m : Int) - n + z) (hm : m ≤ 1000) : (10 : Int) ^ 1000 ≤ dvN a z / dvU b z / 10 := by
  obtain ⟨a1, a2⟩ := d_bdI ha a0
  obtain ⟨b1, b2⟩ := d_bdI hb b0
  have hn := hb.1.1
  have hm1 := ha.1.1
  have z0 : 0 ≤ z := by omega
  have bp : 0 < (b.natAbs : Int) := by omega
  unfold dvN dvU
  rw [show (-z).toNat = 0 by omega, Int.pow_zero, Int.mul_one, Int.ediv_ediv_of_nonneg (by omega), Int.mul_comm (b.natAbs : Int) 10, Int.mul_ediv_mul_of_pos _ _ (by decide)]
  refine (Int.le_ediv_iff_mul_le bp).mpr ?_
  have e : (10 : Int) ^ 1000 * 10 ^ n = 10 ^ (1000 + n) := (Int.pow_add _ _ _).symm
  have h1 : (10 : Int) ^ 1000 * (b.natAbs : Int) ≤ 10 ^ 1000 * 10 ^ n := Int.mul_le_mul_of_nonneg_left (Int.le_of_lt b2) (Int.le_of_lt (u_pos _))
  have h2 : (10 : Int) ^ (1000 + n) ≤ 10 ^ (m - 1 + z.toNat) := u_pwle (by omega)
  have h3 : (10 : Int) ^ (m - 1 + z.toNat) ≤ (a.natAbs : Int) * 10 ^ z.toNat := by
    rw [Int.pow_add]
    exact Int.mul_le_mul_of_nonneg_right a1 (Int.le_of_lt (u_pos _))
  rw [e] at h1
  exact Int.le_trans h1 (Int.le_trans h2 h3)
/-- far too small a quotient -/
theorem d_dvS {a b : Int} {m n : Nat} {z : Int} (ha : vG a m) (hb : vG b n) (a0 : a ≠ 0) (b0 : b ≠ 0) (h : (m : Int) - n + z < -1) : dvN a z / dvU b z = 0 ∧ dvN a z % dvU b z ≠ 0 := by
  obtain ⟨a1, a2⟩ := d_bdI ha a0
  obtain ⟨b1, b2⟩ := d_bdI hb b0
  have hn := hb.1.1
  have hm1 := ha.1.1
  have ap : 0 < (a.natAbs : Int) := by omega
  have N1 : dvN a z < 10 ^ (m + 1 + z.toNat) := by
    have h3 : (a.natAbs : Int) * 10 ^ z.toNat < 10 ^ m * 10 ^ z.toNat := Int.mul_lt_mul_of_pos_right a2 (u_pos _)
    have h4 : (10 : Int) ^ (m + 1 + z.toNat) = 10 * (10 ^ m * 10 ^ z.toNat) := by
      rw [Int.pow_add, u_pw, Int.mul_comm (10 ^ m) 10, Int.mul_assoc]
    unfold dvN
    rw [h4]
    omega
  have U1 : (10 : Int) ^ (n - 1 + (-z).toNat) ≤ dvU b z := by
    unfold dvU
    rw [Int.pow_add]
    exact Int.mul_le_mul_of_nonneg_right b1 (Int.le_of_lt (u_pos _))
  have h5 : (10 : Int) ^ (m + 1 + z.toNat) ≤ 10 ^ (n - 1 + (-z).toNat) := u_pwle (by omega)
  have lt := Int.lt_of_lt_of_le N1 (Int.le_trans h5 U1)
  have N0 : 0 < dvN a z := by
    unfold dvN
    have := Int.mul_pos ap (u_pos z.toNat)
    omega
  rw [Int.ediv_eq_zero_of_lt (by omega) lt, Int.emod_eq_of_lt (by omega) lt]
  exact ⟨rfl, by omega⟩
theorem V_dv140 {x2 : Int32} {x3 : Int32} {x4 : Int32} {x5 : Int32} {x6 : Int32} {t0_0 : Int32} {t0_1 : Int32} {t0_2 : Int32} {t0_3 : Int64} {t0_4 : Int32} {t0_5 : Int32} {t0_6 : Int32} {t0_7 : Int32} {t0_8 : Int32} {t0_9 : Int32} {t0_10 : Int32} {t1_0 : (Nat → Int32)} {t2_0 : (Nat → Int32)} {t3_0 : (Nat → Int32)} {t4_0 : (Nat → Int32)} {t5_0 : (Nat → Int32)} {t6_0 : (Nat → Int32)} {t7_0 : (Nat → Int32)} {lx45 : Int32} {j100 : Int64} {j88 : Int64} {lx107 : Int32} {D : Nat → Int × Int} {z : Int} (hD : dRv t1_0 t2_0 t3_0 t4_0 D) (hx2 : 0 ≤ x2.toInt ∧ x2.toInt ≤ 9) (hx3 : 0 ≤ x3.toInt ∧ x3.toInt ≤ 9) (hx4 : 0 ≤ x4.toInt ∧ x4.toInt ≤ 9) (h5 : -10000 ≤ x5.toInt ∧ x5.toInt ≤ 10000) (hb : (D x3.toNatClampNeg).1 ≠ 0) (hz : z = x5.toInt + (D x3.toNatClampNeg).2 - (D x2.toNatClampNeg).2) (h88 : j88.toInt = z) (h100 : j100.toInt = (t2_0 x2.toNatClampNeg).toInt - (t2_0 x3.toNatClampNeg).toInt + z) (h107 : lx107 = sXor (sF (D x2.toNatClampNeg).1) (sF (D x3.toNatClampNeg).1)) : dAn x4 D (sDiv x6 (D x2.toNatClampNeg) (D x3.toNatClampNeg) x5.toInt) lx45 2 (F_DR_divide_J140 x2 x3 x4 x5 x6 t0_0 t0_1 t0_2 t0_3 t0_4 t0_5 t0_6 t0_7 t0_8 t0_9 t0_10 t1_0 t2_0 t3_0 t4_0 t5_0 t6_0 t7_0 lx45 j100 j88 lx107).1 (F_DR_divide_J140 x2 x3 x4 x5 x6 t0_0 t0_1 t0_2 t0_3 t0_4 t0_5 t0_6 t0_7 t0_8 t0_9 t0_10 t1_0 t2_0 t3_0 t4_0 t5_0 t6_0 t7_0 lx45 j100 j88 lx107).2.2.2.2.2.2.2.2.2.2.2.1 (F_DR_divide_J140 x2 x3 x4 x5 x6 t0_0 t0_1 t0_2 t0_3 t0_4 t0_5 t0_6 t0_7 t0_8 t0_9 t0_10 t1_0 t2_0 t3_0 t4_0 t5_0 t6_0 t7_0 lx45 j100 j88 lx107).2.2.2.2.2.2.2.2.2.2.2.2.1 (F_DR_divide_J140 x2 x3 x4 x5 x6 t0_0 t0_1 t0_2 t0_3 t0_4 t0_5 t0_6 t0_7 t0_8 t0_9 t0_10 t1_0 t2_0 t3_0 t4_0 t5_0 t6_0 t7_0 lx45 j100 j88 lx107).2.2.2.2.2.2.2.2.2.2.2.2.2.1 (F_DR_divide_J140 x2 x3 x4 x5 x6 t0_0 t0_1 t0_2 t0_3 t0_4 t0_5 t0_6 t0_7 t0_8 t0_9 t0_10 t1_0 t2_0 t3_0 t4_0 t5_0 t6_0 t7_0 lx45 j100 j88 lx107).2.2.2.2.2.2.2.2.2.2.2.2.2.2.1 := by
  have eK : (1000 : Int64).toInt = 1000 := rfl
  have eM : (-1 : Int64).toInt = -1 := rfl
  have eL : (0 : Int64).toInt = 0 := rfl
  have h2c := q_clI (i := x2) rfl hx2.1
  have h3c := q_clI (i := x3) rfl hx3.1
  obtain ⟨a1, a2, a3, a4, a5, a6⟩ := hD.2 x2.toNatClampNeg (by omega)
  obtain ⟨b1, b2, b3, b4, b5, b6⟩ := hD.2 x3.toNatClampNeg (by omega)
  have ma := q_clI (i := t2_0 x2.toNatClampNeg) rfl (by omega)
  have mb := q_clI (i := t2_0 x3.toNatClampNeg) rfl (by omega)
  have l01 : lx107 = 0 ∨ lx107 = 1 := by
    rw [h107]
    exact sXor_01
  have so : sDiv x6 (D x2.toNatClampNeg) (D x3.toNatClampNeg) x5.toInt = (sRnd x6 lx107 (if dvN (D x2.toNatClampNeg).1 z % dvU (D x3.toNatClampNeg).1 z = 0 then 0 else 1) (dvN (D x2.toNatClampNeg).1 z / dvU (D x3.toNatClampNeg).1 z)).map (fun u => (sgI lx107 u, x5.toInt)) := by
    unfold sDiv
    rw [if_neg hb, ← hz, ← h107]
  rw [so]
  unfold F_DR_divide_J140
  rw [d_iz hD hx2]
  by_cases za : (D x2.toNatClampNeg).1 = 0
  · rw [if_pos za, if_neg (show ¬ (1 : Int32) = 0 by decide)]
    unfold F_DR_divide_J183
    rw [d_iz hD hx2, if_pos za, if_neg (show ¬ (1 : Int32) = 0 by decide)]
    unfold F_DR_divide_J200
    rw [d_iz hD hx2, if_pos za, if_neg (show ¬ (1 : Int32) = 0 by decide)]
    have e1 : dvN (D x2.toNatClampNeg).1 z = 0 := by
      unfold dvN
      rw [za]
      show 10 * ((0 : Int) * _) = 0
      rw [Int.zero_mul]
      rfl
    rw [e1, Int.zero_emod, Int.zero_ediv, if_pos rfl]
    exact V_dv214 hD hx4 h5 l01 (Or.inl rfl)
  · rw [if_neg za, if_pos rfl]
    by_cases c : lg_cmp j100 1000 ≤ 0
    · have c2 := g_lc3 c
      rw [if_pos c]
      unfold F_DR_divide_J183
      rw [d_iz hD hx2, if_neg za, if_pos rfl]
      by_cases d : 0 ≤ lg_cmp j100 (-1)
      · have d2 := g_lc5 d
        rw [if_pos d]
        -- the loop
        have go : ∀ (l : Int32) (zn zp : Nat), l.toInt = (zn : Int) → zn = (-z).toNat → zp = z.toNat → dAn x4 D ((sRnd x6 lx107 (if dvN (D x2.toNatClampNeg).1 z % dvU (D x3.toNatClampNeg).1 z = 0 then 0 else 1) (dvN (D x2.toNatClampNeg).1 z / dvU (D x3.toNatClampNeg).1 z)).map (fun u => (sgI lx107 u, x5.toInt))) lx45 2 (F_DR_divide_J258 x2 x3 x4 x5 x6 t0_0 t0_1 t0_2 t0_3 t0_4 t0_5 t0_6 t0_7 t0_8 t0_9 t0_10 t1_0 t2_0 t3_0 t4_0 t5_0 t6_0 t7_0 lx45 j100 j88 lx107 x5.toInt64 l).1 (F_DR_divide_J258 x2 x3 x4 x5 x6 t0_0 t0_1 t0_2 t0_3 t0_4 t0_5 t0_6 t0_7 t0_8 t0_9 t0_10 t1_0 t2_0 t3_0 t4_0 t5_0 t6_0 t7_0 lx45 j100 j88 lx107 x5.toInt64 l).2.2.2.2.2.2.2.2.2.2.2.1 (F_DR_divide_J258 x2 x3 x4 x5 x6 t0_0 t0_1 t0_2 t0_3 t0_4 t0_5 t0_6 t0_7 t0_8 t0_9 t0_10 t1_0 t2_0 t3_0 t4_0 t5_0 t6_0 t7_0 lx45 j100 j88 lx107 x5.toInt64 l).2.2.2.2.2.2.2.2.2.2.2.2.1 (F_DR_divide_J258 x2 x3 x4 x5 x6 t0_0 t0_1 t0_2 t0_3 t0_4 t0_5 t0_6 t0_7 t0_8 t0_9 t0_10 t1_0 t2_0 t3_0 t4_0 t5_0 t6_0 t7_0 lx45 j100 j88 lx107 x5.toInt64 l).2.2.2.2.2.2.2.2.2.2.2.2.2.1 (F_DR_divide_J258 x2 x3 x4 x5 x6 t0_0 t0_1 t0_2 t0_3 t0_4 t0_5 t0_6 t0_7 t0_8 t0_9 t0_10 t1_0 t2_0 t3_0 t4_0 t5_0 t6_0 t7_0 lx45 j100 j88 lx107 x5.toInt64 l).2.2.2.2.2.2.2.2.2.2.2.2.2.2.1 := fun l zn zp hl hn hp => by
          have hlu := V_DR_loadUnder (x2 := x3) (x3 := l) (t0_0 := lx45) (t0_1 := t0_1) (t0_2 := 0) (t0_3 := x5.toInt64) (t0_4 := 0) (t0_5 := lx107) (t0_6 := t0_6) (t0_7 := t0_7) (t0_8 := t0_8) (t0_9 := t0_9) (t0_10 := 2) (t3_0 := t6_0) (z := zn) hD hx3 hl (by omega)
          unfold F_DR_divide_J258
          generalize F_DR_loadUnder x3 l lx45 t0_1 0 x5.toInt64 0 lx107 t0_6 t0_7 t0_8 t0_9 2 t1_0 t2_0 t6_0 = p at hlu ⊢
          unfold F_DR_divide_c258
          obtain ⟨u7, u11, uU, u0, u1, u2, u3, u4, u5, u6, u8, u9, u10⟩ := hlu
          generalize hZ : (t2_0 x3.toNatClampNeg).toNatClampNeg + zn = Z at u7 u11 uU
          have hq := (T_DR_beginQuotient (t0_0 := p.1) (t0_1 := p.2.1) (t0_2 := p.2.2.1) (t0_3 := p.2.2.2.1) (t0_4 := p.2.2.2.2.1) (t0_5 := p.2.2.2.2.2.1) (t0_6 := p.2.2.2.2.2.2.1) (t0_7 := p.2.2.2.2.2.2.2.1) (t0_8 := p.2.2.2.2.2.2.2.2.1) (t0_9 := p.2.2.2.2.2.2.2.2.2.1) (t0_10 := p.2.2.2.2.2.2.2.2.2.2.1) (t1_0 := t7_0) ⟨by omega, by omega⟩).2
          generalize F_DR_beginQuotient p.1 p.2.1 p.2.2.1 p.2.2.2.1 p.2.2.2.2.1 p.2.2.2.2.2.1 p.2.2.2.2.2.2.1 p.2.2.2.2.2.2.2.1 p.2.2.2.2.2.2.2.2.1 p.2.2.2.2.2.2.2.2.2.1 p.2.2.2.2.2.2.2.2.2.2.1 t7_0 = r at hq ⊢
          unfold F_DR_divide_c262
          obtain ⟨q11, q0, q1, q2, q3, q4, q5, q7, q10⟩ := hq
          have U0 : 0 < ((D x3.toNatClampNeg).1.natAbs : Int) * 10 ^ zn := Int.mul_pos (by omega) (u_pos _)
          have eU : dvU (D x3.toNatClampNeg).1 z = ((D x3.toNatClampNeg).1.natAbs : Int) * 10 ^ zn := by
            unfold dvU
            rw [hn]
          have eN : dvN (D x2.toNatClampNeg).1 z = 10 * (((D x2.toNatClampNeg).1.natAbs : Int) * 10 ^ zp) := by
            unfold dvN
            rw [hp]
          have zc := q_clI (i := r.2.2.2.2.2.2.2.1) rfl (by rw [q7]; omega)
          have zx : r.2.2.2.2.2.2.2.1.toNatClampNeg = Z := by
            rw [q7] at zc ⊢
            omega
          rw [eU, eN]
          refine V_dvL9 (Z := Z) (ma := (t2_0 x2.toNatClampNeg).toNatClampNeg) hD hx2 hx4 h5 ma.symm ⟨by omega, by omega⟩ ?_ (by omega) uU U0 l01 _ _ _ _ _ _ _ _ _ _ _ _ _ _ _ 0 rfl (Nat.zero_le _) (by omega) (q0.trans u0) (q5.trans u5) (q10.trans u10) ?_
          · by_cases zz : z ≤ 0
            · exact Or.inl ⟨by omega, by omega⟩
            · exact Or.inr ⟨by omega, by omega⟩
          · have gl : gO r.2.2.2.2.2.2.2.2.2.2.2 (Z + 1) := fun i hi => by
              rw [q11 i (by omega)]
              exact ⟨by decide, by decide⟩
            have vl : uV r.2.2.2.2.2.2.2.2.2.2.2 (Z + 1) = 0 := u_zer (fun i hi => q11 i (by omega))
            refine ⟨⟨⟨by rw [q7]; omega, by rw [q7]; omega⟩, by rw [zx]; exact u11, by rw [zx]; exact gl, ?_⟩, by rw [q7]; exact u7, ?_, ?_, ?_, ?_⟩
            · rw [zx, vl]
              show (0 : Int) < _
              rw [uU]
              exact U0
            · rw [q2]
              exact ⟨by decide, by decide⟩
            · rw [q2]
              intro i hi
              exact absurd hi (Nat.not_lt_zero _)
            · rw [q2]
              exact Or.inl rfl
            · rw [vl, q2]
              show (0 : Int) * _ + 0 = 0
              rw [Int.zero_mul]
              rfl
        by_cases f : 0 ≤ lg_cmp j88 0
        · have f2 := g_lc5 f
          rw [if_pos f]
          exact go 0 0 z.toNat rfl (by omega) rfl
        · have f2 := g_lc6 f
          have en : ((-j88 : Int64).toInt32).toInt = -z := by
            have := u_ng (j := j88) ⟨by omega, by omega⟩
            rw [this, h88]
          rw [if_neg f]
          exact go _ (-z).toNat z.toNat (by rw [en]; omega) rfl rfl
      · have d2 := g_lc6 d
        obtain ⟨s1, s2⟩ := d_dvS (z := z) a3 b3 za hb (by omega)
        rw [if_neg d]
        unfold F_DR_divide_J200
        rw [d_iz hD hx2, if_neg za, if_pos rfl, s1, if_neg s2]
        exact V_dv214 hD hx4 h5 l01 (Or.inr rfl)
    · have c2 := g_lc4 c
      have hB := d_dvB (z := z) a3 b3 za hb (by omega) (by omega)
      rw [if_neg c]
      unfold sRnd
      by_cases g : rGr x6 lx107 (if dvN (D x2.toNatClampNeg).1 z % dvU (D x3.toNatClampNeg).1 z = 0 then 0 else 1) (dvN (D x2.toNatClampNeg).1 z / dvU (D x3.toNatClampNeg).1 z) = 2
      · rw [if_pos g]
        exact Or.inr ⟨Or.inl rfl, rfl, hD⟩
      · rw [if_neg g]
        refine Or.inr ⟨Or.inr ⟨_, rfl, fun hf => ?_⟩, rfl, hD⟩
        have hg := rGr_neg (m := x6) (b := lx107) (st := if dvN (D x2.toNatClampNeg).1 z % dvU (D x3.toNatClampNeg).1 z = 0 then 0 else 1) (t := dvN (D x2.toNatClampNeg).1 z / dvU (D x3.toNatClampNeg).1 z)
        have h1 := hf.1
        rw [show (sgI lx107 (dvN (D x2.toNatClampNeg).1 z / dvU (D x3.toNatClampNeg).1 z / 10 + (rGr x6 lx107 (if dvN (D x2.toNatClampNeg).1 z % dvU (D x3.toNatClampNeg).1 z = 0 then 0 else 1) (dvN (D x2.toNatClampNeg).1 z / dvU (D x3.toNatClampNeg).1 z)).toInt)).natAbs = _ from sgI_abs] at h1
        have h2 := Int.ofNat_lt.mpr h1
        rw [Int.natCast_pow] at h2
        generalize dvN (D x2.toNatClampNeg).1 z / dvU (D x3.toNatClampNeg).1 z / 10 = Q at hB h2
        generalize (rGr x6 lx107 (if dvN (D x2.toNatClampNeg).1 z % dvU (D x3.toNatClampNeg).1 z = 0 then 0 else 1) (dvN (D x2.toNatClampNeg).1 z / dvU (D x3.toNatClampNeg).1 z)).toInt = G at hg h2
        have h3 : (10 : Int) ^ 1000 ≤ ((Q + G).natAbs : Int) := by
          have := u_pos 1000
          generalize (10 : Int) ^ 1000 = T at *
          omega
        exact absurd (Int.lt_of_lt_of_le h2 h3) (Int.lt_irrefl _)
