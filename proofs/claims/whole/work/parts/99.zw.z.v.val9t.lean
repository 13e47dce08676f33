/-! values, for whole: the reference's DecimalRows: remainder, all of it -/
theorem V_rm106 {x2 : Int32} {x3 : Int32} {x4 : Int32} {t0_0 : Int32} {t0_1 : Int32} {t0_2 : Int32} {t0_3 : Int64} {t0_4 : Int32} {t0_5 : Int32} {t0_6 : Int32} {t0_7 : Int32} {t0_8 : Int32} {t0_9 : Int32} {t0_10 : Int32} {t1_0 : (Nat → Int32)} {t2_0 : (Nat → Int32)} {t3_0 : (Nat → Int32)} {t4_0 : (Nat → Int32)} {t5_0 : (Nat → Int32)} {t6_0 : (Nat → Int32)} {t7_0 : (Nat → Int32)} {lx45 : Int32} {lx76 : Int64} {D : Nat → Int × Int} {a b : Int × Int} {x y : Nat} (hD : dRv t1_0 t2_0 t3_0 t4_0 D) (hx2 : 0 ≤ x2.toInt ∧ x2.toInt ≤ 9) (hx3 : 0 ≤ x3.toInt ∧ x3.toInt ≤ 9) (hx4 : 0 ≤ x4.toInt ∧ x4.toInt ≤ 9) (ea : D x2.toNatClampNeg = a) (eb : D x3.toNatClampNeg = b) (hW : lx76.toInt = max a.2 b.2) (hx : x = (max a.2 b.2 - a.2).toNat) (hy : y = (max a.2 b.2 - b.2).toNat) (b0 : b.1 ≠ 0) (sm : a.1 = 0 ∨ (a.1.natAbs : Int) * 10 ^ x < (b.1.natAbs : Int) * 10 ^ y) : dAn x4 D (some (sRem a b)) lx45 2 (F_DR_remainder_J106 x2 x3 x4 t0_0 t0_1 t0_2 t0_3 t0_4 t0_5 t0_6 t0_7 t0_8 t0_9 t0_10 t1_0 t2_0 t3_0 t4_0 t5_0 t6_0 t7_0 lx45 lx76).1 (F_DR_remainder_J106 x2 x3 x4 t0_0 t0_1 t0_2 t0_3 t0_4 t0_5 t0_6 t0_7 t0_8 t0_9 t0_10 t1_0 t2_0 t3_0 t4_0 t5_0 t6_0 t7_0 lx45 lx76).2.2.2.2.2.2.2.2.2.2.2.1 (F_DR_remainder_J106 x2 x3 x4 t0_0 t0_1 t0_2 t0_3 t0_4 t0_5 t0_6 t0_7 t0_8 t0_9 t0_10 t1_0 t2_0 t3_0 t4_0 t5_0 t6_0 t7_0 lx45 lx76).2.2.2.2.2.2.2.2.2.2.2.2.1 (F_DR_remainder_J106 x2 x3 x4 t0_0 t0_1 t0_2 t0_3 t0_4 t0_5 t0_6 t0_7 t0_8 t0_9 t0_10 t1_0 t2_0 t3_0 t4_0 t5_0 t6_0 t7_0 lx45 lx76).2.2.2.2.2.2.2.2.2.2.2.2.2.1 (F_DR_remainder_J106 x2 x3 x4 t0_0 t0_1 t0_2 t0_3 t0_4 t0_5 t0_6 t0_7 t0_8 t0_9 t0_10 t1_0 t2_0 t3_0 t4_0 t5_0 t6_0 t7_0 lx45 lx76).2.2.2.2.2.2.2.2.2.2.2.2.2.2.1 := by
  have eK : (1000 : Int64).toInt = 1000 := rfl
  have h2c := q_clI (i := x2) rfl hx2.1
  have h3c := q_clI (i := x3) rfl hx3.1
  have A := hD.2 x2.toNatClampNeg (by omega)
  have B := hD.2 x3.toNatClampNeg (by omega)
  rw [ea] at A
  rw [eb] at B
  obtain ⟨a1, a2, a3, a4, a5, a6⟩ := A
  obtain ⟨b1, b2, b3, b4, b5, b6⟩ := B
  have sE : sRem a b = (a.1 * 10 ^ x, max a.2 b.2) := by
    unfold sRem
    rw [← hx, ← hy, v_tmL]
    rcases sm with z | lt
    · rw [z, Int.zero_mul, Int.natAbs_mul, Int.natAbs_pow]
      exact Nat.mul_pos (by omega) (Nat.pow_pos (by decide))
    · refine Int.ofNat_lt.mp ?_
      rw [Int.natAbs_mul, Int.natAbs_mul, Int.natCast_mul, Int.natCast_mul, Int.natAbs_pow, Int.natAbs_pow, Int.natCast_pow, Int.natCast_pow]
      exact lt
  rw [sE]
  unfold F_DR_remainder_J106
  have hl := V_DR_load (x2 := x2) (t0_0 := lx45) (t0_1 := t0_1) (t0_2 := t0_2) (t0_3 := t0_3) (t0_4 := t0_4) (t0_5 := t0_5) (t0_6 := t0_6) (t0_7 := t0_7) (t0_8 := t0_8) (t0_9 := t0_9) (t0_10 := 2) (t5_0 := t5_0) hD hx2
  rw [ea] at hl
  generalize F_DR_load x2 lx45 t0_1 t0_2 t0_3 t0_4 t0_5 t0_6 t0_7 t0_8 t0_9 2 t1_0 t2_0 t3_0 t4_0 t5_0 = p at hl ⊢
  unfold F_DR_remainder_c108
  obtain ⟨⟨l1, l2, l3, l4⟩, l5, l6, l7, l8, l9, l10, l11, l12, l13, l14, l15⟩ := hl
  have l8' : p.2.2.2.2.2.1 = sF a.1 := l8
  have br := V_DR_bring (x2 := lx76) (x3 := 1) (x4 := x4) (t0_0 := p.1) (t0_1 := p.2.1) (t0_2 := p.2.2.1) (t0_3 := p.2.2.2.1) (t0_4 := p.2.2.2.2.1) (t0_5 := p.2.2.2.2.2.1) (t0_6 := p.2.2.2.2.2.2.1) (t0_7 := p.2.2.2.2.2.2.2.1) (t0_8 := p.2.2.2.2.2.2.2.2.1) (t0_9 := p.2.2.2.2.2.2.2.2.2.1) (t0_10 := p.2.2.2.2.2.2.2.2.2.2.1) (t5_0 := p.2.2.2.2.2.2.2.2.2.2.2) hD hx4 ⟨by omega, by omega⟩ ⟨by omega, l5⟩ ⟨by omega, by omega⟩ l7 (by rw [l8']; exact sF_01) l2 l3
  generalize F_DR_bring lx76 1 x4 p.1 p.2.1 p.2.2.1 p.2.2.2.1 p.2.2.2.2.1 p.2.2.2.2.2.1 p.2.2.2.2.2.2.1 p.2.2.2.2.2.2.2.1 p.2.2.2.2.2.2.2.2.1 p.2.2.2.2.2.2.2.2.2.1 p.2.2.2.2.2.2.2.2.2.2.1 t1_0 t2_0 t3_0 t4_0 p.2.2.2.2.2.2.2.2.2.2.2 = q at br ⊢
  rw [l8', sF_z, l6, hW, l9, l15] at br
  have oE : (sScl 1 (sF a.1) (a.1.natAbs : Int) a.2 (max a.2 b.2)).map (fun u => (sgI (sF a.1) u, max a.2 b.2)) = some (a.1 * 10 ^ x, max a.2 b.2) := by
    unfold sScl
    rw [if_pos (by omega), ← hx]
    show some (sgI (sF a.1) ((a.1.natAbs : Int) * 10 ^ x), max a.2 b.2) = _
    rw [sgI_mul, sF_sg]
  rw [oE] at br
  have e1 : (lx76 - p.2.2.2.1 : Int64).toInt = max a.2 b.2 - a.2 := q_subL hW l6 (by omega) (by omega)
  by_cases c : lg_cmp (lx76 - p.2.2.2.1) 1000 ≤ 0
  · rw [if_pos c]
    unfold F_DR_remainder_c144
    exact br
  · have c2 := g_lc4 c
    have z : a.1 = 0 := by
      rcases sm with z | lt
      · exact z
      · by_cases z : a.1 = 0
        · exact z
        · exfalso
          have y0 : y = 0 := by omega
          rw [y0, Int.pow_zero, Int.mul_one] at lt
          have k1 : (1 : Int) * 10 ^ x ≤ (a.1.natAbs : Int) * 10 ^ x := Int.mul_le_mul_of_nonneg_right (by omega) (Int.le_of_lt (u_pos x))
          rw [Int.one_mul] at k1
          have k2 : (10 : Int) ^ 1000 ≤ 10 ^ x := u_pwle (by omega)
          have mb := q_clI (i := t2_0 x3.toNatClampNeg) rfl (by omega)
          have k3 := (d_bdI b3 b0).2
          have k4 : (10 : Int) ^ (t2_0 x3.toNatClampNeg).toNatClampNeg ≤ 10 ^ 1000 := u_pwle (by omega)
          exact absurd (Int.lt_of_le_of_lt (Int.le_trans k2 k1) (Int.lt_trans lt (Int.lt_of_lt_of_le k3 k4))) (Int.lt_irrefl _)
    rw [if_neg c, d_iz hD hx2, ea, if_pos z, if_neg (by decide)]
    unfold F_DR_remainder_c144_6
    exact br
theorem V_rm87 {x2 : Int32} {x3 : Int32} {x4 : Int32} {t0_0 : Int32} {t0_1 : Int32} {t0_2 : Int32} {t0_3 : Int64} {t0_4 : Int32} {t0_5 : Int32} {t0_6 : Int32} {t0_7 : Int32} {t0_8 : Int32} {t0_9 : Int32} {t0_10 : Int32} {t1_0 : (Nat → Int32)} {t2_0 : (Nat → Int32)} {t3_0 : (Nat → Int32)} {t4_0 : (Nat → Int32)} {t5_0 : (Nat → Int32)} {t6_0 : (Nat → Int32)} {t7_0 : (Nat → Int32)} {lx45 : Int32} {lx76 : Int64} {D : Nat → Int × Int} {a b : Int × Int} (hD : dRv t1_0 t2_0 t3_0 t4_0 D) (hx2 : 0 ≤ x2.toInt ∧ x2.toInt ≤ 9) (hx3 : 0 ≤ x3.toInt ∧ x3.toInt ≤ 9) (hx4 : 0 ≤ x4.toInt ∧ x4.toInt ≤ 9) (ea : D x2.toNatClampNeg = a) (eb : D x3.toNatClampNeg = b) (hW : lx76.toInt = max a.2 b.2) (b0 : b.1 ≠ 0) : dAn x4 D (some (sRem a b)) lx45 2 (F_DR_remainder_J87 x2 x3 x4 t0_0 t0_1 t0_2 t0_3 t0_4 t0_5 t0_6 t0_7 t0_8 t0_9 t0_10 t1_0 t2_0 t3_0 t4_0 t5_0 t6_0 t7_0 lx45 lx76).1 (F_DR_remainder_J87 x2 x3 x4 t0_0 t0_1 t0_2 t0_3 t0_4 t0_5 t0_6 t0_7 t0_8 t0_9 t0_10 t1_0 t2_0 t3_0 t4_0 t5_0 t6_0 t7_0 lx45 lx76).2.2.2.2.2.2.2.2.2.2.2.1 (F_DR_remainder_J87 x2 x3 x4 t0_0 t0_1 t0_2 t0_3 t0_4 t0_5 t0_6 t0_7 t0_8 t0_9 t0_10 t1_0 t2_0 t3_0 t4_0 t5_0 t6_0 t7_0 lx45 lx76).2.2.2.2.2.2.2.2.2.2.2.2.1 (F_DR_remainder_J87 x2 x3 x4 t0_0 t0_1 t0_2 t0_3 t0_4 t0_5 t0_6 t0_7 t0_8 t0_9 t0_10 t1_0 t2_0 t3_0 t4_0 t5_0 t6_0 t7_0 lx45 lx76).2.2.2.2.2.2.2.2.2.2.2.2.2.1 (F_DR_remainder_J87 x2 x3 x4 t0_0 t0_1 t0_2 t0_3 t0_4 t0_5 t0_6 t0_7 t0_8 t0_9 t0_10 t1_0 t2_0 t3_0 t4_0 t5_0 t6_0 t7_0 lx45 lx76).2.2.2.2.2.2.2.2.2.2.2.2.2.2.1 := by
  have e0 : (0 : Int32).toInt = 0 := rfl
  have h2c := q_clI (i := x2) rfl hx2.1
  have h3c := q_clI (i := x3) rfl hx3.1
  have A := hD.2 x2.toNatClampNeg (by omega)
  have B := hD.2 x3.toNatClampNeg (by omega)
  rw [ea] at A
  rw [eb] at B
  obtain ⟨a1, a2, a3, a4, a5, a6⟩ := A
  obtain ⟨b1, b2, b3, b4, b5, b6⟩ := B
  have ma := q_clI (i := t2_0 x2.toNatClampNeg) rfl (by omega)
  have mb := q_clI (i := t2_0 x3.toNatClampNeg) rfl (by omega)
  unfold F_DR_remainder_J87
  rw [d_iz hD hx2, ea]
  by_cases za : a.1 = 0
  · rw [if_pos za, if_neg (show ¬ (1 : Int32) = 0 by decide)]
    exact V_rm106 hD hx2 hx3 hx4 ea eb hW rfl rfl b0 (Or.inl za)
  · rw [if_neg za, if_pos rfl]
    generalize hx : (max a.2 b.2 - a.2).toNat = x at *
    generalize hy : (max a.2 b.2 - b.2).toNat = y at *
    have hc := V_DR_compareSizes (x2 := x2) (x3 := x3) (t0_0 := lx45) (t0_1 := t0_1) (t0_2 := t0_2) (t0_3 := t0_3) (t0_4 := t0_4) (t0_5 := t0_5) (t0_6 := t0_6) (t0_7 := t0_7) (t0_8 := t0_8) (t0_9 := t0_9) (t0_10 := 2) (dX := x) (dY := y) hD hx2 hx3 (by rw [ea]; exact za) (by rw [eb]; exact b0) (by rw [ea, eb]; omega)
    rw [ea, eb] at hc
    generalize F_DR_compareSizes x2 x3 lx45 t0_1 t0_2 t0_3 t0_4 t0_5 t0_6 t0_7 t0_8 t0_9 2 t1_0 t2_0 t4_0 = c at hc ⊢
    by_cases g : (0 : Int32) ≤ c
    · have g2 := q_leI g
      have le : (b.1.natAbs : Int) * 10 ^ y ≤ (a.1.natAbs : Int) * 10 ^ x := by
        rcases hc with ⟨_, h⟩ | ⟨_, h⟩ | ⟨h, _⟩
        · exact Int.le_of_eq h.symm
        · exact Int.le_of_lt h
        · rw [h] at g2
          exact absurd g2 (by decide)
      rw [if_pos g]
      have hZ : y = 0 ∨ (t2_0 x3.toNatClampNeg).toNatClampNeg + y ≤ 1000 := by
        by_cases y0 : y = 0
        · exact Or.inl y0
        · right
          have x0 : x = 0 := by omega
          rw [x0, Int.pow_zero, Int.mul_one] at le
          have k1 := (d_bdI b3 b0).1
          have k2 := (d_bdI a3 za).2
          have k3 := Int.mul_le_mul_of_nonneg_right k1 (Int.le_of_lt (u_pos y))
          rw [← Int.pow_add] at k3
          by_cases c9 : (t2_0 x3.toNatClampNeg).toNatClampNeg + y ≤ 1000
          · exact c9
          · exfalso
            have k4 : (10 : Int) ^ (t2_0 x2.toNatClampNeg).toNatClampNeg ≤ 10 ^ ((t2_0 x3.toNatClampNeg).toNatClampNeg - 1 + y) := u_pwle (by omega)
            exact absurd (Int.lt_of_lt_of_le k2 (Int.le_trans k4 (Int.le_trans k3 le))) (Int.lt_irrefl _)
      have e1 : (lx76 - (t4_0 x3.toNatClampNeg).toInt64 : Int64).toInt = max a.2 b.2 - b.2 := q_subL hW ((Int32.toInt_toInt64 _).trans b5) (by omega) (by omega)
      have e2 : ((lx76 - (t4_0 x3.toNatClampNeg).toInt64).toInt32).toInt = (y : Int) := by
        rw [s_l2i (by omega) (by omega), e1]
        omega
      have hlu := V_DR_loadUnder (x2 := x3) (x3 := (lx76 - (t4_0 x3.toNatClampNeg).toInt64).toInt32) (t0_0 := lx45) (t0_1 := t0_1) (t0_2 := t0_2) (t0_3 := t0_3) (t0_4 := t0_4) (t0_5 := t0_5) (t0_6 := t0_6) (t0_7 := t0_7) (t0_8 := t0_8) (t0_9 := t0_9) (t0_10 := 2) (t3_0 := t6_0) (z := y) hD hx3 e2 (by omega)
      rw [eb] at hlu
      generalize F_DR_loadUnder x3 (lx76 - (t4_0 x3.toNatClampNeg).toInt64).toInt32 lx45 t0_1 t0_2 t0_3 t0_4 t0_5 t0_6 t0_7 t0_8 t0_9 2 t1_0 t2_0 t6_0 = p at hlu ⊢
      unfold F_DR_remainder_c173
      obtain ⟨u7, u11, uU, u0, u1, u2, u3, u4, u5, u6, u8, u9, u10⟩ := hlu
      generalize hZ2 : (t2_0 x3.toNatClampNeg).toNatClampNeg + y = Z at u7 u11 uU
      have hq := (T_DR_beginQuotient (t0_0 := p.1) (t0_1 := p.2.1) (t0_2 := p.2.2.1) (t0_3 := p.2.2.2.1) (t0_4 := p.2.2.2.2.1) (t0_5 := p.2.2.2.2.2.1) (t0_6 := p.2.2.2.2.2.2.1) (t0_7 := p.2.2.2.2.2.2.2.1) (t0_8 := p.2.2.2.2.2.2.2.2.1) (t0_9 := p.2.2.2.2.2.2.2.2.2.1) (t0_10 := p.2.2.2.2.2.2.2.2.2.2.1) (t1_0 := t7_0) ⟨by omega, by omega⟩).2
      generalize F_DR_beginQuotient p.1 p.2.1 p.2.2.1 p.2.2.2.1 p.2.2.2.2.1 p.2.2.2.2.2.1 p.2.2.2.2.2.2.1 p.2.2.2.2.2.2.2.1 p.2.2.2.2.2.2.2.2.1 p.2.2.2.2.2.2.2.2.2.1 p.2.2.2.2.2.2.2.2.2.2.1 t7_0 = r at hq ⊢
      unfold F_DR_remainder_c177
      obtain ⟨q11, q0, q1, q2, q3, q4, q5, q7, q10⟩ := hq
      have U0 : 0 < (b.1.natAbs : Int) * 10 ^ y := Int.mul_pos (by omega) (u_pos _)
      have zc := q_clI (i := r.2.2.2.2.2.2.2.1) rfl (by rw [q7]; omega)
      have zx : r.2.2.2.2.2.2.2.1.toNatClampNeg = Z := by
        rw [q7] at zc ⊢
        omega
      have e3 : ((t2_0 x2.toNatClampNeg).toInt64 + lx76 : Int64).toInt = (t2_0 x2.toNatClampNeg).toInt + max a.2 b.2 := q_addL (Int32.toInt_toInt64 _) hW (by omega) (by omega)
      have e4 : ((t2_0 x2.toNatClampNeg).toInt64 + lx76 - (t4_0 x2.toNatClampNeg).toInt64 : Int64).toInt = (((t2_0 x2.toNatClampNeg).toNatClampNeg + x : Nat) : Int) := by
        rw [q_subL e3 ((Int32.toInt_toInt64 _).trans a5) (by omega) (by omega)]
        omega
      have spE : sRem a b = (sgI (sF a.1) (((a.1.natAbs : Int) * 10 ^ x) % ((b.1.natAbs : Int) * 10 ^ y)), lx76.toInt) := by
        unfold sRem
        rw [hx, hy, sg_tm, hW]
      have a4' : t3_0 x2.toNatClampNeg = sF (D x2.toNatClampNeg).1 := by
        rw [ea]
        exact a4
      rw [spE]
      rw [← ea]
      refine V_rmL1 (U := (b.1.natAbs : Int) * 10 ^ y) (Z := Z) (ma := (t2_0 x2.toNatClampNeg).toNatClampNeg) (zp := x) hD hx2 hx4 ma.symm ⟨by omega, by omega⟩ e4 (by omega) uU U0 a4' (q0.trans u0) (q10.trans u10) _ _ _ 0 rfl (Nat.zero_le _) (by rw [e4, show (0 : Int64).toInt = 0 from rfl]; omega) ?_
      · have gl : gO r.2.2.2.2.2.2.2.2.2.2.2 (Z + 1) := fun i hi => by
          rw [q11 i (by omega)]
          exact ⟨by decide, by decide⟩
        have vl : uV r.2.2.2.2.2.2.2.2.2.2.2 (Z + 1) = 0 := u_zer (fun i hi => q11 i (by omega))
        refine ⟨⟨⟨by rw [q7]; omega, by rw [q7]; omega⟩, by rw [zx]; exact u11, by rw [zx]; exact gl, ?_⟩, by rw [q7]; exact u7, 0, ?_⟩
        · rw [zx, vl]
          show (0 : Int) < _
          rw [uU]
          exact U0
        · rw [vl, Int.zero_mul]
          rfl
    · have g2 := q_nleI g
      rw [if_neg g]
      refine V_rm106 hD hx2 hx3 hx4 ea eb hW hx.symm hy.symm b0 (Or.inr ?_)
      rcases hc with ⟨h, _⟩ | ⟨h, _⟩ | ⟨_, h⟩
      · rw [h] at g2
        exact absurd g2 (by decide)
      · rw [h] at g2
        exact absurd g2 (by decide)
      · exact h
theorem V_DR_remainder {x2 : Int32} {x3 : Int32} {x4 : Int32} {t0_0 : Int32} {t0_1 : Int32} {t0_2 : Int32} {t0_3 : Int64} {t0_4 : Int32} {t0_5 : Int32} {t0_6 : Int32} {t0_7 : Int32} {t0_8 : Int32} {t0_9 : Int32} {t0_10 : Int32} {t1_0 : (Nat → Int32)} {t2_0 : (Nat → Int32)} {t3_0 : (Nat → Int32)} {t4_0 : (Nat → Int32)} {t5_0 : (Nat → Int32)} {t6_0 : (Nat → Int32)} {t7_0 : (Nat → Int32)} {D : Nat → Int × Int} (hD : dRv t1_0 t2_0 t3_0 t4_0 D) (hx2 : 0 ≤ x2.toInt ∧ x2.toInt ≤ 9) (hx3 : 0 ≤ x3.toInt ∧ x3.toInt ≤ 9) (hx4 : 0 ≤ x4.toInt ∧ x4.toInt ≤ 9) : dAn x4 D (if (D x3.toNatClampNeg).1 = 0 then none else some (sRem (D x2.toNatClampNeg) (D x3.toNatClampNeg))) 0 2 (F_DR_remainder x2 x3 x4 t0_0 t0_1 t0_2 t0_3 t0_4 t0_5 t0_6 t0_7 t0_8 t0_9 t0_10 t1_0 t2_0 t3_0 t4_0 t5_0 t6_0 t7_0).1 (F_DR_remainder x2 x3 x4 t0_0 t0_1 t0_2 t0_3 t0_4 t0_5 t0_6 t0_7 t0_8 t0_9 t0_10 t1_0 t2_0 t3_0 t4_0 t5_0 t6_0 t7_0).2.2.2.2.2.2.2.2.2.2.2.1 (F_DR_remainder x2 x3 x4 t0_0 t0_1 t0_2 t0_3 t0_4 t0_5 t0_6 t0_7 t0_8 t0_9 t0_10 t1_0 t2_0 t3_0 t4_0 t5_0 t6_0 t7_0).2.2.2.2.2.2.2.2.2.2.2.2.1 (F_DR_remainder x2 x3 x4 t0_0 t0_1 t0_2 t0_3 t0_4 t0_5 t0_6 t0_7 t0_8 t0_9 t0_10 t1_0 t2_0 t3_0 t4_0 t5_0 t6_0 t7_0).2.2.2.2.2.2.2.2.2.2.2.2.2.1 (F_DR_remainder x2 x3 x4 t0_0 t0_1 t0_2 t0_3 t0_4 t0_5 t0_6 t0_7 t0_8 t0_9 t0_10 t1_0 t2_0 t3_0 t4_0 t5_0 t6_0 t7_0).2.2.2.2.2.2.2.2.2.2.2.2.2.2.1 := by
  have h2c := q_clI (i := x2) rfl hx2.1
  have h3c := q_clI (i := x3) rfl hx3.1
  obtain ⟨a1, a2, a3, a4, a5, a6⟩ := hD.2 x2.toNatClampNeg (by omega)
  obtain ⟨b1, b2, b3, b4, b5, b6⟩ := hD.2 x3.toNatClampNeg (by omega)
  unfold F_DR_remainder
  rw [if_pos (g_no0 hx2), if_pos (g_no0 hx3), if_pos (g_no0 hx4), d_iz hD hx3]
  by_cases zb : (D x3.toNatClampNeg).1 = 0
  · rw [if_pos zb, if_pos zb, if_neg (show ¬ (1 : Int32) = 0 by decide)]
    unfold F_DR_remainder_J39
    rw [if_neg (by decide)]
    exact Or.inr ⟨Or.inl rfl, rfl, hD⟩
  · rw [if_neg zb, if_neg zb, if_pos rfl]
    unfold F_DR_remainder_J39
    rw [if_pos (by decide)]
    by_cases c : t4_0 x2.toNatClampNeg ≤ t4_0 x3.toNatClampNeg
    · have c2 := q_leI c
      rw [if_pos c]
      exact V_rm87 hD hx2 hx3 hx4 rfl rfl (by rw [Int32.toInt_toInt64, b5]; omega) zb
    · have c2 := q_nleI c
      rw [if_neg c]
      exact V_rm87 hD hx2 hx3 hx4 rfl rfl (by rw [Int32.toInt_toInt64, a5]; omega) zb
