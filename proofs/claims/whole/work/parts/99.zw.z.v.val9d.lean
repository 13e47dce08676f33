/-! values, for whole: the reference's DecimalRows: multiply, power -/
theorem d_no {v : Int} {n : Nat} (h : vG v n) (hn : 1000 < n) {w s : Int} (hw : w.natAbs = v.natAbs) : ¬ dFit (w, s) := fun hf => by
  have h1 : w.natAbs < 10 ^ 1000 := hf.1
  rw [hw] at h1
  have := (vG_le h (by decide)).mpr h1
  omega
theorem V_DR_multiply {x2 : Int32} {x3 : Int32} {x4 : Int32} {t0_0 : Int32} {t0_1 : Int32} {t0_2 : Int32} {t0_3 : Int64} {t0_4 : Int32} {t0_5 : Int32} {t0_6 : Int32} {t0_7 : Int32} {t0_8 : Int32} {t0_9 : Int32} {t0_10 : Int32} {t1_0 : (Nat → Int32)} {t2_0 : (Nat → Int32)} {t3_0 : (Nat → Int32)} {t4_0 : (Nat → Int32)} {t5_0 : (Nat → Int32)} {t6_0 : (Nat → Int32)} {D : Nat → Int × Int} (hD : dRv t1_0 t2_0 t3_0 t4_0 D) (hx2 : 0 ≤ x2.toInt ∧ x2.toInt ≤ 9) (hx3 : 0 ≤ x3.toInt ∧ x3.toInt ≤ 9) (hx4 : 0 ≤ x4.toInt ∧ x4.toInt ≤ 9) : dAn x4 D (some ((D x2.toNatClampNeg).1 * (D x3.toNatClampNeg).1, (D x2.toNatClampNeg).2 + (D x3.toNatClampNeg).2)) 0 2 (F_DR_multiply x2 x3 x4 t0_0 t0_1 t0_2 t0_3 t0_4 t0_5 t0_6 t0_7 t0_8 t0_9 t0_10 t1_0 t2_0 t3_0 t4_0 t5_0 t6_0).1 (F_DR_multiply x2 x3 x4 t0_0 t0_1 t0_2 t0_3 t0_4 t0_5 t0_6 t0_7 t0_8 t0_9 t0_10 t1_0 t2_0 t3_0 t4_0 t5_0 t6_0).2.2.2.2.2.2.2.2.2.2.2.1 (F_DR_multiply x2 x3 x4 t0_0 t0_1 t0_2 t0_3 t0_4 t0_5 t0_6 t0_7 t0_8 t0_9 t0_10 t1_0 t2_0 t3_0 t4_0 t5_0 t6_0).2.2.2.2.2.2.2.2.2.2.2.2.1 (F_DR_multiply x2 x3 x4 t0_0 t0_1 t0_2 t0_3 t0_4 t0_5 t0_6 t0_7 t0_8 t0_9 t0_10 t1_0 t2_0 t3_0 t4_0 t5_0 t6_0).2.2.2.2.2.2.2.2.2.2.2.2.2.1 (F_DR_multiply x2 x3 x4 t0_0 t0_1 t0_2 t0_3 t0_4 t0_5 t0_6 t0_7 t0_8 t0_9 t0_10 t1_0 t2_0 t3_0 t4_0 t5_0 t6_0).2.2.2.2.2.2.2.2.2.2.2.2.2.2.1 := by
  have h2c := q_clI (i := x2) rfl hx2.1
  have h3c := q_clI (i := x3) rfl hx3.1
  have r2 := hD.2 x2.toNatClampNeg (by omega)
  obtain ⟨b1, b2, b3, b4, b5, b6⟩ := hD.2 x3.toNatClampNeg (by omega)
  unfold F_DR_multiply
  rw [if_pos (g_no0 hx2), if_pos (g_no0 hx3), if_pos (g_no0 hx4)]
  unfold F_DR_multiply_J27
  rw [if_pos (by decide)]
  have hl := V_DR_load (x2 := x2) (t0_0 := 0) (t0_1 := t0_1) (t0_2 := t0_2) (t0_3 := t0_3) (t0_4 := t0_4) (t0_5 := t0_5) (t0_6 := t0_6) (t0_7 := t0_7) (t0_8 := t0_8) (t0_9 := t0_9) (t0_10 := 2) (t5_0 := t5_0) hD hx2
  generalize F_DR_load x2 0 t0_1 t0_2 t0_3 t0_4 t0_5 t0_6 t0_7 t0_8 t0_9 2 t1_0 t2_0 t3_0 t4_0 t5_0 = p at hl ⊢
  unfold F_DR_multiply_c45
  obtain ⟨⟨l1, l2, l3, l4⟩, l5, l6, l7, l8, l9, l10, l11, l12, l13, l14, l15⟩ := hl
  have l8' : p.2.2.2.2.2.1 = sF (D x2.toNatClampNeg).1 := l8
  have b4' : t3_0 x3.toNatClampNeg = sF (D x3.toNatClampNeg).1 := b4
  have ht := V_DR_times (x2 := x3) (t0_0 := p.1) (t0_1 := p.2.1) (t0_2 := p.2.2.1) (t0_3 := p.2.2.2.1) (t0_4 := p.2.2.2.2.1) (t0_5 := p.2.2.2.2.2.1) (t0_6 := p.2.2.2.2.2.2.1) (t0_7 := p.2.2.2.2.2.2.2.1) (t0_8 := p.2.2.2.2.2.2.2.2.1) (t0_9 := p.2.2.2.2.2.2.2.2.2.1) (t0_10 := p.2.2.2.2.2.2.2.2.2.2.1) (t5_0 := p.2.2.2.2.2.2.2.2.2.2.2) (t6_0 := t6_0) hD hx3 ⟨l1.1, l5⟩ l2 l3
  generalize F_DR_times x3 p.1 p.2.1 p.2.2.1 p.2.2.2.1 p.2.2.2.2.1 p.2.2.2.2.2.1 p.2.2.2.2.2.2.1 p.2.2.2.2.2.2.2.1 p.2.2.2.2.2.2.2.2.1 p.2.2.2.2.2.2.2.2.2.1 p.2.2.2.2.2.2.2.2.2.2.1 t1_0 t2_0 t3_0 t4_0 p.2.2.2.2.2.2.2.2.2.2.2 t6_0 = r at ht ⊢
  unfold F_DR_multiply_c50
  obtain ⟨hc, ⟨u1, u2, u3, u4⟩, r6, r1, r2', r4, r5, r7, r8, r9, r10, r11⟩ := ht
  have nn := q_clI (i := r.2.2.2.1) rfl (by omega)
  have es : (p.2.2.2.1 + (t4_0 x3.toNatClampNeg).toInt64 : Int64).toInt = (D x2.toNatClampNeg).2 + (D x3.toNatClampNeg).2 := q_addL l6 ((Int32.toInt_toInt64 _).trans b5) (by omega) (by omega)
  have eab : ((D x2.toNatClampNeg).1 * (D x3.toNatClampNeg).1).natAbs = (((D x2.toNatClampNeg).1.natAbs : Int) * ((D x3.toNatClampNeg).1.natAbs : Int)).natAbs := by
    rw [Int.natAbs_mul, Int.natAbs_mul, Int.natAbs_natCast, Int.natAbs_natCast]
  rcases hc with ⟨c1, c2⟩ | ⟨c1, c2⟩
  · rw [if_pos c2]
    exact Or.inr ⟨Or.inr ⟨_, rfl, d_no u4 (by omega) eab⟩, rfl, hD⟩
  · rw [if_neg (by rw [c2]; decide)]
    have b6' : r.2.2.2.2.2.2.1 = 0 ∨ r.2.2.2.2.2.2.1 = 1 := by
      rw [r6]
      split
      · exact Or.inl rfl
      · exact sXor_01
    have hs := V_DR_store (x2 := x4) (t0_0 := r.2.1) (t0_1 := r.2.2.1) (t0_2 := r.2.2.2.1) (t0_3 := r.2.2.2.2.1) (t0_4 := r.2.2.2.2.2.1) (t0_5 := r.2.2.2.2.2.2.1) (t0_6 := r.2.2.2.2.2.2.2.1) (t0_7 := r.2.2.2.2.2.2.2.2.1) (t0_8 := r.2.2.2.2.2.2.2.2.2.1) (t0_9 := r.2.2.2.2.2.2.2.2.2.2.1) (t0_10 := r.2.2.2.2.2.2.2.2.2.2.2.1) (t5_0 := r.2.2.2.2.2.2.2.2.2.2.2.2.1) hD hx4 b6' ⟨by omega, by omega⟩ u2 u3
    generalize F_DR_store x4 r.2.1 r.2.2.1 r.2.2.2.1 r.2.2.2.2.1 r.2.2.2.2.2.1 r.2.2.2.2.2.2.1 r.2.2.2.2.2.2.2.1 r.2.2.2.2.2.2.2.2.1 r.2.2.2.2.2.2.2.2.2.1 r.2.2.2.2.2.2.2.2.2.2.1 r.2.2.2.2.2.2.2.2.2.2.2.1 t1_0 t2_0 t3_0 t4_0 r.2.2.2.2.2.2.2.2.2.2.2.2.1 = y at hs ⊢
    unfold F_DR_multiply_c58
    rw [r6, l8', b4', sXor_sg rfl rfl, r4, es, r1, l9, r11, l15] at hs
    exact hs.an
theorem sF_sgI {w : Int} {g : Int32} (hw : 0 ≤ w) (hg : g = 0 ∨ g = 1) : (if w = 0 then 0 else g) = sF (sgI (if w = 0 then 0 else g) w) := by
  by_cases z : w = 0
  · rw [if_pos z, z]
    rfl
  · rw [if_neg z]
    rcases hg with e | e <;> rw [e] <;> unfold sF sgI
    · rw [if_pos rfl, if_neg (by omega)]
    · rw [if_neg (show ¬ (1 : Int32) = 0 by decide), if_pos (by omega)]
theorem d_pwS {a : Int} {k : Nat} : a ^ (k + 1) = a ^ k * a := Int.pow_succ a k
theorem d_pwB {a : Int} {k n : Nat} (h : 10 ^ 1000 ≤ (a ^ k).natAbs) (hk : k ≤ n) : 10 ^ 1000 ≤ (a ^ n).natAbs := by
  obtain ⟨j, rfl⟩ : ∃ j, n = k + j := ⟨n - k, by omega⟩
  have h2 : 2 ≤ a.natAbs := by
    rcases Nat.lt_or_ge a.natAbs 2 with c | c
    · exfalso
      have h3 : (a ^ k).natAbs ≤ 1 := by
        rw [Int.natAbs_pow]
        have h4 : a.natAbs ^ k ≤ 1 ^ k := Nat.pow_le_pow_left (by omega) k
        rw [Nat.one_pow] at h4
        exact h4
      have h5 : (1 : Nat) < 10 ^ 1000 := Nat.one_lt_pow (by decide) (by decide)
      omega
    · exact c
  rw [Int.pow_add, Int.natAbs_mul]
  have h6 : 1 ≤ (a ^ j).natAbs := by
    rw [Int.natAbs_pow]
    exact Nat.one_le_pow _ _ (by omega)
  exact Nat.le_trans h (Nat.le_mul_of_pos_right _ h6)
theorem V_pwL9 {x2 : Int32} {x3 : Int32} {x4 : Int32} {t0_0 : Int32} {t0_1 : Int32} {t0_2 : Int32} {t0_3 : Int64} {t0_4 : Int32} {t0_5 : Int32} {t0_6 : Int32} {t0_7 : Int32} {t0_8 : Int32} {t0_9 : Int32} {t0_10 : Int32} {t1_0 : (Nat → Int32)} {t2_0 : (Nat → Int32)} {t3_0 : (Nat → Int32)} {t4_0 : (Nat → Int32)} {t5_0 : (Nat → Int32)} {t6_0 : (Nat → Int32)} {lx42 : Int32} {D : Nat → Int × Int} {e : Nat} (hD : dRv t1_0 t2_0 t3_0 t4_0 D) (hx2 : 0 ≤ x2.toInt ∧ x2.toInt ≤ 9) (hx4 : 0 ≤ x4.toInt ∧ x4.toInt ≤ 9) (he : x3.toInt = (e : Int)) (he9 : e ≤ 999) : ∀ (n : Nat) (lx77 : Int32) (lx78 : Int32) (lx79 : Int32) (lx80 : Int32) (lx81 : Int64) (lx82 : Int32) (lx83 : Int32) (lx84 : Int32) (lx85 : Int32) (lx86 : Int32) (lx87 : Int32) (lx88 : Int32) (lx89 : (Nat → Int32)) (lx90 : (Nat → Int32)), ∀ k : Nat, lx77.toInt = (k : Int) → k ≤ e → e - k < n → lx78 = 0 → lx88 = 2 → gT (((D x2.toNatClampNeg).1 ^ k).natAbs : Int) lx80 lx89 → lx80.toInt ≤ 1000 → lx81.toInt = (D x2.toNatClampNeg).2 * k → lx83 = sF ((D x2.toNatClampNeg).1 ^ k) → dAn x4 D (some ((D x2.toNatClampNeg).1 ^ e, (D x2.toNatClampNeg).2 * e)) 0 2 (F_DR_power_L77 x2 x3 x4 t0_0 t0_1 t0_2 t0_3 t0_4 t0_5 t0_6 t0_7 t0_8 t0_9 t0_10 t1_0 t2_0 t3_0 t4_0 t5_0 t6_0 lx42 n lx77 lx78 lx79 lx80 lx81 lx82 lx83 lx84 lx85 lx86 lx87 lx88 lx89 lx90).1 (F_DR_power_L77 x2 x3 x4 t0_0 t0_1 t0_2 t0_3 t0_4 t0_5 t0_6 t0_7 t0_8 t0_9 t0_10 t1_0 t2_0 t3_0 t4_0 t5_0 t6_0 lx42 n lx77 lx78 lx79 lx80 lx81 lx82 lx83 lx84 lx85 lx86 lx87 lx88 lx89 lx90).2.2.2.2.2.2.2.2.2.2.2.1 (F_DR_power_L77 x2 x3 x4 t0_0 t0_1 t0_2 t0_3 t0_4 t0_5 t0_6 t0_7 t0_8 t0_9 t0_10 t1_0 t2_0 t3_0 t4_0 t5_0 t6_0 lx42 n lx77 lx78 lx79 lx80 lx81 lx82 lx83 lx84 lx85 lx86 lx87 lx88 lx89 lx90).2.2.2.2.2.2.2.2.2.2.2.2.1 (F_DR_power_L77 x2 x3 x4 t0_0 t0_1 t0_2 t0_3 t0_4 t0_5 t0_6 t0_7 t0_8 t0_9 t0_10 t1_0 t2_0 t3_0 t4_0 t5_0 t6_0 lx42 n lx77 lx78 lx79 lx80 lx81 lx82 lx83 lx84 lx85 lx86 lx87 lx88 lx89 lx90).2.2.2.2.2.2.2.2.2.2.2.2.2.1 (F_DR_power_L77 x2 x3 x4 t0_0 t0_1 t0_2 t0_3 t0_4 t0_5 t0_6 t0_7 t0_8 t0_9 t0_10 t1_0 t2_0 t3_0 t4_0 t5_0 t6_0 lx42 n lx77 lx78 lx79 lx80 lx81 lx82 lx83 lx84 lx85 lx86 lx87 lx88 lx89 lx90).2.2.2.2.2.2.2.2.2.2.2.2.2.2.1 := by
  have h2c := q_clI (i := x2) rfl hx2.1
  obtain ⟨b1, b2, b3, b4, b5, b6⟩ := hD.2 x2.toNatClampNeg (by omega)
  have b4' : t3_0 x2.toNatClampNeg = sF (D x2.toNatClampNeg).1 := b4
  intro n
  induction n with
  | zero => intro _ _ _ _ _ _ _ _ _ _ _ _ _ _ k _ _ h; exact absurd h (Nat.not_lt_zero _)
  | succ n ih =>
    intro lx77 lx78 lx79 lx80 lx81 lx82 lx83 lx84 lx85 lx86 lx87 lx88 lx89 lx90 k hk hke hkn h1 h11 hT h3 h4 h6
    obtain ⟨u1, u2, u3, u4⟩ := hT
    have sc : -10000000 ≤ (D x2.toNatClampNeg).2 * (k : Int) ∧ (D x2.toNatClampNeg).2 * (k : Int) ≤ 10000000 := by
      have p1 : (D x2.toNatClampNeg).2 * (k : Int) ≤ 10000 * (k : Int) := Int.mul_le_mul_of_nonneg_right b6.2 (Int.natCast_nonneg _)
      have p2 : -10000 * (k : Int) ≤ (D x2.toNatClampNeg).2 * (k : Int) := Int.mul_le_mul_of_nonneg_right b6.1 (Int.natCast_nonneg _)
      omega
    rw [F_DR_power_L77.eq_2]
    by_cases c : x3 ≤ lx77
    · have c2 := q_leI c
      have ek : k = e := by omega
      subst ek
      rw [if_pos c]
      have hs := V_DR_store (x2 := x4) (t0_0 := lx78) (t0_1 := lx79) (t0_2 := lx80) (t0_3 := lx81) (t0_4 := lx82) (t0_5 := lx83) (t0_6 := lx84) (t0_7 := lx85) (t0_8 := lx86) (t0_9 := lx87) (t0_10 := lx88) (t5_0 := lx89) hD hx4 (by rw [h6]; exact sF_01) ⟨by omega, by omega⟩ u2 u3
      generalize F_DR_store x4 lx78 lx79 lx80 lx81 lx82 lx83 lx84 lx85 lx86 lx87 lx88 t1_0 t2_0 t3_0 t4_0 lx89 = y at hs ⊢
      unfold F_DR_power_c105
      rw [h6, sF_sg, h4, h1, h11] at hs
      exact hs.an
    · have c2 := q_nleI c
      rw [if_neg c]
      have e1 : (lx77 + 1 : Int32).toInt = ((k + 1 : Nat) : Int) := by
        rw [q_addI (y := 1) hk rfl (by omega) (by omega)]
        omega
      have ht := V_DR_times (x2 := x2) (t0_0 := lx78) (t0_1 := lx79) (t0_2 := lx80) (t0_3 := lx81) (t0_4 := lx82) (t0_5 := lx83) (t0_6 := lx84) (t0_7 := lx85) (t0_8 := lx86) (t0_9 := lx87) (t0_10 := lx88) (t5_0 := lx89) (t6_0 := lx90) hD hx2 ⟨u1.1, h3⟩ u2 u3
      generalize F_DR_times x2 lx78 lx79 lx80 lx81 lx82 lx83 lx84 lx85 lx86 lx87 lx88 t1_0 t2_0 t3_0 t4_0 lx89 lx90 = r at ht ⊢
      unfold F_DR_power_c85
      obtain ⟨hc, ⟨v1, v2, v3, v4⟩, r6, r1, r2', r4, r5, r7, r8, r9, r10, r11⟩ := ht
      have nn := q_clI (i := r.2.2.2.1) rfl (by omega)
      have es : (lx81 + (t4_0 x2.toNatClampNeg).toInt64 : Int64).toInt = (D x2.toNatClampNeg).2 * ((k + 1 : Nat) : Int) := by
        rw [q_addL h4 ((Int32.toInt_toInt64 _).trans b5) (by omega) (by omega), Int.natCast_add, Int.mul_add]
        show _ = _ + (D x2.toNatClampNeg).2 * 1
        rw [Int.mul_one]
      have eab : ((D x2.toNatClampNeg).1 ^ (k + 1)).natAbs = ((((D x2.toNatClampNeg).1 ^ k).natAbs : Int) * ((D x2.toNatClampNeg).1.natAbs : Int)).natAbs := by
        rw [d_pwS, Int.natAbs_mul, Int.natAbs_mul, Int.natAbs_natCast, Int.natAbs_natCast]
      have eac : (((D x2.toNatClampNeg).1 ^ (k + 1)).natAbs : Int) = (((D x2.toNatClampNeg).1 ^ k).natAbs : Int) * ((D x2.toNatClampNeg).1.natAbs : Int) := by
        rw [d_pwS, Int.natAbs_mul, Int.natCast_mul]
      rcases hc with ⟨c3, c4⟩ | ⟨c3, c4⟩
      · rw [if_pos c4]
        refine Or.inr ⟨Or.inr ⟨_, rfl, fun hf => ?_⟩, rfl, hD⟩
        have g1 : ¬ ((D x2.toNatClampNeg).1 ^ (k + 1)).natAbs < 10 ^ 1000 := fun h => by
          rw [eab] at h
          have := (vG_le v4 (by decide)).mpr h
          omega
        have g2 := d_pwB (n := e) (Nat.le_of_not_lt g1) (by omega)
        have g3 : ((D x2.toNatClampNeg).1 ^ e).natAbs < 10 ^ 1000 := hf.1
        exact absurd (Nat.lt_of_lt_of_le g3 g2) (Nat.lt_irrefl _)
      · rw [if_neg (by rw [c4]; decide)]
        refine ih _ _ _ _ _ _ _ _ _ _ _ _ _ _ (k + 1) e1 (by omega) (by omega) (r1.trans h1) (r11.trans h11) ?_ (by omega) (by rw [r4]; exact es) ?_
        · rw [eac]
          exact ⟨v1, v2, v3, v4⟩
        · have hx := sXor_sg (a := (D x2.toNatClampNeg).1 ^ k) (b := (D x2.toNatClampNeg).1) rfl rfl
          rw [← d_pwS] at hx
          rw [r6, h6, b4', ← hx]
          exact sF_sgI (Int.mul_nonneg (Int.natCast_nonneg _) (Int.natCast_nonneg _)) sXor_01
theorem V_DR_power {x2 : Int32} {x3 : Int32} {x4 : Int32} {t0_0 : Int32} {t0_1 : Int32} {t0_2 : Int32} {t0_3 : Int64} {t0_4 : Int32} {t0_5 : Int32} {t0_6 : Int32} {t0_7 : Int32} {t0_8 : Int32} {t0_9 : Int32} {t0_10 : Int32} {t1_0 : (Nat → Int32)} {t2_0 : (Nat → Int32)} {t3_0 : (Nat → Int32)} {t4_0 : (Nat → Int32)} {t5_0 : (Nat → Int32)} {t6_0 : (Nat → Int32)} {D : Nat → Int × Int} {e : Nat} (hD : dRv t1_0 t2_0 t3_0 t4_0 D) (hx2 : 0 ≤ x2.toInt ∧ x2.toInt ≤ 9) (hx4 : 0 ≤ x4.toInt ∧ x4.toInt ≤ 9) (he : x3.toInt = (e : Int)) (he9 : e ≤ 999) : dAn x4 D (some ((D x2.toNatClampNeg).1 ^ e, (D x2.toNatClampNeg).2 * e)) 0 2 (F_DR_power x2 x3 x4 t0_0 t0_1 t0_2 t0_3 t0_4 t0_5 t0_6 t0_7 t0_8 t0_9 t0_10 t1_0 t2_0 t3_0 t4_0 t5_0 t6_0).1 (F_DR_power x2 x3 x4 t0_0 t0_1 t0_2 t0_3 t0_4 t0_5 t0_6 t0_7 t0_8 t0_9 t0_10 t1_0 t2_0 t3_0 t4_0 t5_0 t6_0).2.2.2.2.2.2.2.2.2.2.2.1 (F_DR_power x2 x3 x4 t0_0 t0_1 t0_2 t0_3 t0_4 t0_5 t0_6 t0_7 t0_8 t0_9 t0_10 t1_0 t2_0 t3_0 t4_0 t5_0 t6_0).2.2.2.2.2.2.2.2.2.2.2.2.1 (F_DR_power x2 x3 x4 t0_0 t0_1 t0_2 t0_3 t0_4 t0_5 t0_6 t0_7 t0_8 t0_9 t0_10 t1_0 t2_0 t3_0 t4_0 t5_0 t6_0).2.2.2.2.2.2.2.2.2.2.2.2.2.1 (F_DR_power x2 x3 x4 t0_0 t0_1 t0_2 t0_3 t0_4 t0_5 t0_6 t0_7 t0_8 t0_9 t0_10 t1_0 t2_0 t3_0 t4_0 t5_0 t6_0).2.2.2.2.2.2.2.2.2.2.2.2.2.2.1 := by
  have e9 : (999 : Int32).toInt = 999 := rfl
  have e0 : (0 : Int32).toInt = 0 := rfl
  have e00 : (0 : Int32).toNatClampNeg = 0 := rfl
  have e10 : (1 : Int32).toNatClampNeg = 1 := rfl
  unfold F_DR_power
  rw [if_pos (g_no0 hx2), if_pos (g_no0 hx4), if_neg (fun c => by have := q_ltI c; omega), if_pos (Int32.le_iff_toInt_le.mpr (by omega))]
  unfold F_DR_power_J31
  rw [if_pos (by decide)]
  have hT : gT (((D x2.toNatClampNeg).1 ^ 0).natAbs : Int) 1 (upd t5_0 (0 : Int32).toNatClampNeg 1) := by
    rw [Int.pow_zero]
    refine ⟨⟨by decide, by decide⟩, g_one1, ?_, ?_⟩
    · rw [e10, e00]
      show 0 * 10 + (upd t5_0 0 1 0).toInt = 1
      rw [v_eq]
      rfl
    · rw [e10]
      exact ⟨⟨Nat.le_refl 1, by decide, fun _ => by decide⟩, fun h => absurd h (by decide)⟩
  exact V_pwL9 hD hx2 hx4 he he9 _ _ _ _ _ _ _ _ _ _ _ _ _ _ _ 0 rfl (Nat.zero_le _) (by rw [he, e0]; omega) rfl rfl hT (by decide) (by show (0 : Int) = _ * (0 : Int); rw [Int.mul_zero]) (by rw [Int.pow_zero]; rfl)
