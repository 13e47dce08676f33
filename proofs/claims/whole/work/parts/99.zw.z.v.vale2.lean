/-! values, for whole: print of the reference, arguments that it takes -/
theorem yDB_ex {b : Nat} (N : Nat) (hb : 2 ≤ b) : ∃ c, yDB b N c := by
  have key : ∀ k, N / b ^ k = 0 → ∃ c, yDB b N c := by
    intro k
    induction k with
    | zero =>
      intro h
      exact ⟨0, h, fun q => absurd rfl q⟩
    | succ k ih =>
      intro h
      by_cases q : N / b ^ k = 0
      · exact ih q
      · exact ⟨k + 1, h, fun _ => q⟩
  exact key N (Nat.div_eq_of_lt (Nat.lt_pow_self hb))
theorem V_mpr67 {x2 : Int32} {x3 : Int32} {x4 : Int32} {t0_0 : Int32} {t0_1 : Int32} {t0_2 : Int32} {t1_0 : Int32} {t1_1 : Int32} {t1_2 : Int32} {t1_3 : Int32} {t1_4 : Int32} {t1_5 : Int32} {t1_6 : Int32} {t2_0 : (Nat → Int32)} {t3_0 : (Nat → Int32)} {t4_0 : (Nat → Int32)} {t5_0 : (Nat → Int32)} {t6_0 : Int32} {t6_1 : Int32} {t6_2 : Int32} {t6_3 : Int64} {t6_4 : Int32} {t6_5 : Int32} {t6_6 : Int32} {t6_7 : Int32} {t6_8 : Int32} {t6_9 : Int32} {t6_10 : Int32} {t7_0 : (Nat → Int32)} {t8_0 : (Nat → Int32)} {t9_0 : (Nat → Int32)} {t10_0 : (Nat → Int32)} {t11_0 : (Nat → Int32)} {t12_0 : Int32} {t12_1 : Int32} {t12_2 : Int32} {t12_3 : Int32} {t12_4 : Int64} {t12_5 : Int32} {t12_6 : Int32} {t12_7 : Int64} {t12_8 : Int32} {t12_9 : Int64} {t12_10 : Int32} {t13_0 : (Nat → Int32)} {t14_0 : (Nat → Int32)} {t15_0 : (Nat → Int32)} {t16_0 : (Nat → Int32)} {t17_0 : (Nat → Int32)} {t18_0 : (Nat → Int32)} {t19_0 : (Nat → Int32)} {t20_0 : (Nat → Int32)} {t21_0 : (Nat → Int64)} {lx109 : Int32} {lx140 : Int32} {W : Nat → Int} {D : Nat → Int × Int} {wd nr : Nat} (hw : wRv t2_0 t3_0 W) (hD : dRv t7_0 t8_0 t9_0 t10_0 D) (h2 : x2.toInt = 2 → ∀ a b c, yu (F_NM_bitsOf x2 x3 a b c t21_0) = wd ∧ yBit 52 2047 wd) (h3 : x2.toInt = 3 → ∀ a b c, yu (F_NM_bitsOf x2 x3 a b c t21_0) = nr ∧ yBit 23 255 nr) (hok : yPrOk x2 x3 x4) (hl : lx140 = 0) : ∃ t, yPrT x2 x4 (W x3.toNatClampNeg) (D x3.toNatClampNeg) wd nr t ∧ t.length ≤ 11008 ∧ (F_NM_print_J67 x2 x3 x4 t0_0 t0_1 t0_2 t1_0 t1_1 t1_2 t1_3 t1_4 t1_5 t1_6 t2_0 t3_0 t4_0 t5_0 t6_0 t6_1 t6_2 t6_3 t6_4 t6_5 t6_6 t6_7 t6_8 t6_9 t6_10 t7_0 t8_0 t9_0 t10_0 t11_0 t12_0 t12_1 t12_2 t12_3 t12_4 t12_5 t12_6 t12_7 t12_8 t12_9 t12_10 t13_0 t14_0 t15_0 t16_0 t17_0 t18_0 t19_0 t20_0 t21_0 lx109 lx140).2.1 = 0 ∧ (F_NM_print_J67 x2 x3 x4 t0_0 t0_1 t0_2 t1_0 t1_1 t1_2 t1_3 t1_4 t1_5 t1_6 t2_0 t3_0 t4_0 t5_0 t6_0 t6_1 t6_2 t6_3 t6_4 t6_5 t6_6 t6_7 t6_8 t6_9 t6_10 t7_0 t8_0 t9_0 t10_0 t11_0 t12_0 t12_1 t12_2 t12_3 t12_4 t12_5 t12_6 t12_7 t12_8 t12_9 t12_10 t13_0 t14_0 t15_0 t16_0 t17_0 t18_0 t19_0 t20_0 t21_0 lx109 lx140).1 = (F_NM_print_J67 x2 x3 x4 t0_0 t0_1 t0_2 t1_0 t1_1 t1_2 t1_3 t1_4 t1_5 t1_6 t2_0 t3_0 t4_0 t5_0 t6_0 t6_1 t6_2 t6_3 t6_4 t6_5 t6_6 t6_7 t6_8 t6_9 t6_10 t7_0 t8_0 t9_0 t10_0 t11_0 t12_0 t12_1 t12_2 t12_3 t12_4 t12_5 t12_6 t12_7 t12_8 t12_9 t12_10 t13_0 t14_0 t15_0 t16_0 t17_0 t18_0 t19_0 t20_0 t21_0 lx109 lx140).2.2.1 ∧ yRt (F_NM_print_J67 x2 x3 x4 t0_0 t0_1 t0_2 t1_0 t1_1 t1_2 t1_3 t1_4 t1_5 t1_6 t2_0 t3_0 t4_0 t5_0 t6_0 t6_1 t6_2 t6_3 t6_4 t6_5 t6_6 t6_7 t6_8 t6_9 t6_10 t7_0 t8_0 t9_0 t10_0 t11_0 t12_0 t12_1 t12_2 t12_3 t12_4 t12_5 t12_6 t12_7 t12_8 t12_9 t12_10 t13_0 t14_0 t15_0 t16_0 t17_0 t18_0 t19_0 t20_0 t21_0 lx109 lx140).2.2.1 (F_NM_print_J67 x2 x3 x4 t0_0 t0_1 t0_2 t1_0 t1_1 t1_2 t1_3 t1_4 t1_5 t1_6 t2_0 t3_0 t4_0 t5_0 t6_0 t6_1 t6_2 t6_3 t6_4 t6_5 t6_6 t6_7 t6_8 t6_9 t6_10 t7_0 t8_0 t9_0 t10_0 t11_0 t12_0 t12_1 t12_2 t12_3 t12_4 t12_5 t12_6 t12_7 t12_8 t12_9 t12_10 t13_0 t14_0 t15_0 t16_0 t17_0 t18_0 t19_0 t20_0 t21_0 lx109 lx140).2.2.2.2.2.2.2.2.2.2.2.2.2.2.2.2.2.2.2.2.2.2.2.2.2.2.2.2.2.2.2.2.2.2.2.2.2.2.2.2.2.2 t := by
  have e0 : (0 : Int32).toInt = 0 := rfl
  have e1 : (1 : Int32).toInt = 1 := rfl
  have e3 : (3 : Int32).toInt = 3 := rfl
  obtain ⟨⟨k0, k1⟩, k2⟩ := hok
  have k1' := k1
  unfold yReg at k1
  have ix : x3.toNatClampNeg < 10 := by
    show x3.toInt.toNat < 10
    omega
  unfold F_NM_print_J67
  subst hl
  rw [if_pos (show (0 : Int32) ≤ 0 by decide)]
  by_cases x0 : x2 = 0
  · have x0i : x2.toInt = 0 := by rw [x0]; rfl
    rw [if_pos x0]
    obtain ⟨b, hb⟩ : ∃ b : Nat, x4.toInt = (b : Int) := ⟨x4.toInt.toNat, by omega⟩
    obtain ⟨c, hc⟩ := yDB_ex (b := b) (W x3.toNatClampNeg).natAbs (by omega)
    have w := (V_WRwr (x2 := x3) (x3 := x4) (t0_0 := t1_0) (t0_1 := t1_1) (t0_2 := t1_2) (t0_3 := t1_3) (t0_4 := t1_4) (t0_5 := t1_5) (t0_6 := t1_6) (t3_0 := t4_0) (t4_0 := t5_0) hw (by omega) hb (by omega) hc).1
    have q := (T_WR_written (x2 := x3) (x3 := x4) (t0_0 := t1_0) (t0_1 := t1_1) (t0_2 := t1_2) (t0_3 := t1_3) (t0_4 := t1_4) (t0_5 := t1_5) (t0_6 := t1_6) (t3_0 := t4_0) (t4_0 := t5_0) hw.R).2
    revert w q
    generalize F_WR_written x3 x4 t1_0 t1_1 t1_2 t1_3 t1_4 t1_5 t1_6 t2_0 t3_0 t4_0 t5_0 = p
    intro w q
    unfold F_NM_print_c97 F_NM_print_c100
    have sh := V_show (N2 := 2100) (t0_0 := 0) (t0_1 := t0_1) (t0_2 := t0_2) (t1_0 := t20_0) w (by have a := w.1; have b := q.2; omega)
    refine ⟨_, ⟨fun _ => ⟨b, c, hb, hc, rfl⟩, fun g => by omega, fun g => by omega, fun g => by omega⟩, (by have a := w.1; have b := q.2; omega), rfl, ?_, ?_⟩
    · exact sh.1.trans sh.2.1.symm
    · exact sh.2.2
  · rw [if_neg x0]
    have x0i : x2.toInt ≠ 0 := fun q => x0 (Int32.toInt_inj.mp q)
    by_cases x1 : x2 = 1
    · have x1i : x2.toInt = 1 := by rw [x1]; rfl
      rw [if_pos x1]
      have hc : vG (D x3.toNatClampNeg).1 (t8_0 x3.toNatClampNeg).toNatClampNeg := (hD.2 _ ix).2.2.1
      have lc : (t8_0 x3.toNatClampNeg).toNatClampNeg ≤ 1000 := by
        have := (hD.2 _ ix).1
        show (t8_0 x3.toNatClampNeg).toInt.toNat ≤ 1000
        omega
      have ls : -10000 ≤ (D x3.toNatClampNeg).2 ∧ (D x3.toNatClampNeg).2 ≤ 10000 := (hD.2 _ ix).2.2.2.2.2
      have w := V_DRwr (x2 := x3) (x3 := x4) (t0_0 := t6_0) (t0_1 := t6_1) (t0_2 := t6_2) (t0_3 := t6_3) (t0_4 := t6_4) (t0_5 := t6_5) (t0_6 := t6_6) (t0_7 := t6_7) (t0_8 := t6_8) (t0_9 := t6_9) (t0_10 := t6_10) (t5_0 := t11_0) k1' hD hc (by omega)
      have q := (T_DR_written (x2 := x3) (x3 := x4) (t0_0 := t6_0) (t0_1 := t6_1) (t0_2 := t6_2) (t0_3 := t6_3) (t0_4 := t6_4) (t0_5 := t6_5) (t0_6 := t6_6) (t0_7 := t6_7) (t0_8 := t6_8) (t0_9 := t6_9) (t0_10 := t6_10) (t5_0 := t11_0) hD.R).2
      revert w q
      generalize F_DR_written x3 x4 t6_0 t6_1 t6_2 t6_3 t6_4 t6_5 t6_6 t6_7 t6_8 t6_9 t6_10 t7_0 t8_0 t9_0 t10_0 t11_0 = p
      intro w q
      unfold F_NM_print_c123 F_NM_print_c126
      have sh := V_show (N2 := 12200) (t0_0 := 0) (t0_1 := t0_1) (t0_2 := t0_2) (t1_0 := t20_0) w (by have a := w.1; have b := q.2.1; omega)
      refine ⟨_, ⟨fun g => by omega, fun _ => ⟨_, hc, rfl⟩, fun g => by omega, fun g => by omega⟩, yDtx_len lc ls.1 ls.2, rfl, ?_, ?_⟩
      · exact sh.1.trans sh.2.1.symm
      · exact sh.2.2
    · rw [if_neg x1]
      have x1i : x2.toInt ≠ 1 := fun q => x1 (Int32.toInt_inj.mp q)
      by_cases f : x4 = 0
      · have fi : x4.toInt = 0 := by rw [f]; rfl
        rw [if_pos f]
        by_cases y : x2 = 3
        · have yi : x2.toInt = 3 := by rw [y]; rfl
          rw [if_pos y]
          obtain ⟨u1, u2⟩ := h3 yi 0 t0_1 t0_2
          obtain ⟨t, w1, w2⟩ := V_FRpr (x2 := F_NM_bitsOf x2 x3 0 t0_1 t0_2 t21_0) (x3 := 1) (t0_0 := t12_0) (t0_1 := t12_1) (t0_2 := t12_2) (t0_3 := t12_3) (t0_4 := t12_4) (t0_5 := t12_5) (t0_6 := t12_6) (t0_7 := t12_7) (t0_8 := t12_8) (t0_9 := t12_9) (t0_10 := t12_10) (t1_0 := t13_0) (t2_0 := t14_0) (t3_0 := t15_0) (t4_0 := t16_0) (t5_0 := t17_0) (t6_0 := t18_0) (t7_0 := t19_0) (Or.inr ⟨rfl, rfl, rfl, rfl⟩) (by rw [u1]; exact u2)
          have q := (T_FR_print (x2 := F_NM_bitsOf x2 x3 0 t0_1 t0_2 t21_0) (x3 := 1) (t0_0 := t12_0) (t0_1 := t12_1) (t0_2 := t12_2) (t0_3 := t12_3) (t0_4 := t12_4) (t0_5 := t12_5) (t0_6 := t12_6) (t0_7 := t12_7) (t0_8 := t12_8) (t0_9 := t12_9) (t0_10 := t12_10) (t1_0 := t13_0) (t2_0 := t14_0) (t3_0 := t15_0) (t4_0 := t16_0) (t5_0 := t17_0) (t6_0 := t18_0) (t7_0 := t19_0)).2
          revert w2 q
          generalize F_FR_print (F_NM_bitsOf x2 x3 0 t0_1 t0_2 t21_0) 1 t12_0 t12_1 t12_2 t12_3 t12_4 t12_5 t12_6 t12_7 t12_8 t12_9 t12_10 t13_0 t14_0 t15_0 t16_0 t17_0 t18_0 t19_0 = p
          intro w2 q
          unfold F_NM_print_c166_9 F_NM_print_c191_10
          have sh := V_show (N2 := 1600) (t0_0 := 0) (t0_1 := t0_1) (t0_2 := t0_2) (t1_0 := t20_0) w2 (by have a := w2.1; have b := q.2; omega)
          refine ⟨t, ⟨fun g => by omega, fun g => by omega, fun g => by omega, fun _ => ⟨fun _ => by rw [← u1]; exact w1, fun g => by omega⟩⟩, (by have a := w2.1; have b := q.2; omega), rfl, ?_, ?_⟩
          · exact sh.1.trans sh.2.1.symm
          · exact sh.2.2
        · have yi : x2.toInt ≠ 3 := fun q => y (Int32.toInt_inj.mp q)
          have y2 : x2.toInt = 2 := by omega
          rw [if_neg y]
          obtain ⟨u1, u2⟩ := h2 y2 0 t0_1 t0_2
          obtain ⟨t, w1, w2⟩ := V_FRpr (x2 := F_NM_bitsOf x2 x3 0 t0_1 t0_2 t21_0) (x3 := 0) (t0_0 := t12_0) (t0_1 := t12_1) (t0_2 := t12_2) (t0_3 := t12_3) (t0_4 := t12_4) (t0_5 := t12_5) (t0_6 := t12_6) (t0_7 := t12_7) (t0_8 := t12_8) (t0_9 := t12_9) (t0_10 := t12_10) (t1_0 := t13_0) (t2_0 := t14_0) (t3_0 := t15_0) (t4_0 := t16_0) (t5_0 := t17_0) (t6_0 := t18_0) (t7_0 := t19_0) (Or.inl ⟨rfl, rfl, rfl, rfl⟩) (by rw [u1]; exact u2)
          have q := (T_FR_print (x2 := F_NM_bitsOf x2 x3 0 t0_1 t0_2 t21_0) (x3 := 0) (t0_0 := t12_0) (t0_1 := t12_1) (t0_2 := t12_2) (t0_3 := t12_3) (t0_4 := t12_4) (t0_5 := t12_5) (t0_6 := t12_6) (t0_7 := t12_7) (t0_8 := t12_8) (t0_9 := t12_9) (t0_10 := t12_10) (t1_0 := t13_0) (t2_0 := t14_0) (t3_0 := t15_0) (t4_0 := t16_0) (t5_0 := t17_0) (t6_0 := t18_0) (t7_0 := t19_0)).2
          revert w2 q
          generalize F_FR_print (F_NM_bitsOf x2 x3 0 t0_1 t0_2 t21_0) 0 t12_0 t12_1 t12_2 t12_3 t12_4 t12_5 t12_6 t12_7 t12_8 t12_9 t12_10 t13_0 t14_0 t15_0 t16_0 t17_0 t18_0 t19_0 = p
          intro w2 q
          unfold F_NM_print_c166 F_NM_print_c191_8
          have sh := V_show (N2 := 1600) (t0_0 := 0) (t0_1 := t0_1) (t0_2 := t0_2) (t1_0 := t20_0) w2 (by have a := w2.1; have b := q.2; omega)
          refine ⟨t, ⟨fun g => by omega, fun g => by omega, fun _ => ⟨fun _ => by rw [← u1]; exact w1, fun g => by omega⟩, fun g => by omega⟩, (by have a := w2.1; have b := q.2; omega), rfl, ?_, ?_⟩
          · exact sh.1.trans sh.2.1.symm
          · exact sh.2.2
      · have fi : x4.toInt ≠ 0 := fun q => f (Int32.toInt_inj.mp q)
        rw [if_neg f]
        by_cases y : x2 = 3
        · have yi : x2.toInt = 3 := by rw [y]; rfl
          rw [if_pos y]
          obtain ⟨u1, u2⟩ := h3 yi 0 t0_1 t0_2
          have w2 := V_FRhx (x2 := F_NM_bitsOf x2 x3 0 t0_1 t0_2 t21_0) (x3 := 1) (t0_0 := t12_0) (t0_1 := t12_1) (t0_2 := t12_2) (t0_3 := t12_3) (t0_4 := t12_4) (t0_5 := t12_5) (t0_6 := t12_6) (t0_7 := t12_7) (t0_8 := t12_8) (t0_9 := t12_9) (t0_10 := t12_10) (t1_0 := t19_0) (Or.inr ⟨rfl, rfl, rfl, rfl⟩) (by rw [u1]; exact u2)
          have q := (T_FR_hexadecimal (x2 := F_NM_bitsOf x2 x3 0 t0_1 t0_2 t21_0) (x3 := 1) (t0_0 := t12_0) (t0_1 := t12_1) (t0_2 := t12_2) (t0_3 := t12_3) (t0_4 := t12_4) (t0_5 := t12_5) (t0_6 := t12_6) (t0_7 := t12_7) (t0_8 := t12_8) (t0_9 := t12_9) (t0_10 := t12_10) (t1_0 := t19_0)).2
          revert w2 q
          generalize F_FR_hexadecimal (F_NM_bitsOf x2 x3 0 t0_1 t0_2 t21_0) 1 t12_0 t12_1 t12_2 t12_3 t12_4 t12_5 t12_6 t12_7 t12_8 t12_9 t12_10 t19_0 = p
          intro w2 q
          unfold F_NM_print_c188_5 F_NM_print_c191_6
          have sh := V_show (N2 := 1600) (t0_0 := 0) (t0_1 := t0_1) (t0_2 := t0_2) (t1_0 := t20_0) w2 (by have a := w2.1; have b := q.2; omega)
          refine ⟨_, ⟨fun g => by omega, fun g => by omega, fun g => by omega, fun _ => ⟨fun g => by omega, fun _ => by rw [← u1]⟩⟩, (by have a := w2.1; have b := q.2; omega), rfl, ?_, ?_⟩
          · exact sh.1.trans sh.2.1.symm
          · exact sh.2.2
        · have yi : x2.toInt ≠ 3 := fun q => y (Int32.toInt_inj.mp q)
          have y2 : x2.toInt = 2 := by omega
          rw [if_neg y]
          obtain ⟨u1, u2⟩ := h2 y2 0 t0_1 t0_2
          have w2 := V_FRhx (x2 := F_NM_bitsOf x2 x3 0 t0_1 t0_2 t21_0) (x3 := 0) (t0_0 := t12_0) (t0_1 := t12_1) (t0_2 := t12_2) (t0_3 := t12_3) (t0_4 := t12_4) (t0_5 := t12_5) (t0_6 := t12_6) (t0_7 := t12_7) (t0_8 := t12_8) (t0_9 := t12_9) (t0_10 := t12_10) (t1_0 := t19_0) (Or.inl ⟨rfl, rfl, rfl, rfl⟩) (by rw [u1]; exact u2)
          have q := (T_FR_hexadecimal (x2 := F_NM_bitsOf x2 x3 0 t0_1 t0_2 t21_0) (x3 := 0) (t0_0 := t12_0) (t0_1 := t12_1) (t0_2 := t12_2) (t0_3 := t12_3) (t0_4 := t12_4) (t0_5 := t12_5) (t0_6 := t12_6) (t0_7 := t12_7) (t0_8 := t12_8) (t0_9 := t12_9) (t0_10 := t12_10) (t1_0 := t19_0)).2
          revert w2 q
          generalize F_FR_hexadecimal (F_NM_bitsOf x2 x3 0 t0_1 t0_2 t21_0) 0 t12_0 t12_1 t12_2 t12_3 t12_4 t12_5 t12_6 t12_7 t12_8 t12_9 t12_10 t19_0 = p
          intro w2 q
          unfold F_NM_print_c188 F_NM_print_c191
          have sh := V_show (N2 := 1600) (t0_0 := 0) (t0_1 := t0_1) (t0_2 := t0_2) (t1_0 := t20_0) w2 (by have a := w2.1; have b := q.2; omega)
          refine ⟨_, ⟨fun g => by omega, fun g => by omega, fun _ => ⟨fun g => by omega, fun _ => by rw [← u1]⟩, fun g => by omega⟩, (by have a := w2.1; have b := q.2; omega), rfl, ?_, ?_⟩
          · exact sh.1.trans sh.2.1.symm
          · exact sh.2.2
