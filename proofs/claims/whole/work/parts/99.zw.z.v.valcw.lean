/-! values, for whole: the reference's shortest figures: findShortest -/
theorem V_fs176 {K_F_FR_findShortest_L133 : Int32 → Int64 → Int64 → (Int32 × Int32 × Int32 × Int32 × Int64 × Int32 × Int32 × Int64 × Int32 × Int64 × Int32 × (Nat → Int32) × (Nat → Int32) × (Nat → Int32) × (Nat → Int32) × (Nat → Int32) × (Nat → Int32))} {t0_0 : Int32} {t0_1 : Int32} {t0_2 : Int32} {t0_3 : Int32} {t0_4 : Int64} {t0_5 : Int32} {t0_6 : Int32} {t0_7 : Int64} {t0_8 : Int32} {t0_9 : Int64} {t0_10 : Int32} {t1_0 : (Nat → Int32)} {t2_0 : (Nat → Int32)} {t3_0 : (Nat → Int32)} {t4_0 : (Nat → Int32)} {t5_0 : (Nat → Int32)} {t6_0 : (Nat → Int32)} {p47 : ((Nat → Int32) × (Nat → Int32) × (Nat → Int32) × (Nat → Int32) × (Nat → Int32))} {f35 : (Nat → Int32)} {f37 : (Nat → Int32)} {f39 : (Nat → Int32)} {f41 : (Nat → Int32)} {f43 : (Nat → Int32)} {p69 : (Int32 × (Nat → Int32))} {f63 : (Nat → Int32)} {lx78 : Int32} {a107 : Int32} {f131 : (Nat → Int32)} {lx152 : Int32} {lx168 : Int64} {lx191 : Int32} {lx192 : Int64} {lx193 : Int64}  : ∀ (n : Nat) (lx220 : Int64) (lx221 : Int32), ∀ (S q : Nat), lx220.toInt = (S : Int) → 0 < S → S < 10 ^ n → S < 1000000000000000000 → lx221.toInt = (q : Int) → q + n ≤ 2000000 → ∃ T z : Nat, S = T * 10 ^ z ∧ T % 10 ≠ 0 ∧ (F_FR_findShortest_L176 K_F_FR_findShortest_L133 t0_0 t0_1 t0_2 t0_3 t0_4 t0_5 t0_6 t0_7 t0_8 t0_9 t0_10 t1_0 t2_0 t3_0 t4_0 t5_0 t6_0 p47 f35 f37 f39 f41 f43 p69 f63 lx78 a107 f131 lx152 lx168 lx191 lx192 lx193 n lx220 lx221).2.2.2.2.2.2.2.2.2.1.toInt = (T : Int) ∧ (F_FR_findShortest_L176 K_F_FR_findShortest_L133 t0_0 t0_1 t0_2 t0_3 t0_4 t0_5 t0_6 t0_7 t0_8 t0_9 t0_10 t1_0 t2_0 t3_0 t4_0 t5_0 t6_0 p47 f35 f37 f39 f41 f43 p69 f63 lx78 a107 f131 lx152 lx168 lx191 lx192 lx193 n lx220 lx221).2.2.2.2.2.2.2.2.2.2.1.toInt = ((q + z : Nat) : Int) ∧ (F_FR_findShortest_L176 K_F_FR_findShortest_L133 t0_0 t0_1 t0_2 t0_3 t0_4 t0_5 t0_6 t0_7 t0_8 t0_9 t0_10 t1_0 t2_0 t3_0 t4_0 t5_0 t6_0 p47 f35 f37 f39 f41 f43 p69 f63 lx78 a107 f131 lx152 lx168 lx191 lx192 lx193 n lx220 lx221).2.2.2.2.2.2.2.2.2.2.2.2.2.1 = f39 := by
  have e1 : (1 : Int32).toInt = 1 := rfl
  have e0L : (0 : Int64).toInt = 0 := rfl
  have e10L : (10 : Int64).toInt = 10 := rfl
  intro n
  induction n with
  | zero =>
    intro lx220 lx221 S q g1 g2 g3
    rw [Nat.pow_zero] at g3
    omega
  | succ n ih =>
    intro lx220 lx221 S q g1 g2 g3 g4 g5 g6
    rw [F_FR_findShortest_L176.eq_2]
    have dv := v_divL (x := lx220) (y := 10) (by rw [g1]; clear g3; omega) (by decide)
    rw [g1, e10L] at dv
    have rm : (lx220 - lx220 / 10 * 10 : Int64).toInt = (S : Int) % 10 := by
      have m := q_mulL (a := lx220 / 10) (b := 10) dv e10L (by clear g3; omega) (by clear g3; omega)
      rw [q_subL g1 m (by clear g3; omega) (by clear g3; omega)]
      omega
    by_cases k : lg_cmp (lx220 - lx220 / 10 * 10) 0 = 0
    · rw [if_pos k]
      have k := g_lcz k
      rw [rm, e0L] at k
      have e : S = 10 * (S / 10) := by clear g3; omega
      obtain ⟨T, z, t1, t2, t3, t4, t5⟩ := ih (lx220 / 10) (lx221 + 1) (S / 10) (q + 1) (by rw [dv]; rfl) (by clear g3; omega) (by rw [Nat.pow_succ] at g3; generalize 10 ^ n = X at g3 ⊢; omega) (by clear g3; omega) (q_addI g5 e1 (by clear g3; omega) (by clear g3; omega)) (by clear g3; omega)
      refine ⟨T, z + 1, ?_, t2, t3, ?_, t5⟩
      · rw [e, t1, Nat.pow_succ, Nat.mul_comm 10, Nat.mul_assoc]
      · rw [t4]
        clear g3
        omega
    · rw [if_neg k]
      have k2 : ¬ (S : Int) % 10 = 0 := fun q => k (y_lcE.mpr (by rw [rm, q]; rfl))
      exact ⟨S, 0, by rw [Nat.pow_zero, Nat.mul_one], by clear g3; omega, g1, g5, rfl⟩
theorem V_fs133 {t0_0 : Int32} {t0_1 : Int32} {t0_2 : Int32} {t0_3 : Int32} {t0_4 : Int64} {t0_5 : Int32} {t0_6 : Int32} {t0_7 : Int64} {t0_8 : Int32} {t0_9 : Int64} {t0_10 : Int32} {t1_0 : (Nat → Int32)} {t2_0 : (Nat → Int32)} {t3_0 : (Nat → Int32)} {t4_0 : (Nat → Int32)} {t5_0 : (Nat → Int32)} {t6_0 : (Nat → Int32)} {p47 : ((Nat → Int32) × (Nat → Int32) × (Nat → Int32) × (Nat → Int32) × (Nat → Int32))} {f35 : (Nat → Int32)} {f37 : (Nat → Int32)} {f39 : (Nat → Int32)} {f41 : (Nat → Int32)} {f43 : (Nat → Int32)} {p69 : (Int32 × (Nat → Int32))} {f63 : (Nat → Int32)} {lx78 : Int32} {a107 : Int32} {f131 : (Nat → Int32)} {lx152 : Int32} {lx168 : Int64} {V L H j k M : Nat} (H0 : yRS V L H j f39 f41 f43) (hk : a107.toInt = (k : Int)) (hkj : k + 1 ≤ j + 1 ∧ j < k + 17) (hM : M ≤ 1) : ∀ (n : Nat) (lx191 : Int32) (lx192 : Int64) (lx193 : Int64), ∀ (d : Nat), lx191.toInt = ((k + d : Nat) : Int) → k + d ≤ j + 1 → j + 2 < n + d → lx192.toInt = ((10 ^ d : Nat) : Int) → lx193.toInt = ((M + V / 10 ^ k % 10 ^ d : Nat) : Int) → ∃ T z : Nat, M + V / 10 ^ k = T * 10 ^ z ∧ T % 10 ≠ 0 ∧ (F_FR_findShortest_L133 t0_0 t0_1 t0_2 t0_3 t0_4 t0_5 t0_6 t0_7 t0_8 t0_9 t0_10 t1_0 t2_0 t3_0 t4_0 t5_0 t6_0 p47 f35 f37 f39 f41 f43 p69 f63 lx78 a107 f131 lx152 lx168 n lx191 lx192 lx193).2.2.2.2.2.2.2.2.2.1.toInt = (T : Int) ∧ (F_FR_findShortest_L133 t0_0 t0_1 t0_2 t0_3 t0_4 t0_5 t0_6 t0_7 t0_8 t0_9 t0_10 t1_0 t2_0 t3_0 t4_0 t5_0 t6_0 p47 f35 f37 f39 f41 f43 p69 f63 lx78 a107 f131 lx152 lx168 n lx191 lx192 lx193).2.2.2.2.2.2.2.2.2.2.1.toInt = ((k + z : Nat) : Int) ∧ (F_FR_findShortest_L133 t0_0 t0_1 t0_2 t0_3 t0_4 t0_5 t0_6 t0_7 t0_8 t0_9 t0_10 t1_0 t2_0 t3_0 t4_0 t5_0 t6_0 p47 f35 f37 f39 f41 f43 p69 f63 lx78 a107 f131 lx152 lx168 n lx191 lx192 lx193).2.2.2.2.2.2.2.2.2.2.2.2.2.1 = f39 := by
  have e1 : (1 : Int32).toInt = 1 := rfl
  have e10L : (10 : Int64).toInt = 10 := rfl
  have jb := H0.jb
  intro n
  induction n with
  | zero =>
    intro lx191 lx192 lx193 d g1 g2 g3
    omega
  | succ n ih =>
    intro lx191 lx192 lx193 d g1 g2 g3 g4 g5
    have tp := H0.top (t0_0 := t0_0) (t0_1 := t0_1) (t0_2 := t0_2) (t0_3 := t0_3) (t0_4 := t0_4) (t0_5 := t0_5) (t0_6 := t0_6) (t0_7 := t0_7) (t0_8 := t0_8) (t0_9 := lx193) (t0_10 := a107)
    rw [F_FR_findShortest_L133.eq_2]
    have d17 : d ≤ 17 := by clear g4 g5; omega
    have p17 : 10 ^ d ≤ 100000000000000000 := Nat.le_trans (Nat.pow_le_pow_right (by decide) d17) (by decide)
    have md : V / 10 ^ k % 10 ^ d < 10 ^ d := Nat.mod_lt _ (Nat.pow_pos (by decide))
    by_cases c : F_FR_top t0_0 t0_1 t0_2 t0_3 t0_4 t0_5 t0_6 t0_7 t0_8 lx193 a107 f39 < lx191
    · rw [if_pos c]
      have c := q_ltI c
      rw [tp, g1] at c
      have dj : k + d = j + 1 := by clear g4 g5 p17 md; omega
      have small : V / 10 ^ k < 10 ^ d := by
        refine (Nat.div_lt_iff_lt_mul (Nat.pow_pos (by decide))).mpr ?_
        rw [Nat.mul_comm, ← Nat.pow_add, dj]
        exact H0.j2
      rw [Nat.mod_eq_of_lt small] at g5
      have pos : 0 < V / 10 ^ k := by
        refine Nat.div_pos ?_ (Nat.pow_pos (by decide))
        exact Nat.le_trans (Nat.pow_le_pow_right (by decide) (by clear g4 g5 p17 md small; omega)) H0.j1
      generalize V / 10 ^ k = t at g5 small pos ⊢
      have tb : M + t < 1000000000000000000 := by
        generalize 10 ^ d = X at small p17
        omega
      exact V_fs176 1000000 lx193 a107 (M + t) k g5 (by omega) (Nat.lt_of_lt_of_le tb (Nat.le_trans (show 1000000000000000000 ≤ 10 ^ 18 by decide) (Nat.pow_le_pow_right (by decide) (by decide)))) tb hk (by clear g4 g5 p17 small; omega)
    · rw [if_neg c]
      have c := q_nltI c
      rw [tp, g1] at c
      have kd : k + d ≤ j := by clear g4 g5 p17 md; omega
      have ic : lx191.toNatClampNeg = k + d := by
        have := q_clI g1 (by clear g4 g5 p17 md; omega)
        clear g4 g5 p17 md
        omega
      rw [ic]
      have dg := H0.v.d (j := k + d) (by clear g4 g5 p17 md; omega)
      have d9 := yLo_9 V (k + d)
      have ms : V / 10 ^ k % 10 ^ (d + 1) = V / 10 ^ k % 10 ^ d + 10 ^ d * yLo V (k + d) := by
        rw [Nat.mod_pow_succ]
        unfold yLo
        rw [y_dvA]
      have d16 : d ≤ 16 := by clear g4 g5 p17 md ms; omega
      have p16 : 10 ^ d ≤ 10000000000000000 := Nat.le_trans (Nat.pow_le_pow_right (by decide) d16) (by decide)
      have mul9 : 10 ^ d * yLo V (k + d) ≤ 10 ^ d * 9 := Nat.mul_le_mul_left _ (by clear g4 g5 p17 md ms; omega)
      have mulc : ((10 ^ d * yLo V (k + d) : Nat) : Int) = ((10 ^ d : Nat) : Int) * ((yLo V (k + d) : Nat) : Int) := Int.natCast_mul _ _
      have m1 := q_mulL g4 (q_i2l dg) (by rw [← mulc]; generalize 10 ^ d * yLo V (k + d) = y; clear g4 g5 p17 md ms mul9 mulc p16; omega) (by rw [← mulc]; generalize 10 ^ d * yLo V (k + d) = y at mul9 ⊢; generalize 10 ^ d = x at mul9 p16; clear g4 g5 p17 md ms mulc; omega)
      rw [← mulc] at m1
      refine ih (lx191 + 1) (lx192 * 10) _ (d + 1) (q_addI g1 e1 (by clear g4 g5 p17 md ms mul9 mulc p16; omega) (by clear g4 g5 p17 md ms mul9 mulc p16; omega)) (by clear g4 g5 p17 md ms mul9 mulc p16; omega) (by clear g4 g5 p17 md ms mul9 mulc p16; omega) ?_ ?_
      · rw [q_mulL g4 e10L (by generalize 10 ^ d = x at p16 ⊢; clear g4 g5 p17 md ms mul9 mulc; omega) (by generalize 10 ^ d = x at p16 ⊢; clear g4 g5 p17 md ms mul9 mulc; omega), Nat.pow_succ, Int.natCast_mul]
        rfl
      · rw [ms]
        generalize 10 ^ d * yLo V (k + d) = y at mul9 m1 ⊢
        generalize V / 10 ^ k % 10 ^ d = z at g5 md ⊢
        generalize 10 ^ d = x at p16 mul9 md
        rw [q_addL g5 m1 (by clear g4 g5 p17 ms mulc; omega) (by clear g4 g5 p17 ms mulc; omega)]
        clear g4 g5 p17 ms mulc
        omega
theorem V_fs108 {t0_0 : Int32} {t0_1 : Int32} {t0_2 : Int32} {t0_3 : Int32} {t0_4 : Int64} {t0_5 : Int32} {t0_6 : Int32} {t0_7 : Int64} {t0_8 : Int32} {t0_9 : Int64} {t0_10 : Int32} {t1_0 : (Nat → Int32)} {t2_0 : (Nat → Int32)} {t3_0 : (Nat → Int32)} {t4_0 : (Nat → Int32)} {t5_0 : (Nat → Int32)} {t6_0 : (Nat → Int32)} {p47 : ((Nat → Int32) × (Nat → Int32) × (Nat → Int32) × (Nat → Int32) × (Nat → Int32))} {f35 : (Nat → Int32)} {f37 : (Nat → Int32)} {f39 : (Nat → Int32)} {f41 : (Nat → Int32)} {f43 : (Nat → Int32)} {p69 : (Int32 × (Nat → Int32))} {f63 : (Nat → Int32)} {lx78 : Int32} {a107 : Int32} {f131 : (Nat → Int32)} {lx152 : Int32} {V L H j k : Nat} (H0 : yRS V L H j f39 f41 f43) (hk : a107.toInt = (k : Int)) (hkj : k + 1 ≤ j + 1 ∧ j < k + 17) (hl : lx152 = 0 ∨ lx152 = 1) : ∃ T z : Nat, (if lx152 = 0 then V / 10 ^ k else V / 10 ^ k + 1) = T * 10 ^ z ∧ T % 10 ≠ 0 ∧ (F_FR_findShortest_J108 t0_0 t0_1 t0_2 t0_3 t0_4 t0_5 t0_6 t0_7 t0_8 t0_9 t0_10 t1_0 t2_0 t3_0 t4_0 t5_0 t6_0 p47 f35 f37 f39 f41 f43 p69 f63 lx78 a107 f131 lx152).2.2.2.2.2.2.2.2.2.1.toInt = (T : Int) ∧ (F_FR_findShortest_J108 t0_0 t0_1 t0_2 t0_3 t0_4 t0_5 t0_6 t0_7 t0_8 t0_9 t0_10 t1_0 t2_0 t3_0 t4_0 t5_0 t6_0 p47 f35 f37 f39 f41 f43 p69 f63 lx78 a107 f131 lx152).2.2.2.2.2.2.2.2.2.2.1.toInt = ((k + z : Nat) : Int) ∧ (F_FR_findShortest_J108 t0_0 t0_1 t0_2 t0_3 t0_4 t0_5 t0_6 t0_7 t0_8 t0_9 t0_10 t1_0 t2_0 t3_0 t4_0 t5_0 t6_0 p47 f35 f37 f39 f41 f43 p69 f63 lx78 a107 f131 lx152).2.2.2.2.2.2.2.2.2.2.2.2.2.1 = f39 := by
  have jb := H0.jb
  unfold F_FR_findShortest_J108
  rcases hl with z | z
  · rw [if_pos z, if_pos z]
    unfold F_FR_findShortest_J121
    have r := V_fs133 (M := 0) (t0_0 := t0_0) (t0_1 := t0_1) (t0_2 := t0_2) (t0_3 := t0_3) (t0_4 := t0_4) (t0_5 := t0_5) (t0_6 := t0_6) (t0_7 := t0_7) (t0_8 := t0_8) (t0_9 := t0_9) (t0_10 := t0_10) (t1_0 := t1_0) (t2_0 := t2_0) (t3_0 := t3_0) (t4_0 := t4_0) (t5_0 := t5_0) (t6_0 := t6_0) (p47 := p47) (f35 := f35) (f37 := f37) (p69 := p69) (f63 := f63) (lx78 := lx78) (f131 := f131) (lx152 := lx152) (lx168 := 0) H0 hk hkj (by decide) 1000000 a107 1 0 0 hk (by omega) (by omega) rfl (by rw [Nat.pow_zero, Nat.mod_one]; rfl)
    rw [Nat.zero_add] at r
    exact r
  · rw [if_neg (by rw [z]; decide), if_neg (by rw [z]; decide)]
    unfold F_FR_findShortest_J121
    have r := V_fs133 (M := 1) (t0_0 := t0_0) (t0_1 := t0_1) (t0_2 := t0_2) (t0_3 := t0_3) (t0_4 := t0_4) (t0_5 := t0_5) (t0_6 := t0_6) (t0_7 := t0_7) (t0_8 := t0_8) (t0_9 := t0_9) (t0_10 := t0_10) (t1_0 := t1_0) (t2_0 := t2_0) (t3_0 := t3_0) (t4_0 := t4_0) (t5_0 := t5_0) (t6_0 := t6_0) (p47 := p47) (f35 := f35) (f37 := f37) (p69 := p69) (f63 := f63) (lx78 := lx78) (f131 := f131) (lx152 := lx152) (lx168 := 1) H0 hk hkj (by decide) 1000000 a107 1 1 0 hk (by omega) (by omega) rfl (by rw [Nat.pow_zero, Nat.mod_one]; rfl)
    rw [Nat.add_comm] at r
    exact r
theorem V_fs19 {t0_0 : Int32} {t0_1 : Int32} {t0_2 : Int32} {t0_3 : Int32} {t0_4 : Int64} {t0_5 : Int32} {t0_6 : Int32} {t0_7 : Int64} {t0_8 : Int32} {t0_9 : Int64} {t0_10 : Int32} {t1_0 : (Nat → Int32)} {t2_0 : (Nat → Int32)} {t3_0 : (Nat → Int32)} {t4_0 : (Nat → Int32)} {t5_0 : (Nat → Int32)} {t6_0 : (Nat → Int32)} {p47 : ((Nat → Int32) × (Nat → Int32) × (Nat → Int32) × (Nat → Int32) × (Nat → Int32))} {f35 : (Nat → Int32)} {f37 : (Nat → Int32)} {f39 : (Nat → Int32)} {f41 : (Nat → Int32)} {f43 : (Nat → Int32)} {p69 : (Int32 × (Nat → Int32))} {f63 : (Nat → Int32)} {lx78 : Int32} {V L H j m F' : Nat} (H0 : yRS V L H j f39 f41 f43) (hf : t0_4.toInt = (F' : Int)) (hm : lx78.toInt = (m : Int)) (hmb : 2 ≤ m ∧ m ≤ 17) (hF : yFst V L H (F' % 2 = 0) (j + 1 - m)) : ∃ T q : Nat, ySho V L H (F' % 2 = 0) T q ∧ (F_FR_findShortest_J19 t0_0 t0_1 t0_2 t0_3 t0_4 t0_5 t0_6 t0_7 t0_8 t0_9 t0_10 t1_0 t2_0 t3_0 t4_0 t5_0 t6_0 p47 f35 f37 f39 f41 f43 p69 f63 lx78).2.2.2.2.2.2.2.2.2.1.toInt = (T : Int) ∧ (F_FR_findShortest_J19 t0_0 t0_1 t0_2 t0_3 t0_4 t0_5 t0_6 t0_7 t0_8 t0_9 t0_10 t1_0 t2_0 t3_0 t4_0 t5_0 t6_0 p47 f35 f37 f39 f41 f43 p69 f63 lx78).2.2.2.2.2.2.2.2.2.2.1.toInt = (q : Int) ∧ (F_FR_findShortest_J19 t0_0 t0_1 t0_2 t0_3 t0_4 t0_5 t0_6 t0_7 t0_8 t0_9 t0_10 t1_0 t2_0 t3_0 t4_0 t5_0 t6_0 p47 f35 f37 f39 f41 f43 p69 f63 lx78).2.2.2.2.2.2.2.2.2.2.2.2.2.1 = f39 := by
  have e1 : (1 : Int32).toInt = 1 := rfl
  have e2 : (2 : Int32).toInt = 2 := rfl
  have jb := H0.jb
  have tp := H0.top (t0_0 := t0_0) (t0_1 := t0_1) (t0_2 := t0_2) (t0_3 := t0_3) (t0_4 := t0_4) (t0_5 := t0_5) (t0_6 := t0_6) (t0_7 := t0_7) (t0_8 := t0_8) (t0_9 := t0_9) (t0_10 := t0_10)
  have s1 := q_subI tp hm (by omega) (by omega)
  have s2 := q_addI s1 e1 (by omega) (by omega)
  unfold F_FR_findShortest_J19
  have sk : ((F_FR_top t0_0 t0_1 t0_2 t0_3 t0_4 t0_5 t0_6 t0_7 t0_8 t0_9 t0_10 f39 - lx78) + 1).toInt = ((j + 1 - m : Nat) : Int) := by
    rw [s2]
    omega
  revert sk
  generalize ((F_FR_top t0_0 t0_1 t0_2 t0_3 t0_4 t0_5 t0_6 t0_7 t0_8 t0_9 t0_10 f39 - lx78) + 1) = KK
  intro sk
  obtain ⟨l1, l2⟩ := H0.lim (k := j + 1 - m) (by omega)
  have c1 := V_cut (x2 := KK) (x3 := 1) (t0_0 := t0_0) (t0_1 := t0_1) (t0_2 := t0_2) (t0_3 := t0_3) (t0_4 := t0_4) (t0_5 := t0_5) (t0_6 := t0_6) (t0_7 := t0_7) (t0_8 := t0_8) (t0_9 := t0_9) (t0_10 := KK) (t2_0 := f63) H0.v sk (by omega) l2 (Or.inr ⟨rfl, rfl⟩)
  revert c1
  generalize F_FR_cut KK 1 t0_0 t0_1 t0_2 t0_3 t0_4 t0_5 t0_6 t0_7 t0_8 t0_9 KK f39 f63 = r1
  intro c1
  have c0 := V_cut (x2 := KK) (x3 := 0) (t0_0 := t0_0) (t0_1 := t0_1) (t0_2 := t0_2) (t0_3 := t0_3) (t0_4 := t0_4) (t0_5 := t0_5) (t0_6 := t0_6) (t0_7 := t0_7) (t0_8 := t0_8) (t0_9 := t0_9) (t0_10 := KK) (t2_0 := r1) H0.v sk (by omega) l1 (Or.inl ⟨rfl, rfl⟩)
  revert c0
  generalize F_FR_cut KK 0 t0_0 t0_1 t0_2 t0_3 t0_4 t0_5 t0_6 t0_7 t0_8 t0_9 KK f39 r1 = r0
  intro c0
  have hf3 := V_half (x2 := KK) (t0_0 := t0_0) (t0_1 := t0_1) (t0_2 := t0_2) (t0_3 := t0_3) (t0_4 := t0_4) (t0_5 := t0_5) (t0_6 := t0_6) (t0_7 := t0_7) (t0_8 := t0_8) (t0_9 := t0_9) (t0_10 := KK) H0.v sk (by omega)
  have kc : KK.toNatClampNeg = j + 1 - m := by
    have := q_clI sk (by omega)
    omega
  rw [kc]
  have dg := H0.v.d (j := j + 1 - m) (by omega)
  have d9 := yLo_9 V (j + 1 - m)
  have odd : (f39 (j + 1 - m) - f39 (j + 1 - m) / 2 * 2 : Int32) = 1 ↔ V / 10 ^ (j + 1 - m) % 2 = 1 := by
    have vr := v_rem (a := f39 (j + 1 - m)) (b := 2) (by omega) (by omega)
    rw [dg, e2] at vr
    have pl := y_dvL (A := V) (j := j + 1 - m)
    have par : V / 10 ^ (j + 1 - m) % 2 = yLo V (j + 1 - m) % 2 := by
      rw [pl]
      generalize V / 10 ^ (j + 1 - m + 1) = x
      omega
    rw [par]
    constructor
    · intro q
      rw [q, e1] at vr
      omega
    · intro q
      refine Int32.toInt_inj.mp ?_
      rw [vr, e1]
      omega
  have more : ∀ o, yMo V L H (F' % 2 = 0) (j + 1 - m) → o = F_FR_findShortest_J103 t0_0 t0_1 t0_2 t0_3 t0_4 t0_5 t0_6 t0_7 t0_8 t0_9 t0_10 t1_0 t2_0 t3_0 t4_0 t5_0 t6_0 p47 f35 f37 f39 f41 f43 p69 f63 lx78 KK r0 → ∃ T q : Nat, ySho V L H (F' % 2 = 0) T q ∧ o.2.2.2.2.2.2.2.2.2.1.toInt = (T : Int) ∧ o.2.2.2.2.2.2.2.2.2.2.1.toInt = (q : Int) ∧ o.2.2.2.2.2.2.2.2.2.2.2.2.2.1 = f39 := by
    intro o hm2 ho
    rw [ho]
    unfold F_FR_findShortest_J103
    obtain ⟨T, z, t1, t2, t3, t4, t5⟩ := V_fs108 (t0_0 := t0_0) (t0_1 := t0_1) (t0_2 := t0_2) (t0_3 := t0_3) (t0_4 := t0_4) (t0_5 := t0_5) (t0_6 := t0_6) (t0_7 := t0_7) (t0_8 := t0_8) (t0_9 := t0_9) (t0_10 := t0_10) (t1_0 := t1_0) (t2_0 := t2_0) (t3_0 := t3_0) (t4_0 := t4_0) (t5_0 := t5_0) (t6_0 := t6_0) (p47 := p47) (f35 := f35) (f37 := f37) (p69 := p69) (f63 := f63) (lx78 := lx78) (f131 := r0) (lx152 := 1) H0 sk (by omega) (Or.inr rfl)
    rw [if_neg (by decide)] at t1
    exact ⟨T, _, ⟨_, _, z, hF, Or.inl ⟨hm2, rfl⟩, t1, t2, rfl⟩, t3, t4, t5⟩
  have less : ∀ o, ¬ yMo V L H (F' % 2 = 0) (j + 1 - m) → o = F_FR_findShortest_J107 t0_0 t0_1 t0_2 t0_3 t0_4 t0_5 t0_6 t0_7 t0_8 t0_9 t0_10 t1_0 t2_0 t3_0 t4_0 t5_0 t6_0 p47 f35 f37 f39 f41 f43 p69 f63 lx78 KK r0 → ∃ T q : Nat, ySho V L H (F' % 2 = 0) T q ∧ o.2.2.2.2.2.2.2.2.2.1.toInt = (T : Int) ∧ o.2.2.2.2.2.2.2.2.2.2.1.toInt = (q : Int) ∧ o.2.2.2.2.2.2.2.2.2.2.2.2.2.1 = f39 := by
    intro o hm2 ho
    rw [ho]
    unfold F_FR_findShortest_J107
    obtain ⟨T, z, t1, t2, t3, t4, t5⟩ := V_fs108 (t0_0 := t0_0) (t0_1 := t0_1) (t0_2 := t0_2) (t0_3 := t0_3) (t0_4 := t0_4) (t0_5 := t0_5) (t0_6 := t0_6) (t0_7 := t0_7) (t0_8 := t0_8) (t0_9 := t0_9) (t0_10 := t0_10) (t1_0 := t1_0) (t2_0 := t2_0) (t3_0 := t3_0) (t4_0 := t4_0) (t5_0 := t5_0) (t6_0 := t6_0) (p47 := p47) (f35 := f35) (f37 := f37) (p69 := p69) (f63 := f63) (lx78 := lx78) (f131 := r0) (lx152 := 0) H0 sk (by omega) (Or.inl rfl)
    rw [if_pos rfl] at t1
    exact ⟨T, _, ⟨_, _, z, hF, Or.inr ⟨hm2, rfl⟩, t1, t2, rfl⟩, t3, t4, t5⟩
  rcases H0.up (t0_0 := t0_0) (t0_1 := t0_1) (t0_2 := t0_2) (t0_3 := t0_3) (t0_5 := t0_5) (t0_6 := t0_6) (t0_7 := t0_7) (t0_8 := t0_8) (t0_9 := t0_9) (t0_10 := KK) c1 hf with ⟨a, b⟩ | ⟨a, b⟩
  · rw [if_pos a]
    exact less _ (fun q => b q.1) rfl
  · rw [if_neg (by rw [a]; decide)]
    rcases H0.dn (t0_0 := t0_0) (t0_1 := t0_1) (t0_2 := t0_2) (t0_3 := t0_3) (t0_5 := t0_5) (t0_6 := t0_6) (t0_7 := t0_7) (t0_8 := t0_8) (t0_9 := t0_9) (t0_10 := KK) c0 hf with ⟨a', b'⟩ | ⟨a', b'⟩
    · rw [if_pos a']
      exact more _ ⟨b, Or.inl b'⟩ rfl
    · rw [if_neg (by rw [a']; decide)]
      rcases hf3 with ⟨r, w⟩ | ⟨r, w⟩ | ⟨r, w⟩
      · rw [if_neg (by rw [r]; decide), if_pos r]
        by_cases o : (f39 (j + 1 - m) - f39 (j + 1 - m) / 2 * 2 : Int32) = 1
        · rw [if_pos o]
          exact more _ ⟨b, Or.inr (Or.inr ⟨w, odd.mp o⟩)⟩ rfl
        · rw [if_neg o]
          refine less _ (fun q => ?_) rfl
          rcases q.2 with v | v | v
          · exact v b'
          · rw [w] at v
            exact absurd v (Nat.lt_irrefl _)
          · exact o (odd.mpr v.2)
      · rw [if_pos (by rw [r]; decide)]
        exact more _ ⟨b, Or.inr (Or.inl w)⟩ rfl
      · rw [if_neg (by rw [r]; decide), if_neg (by rw [r]; decide)]
        refine less _ (fun q => ?_) rfl
        rcases q.2 with v | v | v
        · exact v b'
        · exact absurd (Nat.lt_trans v w) (Nat.lt_irrefl _)
        · rw [v.1] at w
          exact absurd w (Nat.lt_irrefl _)
