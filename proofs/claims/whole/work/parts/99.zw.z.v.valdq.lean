/-! values, for whole: the reference's isMore; its value set -/
theorem y_par2 {x : Int32} {N m : Nat} (h : x.toInt = ((yLo N m : Nat) : Int)) : ((x - x / 2 * 2 : Int32) = 1 ↔ N / 10 ^ m % 2 = 1) := by
  have p : yLo N m % 2 = N / 10 ^ m % 2 := by
    unfold yLo
    omega
  rw [← p]
  have l := yLo_9 N m
  revert h l
  generalize yLo N m = v
  intro h l
  rw [v_amt h]
  have key : ∀ v : Nat, v < 10 → ((Int32.ofNat v - Int32.ofNat v / 2 * 2) = 1 ↔ v % 2 = 1) := by decide +kernel
  exact key v l
theorem V_moL {x2 : Int32} {x3 : Int32} {t0_0 : Int32} {t0_1 : Int32} {t0_2 : Int32} {t0_3 : Int32} {t0_4 : Int64} {t0_5 : Int32} {t0_6 : Int32} {t0_7 : Int64} {t0_8 : Int32} {t0_9 : Int64} {t0_10 : Int32} {t1_0 : (Nat → Int32)} {V k : Nat} (hv : yRw t1_0 V) (hk : x2.toInt = (k : Int)) (hk2 : k ≤ 1390) (hmd : 0 ≤ x3.toInt ∧ x3.toInt ≤ 3) : ∀ (n : Nat) (lx19 : Int32) (lx20 : Int32), ∀ (i : Nat), lx19.toInt = (i : Int) → i ≤ k → k - i < n → ((lx20 = 0 ∧ yTl V i = 0) ∨ (lx20 = 1 ∧ yTl V i ≠ 0)) → (F_FR_isMore_L5 x2 x3 t0_0 t0_1 t0_2 t0_3 t0_4 t0_5 t0_6 t0_7 t0_8 t0_9 t0_10 t1_0 n lx19 lx20).toInt = ((yOut x3 V k : Nat) : Int) := by
  have e1 : (1 : Int32).toInt = 1 := rfl
  have e0 : (0 : Int32).toInt = 0 := rfl
  have hf := V_half (t0_0 := t0_0) (t0_1 := t0_1) (t0_2 := t0_2) (t0_3 := t0_3) (t0_4 := t0_4) (t0_5 := t0_5) (t0_6 := t0_6) (t0_7 := t0_7) (t0_8 := t0_8) (t0_9 := t0_9) (t0_10 := t0_10) hv hk (by omega)
  intro n
  induction n with
  | zero =>
    intro lx19 lx20 i g1 g2 g3
    omega
  | succ n ih =>
    intro lx19 lx20 i g1 g2 g3 g4
    rw [F_FR_isMore_L5.eq_2]
    by_cases c : x2 ≤ lx19
    · rw [if_pos c]
      have c := q_leI c
      obtain rfl : i = k := by omega
      have tl : V % 10 ^ i = yTl V i := rfl
      unfold yOut
      rcases g4 with ⟨w1, w2⟩ | ⟨w1, w2⟩
      · rw [if_pos w1]
        by_cases z : x3 = 0
        · rw [if_pos z]
          rfl
        · have zz : V % 10 ^ i = 0 := by
            rw [tl]
            exact w2
          rw [if_neg z, if_pos zz]
          rfl
      · rw [if_neg (by rw [w1]; decide)]
        by_cases z : x3 = 0
        · rw [if_pos z, if_pos z]
          rfl
        · have nz : ¬ V % 10 ^ i = 0 := by
            rw [tl]
            exact w2
          rw [if_neg z, if_neg z, if_neg nz]
          by_cases y : x3 = 1
          · rw [if_pos y, if_pos y]
            rfl
          · rw [if_neg y, if_neg y]
            have ix : x2.toNatClampNeg = i := by
              show x2.toInt.toNat = i
              omega
            have pr := y_par2 (hv.d (j := i) (by omega))
            rw [ix]
            rcases hf with ⟨h1, h2⟩ | ⟨h1, h2⟩ | ⟨h1, h2⟩
            · rw [h1, if_neg (by decide : ¬ (0 : Int32) < 0), if_pos (rfl : (0 : Int32) = 0), if_neg (Nat.not_lt.mpr (Nat.le_of_eq h2)), if_pos h2]
              by_cases m : x3 = 2
              · rw [if_pos m, if_pos m]
                rfl
              · rw [if_neg m, if_neg m]
                by_cases o : (t1_0 i - t1_0 i / 2 * 2) = 1
                · rw [if_pos o, pr.mp o]
                  rfl
                · rw [if_neg o]
                  rcases Nat.mod_two_eq_zero_or_one (V / 10 ^ i) with r | r
                  · rw [r]
                    rfl
                  · exact absurd (pr.mpr r) o
            · rw [h1, if_pos (by decide : (0 : Int32) < 1), if_pos h2]
              rfl
            · rw [h1, if_neg (by decide : ¬ (0 : Int32) < -1), if_neg (by decide : ¬ (-1 : Int32) = 0), if_neg (Nat.not_lt.mpr (Nat.le_of_lt h2)), if_neg (Nat.ne_of_lt h2)]
              rfl
    · rw [if_neg c]
      have c := q_nleI c
      have nx := q_addI g1 e1 (by omega) (by omega)
      rcases g4 with ⟨w1, w2⟩ | ⟨w1, w2⟩
      · rw [if_pos w1]
        have ix : lx19.toNatClampNeg = i := by
          show lx19.toInt.toNat = i
          omega
        have dg := hv.d (j := i) (by omega)
        rw [ix]
        by_cases d : yLo V i = 0
        · rw [if_pos (Int32.toInt_inj.mp (by rw [dg, d]; rfl))]
          exact ih (lx19 + 1) 0 (i + 1) nx (by omega) (by omega) (Or.inl ⟨rfl, by rw [yTl_z d]; exact w2⟩)
        · rw [if_neg (fun q => d (by rw [q, e0] at dg; omega))]
          exact ih (lx19 + 1) 1 (i + 1) nx (by omega) (by omega) (Or.inr ⟨rfl, yTl_n d⟩)
      · rw [if_neg (by rw [w1]; decide)]
        refine ih (lx19 + 1) 1 (i + 1) nx (by omega) (by omega) (Or.inr ⟨rfl, ?_⟩)
        rw [yTl_s]
        exact fun q => w2 (Nat.eq_zero_of_add_eq_zero_right q)
theorem V_isMore {x2 : Int32} {x3 : Int32} {t0_0 : Int32} {t0_1 : Int32} {t0_2 : Int32} {t0_3 : Int32} {t0_4 : Int64} {t0_5 : Int32} {t0_6 : Int32} {t0_7 : Int64} {t0_8 : Int32} {t0_9 : Int64} {t0_10 : Int32} {t1_0 : (Nat → Int32)} {V k : Nat} (hv : yRw t1_0 V) (hk : x2.toInt = (k : Int)) (hk2 : k ≤ 1390) (hmd : 0 ≤ x3.toInt ∧ x3.toInt ≤ 3) : (F_FR_isMore x2 x3 t0_0 t0_1 t0_2 t0_3 t0_4 t0_5 t0_6 t0_7 t0_8 t0_9 t0_10 t1_0).toInt = ((yOut x3 V k : Nat) : Int) := by
  have e0 : (0 : Int32).toInt = 0 := rfl
  unfold F_FR_isMore
  exact V_moL hv hk hk2 hmd _ 0 0 0 rfl (by omega) (by omega) (Or.inl ⟨rfl, yTl_0 V⟩)
