/-! values, for whole: the reference's rounding of figures -/
theorem Z_inc {Q r t : Nat} (h : Q % 10 ^ r = 10 ^ r - 1) (d : Q / 10 ^ r % 10 ≠ 9) : (Q + 1) / 10 ^ t % 10 = if t < r then 0 else if t = r then Q / 10 ^ r % 10 + 1 else Q / 10 ^ t % 10 := by
  have p : 0 < 10 ^ r := Nat.pow_pos (by decide)
  have e1 : Q + 1 = (Q / 10 ^ r + 1) * 10 ^ r := by
    have := Nat.div_add_mod Q (10 ^ r)
    rw [h] at this
    rw [Nat.succ_mul, Nat.mul_comm]
    omega
  by_cases a : t < r
  · rw [if_pos a, e1]
    obtain ⟨j, rfl⟩ : ∃ j, r = t + (j + 1) := ⟨r - t - 1, by omega⟩
    have pt : 0 < 10 ^ t := Nat.pow_pos (by decide)
    rw [Nat.pow_add, Nat.mul_comm (10 ^ t), ← Nat.mul_assoc, Nat.mul_div_cancel _ pt, Nat.pow_succ, ← Nat.mul_assoc, Nat.mul_mod_left]
  · rw [if_neg a]
    obtain ⟨j, rfl⟩ : ∃ j, t = r + j := ⟨t - r, by omega⟩
    rw [e1, Nat.pow_add, ← Nat.div_div_eq_div_mul, Nat.mul_div_cancel _ p, ← Nat.div_div_eq_div_mul]
    generalize Q / 10 ^ r = q at d
    by_cases b : r + j = r
    · rw [if_pos b]
      have : j = 0 := by omega
      rw [this, Nat.pow_zero, Nat.div_one]
      omega
    · rw [if_neg b]
      obtain ⟨i, rfl⟩ : ∃ i, j = i + 1 := ⟨j - 1, by omega⟩
      rw [Nat.pow_succ, Nat.mul_comm, ← Nat.div_div_eq_div_mul, ← Nat.div_div_eq_div_mul, show (q + 1) / 10 = q / 10 by omega]
theorem Z_nine {Q r : Nat} (h : Q % 10 ^ r = 10 ^ r - 1) (d : Q / 10 ^ r % 10 = 9) : Q % 10 ^ (r + 1) = 10 ^ (r + 1) - 1 := by
  have p : 0 < 10 ^ r := Nat.pow_pos (by decide)
  rw [Nat.pow_succ, Nat.mod_mul, h, d]
  omega
theorem Z_m1 {x : Int32} {i : Nat} (h : x.toInt = (i : Int) - 1) (h1 : 1 ≤ i) (h2 : i ≤ 1000) : (x + -1).toInt = ((i - 1 : Nat) : Int) - 1 := by
  rw [q_addI (y := -1) h rfl (by omega) (by omega)]
  omega
def zNin (Q r : Nat) : Prop := Q % 10 ^ r = 10 ^ r - 1
theorem Z_incL {Q r t : Nat} (h : zNin Q r) (d : yLo Q r ≠ 9) : yLo (Q + 1) t = if t < r then 0 else if t = r then yLo Q r + 1 else yLo Q t := Z_inc h d
theorem Z_nineL {Q r : Nat} (h : zNin Q r) (d : yLo Q r = 9) : zNin Q (r + 1) := Z_nine h d
theorem Z_nin0 {Q : Nat} : zNin Q 0 := by
  unfold zNin
  rw [Nat.pow_zero, Nat.mod_one]
theorem Z_lo9 {N i : Nat} : yLo N i < 10 := Nat.mod_lt _ (by decide)
theorem Z_ninK {Q k : Nat} (h : zNin Q k) (hQ : yLt10 Q k) : Q + 1 = 10 ^ k := by
  unfold zNin at h
  unfold yLt10 at hQ
  rw [Nat.mod_eq_of_lt hQ] at h
  have : 0 < 10 ^ k := Nat.pow_pos (by decide)
  omega
theorem Z_ninL {Q k i : Nat} (h : zNin Q (k - i)) (d : yLo Q (k - i) ≠ 9) (hQ : yLt10 Q k) (hi : 1 ≤ i) (hik : i ≤ k) : yLt10 (Q + 1) k := by
  unfold yLt10 at hQ ⊢
  rcases Nat.lt_or_ge (Q + 1) (10 ^ k) with w | w
  · exact w
  · exfalso
    have QM : Q + 1 = 10 ^ k := by omega
    have z := Z_inc (t := k - i) h d
    rw [if_neg (Nat.lt_irrefl _), if_pos rfl, QM, Nat.pow_div (by omega) (by decide), show k - (k - i) = (i - 1) + 1 by omega, Nat.pow_succ, Nat.mul_mod_left] at z
    exact absurd z (by omega)
/-- what keep leaves -/
def QZ_kp (M : Nat) (k : Nat) (pt : Int) (y : Int32 × Int32 × (Nat → Int32)) : Prop := ∃ m : Nat, y.1.toInt = (m : Int) ∧ y.2.1.toInt = pt + ((m : Int) - k) ∧ (m = k ∨ (m = k + 1 ∧ M = 10 ^ k)) ∧ zFr 10 m y.2.2 M ∧ M < 10 ^ m
theorem Z_kp112 {K_F_VR_keep_L49 : Int32 → Int32 → (Nat → Int32) → (Int32 × Int32 × (Nat → Int32))} {x2 : Int32} {t0_0 : Int32} {t0_1 : Int32} {t0_2 : Int32} {t0_3 : Int32} {t0_4 : Int32} {t0_5 : Int32} {t0_6 : Int32} {t0_7 : Int32} {t0_8 : Int32} {t0_9 : Int32} {t0_10 : Int32} {t0_11 : Int32} {t0_12 : Int32} {t0_13 : Int32} {t0_14 : Int32} {t0_15 : Int32} {t0_16 : Int32} {t0_17 : Int32} {t0_18 : Int32} {t0_19 : Int32} {t0_20 : Int32} {t0_21 : Int32} {t1_0 : (Nat → Int32)} {lx34 : Int32} {lx45 : Int32} {lx64 : Int32} {lx65 : Int32} {lx66 : (Nat → Int32)} {k : Nat} {pt : Int} (hk : lx45.toInt = (k : Int)) (hk2 : k ≤ 60) (hp : t0_21.toInt = pt) (hp2 : -100000 ≤ pt ∧ pt ≤ 100000) : ∀ (n : Nat) (lx93 : Int32) (lx94 : (Nat → Int32)), ∀ i : Nat, lx93.toInt = (i : Int) → i ≤ k → i < n → (∀ j, j ≤ k → j ≠ i → (lx94 j).toInt = 0) → (i < k → (lx94 i).toInt = 0) → QZ_kp (10 ^ k) k pt (F_VR_keep_L112 K_F_VR_keep_L49 x2 t0_0 t0_1 t0_2 t0_3 t0_4 t0_5 t0_6 t0_7 t0_8 t0_9 t0_10 t0_11 t0_12 t0_13 t0_14 t0_15 t0_16 t0_17 t0_18 t0_19 t0_20 t0_21 t1_0 lx34 lx45 lx64 lx65 lx66 n lx93 lx94) := by
  have e0 : (0 : Int32).toInt = 0 := rfl
  intro n
  induction n with
  | zero =>
    intro _ _ i _ _ q
    omega
  | succ n ih =>
    intro lx93 lx94 i h1 h2 h3 h4 h5
    unfold F_VR_keep_L112
    by_cases c : lx93 ≤ 0
    · rw [if_pos c]
      have c' := q_leI c
      have i0 : i = 0 := by omega
      refine ⟨k + 1, ?_, ?_, Or.inr ⟨rfl, rfl⟩, fun j hj => ?_, ?_⟩
      · show (lx45 + 1).toInt = _
        rw [q_addI (y := 1) hk rfl (by omega) (by omega)]
        omega
      · show (t0_21 + 1).toInt = _
        rw [q_addI (y := 1) hp rfl (by omega) (by omega)]
        omega
      · show (upd lx94 (0 : Int32).toNatClampNeg 1 j).toInt = _
        have z0 : (0 : Int32).toNatClampNeg = 0 := rfl
        unfold upd
        rw [z0]
        by_cases e : j = 0
        · rw [if_pos e, e, show k + 1 - 1 - 0 = k by omega, Nat.div_self (Nat.pow_pos (by decide))]
          rfl
        · rw [if_neg e, h4 j (by omega) (by omega)]
          have : (10 : Nat) ^ k / 10 ^ (k + 1 - 1 - j) % 10 = 0 := by
            rw [Nat.pow_div (by omega) (by decide), show k - (k + 1 - 1 - j) = (j - 1) + 1 by omega, Nat.pow_succ, Nat.mul_mod_left]
          rw [this]
          rfl
      · exact Nat.pow_lt_pow_right (by decide) (by omega)
    · rw [if_neg c]
      have c' := q_nleI c
      have i1 : lx93.toNatClampNeg = i := by show lx93.toInt.toNat = i; omega
      obtain ⟨s1, s2⟩ := y_sub1 h1 (by omega)
      rw [i1, s1]
      refine ih (lx93 + -1) _ (i - 1) (y_wm1 h1 (by omega)) (by omega) (by omega) (fun j j1 j2 => ?_) (fun j1 => ?_)
      · unfold upd
        by_cases e : j = i
        · rw [if_pos e]
          exact h4 (i - 1) (by omega) (by omega)
        · rw [if_neg e]
          exact h4 j j1 e
      · unfold upd
        rw [if_neg (by omega)]
        exact h4 (i - 1) (by omega) (by omega)
theorem Z_kp49 {x2 : Int32} {t0_0 : Int32} {t0_1 : Int32} {t0_2 : Int32} {t0_3 : Int32} {t0_4 : Int32} {t0_5 : Int32} {t0_6 : Int32} {t0_7 : Int32} {t0_8 : Int32} {t0_9 : Int32} {t0_10 : Int32} {t0_11 : Int32} {t0_12 : Int32} {t0_13 : Int32} {t0_14 : Int32} {t0_15 : Int32} {t0_16 : Int32} {t0_17 : Int32} {t0_18 : Int32} {t0_19 : Int32} {t0_20 : Int32} {t0_21 : Int32} {t1_0 : (Nat → Int32)} {lx34 : Int32} {lx45 : Int32} {k Q : Nat} {pt : Int} (hk : lx45.toInt = (k : Int)) (hk2 : k ≤ 60) (hp : t0_21.toInt = pt) (hp2 : -100000 ≤ pt ∧ pt ≤ 100000) (hQ : yLt10 Q k) : ∀ (n : Nat) (lx64 : Int32) (lx65 : Int32) (lx66 : (Nat → Int32)), ∀ i : Nat, lx64.toInt = (i : Int) - 1 → i ≤ k → i < n → ((lx65 = 1 ∧ zNin Q (k - i) ∧ (∀ j, j < i → (lx66 j).toInt = ((yLo Q (k - 1 - j) : Nat) : Int)) ∧ (∀ j, i ≤ j → j < k → (lx66 j).toInt = 0)) ∨ (lx65 = 0 ∧ yLt10 (Q + 1) k ∧ ∀ j, j < k → (lx66 j).toInt = ((yLo (Q + 1) (k - 1 - j) : Nat) : Int))) → QZ_kp (Q + 1) k pt (F_VR_keep_L49 x2 t0_0 t0_1 t0_2 t0_3 t0_4 t0_5 t0_6 t0_7 t0_8 t0_9 t0_10 t0_11 t0_12 t0_13 t0_14 t0_15 t0_16 t0_17 t0_18 t0_19 t0_20 t0_21 t1_0 lx34 lx45 n lx64 lx65 lx66) := by
  have e0 : (0 : Int32).toInt = 0 := rfl
  have e9 : (9 : Int32).toInt = 9 := rfl
  intro n
  induction n with
  | zero =>
    intro _ _ _ i _ _ q
    omega
  | succ n ih =>
    intro lx64 lx65 lx66 i h1 h2 h3 h4
    unfold F_VR_keep_L49
    rcases h4 with ⟨a1, a2, a3, a4⟩ | ⟨a1, a2, a3⟩
    · rw [if_neg (by rw [a1]; decide)]
      by_cases c : lx64 < 0
      · rw [if_pos c]
        have c' := q_ltI c
        have i0 : i = 0 := by omega
        rw [i0, Nat.sub_zero] at a2
        rw [Z_ninK a2 hQ]
        unfold F_VR_keep_J102
        rw [if_neg (by rw [a1]; decide)]
        refine Z_kp112 hk hk2 hp hp2 ((lx45.toInt - -1).toNat + 1) lx45 lx66 k hk (Nat.le_refl _) (by omega) (fun j j1 j2 => a4 j (by omega) (by omega)) (fun j1 => by omega)
      · rw [if_neg c]
        have c' := q_nltI c
        have ix : lx64.toNatClampNeg = i - 1 := by show lx64.toInt.toNat = _; omega
        rw [ix]
        have f := a3 (i - 1) (by omega)
        rw [show k - 1 - (i - 1) = k - i by omega] at f
        by_cases g : lx66 (i - 1) = 9
        · rw [if_pos g]
          have g' := q_eqI g
          unfold F_VR_keep_J73
          rw [if_neg (by decide), ix]
          refine ih _ _ _ (i - 1) (Z_m1 h1 (by omega) (by omega)) (by omega) (by omega) (Or.inl ⟨rfl, ?_, fun j hj => ?_, fun j j1 j2 => ?_⟩)
          · rw [show k - (i - 1) = k - i + 1 by omega]
            exact Z_nineL a2 (by omega)
          · unfold upd
            rw [if_neg (by omega)]
            exact a3 j (by omega)
          · unfold upd
            by_cases e : j = i - 1
            · rw [if_pos e]
              rfl
            · rw [if_neg e]
              exact a4 j (by omega) j2
        · rw [if_neg g]
          have g' := q_neI g
          have nd : yLo Q (k - i) ≠ 9 := by omega
          unfold F_VR_keep_J73
          rw [if_pos rfl, ix]
          refine ih _ _ _ (i - 1) (Z_m1 h1 (by omega) (by omega)) (by omega) (by omega) (Or.inr ⟨rfl, ?_, fun j hj => ?_⟩)
          · exact Z_ninL a2 nd hQ (by omega) h2
          · unfold upd
            have z := Z_incL (t := k - 1 - j) a2 nd
            have l9 := Z_lo9 (N := Q) (i := k - i)
            by_cases e : j = i - 1
            · rw [if_pos e]
              rw [if_neg (by omega), if_pos (by omega)] at z
              rw [z, q_addI (y := 1) f rfl (by omega) (by omega)]
              omega
            · rw [if_neg e]
              by_cases w : j < i - 1
              · rw [if_neg (by omega), if_neg (by omega)] at z
                rw [z]
                exact a3 j (by omega)
              · rw [if_pos (by omega)] at z
                rw [z]
                exact a4 j (by omega) hj
    · rw [if_pos a1]
      unfold F_VR_keep_J102
      rw [if_pos a1]
      exact ⟨k, hk, by rw [hp]; omega, Or.inl rfl, a3, a2⟩
theorem Z_top {N m k : Nat} (hk : k < m) : 5 ≤ N / 10 ^ (m - 1 - k) % 10 ↔ 10 ^ (m - k) ≤ 2 * (N % 10 ^ (m - k)) := by
  obtain ⟨j, hj⟩ : ∃ j, m - k = j + 1 := ⟨m - k - 1, by omega⟩
  have p : 0 < 10 ^ j := Nat.pow_pos (by decide)
  rw [show m - 1 - k = j by omega, hj, Nat.pow_succ, Nat.mod_mul]
  have l := Nat.mod_lt N p
  generalize N / 10 ^ j % 10 = d
  generalize N % 10 ^ j = r at l
  generalize 10 ^ j = P at l p
  constructor
  · intro h
    have : P * 5 ≤ P * d := Nat.mul_le_mul_left _ h
    omega
  · intro h
    rcases Nat.lt_or_ge d 5 with w | w
    · have : P * d ≤ P * 4 := Nat.mul_le_mul_left _ (by omega)
      omega
    · exact w
theorem Z_out2 {N j : Nat} (hj : 0 < j) : yOut 2 N j = if 10 ^ j ≤ 2 * (N % 10 ^ j) then 1 else 0 := by
  have p : 1 < 10 ^ j := Nat.one_lt_pow (by omega) (by decide)
  unfold yOut
  rw [if_neg (show ¬ (2 : Int32) = 0 by decide), if_neg (show ¬ (2 : Int32) = 1 by decide), if_pos (rfl : (2 : Int32) = 2)]
  generalize N % 10 ^ j = r
  generalize 10 ^ j = P at p
  by_cases a : r = 0
  · rw [if_pos a, if_neg (by omega)]
  · rw [if_neg a]
    by_cases b : P < 2 * r
    · rw [if_pos b, if_pos (by omega)]
    · rw [if_neg b]
      by_cases c : 2 * r = P
      · rw [if_pos c, if_pos (by omega)]
      · rw [if_neg c, if_neg (by omega)]
/-- figures with a point: N of m figures, the point behind the first pt -/
def zFp (mn pn : Int32) (f : Nat → Int32) (N m : Nat) (pt : Int) : Prop := mn.toInt = (m : Int) ∧ pn.toInt = pt ∧ m ≤ 61 ∧ (-100000 ≤ pt ∧ pt ≤ 100000) ∧ zFr 10 m f N ∧ N < 10 ^ m
theorem Z_keep {x2 : Int32} {t0_0 : Int32} {t0_1 : Int32} {t0_2 : Int32} {t0_3 : Int32} {t0_4 : Int32} {t0_5 : Int32} {t0_6 : Int32} {t0_7 : Int32} {t0_8 : Int32} {t0_9 : Int32} {t0_10 : Int32} {t0_11 : Int32} {t0_12 : Int32} {t0_13 : Int32} {t0_14 : Int32} {t0_15 : Int32} {t0_16 : Int32} {t0_17 : Int32} {t0_18 : Int32} {t0_19 : Int32} {t0_20 : Int32} {t0_21 : Int32} {t1_0 : (Nat → Int32)} {N m : Nat} {pt k : Int} (h : zFp t0_20 t0_21 t1_0 N m pt) (hm : m ≤ 60) (hm1 : 1 ≤ m) (hp : -90000 ≤ pt ∧ pt ≤ 90000) (hx : x2.toInt = k) : ((m : Int) ≤ k ∧ zFp (F_VR_keep x2 t0_0 t0_1 t0_2 t0_3 t0_4 t0_5 t0_6 t0_7 t0_8 t0_9 t0_10 t0_11 t0_12 t0_13 t0_14 t0_15 t0_16 t0_17 t0_18 t0_19 t0_20 t0_21 t1_0).1 (F_VR_keep x2 t0_0 t0_1 t0_2 t0_3 t0_4 t0_5 t0_6 t0_7 t0_8 t0_9 t0_10 t0_11 t0_12 t0_13 t0_14 t0_15 t0_16 t0_17 t0_18 t0_19 t0_20 t0_21 t1_0).2.1 (F_VR_keep x2 t0_0 t0_1 t0_2 t0_3 t0_4 t0_5 t0_6 t0_7 t0_8 t0_9 t0_10 t0_11 t0_12 t0_13 t0_14 t0_15 t0_16 t0_17 t0_18 t0_19 t0_20 t0_21 t1_0).2.2 N m pt) ∨ (0 ≤ k ∧ k < m ∧ ∃ m2 : Nat, zFp (F_VR_keep x2 t0_0 t0_1 t0_2 t0_3 t0_4 t0_5 t0_6 t0_7 t0_8 t0_9 t0_10 t0_11 t0_12 t0_13 t0_14 t0_15 t0_16 t0_17 t0_18 t0_19 t0_20 t0_21 t1_0).1 (F_VR_keep x2 t0_0 t0_1 t0_2 t0_3 t0_4 t0_5 t0_6 t0_7 t0_8 t0_9 t0_10 t0_11 t0_12 t0_13 t0_14 t0_15 t0_16 t0_17 t0_18 t0_19 t0_20 t0_21 t1_0).2.1 (F_VR_keep x2 t0_0 t0_1 t0_2 t0_3 t0_4 t0_5 t0_6 t0_7 t0_8 t0_9 t0_10 t0_11 t0_12 t0_13 t0_14 t0_15 t0_16 t0_17 t0_18 t0_19 t0_20 t0_21 t1_0).2.2 (yRk 2 N m k) m2 (pt + ((m2 : Int) - k)) ∧ ((m2 : Int) = k ∨ ((m2 : Int) = k + 1 ∧ yRk 2 N m k = 10 ^ k.toNat))) ∨ (k < 0 ∧ yRk 2 N m k = 0 ∧ zFp (F_VR_keep x2 t0_0 t0_1 t0_2 t0_3 t0_4 t0_5 t0_6 t0_7 t0_8 t0_9 t0_10 t0_11 t0_12 t0_13 t0_14 t0_15 t0_16 t0_17 t0_18 t0_19 t0_20 t0_21 t1_0).1 (F_VR_keep x2 t0_0 t0_1 t0_2 t0_3 t0_4 t0_5 t0_6 t0_7 t0_8 t0_9 t0_10 t0_11 t0_12 t0_13 t0_14 t0_15 t0_16 t0_17 t0_18 t0_19 t0_20 t0_21 t1_0).2.1 (F_VR_keep x2 t0_0 t0_1 t0_2 t0_3 t0_4 t0_5 t0_6 t0_7 t0_8 t0_9 t0_10 t0_11 t0_12 t0_13 t0_14 t0_15 t0_16 t0_17 t0_18 t0_19 t0_20 t0_21 t1_0).2.2 0 0 pt) := by
  have e0 : (0 : Int32).toInt = 0 := rfl
  have e5 : (5 : Int32).toInt = 5 := rfl
  obtain ⟨h1, h2, h3, h4, h5, h6⟩ := h
  unfold F_VR_keep
  by_cases c : x2 < t0_20
  · rw [if_pos c]
    have c' := q_ltI c
    by_cases d : x2 < 0
    · rw [if_pos d]
      have d' := q_ltI d
      refine Or.inr (Or.inr ⟨by omega, ?_, ?_⟩)
      · unfold yRk
        rw [if_neg (by omega)]
        obtain ⟨j, hj⟩ : ∃ j, ((m : Int) - k).toNat = m + (j + 1) := ⟨((m : Int) - k).toNat - m - 1, by omega⟩
        rw [hj, Z_out2 (by omega)]
        have l : N < 10 ^ (m + (j + 1)) := Nat.lt_of_lt_of_le h6 (Nat.pow_le_pow_right (by decide) (by omega))
        have l2 : 10 * 10 ^ m ≤ 10 ^ (m + (j + 1)) := by
          rw [Nat.pow_add, Nat.mul_comm]
          exact Nat.mul_le_mul_left _ (by rw [Nat.pow_succ]; have : 0 < 10 ^ j := Nat.pow_pos (by decide); omega)
        rw [Nat.div_eq_of_lt l, Nat.mod_eq_of_lt l, if_neg (by omega)]
      · unfold F_VR_keep_J27 F_VR_keep_J28
        rw [if_neg (fun q => by have := q_leI q; omega)]
        unfold F_VR_keep_J39
        rw [show ((((0 : Int32) - 1).toInt - -1).toNat + 1) = 0 + 1 by decide]
        unfold F_VR_keep_L49
        rw [if_pos rfl]
        unfold F_VR_keep_J102
        rw [if_pos rfl]
        exact ⟨rfl, h2, by decide, h4, fun j hj => absurd hj (Nat.not_lt_zero _), by decide⟩
    · rw [if_neg d]
      have d' := q_nltI d
      obtain ⟨kn, hkn⟩ : ∃ kn : Nat, k = (kn : Int) := ⟨k.toNat, by omega⟩
      subst hkn
      have kl : kn < m := by omega
      have ix : x2.toNatClampNeg = kn := by show x2.toInt.toNat = kn; omega
      rw [ix]
      have f := h5 kn kl
      have tp := Z_top (N := N) kl
      have rk : yRk 2 N m (kn : Int) = N / 10 ^ (m - kn) + (if 5 ≤ N / 10 ^ (m - 1 - kn) % 10 then 1 else 0) := by
        unfold yRk
        rw [if_neg (by omega), show ((m : Int) - (kn : Int)).toNat = m - kn by omega, Z_out2 (by omega)]
        congr 1
        by_cases w : 5 ≤ N / 10 ^ (m - 1 - kn) % 10
        · rw [if_pos w, if_pos (tp.mp w)]
        · rw [if_neg w, if_neg (fun z => w (tp.mpr z))]
      have QL : N / 10 ^ (m - kn) < 10 ^ kn := by
        rw [Nat.div_lt_iff_lt_mul (Nat.pow_pos (by decide)), ← Nat.pow_add, show kn + (m - kn) = m by omega]
        exact h6
      have dg : ∀ j, j < kn → (t1_0 j).toInt = ((N / 10 ^ (m - kn) / 10 ^ (kn - 1 - j) % 10 : Nat) : Int) := by
        intro j hj
        rw [h5 j (by omega), Nat.div_div_eq_div_mul, ← Nat.pow_add, show m - kn + (kn - 1 - j) = m - 1 - j by omega]
      have s1 : (x2 - 1).toInt = (kn : Int) - 1 := q_subI (b := 1) (y := 1) hx rfl (by omega) (by omega)
      refine Or.inr (Or.inl ⟨by omega, by omega, ?_⟩)
      by_cases g : t1_0 kn < 5
      · rw [if_pos g]
        have g' := q_ltI g
        unfold F_VR_keep_J27 F_VR_keep_J28
        rw [if_pos (Int32.le_iff_toInt_le.mpr (by omega))]
        unfold F_VR_keep_J39 F_VR_keep_L49
        rw [if_pos rfl]
        unfold F_VR_keep_J102
        rw [if_pos rfl, rk, if_neg (by omega), Nat.add_zero]
        exact ⟨kn, ⟨hx, by rw [h2]; omega, by omega, by omega, dg, QL⟩, Or.inl rfl⟩
      · rw [if_neg g]
        have g' := q_nltI g
        unfold F_VR_keep_J28
        rw [if_pos (Int32.le_iff_toInt_le.mpr (by omega))]
        unfold F_VR_keep_J39
        have r := Z_kp49 (x2 := x2) (t0_0 := t0_0) (t0_1 := t0_1) (t0_2 := t0_2) (t0_3 := t0_3) (t0_4 := t0_4) (t0_5 := t0_5) (t0_6 := t0_6) (t0_7 := t0_7) (t0_8 := t0_8) (t0_9 := t0_9) (t0_10 := t0_10) (t0_11 := t0_11) (t0_12 := t0_12) (t0_13 := t0_13) (t0_14 := t0_14) (t0_15 := t0_15) (t0_16 := t0_16) (t0_17 := t0_17) (t0_18 := t0_18) (t0_19 := t0_19) (t0_20 := t0_20) (t0_21 := t0_21) (t1_0 := t1_0) (lx34 := 1) (lx45 := x2) hx (by omega) h2 h4 QL (((x2 - 1).toInt - -1).toNat + 1) (x2 - 1) 1 t1_0 kn s1 (Nat.le_refl _) (by omega) (Or.inl ⟨rfl, by rw [Nat.sub_self]; exact Z_nin0, dg, fun j j1 j2 => by omega⟩)
        obtain ⟨m2, r1, r2, r3, r4, r5⟩ := r
        rw [rk, if_pos (by omega)]
        have mb : m2 ≤ kn + 1 := by
          rcases r3 with z | z
          · omega
          · omega
        refine ⟨m2, ⟨r1, r2, by omega, by omega, r4, r5⟩, ?_⟩
        rcases r3 with z | ⟨z, w⟩
        · exact Or.inl (by omega)
        · exact Or.inr ⟨by omega, by rw [w]; rfl⟩
  · rw [if_neg c]
    have c' := q_nltI c
    exact Or.inl ⟨by omega, h1, h2, h3, h4, h5, h6⟩

