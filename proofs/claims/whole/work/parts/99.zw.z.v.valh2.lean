/-! values, for whole: the reference's words and figures -/
/-- the bytes of a word -/
def zWl (n x : Nat) : List Nat := match n with
  | 0 => []
  | n + 1 => if x = 0 then [] else (x % 256) :: zWl n (x / 256)
theorem Z_put {x2 : Int32} {t0_0 : Int32} {t0_1 : Int32} {t0_2 : Int32} {t0_3 : Int32} {t0_4 : Int32} {t0_5 : Int32} {t0_6 : Int32} {t0_7 : Int32} {t0_8 : Int32} {t0_9 : Int32} {t0_10 : Int32} {t0_11 : Int32} {t0_12 : Int32} {t0_13 : Int32} {t0_14 : Int32} {t0_15 : Int32} {t0_16 : Int32} {t0_17 : Int32} {t0_18 : Int32} {t0_19 : Int32} {t0_20 : Int32} {t0_21 : Int32} {t1_0 : (Nat → Int32)} {l : List Nat} {v : Nat} (h : yRt t0_17 t1_0 l) (hl : l.length < 1000000) (hx : x2.toInt = (v : Int)) : yRt (F_VR_put x2 t0_0 t0_1 t0_2 t0_3 t0_4 t0_5 t0_6 t0_7 t0_8 t0_9 t0_10 t0_11 t0_12 t0_13 t0_14 t0_15 t0_16 t0_17 t0_18 t0_19 t0_20 t0_21 t1_0).1 (F_VR_put x2 t0_0 t0_1 t0_2 t0_3 t0_4 t0_5 t0_6 t0_7 t0_8 t0_9 t0_10 t0_11 t0_12 t0_13 t0_14 t0_15 t0_16 t0_17 t0_18 t0_19 t0_20 t0_21 t1_0).2 (l ++ [v]) := by
  unfold F_VR_put
  exact V_rt h (by omega) hx
theorem Z_sr8 {x : Int64} {X : Nat} (h : x.toInt = (X : Int)) (hX : X < 9223372036854775808) : (x >>> ((8 : Int32).toInt64 &&& 63)).toInt = ((X / 256 : Nat) : Int) ∧ ((x &&& 255).toInt32).toInt = ((X % 256 : Nat) : Int) := by
  have e : ((8 : Int32).toInt64 &&& 63) = 8 := by decide
  have nx : x.toBitVec.toNat = X := y_natI h
  refine ⟨?_, ?_⟩
  · rw [e]
    have : (x >>> (8 : Int64)).toInt = x.toInt / 256 := by
      rw [← Int64.toInt_toBitVec, Int64.toBitVec_shiftRight]
      show (x.toBitVec.sshiftRight 8).toInt = _
      rw [BitVec.toInt_sshiftRight, Int.shiftRight_eq_div_pow]
      rfl
    rw [this, h]
    omega
  · have a : yu (x &&& 255) = X % 256 := by
      show (x &&& 255).toBitVec.toNat = _
      rw [Int64.toBitVec_and, BitVec.toNat_and, nx]
      show X &&& 255 = _
      exact Nat.and_two_pow_sub_one_eq_mod X 8
    have lt : X % 256 < 256 := Nat.mod_lt _ (by decide)
    have b : (x &&& 255).toInt = ((X % 256 : Nat) : Int) := y_toI a (by omega)
    rw [Int64.toInt_toInt32, b]
    exact Int.bmod_eq_of_le (by omega) (by omega)
theorem Z_wdL {x2 : Int64} {t0_0 : Int32} {t0_1 : Int32} {t0_2 : Int32} {t0_3 : Int32} {t0_4 : Int32} {t0_5 : Int32} {t0_6 : Int32} {t0_7 : Int32} {t0_8 : Int32} {t0_9 : Int32} {t0_10 : Int32} {t0_11 : Int32} {t0_12 : Int32} {t0_13 : Int32} {t0_14 : Int32} {t0_15 : Int32} {t0_16 : Int32} {t0_17 : Int32} {t0_18 : Int32} {t0_19 : Int32} {t0_20 : Int32} {t0_21 : Int32} {t1_0 : (Nat → Int32)}  : ∀ (n : Nat) (lx33 : Int64) (lx34 : Int32) (lx35 : (Nat → Int32)), ∀ (X k : Nat) (l : List Nat), lx33.toInt = (X : Int) → X < 256 ^ k → k ≤ 7 → k < n → yRt lx34 lx35 l → l.length + k < 100000 → yRt (F_VR_word_L2 x2 t0_0 t0_1 t0_2 t0_3 t0_4 t0_5 t0_6 t0_7 t0_8 t0_9 t0_10 t0_11 t0_12 t0_13 t0_14 t0_15 t0_16 t0_17 t0_18 t0_19 t0_20 t0_21 t1_0 n lx33 lx34 lx35).1 (F_VR_word_L2 x2 t0_0 t0_1 t0_2 t0_3 t0_4 t0_5 t0_6 t0_7 t0_8 t0_9 t0_10 t0_11 t0_12 t0_13 t0_14 t0_15 t0_16 t0_17 t0_18 t0_19 t0_20 t0_21 t1_0 n lx33 lx34 lx35).2 (l ++ zWl k X) := by
  have e0 : (0 : Int64).toInt = 0 := rfl
  intro n
  induction n with
  | zero =>
    intro _ _ _ X k l _ _ _ q
    omega
  | succ n ih =>
    intro lx33 lx34 lx35 X k l h1 h2 h3 h4 h5 h6
    unfold F_VR_word_L2
    have h8 : X < 9223372036854775808 := Nat.lt_of_lt_of_le h2 (Nat.le_trans (Nat.pow_le_pow_right (by decide) h3) (by decide))
    by_cases c : lg_cmp lx33 0 = 0
    · rw [if_pos c]
      have c' := q_k9 c
      have x0 : X = 0 := by omega
      have : zWl k X = [] := by
        cases k with
        | zero => rfl
        | succ k => unfold zWl; rw [if_pos x0]
      rw [this, List.append_nil]
      exact h5
    · rw [if_neg c]
      have c' := q_k10 c
      obtain ⟨j, rfl⟩ : ∃ j, k = j + 1 := by
        cases k with
        | zero => rw [Nat.pow_zero] at h2; omega
        | succ j => exact ⟨j, rfl⟩
      obtain ⟨s1, s2⟩ := Z_sr8 h1 h8
      have w := Z_put (t0_0 := t0_0) (t0_1 := t0_1) (t0_2 := t0_2) (t0_3 := t0_3) (t0_4 := t0_4) (t0_5 := t0_5) (t0_6 := t0_6) (t0_7 := t0_7) (t0_8 := t0_8) (t0_9 := t0_9) (t0_10 := t0_10) (t0_11 := t0_11) (t0_12 := t0_12) (t0_13 := t0_13) (t0_14 := t0_14) (t0_15 := t0_15) (t0_16 := t0_16) (t0_17 := lx34) (t0_18 := t0_18) (t0_19 := t0_19) (t0_20 := t0_20) (t0_21 := t0_21) h5 (by omega) s2
      revert w
      generalize F_VR_put (lx33 &&& 255).toInt32 t0_0 t0_1 t0_2 t0_3 t0_4 t0_5 t0_6 t0_7 t0_8 t0_9 t0_10 t0_11 t0_12 t0_13 t0_14 t0_15 t0_16 lx34 t0_18 t0_19 t0_20 t0_21 lx35 = p
      intro w
      unfold F_VR_word_c15
      have z : zWl (j + 1) X = (X % 256) :: zWl j (X / 256) := by
        rw [zWl, if_neg (by omega)]
      rw [z, show l ++ (X % 256) :: zWl j (X / 256) = (l ++ [X % 256]) ++ zWl j (X / 256) by rw [List.append_assoc]; rfl]
      exact ih _ _ _ (X / 256) j (l ++ [X % 256]) s1 (by rw [Nat.pow_succ] at h2; exact Nat.div_lt_of_lt_mul (by rw [Nat.mul_comm]; exact h2)) (by omega) (by omega) w (by rw [List.length_append]; show l.length + 1 + j < _; omega)
theorem Z_word {x2 : Int64} {t0_0 : Int32} {t0_1 : Int32} {t0_2 : Int32} {t0_3 : Int32} {t0_4 : Int32} {t0_5 : Int32} {t0_6 : Int32} {t0_7 : Int32} {t0_8 : Int32} {t0_9 : Int32} {t0_10 : Int32} {t0_11 : Int32} {t0_12 : Int32} {t0_13 : Int32} {t0_14 : Int32} {t0_15 : Int32} {t0_16 : Int32} {t0_17 : Int32} {t0_18 : Int32} {t0_19 : Int32} {t0_20 : Int32} {t0_21 : Int32} {t1_0 : (Nat → Int32)} {X : Nat} {l : List Nat} (h1 : x2.toInt = (X : Int)) (h2 : X < 256 ^ 5) (h5 : yRt t0_17 t1_0 l) (hl : l.length < 50000) : yRt (F_VR_word x2 t0_0 t0_1 t0_2 t0_3 t0_4 t0_5 t0_6 t0_7 t0_8 t0_9 t0_10 t0_11 t0_12 t0_13 t0_14 t0_15 t0_16 t0_17 t0_18 t0_19 t0_20 t0_21 t1_0).1 (F_VR_word x2 t0_0 t0_1 t0_2 t0_3 t0_4 t0_5 t0_6 t0_7 t0_8 t0_9 t0_10 t0_11 t0_12 t0_13 t0_14 t0_15 t0_16 t0_17 t0_18 t0_19 t0_20 t0_21 t1_0).2 (l ++ zWl 5 X) := by
  unfold F_VR_word
  exact Z_wdL 1000000 x2 t0_17 t1_0 X 5 l h1 h2 (by decide) (by decide) h5 (by omega)
/-- a row of figures: N to the base b, of m figures, the highest first -/
def zFr (b : Nat) (m : Nat) (f : Nat → Int32) (N : Nat) : Prop := ∀ j, j < m → (f j).toInt = ((N / b ^ (m - 1 - j) % b : Nat) : Int)
theorem Z_spT {K_F_VR_spread_L8 : Int64 → Int32 → (Nat → Int32) → (Int32 × Int32 × (Nat → Int32))} {x2 : Int64} {x3 : Int32} {t0_0 : Int32} {t0_1 : Int32} {t0_2 : Int32} {t0_3 : Int32} {t0_4 : Int32} {t0_5 : Int32} {t0_6 : Int32} {t0_7 : Int32} {t0_8 : Int32} {t0_9 : Int32} {t0_10 : Int32} {t0_11 : Int32} {t0_12 : Int32} {t0_13 : Int32} {t0_14 : Int32} {t0_15 : Int32} {t0_16 : Int32} {t0_17 : Int32} {t0_18 : Int32} {t0_19 : Int32} {t0_20 : Int32} {t0_21 : Int32} {t1_0 : (Nat → Int32)} {lx35 : Int64} {lx36 : Int32} {lx37 : (Nat → Int32)} {m : Nat} {g : Nat → Int} (hm : lx36.toInt = (m : Int)) (hm2 : m ≤ 100) : ∀ (n : Nat) (lx127 : Int32) (lx128 : Int32) (lx129 : (Nat → Int32)), ∀ a : Nat, lx128.toInt = (a : Int) → lx127.toInt = (m : Int) - 1 - a → a ≤ m → m < n + a → (∀ j, j < m → (lx129 j).toInt = if (j < a ∨ m - 1 - a < j) then g (m - 1 - j) else g j) → (F_VR_spread_L110 K_F_VR_spread_L8 x2 x3 t0_0 t0_1 t0_2 t0_3 t0_4 t0_5 t0_6 t0_7 t0_8 t0_9 t0_10 t0_11 t0_12 t0_13 t0_14 t0_15 t0_16 t0_17 t0_18 t0_19 t0_20 t0_21 t1_0 lx35 lx36 lx37 n lx127 lx128 lx129).1 = lx36 ∧ (F_VR_spread_L110 K_F_VR_spread_L8 x2 x3 t0_0 t0_1 t0_2 t0_3 t0_4 t0_5 t0_6 t0_7 t0_8 t0_9 t0_10 t0_11 t0_12 t0_13 t0_14 t0_15 t0_16 t0_17 t0_18 t0_19 t0_20 t0_21 t1_0 lx35 lx36 lx37 n lx127 lx128 lx129).2.1 = lx36 ∧ ∀ j, j < m → ((F_VR_spread_L110 K_F_VR_spread_L8 x2 x3 t0_0 t0_1 t0_2 t0_3 t0_4 t0_5 t0_6 t0_7 t0_8 t0_9 t0_10 t0_11 t0_12 t0_13 t0_14 t0_15 t0_16 t0_17 t0_18 t0_19 t0_20 t0_21 t1_0 lx35 lx36 lx37 n lx127 lx128 lx129).2.2 j).toInt = g (m - 1 - j) := by
  intro n
  induction n with
  | zero =>
    intro _ _ _ a _ _ q1 q2
    omega
  | succ n ih =>
    intro lx127 lx128 lx129 a h1 h2 h3 h4 h5
    unfold F_VR_spread_L110
    by_cases c : lx127 ≤ lx128
    · rw [if_pos c]
      have c' := q_leI c
      refine ⟨rfl, rfl, fun j hj => ?_⟩
      show (lx129 j).toInt = _
      rw [h5 j hj]
      by_cases w : j < a ∨ m - 1 - a < j
      · rw [if_pos w]
      · rw [if_neg w]
        congr 1
        omega
    · rw [if_neg c]
      have c' := q_nleI c
      have i1 : lx127.toNatClampNeg = m - 1 - a := by show lx127.toInt.toNat = _; omega
      have i2 : lx128.toNatClampNeg = a := by show lx128.toInt.toNat = _; omega
      rw [i1, i2]
      refine ih (lx127 + -1) (lx128 + 1) _ (a + 1) (by rw [q_addI (y := 1) h1 rfl (by omega) (by omega)]; omega) (by rw [q_addI (y := -1) h2 rfl (by omega) (by omega)]; omega) (by omega) (by omega) (fun j hj => ?_)
      unfold upd
      by_cases e1 : j = m - 1 - a
      · rw [if_pos e1, h5 a (by omega), if_neg (by omega), if_pos (by omega)]
        congr 1
        omega
      · rw [if_neg e1]
        by_cases e2 : j = a
        · rw [if_pos e2, h5 (m - 1 - a) (by omega), if_neg (by omega), if_pos (by omega)]
          congr 1
          omega
        · rw [if_neg e2, h5 j hj]
          by_cases w : j < a ∨ m - 1 - a < j
          · rw [if_pos w, if_pos (by omega)]
          · rw [if_neg w, if_neg (by omega)]
theorem Z_half {u b : Nat} (hb : 0 < b) : u / 2 / b * 2 * b ≤ u ∧ u - u / 2 / b * 2 * b < 2 * b ∧ (u - u / 2 / b * 2 * b < b → u / b = u / 2 / b * 2 ∧ u % b = u - u / 2 / b * 2 * b) ∧ (b ≤ u - u / 2 / b * 2 * b → u / b = u / 2 / b * 2 + 1 ∧ u % b = u - (u / 2 / b * 2 + 1) * b) := by
  have d1 := Nat.div_add_mod (u / 2) b
  have d2 := Nat.mod_lt (u / 2) hb
  generalize u / 2 / b = q at d1 ⊢
  generalize u / 2 % b = r at d1 d2
  have e : q * 2 * b = 2 * (b * q) := by grind
  have e2 : (q * 2 + 1) * b = 2 * (b * q) + b := by grind
  rw [e, e2]
  generalize hB : b * q = B at d1 e e2
  refine ⟨by omega, by omega, fun h => ?_, fun h => ?_⟩
  · have : u / b = q * 2 := by
      apply Nat.div_eq_of_lt_le
      · rw [e]; omega
      · rw [e2]; omega
    refine ⟨this, ?_⟩
    have := Nat.div_add_mod u b
    rw [‹u / b = q * 2›, show b * (q * 2) = 2 * B by rw [← hB]; grind] at this
    omega
  · have : u / b = q * 2 + 1 := by
      apply Nat.div_eq_of_lt_le
      · rw [e2]; omega
      · rw [show (q * 2 + 1 + 1) * b = 2 * (b * q) + b + b by grind, hB]; omega
    refine ⟨this, ?_⟩
    have := Nat.div_add_mod u b
    rw [‹u / b = q * 2 + 1›, show b * (q * 2 + 1) = 2 * B + b by rw [← hB]; grind] at this
    omega
theorem Z_yuM {x y : Int64} {a b : Nat} (hx : yu x = a) (hy : yu y = b) (h : a * b < 18446744073709551616) : yu (x * y) = a * b := by
  show (x * y).toBitVec.toNat = _
  rw [Int64.toBitVec_mul, BitVec.toNat_mul]
  show (yu x * yu y) % 18446744073709551616 = _
  rw [hx, hy, Nat.mod_eq_of_lt h]
theorem Z_yuS {x y : Int64} {a b : Nat} (hx : yu x = a) (hy : yu y = b) (h : b ≤ a) : yu (x - y) = a - b := by
  have ha : a < 18446744073709551616 := by rw [← hx]; exact yu_lt x
  show (x - y).toBitVec.toNat = _
  rw [Int64.toBitVec_sub, BitVec.toNat_sub]
  show (18446744073709551616 - yu y + yu x) % 18446744073709551616 = _
  rw [hx, hy]
  omega
theorem Z_yuA {x y : Int64} {a b : Nat} (hx : yu x = a) (hy : yu y = b) (h : a + b < 18446744073709551616) : yu (x + y) = a + b := by
  show (x + y).toBitVec.toNat = _
  rw [Int64.toBitVec_add, BitVec.toNat_add]
  show (yu x + yu y) % 18446744073709551616 = _
  rw [hx, hy, Nat.mod_eq_of_lt h]

