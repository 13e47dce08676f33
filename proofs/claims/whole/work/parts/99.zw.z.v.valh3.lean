/-! values, for whole: the reference's figures of a number -/
/-- the figures of N: m of them, the least that there can be, but one at least -/
def zNf (b N m : Nat) : Prop := 1 ≤ m ∧ N < b ^ m ∧ (m ≠ 1 → b ^ (m - 1) ≤ N)
theorem zNf_U {b N m k : Nat} (hb : 1 < b) (h : zNf b N m) (g : zNf b N k) : m = k := by
  have key : ∀ {m k : Nat}, zNf b N m → zNf b N k → m ≤ k := by
    intro m k h g
    by_cases q : m = 1
    · have := g.1; omega
    · have a := h.2.2 q
      have := (Nat.pow_lt_pow_iff_right hb).mp (Nat.lt_of_le_of_lt a g.2.1)
      omega
  exact Nat.le_antisymm (key h g) (key g h)
def QZ_sp (b N : Nat) (y : Int32 × Int32 × (Nat → Int32)) : Prop := ∃ m : Nat, y.1.toInt = (m : Int) ∧ y.2.1.toInt = (m : Int) ∧ m ≤ 22 ∧ zNf b N m ∧ zFr b m y.2.2 N
theorem Z_spL {x2 : Int64} {x3 : Int32} {t0_0 : Int32} {t0_1 : Int32} {t0_2 : Int32} {t0_3 : Int32} {t0_4 : Int32} {t0_5 : Int32} {t0_6 : Int32} {t0_7 : Int32} {t0_8 : Int32} {t0_9 : Int32} {t0_10 : Int32} {t0_11 : Int32} {t0_12 : Int32} {t0_13 : Int32} {t0_14 : Int32} {t0_15 : Int32} {t0_16 : Int32} {t0_17 : Int32} {t0_18 : Int32} {t0_19 : Int32} {t0_20 : Int32} {t0_21 : Int32} {t1_0 : (Nat → Int32)} {b N : Nat} (hb : x3.toInt = (b : Int)) (hb2 : 8 ≤ b ∧ b ≤ 16) (hN : N < 18446744073709551616) : ∀ (n : Nat) (lx35 : Int64) (lx36 : Int32) (lx37 : (Nat → Int32)), ∀ i : Nat, yu lx35 = N / b ^ i → lx36.toInt = (i : Int) → i ≤ 22 → 23 < n + i → (∀ j, j < i → (lx37 j).toInt = ((N / b ^ j % b : Nat) : Int)) → (i ≤ 1 ∨ N / b ^ (i - 1) ≠ 0) → QZ_sp b N (F_VR_spread_L8 x2 x3 t0_0 t0_1 t0_2 t0_3 t0_4 t0_5 t0_6 t0_7 t0_8 t0_9 t0_10 t0_11 t0_12 t0_13 t0_14 t0_15 t0_16 t0_17 t0_18 t0_19 t0_20 t0_21 t1_0 n lx35 lx36 lx37) := by
  have e0 : (0 : Int32).toInt = 0 := rfl
  intro n
  induction n with
  | zero =>
    intro _ _ _ i _ _ q1 q2
    omega
  | succ n ih =>
    intro lx35 lx36 lx37 i h1 h2 h3 h4 h5 h6
    have c0 : lg_cmp lx35 0 = 0 ↔ N / b ^ i = 0 := by
      rw [y_lc0, h1]
    have bp : 0 < b ^ i := Nat.pow_pos (by omega)
    have st : (i = 0 ∨ N / b ^ i ≠ 0) → QZ_sp b N (F_VR_spread_J22 (F_VR_spread_L8 x2 x3 t0_0 t0_1 t0_2 t0_3 t0_4 t0_5 t0_6 t0_7 t0_8 t0_9 t0_10 t0_11 t0_12 t0_13 t0_14 t0_15 t0_16 t0_17 t0_18 t0_19 t0_20 t0_21 t1_0 n) x2 x3 t0_0 t0_1 t0_2 t0_3 t0_4 t0_5 t0_6 t0_7 t0_8 t0_9 t0_10 t0_11 t0_12 t0_13 t0_14 t0_15 t0_16 t0_17 t0_18 t0_19 t0_20 t0_21 t1_0 lx35 lx36 lx37) := by
      intro hz
      have i21 : i ≤ 21 := by
        rcases hz with z | z
        · omega
        · have : b ^ i ≤ N := by
            rcases Nat.lt_or_ge N (b ^ i) with w | w
            · exact absurd (Nat.div_eq_of_lt w) z
            · exact w
          have e8 : (8 : Nat) ^ i ≤ b ^ i := Nat.pow_le_pow_left hb2.1 i
          have l : (8 : Nat) ^ i < 8 ^ 22 := Nat.lt_of_le_of_lt (Nat.le_trans e8 this) (Nat.lt_of_lt_of_le hN (by decide))
          have := (Nat.pow_lt_pow_iff_right (a := 8) (by decide)).mp l
          omega
      unfold F_VR_spread_J22
      have hb0 : 0 < b := by omega
      obtain ⟨z1, z2, z3, z4⟩ := Z_half (u := N / b ^ i) hb0
      have ul : N / b ^ i < 18446744073709551616 := Nat.lt_of_le_of_lt (Nat.div_le_self _ _) hN
      have b64 : x3.toInt64.toInt = (b : Int) := q_i2l hb
      have yb : yu x3.toInt64 = b := y_natI b64
      have hf : ((lx35.toUInt64 >>> ((1 : Int32).toInt64.toUInt64 &&& Int64.toUInt64 63)).toInt64).toInt = ((N / b ^ i / 2 : Nat) : Int) := by rw [vr_ush]; show ((yu lx35 / 2 : Nat) : Int) = _; rw [h1]
      generalize ((lx35.toUInt64 >>> ((1 : Int32).toInt64.toUInt64 &&& Int64.toUInt64 63)).toInt64) = hv at hf ⊢
      have hd : (hv / x3.toInt64).toInt = ((N / b ^ i / 2 / b : Nat) : Int) := by
        rw [w_divL (by omega) b64 (by omega), hf]
        rfl
      have hdn : yu (hv / x3.toInt64) = N / b ^ i / 2 / b := y_natI hd
      have hle : N / b ^ i / 2 / b * 2 ≤ N / b ^ i := by
        have : N / b ^ i / 2 / b ≤ N / b ^ i / 2 := Nat.div_le_self _ _
        omega
      have hd2 : yu (hv / x3.toInt64 * 2) = N / b ^ i / 2 / b * 2 := Z_yuM hdn rfl (by omega)
      have hdb : yu (hv / x3.toInt64 * 2 * x3.toInt64) = N / b ^ i / 2 / b * 2 * b := Z_yuM hd2 yb (by omega)
      have hr : yu (lx35 - hv / x3.toInt64 * 2 * x3.toInt64) = N / b ^ i - N / b ^ i / 2 / b * 2 * b := Z_yuS h1 hdb z1
      have hri : (lx35 - hv / x3.toInt64 * 2 * x3.toInt64).toInt = ((N / b ^ i - N / b ^ i / 2 / b * 2 * b : Nat) : Int) := y_toI hr (by omega)
      have nx : ∀ x : Int64, yu x = N / b ^ i / b → QZ_sp b N (F_VR_spread_J62 (F_VR_spread_L8 x2 x3 t0_0 t0_1 t0_2 t0_3 t0_4 t0_5 t0_6 t0_7 t0_8 t0_9 t0_10 t0_11 t0_12 t0_13 t0_14 t0_15 t0_16 t0_17 t0_18 t0_19 t0_20 t0_21 t1_0 n) x2 x3 t0_0 t0_1 t0_2 t0_3 t0_4 t0_5 t0_6 t0_7 t0_8 t0_9 t0_10 t0_11 t0_12 t0_13 t0_14 t0_15 t0_16 t0_17 t0_18 t0_19 t0_20 t0_21 t1_0 lx35 lx36 lx37 x) := by
        intro x hx
        unfold F_VR_spread_J62
        have m1 : yu (x * x3.toInt64) = N / b ^ i / b * b := Z_yuM hx yb (by
          have := Nat.div_mul_le_self (N / b ^ i) b
          omega)
        have m2 : yu (lx35 - x * x3.toInt64) = N / b ^ i % b := by
          rw [Z_yuS h1 m1 (Nat.div_mul_le_self _ _)]
          have := Nat.div_add_mod (N / b ^ i) b
          rw [Nat.mul_comm] at this
          omega
        have lt : N / b ^ i % b < b := Nat.mod_lt _ hb0
        have m3 : ((lx35 - x * x3.toInt64).toInt32).toInt = ((N / b ^ i % b : Nat) : Int) := by
          rw [Int64.toInt_toInt32, y_toI m2 (by omega)]
          exact Int.bmod_eq_of_le (by omega) (by omega)
        have ix : lx36.toNatClampNeg = i := by show lx36.toInt.toNat = i; omega
        rw [ix]
        refine ih x (lx36 + 1) _ (i + 1) (by rw [hx, Nat.div_div_eq_div_mul, ← Nat.pow_succ]) (by rw [q_addI (y := 1) h2 rfl (by omega) (by omega)]; omega) (by omega) (by omega) (fun j hj => ?_) ?_
        · unfold upd
          by_cases e : j = i
          · rw [if_pos e, e]
            exact m3
          · rw [if_neg e]
            exact h5 j (by omega)
        · rcases hz with z | z
          · left; omega
          · right
            exact z
      by_cases g : lg_cmp (lx35 - hv / x3.toInt64 * 2 * x3.toInt64) x3.toInt64 < 0
      · rw [if_pos g]
        have g' := q_k1 g
        obtain ⟨w1, w2⟩ := z3 (by omega)
        exact nx _ (by rw [hd2, w1])
      · rw [if_neg g]
        have g' := q_k2 g
        obtain ⟨w1, w2⟩ := z4 (by omega)
        have hdl : N / b ^ i / b ≤ N / b ^ i := Nat.div_le_self _ _
        refine nx _ ?_
        have y1 : yu 1 = 1 := by decide
        rw [Z_yuA hd2 y1 (by omega), w1]
    unfold F_VR_spread_L8
    by_cases c : lg_cmp lx35 0 = 0
    · rw [if_pos c]
      have v0 := c0.mp c
      by_cases k : lx36 = 0
      · rw [if_pos k]
        have k' := q_eqI k
        exact st (Or.inl (by omega))
      · rw [if_neg k]
        have k' := q_neI k
        have i1 : 1 ≤ i := by omega
        have s1 : (lx36 - 1).toInt = (i : Int) - 1 := q_subI (b := 1) (y := 1) h2 rfl (by omega) (by omega)
        have em : ((-1 : Int)) = -1 := rfl
        have r := Z_spT (K_F_VR_spread_L8 := F_VR_spread_L8 x2 x3 t0_0 t0_1 t0_2 t0_3 t0_4 t0_5 t0_6 t0_7 t0_8 t0_9 t0_10 t0_11 t0_12 t0_13 t0_14 t0_15 t0_16 t0_17 t0_18 t0_19 t0_20 t0_21 t1_0 n) (x2 := x2) (x3 := x3) (t0_0 := t0_0) (t0_1 := t0_1) (t0_2 := t0_2) (t0_3 := t0_3) (t0_4 := t0_4) (t0_5 := t0_5) (t0_6 := t0_6) (t0_7 := t0_7) (t0_8 := t0_8) (t0_9 := t0_9) (t0_10 := t0_10) (t0_11 := t0_11) (t0_12 := t0_12) (t0_13 := t0_13) (t0_14 := t0_14) (t0_15 := t0_15) (t0_16 := t0_16) (t0_17 := t0_17) (t0_18 := t0_18) (t0_19 := t0_19) (t0_20 := t0_20) (t0_21 := t0_21) (t1_0 := t1_0) (lx35 := lx35) (lx36 := lx36) (lx37 := lx37) (g := fun j => ((N / b ^ j % b : Nat) : Int)) h2 (by omega) (((lx36 - 1).toInt - -1).toNat + 1) (lx36 - 1) 0 lx37 0 rfl (by rw [s1]; omega) (Nat.zero_le _) (by omega) (fun j hj => by
          rw [h5 j hj]
          by_cases w : j < 0 ∨ i - 1 - 0 < j
          · omega
          · rw [if_neg w])
        obtain ⟨r1, r2, r3⟩ := r
        refine ⟨i, by rw [r1]; exact h2, by rw [r2]; exact h2, h3, ⟨i1, ?_, fun w => ?_⟩, fun j hj => r3 j hj⟩
        · exact Nat.lt_of_div_eq_zero bp v0
        · rcases h6 with z | z
          · omega
          · rcases Nat.lt_or_ge N (b ^ (i - 1)) with y | y
            · exact absurd (Nat.div_eq_of_lt y) z
            · exact y
    · rw [if_neg c]
      exact st (Or.inr (fun z => c (c0.mpr z)))
theorem Z_spr {x2 : Int64} {x3 : Int32} {t0_0 : Int32} {t0_1 : Int32} {t0_2 : Int32} {t0_3 : Int32} {t0_4 : Int32} {t0_5 : Int32} {t0_6 : Int32} {t0_7 : Int32} {t0_8 : Int32} {t0_9 : Int32} {t0_10 : Int32} {t0_11 : Int32} {t0_12 : Int32} {t0_13 : Int32} {t0_14 : Int32} {t0_15 : Int32} {t0_16 : Int32} {t0_17 : Int32} {t0_18 : Int32} {t0_19 : Int32} {t0_20 : Int32} {t0_21 : Int32} {t1_0 : (Nat → Int32)} {b : Nat} (hb : x3.toInt = (b : Int)) (hb2 : 8 ≤ b ∧ b ≤ 16) : QZ_sp b (yu x2) (F_VR_spread x2 x3 t0_0 t0_1 t0_2 t0_3 t0_4 t0_5 t0_6 t0_7 t0_8 t0_9 t0_10 t0_11 t0_12 t0_13 t0_14 t0_15 t0_16 t0_17 t0_18 t0_19 t0_20 t0_21 t1_0) := by
  have e0 : (0 : Int32).toInt = 0 := rfl
  unfold F_VR_spread
  exact Z_spL hb hb2 (yu_lt x2) ((256 - (0 : Int32).toInt).toNat + 1) x2 0 t1_0 0 (by rw [Nat.pow_zero, Nat.div_one]) rfl (Nat.zero_le _) (by omega) (fun j hj => absurd hj (Nat.not_lt_zero _)) (Or.inl (Nat.zero_le _))
theorem Z_size {x : Int64} : yu (F_VR_size64 x) = x.toInt.natAbs := by
  have e0 : (0 : Int64).toInt = 0 := rfl
  have l1 := Int64.le_toInt x
  have l2 := Int64.toInt_lt x
  unfold F_VR_size64
  by_cases c : 0 ≤ lg_cmp x 0
  · rw [if_pos c]
    have c' := q_k7 c
    exact y_natI (by omega)
  · rw [if_neg c]
    have c' := q_k8 c
    show (-x).toBitVec.toNat = _
    rw [Int64.toBitVec_neg, BitVec.toNat_neg]
    have e : (x.toBitVec.toNat : Int) = x.toInt + 18446744073709551616 := by
      have := BitVec.toInt_eq_toNat_cond x.toBitVec
      have t : x.toBitVec.toInt = x.toInt := rfl
      rw [t] at this
      split at this
      · omega
      · have w : ((2 ^ 64 : Nat) : Int) = 18446744073709551616 := by decide
        omega
    have := x.toBitVec.isLt
    have p : (2 : Nat) ^ 64 = 18446744073709551616 := by decide
    rw [p] at this ⊢
    rw [Nat.mod_eq_of_lt (by omega)]
    omega

