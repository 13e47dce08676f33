/-! values, for whole: the reference's feed; the order of floats on both sides -/
theorem yu_pt {f : Nat → Int32} {i j : Nat} {v : Int32} : upd f i v j = if j = i then v else f j := rfl
theorem V_mfeedL {x2 : Int32} {x3 : Int64} {t0_0 : Int32} {t0_1 : Int32} {t0_2 : Int32} {t1_0 : (Nat → Int32)} {lx10 : Int32} {k : Nat} (hx : x2.toInt = (k : Int)) (hk : k ≤ 8) : ∀ (n : Nat) (lx30 : Int32) (lx31 : Int32) (lx32 : (Nat → Int32)), ∀ (j m : Nat), lx30.toInt = (j : Int) → lx31.toInt = (m : Int) → j ≤ k → m + (k - j) ≤ 4100 → k - j < n → (F_NM_feed_L46 x2 x3 t0_0 t0_1 t0_2 t1_0 lx10 n lx30 lx31 lx32).1.toInt = ((m + (k - j) : Nat) : Int) ∧ (F_NM_feed_L46 x2 x3 t0_0 t0_1 t0_2 t1_0 lx10 n lx30 lx31 lx32).2.1 = lx10 ∧ (F_NM_feed_L46 x2 x3 t0_0 t0_1 t0_2 t1_0 lx10 n lx30 lx31 lx32).2.2.1 = (F_NM_feed_L46 x2 x3 t0_0 t0_1 t0_2 t1_0 lx10 n lx30 lx31 lx32).1 ∧ ∀ i, ((F_NM_feed_L46 x2 x3 t0_0 t0_1 t0_2 t1_0 lx10 n lx30 lx31 lx32).2.2.2 i).toInt = if m ≤ i ∧ i < m + (k - j) then ((yBy8 x3 (j + (i - m)) : Nat) : Int) else (lx32 i).toInt := by
  intro n
  induction n with
  | zero =>
    intro lx30 lx31 lx32 j m h1 h2 h3 h4 h5
    omega
  | succ n ih =>
    intro lx30 lx31 lx32 j m h1 h2 h3 h4 h5
    rw [F_NM_feed_L46.eq_2]
    by_cases g : x2 ≤ lx30
    · rw [if_pos g]
      have g := q_leI g
      have : k - j = 0 := by omega
      rw [this]
      refine ⟨by show lx31.toInt = _; rw [h2]; rfl, rfl, rfl, fun i => ?_⟩
      rw [if_neg (by omega)]
    · rw [if_neg g]
      have g := q_nleI g
      have hb := y_asr (x := x3) h1 (by omega)
      have e : (1 : Int32).toInt = 1 := rfl
      have e1 : (lx30 + 1).toInt = ((j + 1 : Nat) : Int) := q_addI h1 e (by omega) (by omega)
      have e2 : (lx31 + 1).toInt = ((m + 1 : Nat) : Int) := q_addI h2 e (by omega) (by omega)
      have mc : lx31.toNatClampNeg = m := by
        have := q_clI h2 (by omega)
        omega
      obtain ⟨i1, i2, i3, i4⟩ := ih (lx30 + 1) (lx31 + 1) (upd lx32 lx31.toNatClampNeg (((x3 >>> ((8 * lx30 : Int32).toInt64 &&& 63)) &&& 255).toInt32)) (j + 1) (m + 1) e1 e2 (by omega) (by omega) (by omega)
      refine ⟨?_, i2, i3, fun i => ?_⟩
      · rw [i1]
        omega
      · rw [i4 i, yu_pt, mc]
        by_cases c1 : i = m
        · rw [if_neg (by omega), if_pos c1, if_pos (by omega), hb, c1, Nat.sub_self]
          rfl
        · by_cases c2 : m + 1 ≤ i ∧ i < m + 1 + (k - (j + 1))
          · rw [if_pos c2, if_pos (by omega), show j + 1 + (i - (m + 1)) = j + (i - m) from by omega]
          · rw [if_neg c2, if_neg c1, if_neg (by omega)]
theorem V_NM_feed {x2 : Int32} {x3 : Int64} {t0_0 : Int32} {t0_1 : Int32} {t0_2 : Int32} {t1_0 : (Nat → Int32)} {L : Nat} (hL : t0_1.toInt = (L : Int)) (hL2 : L ≤ 4100) : (¬ yFdOk x2 ∧ (F_NM_feed x2 x3 t0_0 t0_1 t0_2 t1_0).2.1 = 1 ∧ (F_NM_feed x2 x3 t0_0 t0_1 t0_2 t1_0).2.2.1 = t0_1 ∧ (F_NM_feed x2 x3 t0_0 t0_1 t0_2 t1_0).2.2.2 = t1_0) ∨ (yFdOk x2 ∧ (F_NM_feed x2 x3 t0_0 t0_1 t0_2 t1_0).2.1 = 0 ∧ ((4100 < (L : Int) + x2.toInt ∧ (F_NM_feed x2 x3 t0_0 t0_1 t0_2 t1_0).1 = -1 ∧ (F_NM_feed x2 x3 t0_0 t0_1 t0_2 t1_0).2.2.1 = t0_1 ∧ (F_NM_feed x2 x3 t0_0 t0_1 t0_2 t1_0).2.2.2 = t1_0) ∨ ∃ k : Nat, x2.toInt = (k : Int) ∧ L + k ≤ 4100 ∧ (F_NM_feed x2 x3 t0_0 t0_1 t0_2 t1_0).1.toInt = ((L + k : Nat) : Int) ∧ (F_NM_feed x2 x3 t0_0 t0_1 t0_2 t1_0).2.2.1 = (F_NM_feed x2 x3 t0_0 t0_1 t0_2 t1_0).1 ∧ ∀ i, ((F_NM_feed x2 x3 t0_0 t0_1 t0_2 t1_0).2.2.2 i).toInt = if L ≤ i ∧ i < L + k then ((yBy8 x3 (i - L) : Nat) : Int) else (t1_0 i).toInt)) := by
  have e1 : (1 : Int32).toInt = 1 := rfl
  have e8 : (8 : Int32).toInt = 8 := rfl
  have eM : (4100 : Int32).toInt = 4100 := rfl
  have nk : ∀ {p : Int32 × Int32 × Int32 × (Nat → Int32)}, p = F_NM_feed_J12 x2 x3 t0_0 t0_1 t0_2 t1_0 → p.2.1 = 1 ∧ p.2.2.1 = t0_1 ∧ p.2.2.2 = t1_0 := by
    intro p hp
    unfold F_NM_feed_J12 F_NM_feed_J17 at hp
    rw [if_neg (show ¬ (1 : Int32) ≤ 0 by decide)] at hp
    rw [hp]
    exact ⟨rfl, rfl, rfl⟩
  unfold F_NM_feed
  by_cases c1 : x2 < 1
  · rw [if_pos c1]
    have c1 := q_ltI c1
    exact Or.inl ⟨fun h => by have := h.1; omega, nk rfl⟩
  · rw [if_neg c1]
    have c1 := q_nltI c1
    by_cases c2 : x2 ≤ 8
    · rw [if_pos c2]
      have c2 := q_leI c2
      refine Or.inr ⟨⟨by omega, by omega⟩, ?_⟩
      unfold F_NM_feed_J17
      rw [if_pos (show (0 : Int32) ≤ 0 by decide)]
      have es : (t0_1 + x2).toInt = (L : Int) + x2.toInt := q_addI hL rfl (by omega) (by omega)
      by_cases c3 : (t0_1 + x2) ≤ 4100
      · rw [if_pos c3]
        have c3 := q_leI c3
        obtain ⟨k, hk⟩ : ∃ k : Nat, x2.toInt = (k : Int) := ⟨x2.toInt.toNat, by omega⟩
        obtain ⟨i1, i2, i3, i4⟩ := V_mfeedL (x3 := x3) (t0_0 := t0_0) (t0_1 := t0_1) (t0_2 := t0_2) (t1_0 := t1_0) (lx10 := 0) hk (by omega) ((4100 - (0 : Int32).toInt).toNat + 1) 0 t0_1 t1_0 0 L rfl hL (by omega) (by omega) (by show k - 0 < 4101; omega)
        refine ⟨i2, Or.inr ⟨k, hk, by omega, i1, i3, fun i => ?_⟩⟩
        rw [i4 i, Nat.zero_add]
        rfl
      · rw [if_neg c3]
        have c3 := q_nleI c3
        exact ⟨rfl, Or.inl ⟨by omega, rfl, rfl, rfl⟩⟩
    · rw [if_neg c2]
      have c2 := q_nleI c2
      exact Or.inl ⟨fun h => by have := h.2; omega, nk rfl⟩
def yKnd (k : Int32) (P T : Nat) (l : Int) : Prop := (k = 2 ∧ P = 52 ∧ T = 2047 ∧ l = -1074) ∨ (k = 3 ∧ P = 23 ∧ T = 255 ∧ l = -149)
/-- a float's bits lie within their format -/
def yBit (P T u : Nat) : Prop := u < 2 * (2 ^ P * (T + 1))
theorem y_mfin {k : Int32} {P T : Nat} {l : Int} {x : Int64} (hk : yKnd k P T l) : F_NM_isFinite k x = (if yEx P T (yu x) = T then 0 else 1) := by
  unfold F_NM_isFinite yEx
  rcases hk with ⟨rfl, rfl, rfl, rfl⟩ | ⟨rfl, rfl, rfl, rfl⟩
  · rw [if_neg (by decide)]
    have w := w_lshr (x := x) (a := 52) (k := 52) rfl (by decide)
    have a := y_andM (x := (x.toUInt64 >>> ((52 : Int32).toInt64.toUInt64 &&& Int64.toUInt64 63)).toInt64) (m := 2047) (k := 11) (by decide)
    have a2 : yu ((x.toUInt64 >>> ((52 : Int32).toInt64.toUInt64 &&& Int64.toUInt64 63)).toInt64 &&& 2047) = yu x / 2 ^ 52 % 2048 := by
      rw [a]
      show ((x.toUInt64 >>> ((52 : Int32).toInt64.toUInt64 &&& Int64.toUInt64 63)).toInt64).toBitVec.toNat % 2 ^ 11 = _
      rw [w]
    have b := y_toI a2 (by omega)
    have eM : (2047 : Int64).toInt = 2047 := rfl
    show (if 0 ≤ lg_cmp _ 2047 then (0 : Int32) else 1) = if yu x / 2 ^ 52 % 2048 = 2047 then 0 else 1
    by_cases c : 0 ≤ lg_cmp ((x.toUInt64 >>> ((52 : Int32).toInt64.toUInt64 &&& Int64.toUInt64 63)).toInt64 &&& 2047) 2047
    · rw [if_pos c]
      have := g_lc5 c
      rw [if_pos (by omega)]
    · rw [if_neg c]
      have := g_lc6 c
      rw [if_neg (by omega)]
  · rw [if_pos rfl]
    have w := w_lshr (x := x) (a := 23) (k := 23) rfl (by decide)
    have a := y_andM (x := (x.toUInt64 >>> ((23 : Int32).toInt64.toUInt64 &&& Int64.toUInt64 63)).toInt64) (m := 255) (k := 8) (by decide)
    have a2 : yu ((x.toUInt64 >>> ((23 : Int32).toInt64.toUInt64 &&& Int64.toUInt64 63)).toInt64 &&& 255) = yu x / 2 ^ 23 % 256 := by
      rw [a]
      show ((x.toUInt64 >>> ((23 : Int32).toInt64.toUInt64 &&& Int64.toUInt64 63)).toInt64).toBitVec.toNat % 2 ^ 8 = _
      rw [w]
    have b := y_toI a2 (by omega)
    have eM : (255 : Int64).toInt = 255 := rfl
    show (if 0 ≤ lg_cmp _ 255 then (0 : Int32) else 1) = if yu x / 2 ^ 23 % 256 = 255 then 0 else 1
    by_cases c : 0 ≤ lg_cmp ((x.toUInt64 >>> ((23 : Int32).toInt64.toUInt64 &&& Int64.toUInt64 63)).toInt64 &&& 255) 255
    · rw [if_pos c]
      have := g_lc5 c
      rw [if_pos (by omega)]
    · rw [if_neg c]
      have := g_lc6 c
      rw [if_neg (by omega)]
def yNoN (P T u : Nat) : Prop := yEx P T u = T ∧ yFx P u ≠ 0
theorem y_mnum {k : Int32} {P T : Nat} {l : Int} {x : Int64} (hk : yKnd k P T l) : (F_NM_isNumber k x = 0 ∧ yNoN P T (yu x)) ∨ (F_NM_isNumber k x = 1 ∧ ¬ yNoN P T (yu x)) := by
  have hf := y_mfin (x := x) hk
  unfold F_NM_isNumber yNoN
  by_cases c : yEx P T (yu x) = T
  · rw [if_pos c] at hf
    rw [if_pos hf]
    unfold yFx
    rcases hk with ⟨rfl, rfl, rfl, rfl⟩ | ⟨rfl, rfl, rfl, rfl⟩
    · rw [if_neg (by decide)]
      have a := y_andM (x := x) (m := 4503599627370495) (k := 52) (by decide)
      by_cases d : lg_cmp (x &&& 4503599627370495) 0 = 0
      · rw [if_pos d]
        rw [y_lc0, a] at d
        exact Or.inr ⟨rfl, fun h => h.2 d⟩
      · rw [if_neg d]
        rw [y_lc0, a] at d
        exact Or.inl ⟨rfl, c, d⟩
    · rw [if_pos rfl]
      have a := y_andM (x := x) (m := 8388607) (k := 23) (by decide)
      by_cases d : lg_cmp (x &&& 8388607) 0 = 0
      · rw [if_pos d]
        rw [y_lc0, a] at d
        exact Or.inr ⟨rfl, fun h => h.2 d⟩
      · rw [if_neg d]
        rw [y_lc0, a] at d
        exact Or.inl ⟨rfl, c, d⟩
  · rw [if_neg c] at hf
    rw [if_neg (by rw [hf]; decide)]
    exact Or.inr ⟨rfl, fun h => c h.1⟩
def yPl (P T u : Nat) : Int := if ySx P T u = 1 then -((u % (2 ^ P * (T + 1)) : Nat) : Int) else ((u % (2 ^ P * (T + 1)) : Nat) : Int)
theorem y_place {A B C : Int32} {P T : Nat} {l : Int} (hF : yF A B C P T l) {x : Int64} : (F_Flo_place A B C x).toInt = yPl P T (yu x) := by
  have hn := y_neg hF (x := x)
  obtain ⟨s1, s2, k, s3, s4⟩ := y_sgb hF
  have a := y_andM (x := x) (m := F_Flo_signBit A B C 1 - 1) (k := k) (by
    rcases hF with ⟨rfl, rfl, rfl, rfl, rfl, rfl⟩ | ⟨rfl, rfl, rfl, rfl, rfl, rfl⟩
    · have : (2 : Nat) ^ k = 9223372036854775808 := by rw [← s4]
      rw [this]
      decide
    · have : (2 : Nat) ^ k = 2147483648 := by rw [← s4]
      rw [this]
      decide)
  rw [← s4] at a
  have hb : 2 ^ P * (T + 1) ≤ 9223372036854775808 := by
    rw [s4]
    exact Nat.pow_le_pow_right (by decide) s3
  have hp : 0 < 2 ^ P * (T + 1) := by
    rw [s4]
    exact Nat.pow_pos (by decide)
  have hm := Nat.mod_lt (yu x) hp
  have t := y_toI a (by omega)
  unfold F_Flo_place yPl
  by_cases c : ySx P T (yu x) = 1
  · rw [if_pos c] at hn
    rw [if_neg (show ¬ F_Flo_isNegative A B C x = 0 by rw [hn]; decide), if_pos c]
    exact n_negL t (by omega)
  · rw [if_neg c] at hn
    rw [if_pos hn, if_neg c]
    exact t
theorem y_mplace {k : Int32} {P T : Nat} {l : Int} {x : Int64} (hk : yKnd k P T l) (hx : yBit P T (yu x)) : (F_NM_placeOf k x).toInt = yPl P T (yu x) := by
  unfold F_NM_placeOf yPl ySx
  unfold yBit at hx
  rcases hk with ⟨rfl, rfl, rfl, rfl⟩ | ⟨rfl, rfl, rfl, rfl⟩
  · rw [if_neg (by decide)]
    unfold F_NM_placeOf_J14
    have e : 2 ^ 52 * (2047 + 1) = 9223372036854775808 := rfl
    rw [e] at hx ⊢
    have b := y_andB (x := x) (m := -9223372036854775808) (k := 63) (by decide)
    have a := y_andM (x := x) (m := (-9223372036854775808 : Int64) ^^^ (-1)) (k := 63) (by decide)
    rw [show (2 : Nat) ^ 63 = 9223372036854775808 from rfl] at a b
    by_cases c : yu x / 9223372036854775808 % 2 = 1
    · rw [if_pos c, if_neg (by rw [y_lc0, b, c]; decide)]
      have t := y_toI a (by omega)
      exact n_negL t (by omega)
    · rw [if_neg c, if_pos (by rw [y_lc0, b, show yu x / 9223372036854775808 % 2 = 0 from by omega])]
      have h : yu x = yu x % 9223372036854775808 := by omega
      exact y_toI h (by omega)
  · rw [if_pos rfl]
    unfold F_NM_placeOf_J14
    have e : 2 ^ 23 * (255 + 1) = 2147483648 := rfl
    rw [e] at hx ⊢
    have b := y_andB (x := x) (m := 2147483648) (k := 31) (by decide)
    rw [show (2 : Nat) ^ 31 = 2147483648 from rfl] at b
    by_cases c : yu x / 2147483648 % 2 = 1
    · rw [if_pos c, if_neg (by rw [y_lc0, b, c]; decide)]
      have a : yu (x &&& ((2147483648 : Int64) ^^^ (-1))) = yu x % 2147483648 := by
        show (x &&& ((2147483648 : Int64) ^^^ (-1))).toBitVec.toNat = _
        have h2 : x &&& ((2147483648 : Int64) ^^^ (-1)) = x &&& 2147483647 := by
          apply Int64.toBitVec_inj.mp
          apply BitVec.eq_of_getLsbD_eq
          intro i hi
          rw [Int64.toBitVec_and, Int64.toBitVec_and, BitVec.getLsbD_and, BitVec.getLsbD_and]
          by_cases ci : i < 32
          · have : ∀ i, i < 32 → ((2147483648 : Int64) ^^^ (-1)).toBitVec.getLsbD i = (2147483647 : Int64).toBitVec.getLsbD i := by decide
            rw [this i ci]
          · have : x.toBitVec.getLsbD i = false := by
              rw [BitVec.getLsbD]
              exact Nat.testBit_lt_two_pow (Nat.lt_of_lt_of_le hx (show 2 * 2147483648 ≤ 2 ^ i from Nat.pow_le_pow_right (n := 2) (i := 32) (by decide) (by omega)))
            rw [this, Bool.false_and, Bool.false_and]
        rw [h2]
        exact y_andM (x := x) (m := 2147483647) (k := 31) (by decide)
      have t := y_toI a (by omega)
      exact n_negL t (by omega)
    · rw [if_neg c, if_pos (by rw [y_lc0, b, show yu x / 2147483648 % 2 = 0 from by omega])]
      have h : yu x = yu x % 2147483648 := by omega
      exact y_toI h (by omega)
theorem y_jcmp {a b : Int64} {x y : Int} (ha : a.toInt = x) (hb : b.toInt = y) : wC (F_jLong_compare a b) x y := by
  unfold F_jLong_compare
  by_cases c : 0 ≤ lg_cmp a b
  · rw [if_pos c]
    have h := g_lc5 c
    by_cases d : lg_cmp a b = 0
    · rw [if_pos d]
      have := g_lcz d
      exact Or.inl ⟨rfl, by omega⟩
    · rw [if_neg d]
      have : ¬ a.toInt = b.toInt := fun h => d (y_lcE.mpr h)
      exact Or.inr (Or.inl ⟨rfl, by omega⟩)
  · rw [if_neg c]
    have h := g_lc6 c
    exact Or.inr (Or.inr ⟨rfl, by omega⟩)
