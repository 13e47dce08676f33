/-! values, for whole: the text of a whole number in a base -/
def yBg (b N i : Nat) : Nat := N / b ^ i % b
def yLet (d : Nat) : Nat := if d < 10 then 48 + d else 87 + d
/-- m figures from the one of b ^ k upwards -/
def yLw (b N k m : Nat) : List Nat := match m with
  | 0 => []
  | m + 1 => yLet (yBg b N k) :: yLw b N (k + 1) m
theorem yLw_len {b N m : Nat} : ∀ {k : Nat}, (yLw b N k m).length = m := by
  induction m with
  | zero => intro k; rfl
  | succ m ih =>
    intro k
    show (yLw b N (k + 1) m).length + 1 = m + 1
    rw [ih]
theorem yLw_s {b N m : Nat} : ∀ {k : Nat}, yLw b N k (m + 1) = yLw b N k m ++ [yLet (yBg b N (k + m))] := by
  induction m with
  | zero => intro k; rfl
  | succ m ih =>
    intro k
    show yLet (yBg b N k) :: yLw b N (k + 1) (m + 1) = (yLet (yBg b N k) :: yLw b N (k + 1) m) ++ [yLet (yBg b N (k + (m + 1)))]
    rw [ih, show k + 1 + m = k + (m + 1) from by omega]
    rfl
/-- c = how many figures N has in base b, 0 for 0 -/
def yDB (b N c : Nat) : Prop := N / b ^ c = 0 ∧ (c ≠ 0 → N / b ^ (c - 1) ≠ 0)
theorem y_dvS {b N k : Nat} : N / b ^ k / b = N / b ^ (k + 1) := by
  rw [Nat.div_div_eq_div_mul, Nat.pow_succ]
theorem y_dv0 {b N k j : Nat} (hb : 0 < b) (h : N / b ^ k = 0) (hj : k ≤ j) : N / b ^ j = 0 := by
  obtain ⟨d, rfl⟩ : ∃ d, j = k + d := ⟨j - k, by omega⟩
  rw [Nat.pow_add, ← Nat.div_div_eq_div_mul, h, Nat.zero_div]
theorem yDB_U {b N c d : Nat} (hb : 0 < b) (h : yDB b N c) (g : yDB b N d) : c = d := by
  rcases Nat.lt_trichotomy c d with k | k | k
  · exact absurd (y_dv0 hb h.1 (show c ≤ d - 1 by omega)) (g.2 (by omega))
  · exact k
  · exact absurd (y_dv0 hb g.1 (show d ≤ c - 1 by omega)) (h.2 (by omega))
/-- the text of a whole number -/
def yWtx (b : Nat) (v : Int) (c : Nat) : List Nat := yMin (v < 0) ++ (yLw b v.natAbs 0 (max c 1)).reverse
theorem y_ch22 {x : Int32} {k : Nat} (h : x.toInt = (k : Int)) (hk : k < 36) : (F_jStr_charAt_22 x).toInt = ((yLet k : Nat) : Int) := by
  have xc : x.toNatClampNeg = k := by
    have := q_clI h (by omega)
    omega
  unfold F_jStr_charAt_22 F_jLat_charAt_22
  rw [xc]
  have key : ∀ k : Nat, k < 36 → (((((([48, 49, 50, 51, 52, 53, 54, 55, 56, 57, 97, 98, 99, 100, 101, 102, 103, 104, 105, 106, 107, 108, 109, 110, 111, 112, 113, 114, 115, 116, 117, 118, 119, 120, 121, 122] : List Int32).getD k 0) : Int32) &&& 255 : Int32).toUInt32 % 65536).toInt32 : Int32).toInt = ((yLet k : Nat) : Int) := by decide +kernel
  exact key k hk
theorem yLet_lt {d : Nat} (h : d < 36) : yLet d < 256 := by
  unfold yLet
  split <;> omega
theorem yBg_lt {b N i : Nat} (hb : 2 ≤ b) : yBg b N i < b := Nat.mod_lt _ (by omega)
/-- the reference's rows reversed -/
theorem V_wrT {K_F_WR_written_L50 : Int32 → (Nat → Int32) → (Nat → Int32) → (Int32 × Int32 × Int32 × Int32 × Int32 × Int32 × Int32 × Int32 × (Nat → Int32) × (Nat → Int32))} {x2 : Int32} {x3 : Int32} {t0_0 : Int32} {t0_1 : Int32} {t0_2 : Int32} {t0_3 : Int32} {t0_4 : Int32} {t0_5 : Int32} {t0_6 : Int32} {t1_0 : (Nat → Int32)} {t2_0 : (Nat → Int32)} {t3_0 : (Nat → Int32)} {t4_0 : (Nat → Int32)} {lx33 : Int32} {lx61 : Int32} {lx62 : (Nat → Int32)} {lx63 : (Nat → Int32)} {lx152 : Int32} {lx153 : (Nat → Int32)} {z : Nat} {B : Nat → Int} (hz : lx152.toInt = (z : Int)) : ∀ (n : Nat) (lx174 : Int32) (lx175 : Int32) (lx176 : (Nat → Int32)), ∀ (l h : Nat), lx175.toInt = (l : Int) → lx174.toInt + 1 = (h : Int) → l ≤ h → h ≤ z → l + h = z → h + 1 ≤ 2 * n + l → (∀ i, i < z → (lx176 i).toInt = if i < l ∨ h ≤ i then B (z - 1 - i) else B i) → (F_WR_written_L158 K_F_WR_written_L50 x2 x3 t0_0 t0_1 t0_2 t0_3 t0_4 t0_5 t0_6 t1_0 t2_0 t3_0 t4_0 lx33 lx61 lx62 lx63 lx152 lx153 n lx174 lx175 lx176).1 = lx152 ∧ (F_WR_written_L158 K_F_WR_written_L50 x2 x3 t0_0 t0_1 t0_2 t0_3 t0_4 t0_5 t0_6 t1_0 t2_0 t3_0 t4_0 lx33 lx61 lx62 lx63 lx152 lx153 n lx174 lx175 lx176).2.1 = lx33 ∧ ∀ i, i < z → ((F_WR_written_L158 K_F_WR_written_L50 x2 x3 t0_0 t0_1 t0_2 t0_3 t0_4 t0_5 t0_6 t1_0 t2_0 t3_0 t4_0 lx33 lx61 lx62 lx63 lx152 lx153 n lx174 lx175 lx176).2.2.2.2.2.2.2.2.2 i).toInt = B (z - 1 - i) := by
  have e1 : (1 : Int32).toInt = 1 := rfl
  intro n
  induction n with
  | zero =>
    intro lx174 lx175 lx176 l h h1 h2 h3 h4 h5 h6
    omega
  | succ n ih =>
    intro lx174 lx175 lx176 l h h1 h2 h3 h4 h5 h6 h7
    rw [F_WR_written_L158.eq_2]
    by_cases g : lx174 ≤ lx175
    · rw [if_pos g]
      have g := q_leI g
      refine ⟨rfl, rfl, fun i hi => ?_⟩
      show (lx176 i).toInt = _
      rw [h7 i hi]
      by_cases k : i < l ∨ h ≤ i
      · rw [if_pos k]
      · rw [if_neg k, show z - 1 - i = i from by omega]
    · rw [if_neg g]
      have g := q_nleI g
      have hh : lx174.toInt = ((h - 1 : Nat) : Int) := by omega
      have lc : lx175.toNatClampNeg = l := by
        have := q_clI h1 (by omega)
        omega
      have hc : lx174.toNatClampNeg = h - 1 := by
        have := q_clI hh (by omega)
        omega
      rw [lc, hc]
      have vl := h7 l (by omega)
      have vh := h7 (h - 1) (by omega)
      rw [if_neg (by omega)] at vl vh
      refine ih (lx174 + -1) (lx175 + 1) _ (l + 1) (h - 1) (q_addI h1 e1 (by omega) (by have := q_hi32 (x := lx174); omega)) (y_dn1 hh) (by omega) (by omega) (by omega) (by omega) ?_
      intro i hi
      rw [yu_pt, yu_pt]
      by_cases k1 : i = h - 1
      · rw [if_pos k1, if_pos (by omega), vl, show z - 1 - i = l from by omega]
      · rw [if_neg k1]
        by_cases k2 : i = l
        · rw [if_pos k2, if_pos (by omega), vh, show z - 1 - i = h - 1 from by omega]
        · rw [if_neg k2, h7 i hi]
          by_cases k3 : i < l ∨ h ≤ i
          · rw [if_pos k3, if_pos (by omega)]
          · rw [if_neg k3, if_neg (by omega)]
theorem V_wr148 {K_F_WR_written_L50 : Int32 → (Nat → Int32) → (Nat → Int32) → (Int32 × Int32 × Int32 × Int32 × Int32 × Int32 × Int32 × Int32 × (Nat → Int32) × (Nat → Int32))} {x2 : Int32} {x3 : Int32} {t0_0 : Int32} {t0_1 : Int32} {t0_2 : Int32} {t0_3 : Int32} {t0_4 : Int32} {t0_5 : Int32} {t0_6 : Int32} {t1_0 : (Nat → Int32)} {t2_0 : (Nat → Int32)} {t3_0 : (Nat → Int32)} {t4_0 : (Nat → Int32)} {lx33 : Int32} {lx61 : Int32} {lx62 : (Nat → Int32)} {lx63 : (Nat → Int32)} {lx152 : Int32} {lx153 : (Nat → Int32)} {m : List Nat} (h : yRt lx152 lx153 m) (hm : 0 < m.length) : yRt (F_WR_written_J148 K_F_WR_written_L50 x2 x3 t0_0 t0_1 t0_2 t0_3 t0_4 t0_5 t0_6 t1_0 t2_0 t3_0 t4_0 lx33 lx61 lx62 lx63 lx152 lx153).1 (F_WR_written_J148 K_F_WR_written_L50 x2 x3 t0_0 t0_1 t0_2 t0_3 t0_4 t0_5 t0_6 t1_0 t2_0 t3_0 t4_0 lx33 lx61 lx62 lx63 lx152 lx153).2.2.2.2.2.2.2.2.2 m.reverse ∧ (F_WR_written_J148 K_F_WR_written_L50 x2 x3 t0_0 t0_1 t0_2 t0_3 t0_4 t0_5 t0_6 t1_0 t2_0 t3_0 t4_0 lx33 lx61 lx62 lx63 lx152 lx153).2.1 = lx33 := by
  have e1 : (1 : Int32).toInt = 1 := rfl
  have h0 := h.1
  unfold F_WR_written_J148
  have s1 := q_subI h0 e1 (by omega) (by have := q_hi32 (x := lx152); omega)
  obtain ⟨i1, i2, i3⟩ := V_wrT (x2 := x2) (x3 := x3) (t0_0 := t0_0) (t0_1 := t0_1) (t0_2 := t0_2) (t0_3 := t0_3) (t0_4 := t0_4) (t0_5 := t0_5) (t0_6 := t0_6) (t1_0 := t1_0) (t2_0 := t2_0) (t3_0 := t3_0) (t4_0 := t4_0) (K_F_WR_written_L50 := K_F_WR_written_L50) (lx33 := lx33) (lx61 := lx61) (lx62 := lx62) (lx63 := lx63) (lx152 := lx152) (lx153 := lx153) (z := m.length) (B := fun i => ((m.getD i 0 : Nat) : Int)) h0 (((lx152 - 1).toInt - -1).toNat + 1) (lx152 - 1) 0 lx153 0 m.length rfl (by omega) (by omega) (by omega) (by omega) (by omega) (fun i hi => by rw [if_neg (by omega)]; exact h.2 i hi)
  refine ⟨⟨?_, fun i hi => ?_⟩, i2⟩
  · rw [i1, h0, List.length_reverse]
  · rw [List.length_reverse] at hi
    rw [i3 i hi, y_gdV hi]
