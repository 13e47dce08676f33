/-! values, for whole: the class's Digits: turn, fill -/
theorem y_nar9 {y : Int32} (h : 0 ≤ y.toInt ∧ y.toInt ≤ 10) : (vp_nar .byte (y.toInt8.toInt32) : Int32) = y ∧ (vp_nar .byte y : Int32) = y := by
  have f : ∀ k : Int32, y.toInt = k.toInt → y = k := fun k e => Int32.toInt_inj.mp e
  have c : y.toInt = 0 ∨ y.toInt = 1 ∨ y.toInt = 2 ∨ y.toInt = 3 ∨ y.toInt = 4 ∨ y.toInt = 5 ∨ y.toInt = 6 ∨ y.toInt = 7 ∨ y.toInt = 8 ∨ y.toInt = 9 ∨ y.toInt = 10 := by omega
  rcases c with e | e | e | e | e | e | e | e | e | e | e
  · rw [f 0 e]; decide
  · rw [f 1 e]; decide
  · rw [f 2 e]; decide
  · rw [f 3 e]; decide
  · rw [f 4 e]; decide
  · rw [f 5 e]; decide
  · rw [f 6 e]; decide
  · rw [f 7 e]; decide
  · rw [f 8 e]; decide
  · rw [f 9 e]; decide
  · rw [f 10 e]; decide
/-- c = how many figures N has, 0 for 0 -/
def yLt10 (N c : Nat) : Prop := N < 10 ^ c
def yDt (N c : Nat) : Prop := yLt10 N c ∧ (c ≠ 0 → ¬ yLt10 N (c - 1))
/-- the figure of 10 ^ i -/
def yLo (N i : Nat) : Nat := N / 10 ^ i % 10
theorem yLo_9 (N i : Nat) : yLo N i < 10 := Nat.mod_lt _ (by decide)
/-- the figure i of a number of c figures, from the first on -/
def yFg (N c i : Nat) : Nat := yLo N (c - 1 - i)
def yDg (cnt : Int32) (row : Nat → Int32) (N : Nat) : Prop := ∃ c : Nat, cnt.toInt = (c : Int) ∧ c ≤ 1026 ∧ yDt N c ∧ ∀ i, i < c → (row i).toInt = ((yFg N c i : Nat) : Int)
theorem yDt_U {N c d : Nat} (h : yDt N c) (g : yDt N d) : c = d := by
  obtain ⟨h1, h2⟩ := h
  obtain ⟨g1, g2⟩ := g
  rcases Nat.lt_trichotomy c d with k | k | k
  · exact absurd (Nat.lt_of_lt_of_le h1 (Nat.pow_le_pow_right (by decide) (by omega))) (g2 (by omega))
  · exact k
  · exact absurd (Nat.lt_of_lt_of_le g1 (Nat.pow_le_pow_right (by decide) (by omega))) (h2 (by omega))
theorem y_lo0 {N c : Nat} (h : yLt10 N c) : yLo N c = 0 := by
  unfold yLo
  rw [Nat.div_eq_of_lt h]
theorem y_lt10p {N c : Nat} (hc : 0 < c) (h : yLt10 N c) (h0 : yLo N (c - 1) = 0) : yLt10 N (c - 1) := by
  obtain ⟨d, rfl⟩ : ∃ d, c = d + 1 := ⟨c - 1, by omega⟩
  unfold yLt10 at h ⊢
  rw [Nat.add_sub_cancel] at h0 ⊢
  unfold yLo at h0
  have hp : 0 < 10 ^ d := Nat.pow_pos (by decide)
  rw [Nat.pow_succ] at h
  generalize 10 ^ d = T at h h0 hp ⊢
  have h1 : N / T < 10 := (Nat.div_lt_iff_lt_mul hp).mpr (by rw [Nat.mul_comm]; exact h)
  have h2 : N / T = 0 := by
    generalize N / T = z at h0 h1 ⊢
    omega
  exact (Nat.div_eq_zero_iff_lt hp).mp h2
theorem V_tnL {K_F_Dig_turn_L0 : Int32 → (Int32 × Int32 × (Nat → Int32))} {x2 : Int32} {t0_0 : Int32} {t0_1 : Int32} {t1_0 : (Nat → Int32)} {lx9 : Int32} {N c : Nat} (hl : lx9.toInt = (c : Int)) (hc : c ≤ 1026) (hx : -30000 ≤ x2.toInt ∧ x2.toInt ≤ 30000) : ∀ (n : Nat) (lx34 : Int32) (lx35 : Int32) (lx36 : (Nat → Int32)), ∀ (h l : Nat), lx35.toInt = (l : Int) → lx34.toInt + 1 = (h : Int) → l + h = c → l ≤ h → h < n + l → (∀ i, i < c → (lx36 i).toInt = if i < l ∨ h ≤ i then ((yFg N c i : Nat) : Int) else ((yLo N i : Nat) : Int)) → (F_Dig_turn_L43 K_F_Dig_turn_L0 x2 t0_0 t0_1 t1_0 lx9 n lx34 lx35 lx36).1 = lx9 ∧ (F_Dig_turn_L43 K_F_Dig_turn_L0 x2 t0_0 t0_1 t1_0 lx9 n lx34 lx35 lx36).2.1.toInt = (if c = 0 then 0 else (c : Int) - 1 - x2.toInt) ∧ ∀ i, i < c → ((F_Dig_turn_L43 K_F_Dig_turn_L0 x2 t0_0 t0_1 t1_0 lx9 n lx34 lx35 lx36).2.2 i).toInt = ((yFg N c i : Nat) : Int) := by
  have e1 : (1 : Int32).toInt = 1 := rfl
  have eM : (-1 : Int32).toInt = -1 := rfl
  have e0 : (0 : Int32).toInt = 0 := rfl
  have f9 : ∀ a b : Nat, 0 ≤ ((yFg N a b : Nat) : Int) ∧ ((yFg N a b : Nat) : Int) ≤ 10 := fun a b => by
    have : yFg N a b < 10 := yLo_9 _ _
    omega
  have m9 : ∀ i : Nat, 0 ≤ ((yLo N i : Nat) : Int) ∧ ((yLo N i : Nat) : Int) ≤ 10 := fun i => by have := yLo_9 N i; omega
  intro n
  induction n with
  | zero =>
    intro lx34 lx35 lx36 h l h1 h2 h3 h4 h5 h6
    omega
  | succ n ih =>
    intro lx34 lx35 lx36 h l h1 h2 h3 h4 h5 h6
    rw [F_Dig_turn_L43.eq_2]
    by_cases g : lx34 ≤ lx35
    · rw [if_pos g]
      have g := q_leI g
      have all : ∀ i, i < c → (lx36 i).toInt = ((yFg N c i : Nat) : Int) := by
        intro i hi
        rw [h6 i hi]
        by_cases k : i < l ∨ h ≤ i
        · rw [if_pos k]
        · rw [if_neg k]
          unfold yFg
          rw [show c - 1 - i = i from by omega]
      by_cases z : lx9 = 0
      · rw [if_pos z]
        rw [z] at hl
        rw [if_pos (by omega)]
        exact ⟨rfl, rfl, all⟩
      · rw [if_neg z]
        have cz : c ≠ 0 := fun h => z (Int32.toInt_inj.mp (by rw [hl, h]; rfl))
        rw [if_neg cz]
        refine ⟨rfl, ?_, all⟩
        have s1 := q_subI hl e1 (by omega) (by omega)
        exact q_subI s1 rfl (by omega) (by omega)
    · rw [if_neg g]
      have g := q_nleI g
      have lc : lx35.toNatClampNeg = l := by
        have := q_clI h1 (by omega)
        omega
      have hcn : lx34.toNatClampNeg = h - 1 := by
        have := q_clI (i := lx34) rfl (by omega)
        omega
      have vl := h6 l (by omega)
      rw [if_neg (by omega)] at vl
      have vh := h6 (h - 1) (by omega)
      rw [if_neg (by omega)] at vh
      refine ih (lx34 + -1) (lx35 + 1) _ (h - 1) (l + 1) (q_addI h1 e1 (by omega) (by omega)) ?_ (by omega) (by omega) (by omega) ?_
      · rw [q_addI (x := (h : Int) - 1) (y := -1) (by omega) eM (by omega) (by omega)]
        omega
      · intro i hi
        rw [lc, hcn, yu_pt, yu_pt]
        rw [(y_nar9 (y := lx36 l) (by rw [vl]; exact m9 l)).2, (y_nar9 (y := lx36 (h - 1)) (by rw [vh]; exact m9 (h - 1))).2]
        by_cases k1 : i = h - 1
        · rw [if_pos k1, if_pos (by omega), vl]
          unfold yFg
          rw [show c - 1 - i = l from by omega]
        · rw [if_neg k1]
          by_cases k2 : i = l
          · rw [if_pos k2, if_pos (by omega), vh]
            unfold yFg
            rw [show c - 1 - i = h - 1 from by omega]
          · rw [if_neg k2, h6 i hi]
            by_cases k3 : i < l ∨ h ≤ i
            · rw [if_pos k3, if_pos (by omega)]
            · rw [if_neg k3, if_neg (by omega)]
theorem V_tn0 {x2 : Int32} {t0_0 : Int32} {t0_1 : Int32} {t1_0 : (Nat → Int32)} {N : Nat} {m : Nat} (hm : m ≤ 1026) (hx : -30000 ≤ x2.toInt ∧ x2.toInt ≤ 30000) (hr : ∀ i, i < m → (t1_0 i).toInt = ((yLo N i : Nat) : Int)) : ∀ (n : Nat) (lx9 : Int32), ∀ (c : Nat), lx9.toInt = (c : Int) → c ≤ m → c < n → yLt10 N c → yDg (F_Dig_turn_L0 x2 t0_0 t0_1 t1_0 n lx9).1 (F_Dig_turn_L0 x2 t0_0 t0_1 t1_0 n lx9).2.2 N ∧ (∀ c, yDt N c → (F_Dig_turn_L0 x2 t0_0 t0_1 t1_0 n lx9).2.1.toInt = (if c = 0 then 0 else (c : Int) - 1 - x2.toInt)) := by
  have e1 : (1 : Int32).toInt = 1 := rfl
  have e0 : (0 : Int32).toInt = 0 := rfl
  have fin : ∀ (K : Int32 → Int32 × Int32 × (Nat → Int32)) (lx9 : Int32) (c : Nat), lx9.toInt = (c : Int) → c ≤ m → yDt N c → yDg (F_Dig_turn_J34 K x2 t0_0 t0_1 t1_0 lx9).1 (F_Dig_turn_J34 K x2 t0_0 t0_1 t1_0 lx9).2.2 N ∧ (∀ c, yDt N c → (F_Dig_turn_J34 K x2 t0_0 t0_1 t1_0 lx9).2.1.toInt = (if c = 0 then 0 else (c : Int) - 1 - x2.toInt)) := by
    intro K lx9 c hl hcm hd
    unfold F_Dig_turn_J34
    have s1 := q_subI hl e1 (by omega) (by omega)
    obtain ⟨i1, i2, i3⟩ := V_tnL (x2 := x2) (t0_0 := t0_0) (t0_1 := t0_1) (t1_0 := t1_0) (lx9 := lx9) (N := N) (c := c) hl (by omega) hx (((lx9 - 1).toInt - -1000000).toNat + 1) (lx9 - 1) 0 t1_0 c 0 rfl (by omega) (by omega) (by omega) (by omega) (fun i hi => by
      rw [if_neg (by omega), hr i (by omega)])
    refine ⟨⟨c, by rw [i1, hl], by omega, hd, i3⟩, fun d hd2 => ?_⟩
    rw [yDt_U hd2 hd]
    exact i2
  intro n
  induction n with
  | zero =>
    intro lx9 c h1 h2 h3
    omega
  | succ n ih =>
    intro lx9 c h1 h2 h3 h4
    rw [F_Dig_turn_L0.eq_2]
    by_cases g : lx9 ≤ 0
    · rw [if_pos g]
      have g := q_leI g
      exact fin _ lx9 c h1 h2 ⟨h4, fun h => by omega⟩
    · rw [if_neg g]
      have g := q_nleI g
      have s1 := q_subI h1 e1 (by omega) (by omega)
      have cc : (lx9 - 1).toNatClampNeg = c - 1 := by
        have := q_clI s1 (by omega)
        omega
      rw [cc]
      have v := hr (c - 1) (by omega)
      by_cases k : t1_0 (c - 1) = 0
      · rw [if_pos k]
        refine ih (lx9 - 1) (c - 1) (by omega) (by omega) (by omega) ?_
        rw [k, e0] at v
        exact y_lt10p (by omega) h4 (by omega)
      · rw [if_neg k]
        refine fin _ lx9 c h1 h2 ⟨h4, fun _ q => ?_⟩
        have : yLo N (c - 1) = 0 := y_lo0 q
        rw [this] at v
        exact absurd (Int32.toInt_inj.mp v) k
theorem V_turn {x2 : Int32} {t0_0 : Int32} {t0_1 : Int32} {t1_0 : (Nat → Int32)} {N m : Nat} (hm : m ≤ 1026) (hx : -30000 ≤ x2.toInt ∧ x2.toInt ≤ 30000) (h0 : t0_0.toInt = (m : Int)) (hr : ∀ i, i < m → (t1_0 i).toInt = ((yLo N i : Nat) : Int)) (hN : yLt10 N m) : yDg (F_Dig_turn x2 t0_0 t0_1 t1_0).1 (F_Dig_turn x2 t0_0 t0_1 t1_0).2.2 N ∧ (∀ c, yDt N c → (F_Dig_turn x2 t0_0 t0_1 t1_0).2.1.toInt = (if c = 0 then 0 else (c : Int) - 1 - x2.toInt)) := by
  unfold F_Dig_turn
  exact V_tn0 hm hx hr ((t0_0.toInt - -1000000).toNat + 1) t0_0 m h0 (by omega) (by omega) hN
