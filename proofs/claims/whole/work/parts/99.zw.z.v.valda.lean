/-! values, for whole: the class's Digits filled from a long; words on the paper -/
theorem V_tnpL {K_F_Dig_turn_p_L0 : Int32 → (Int32 × Int32 × (Nat → Int32))} {x2 : Int32} {t0_0 : Int32} {t0_1 : Int32} {t1_0 : (Nat → Int32)} {lx9 : Int32} {N c : Nat} (hl : lx9.toInt = (c : Int)) (hc : c ≤ 1026) (hx : -30000 ≤ x2.toInt ∧ x2.toInt ≤ 30000) : ∀ (n : Nat) (lx34 : Int32) (lx35 : Int32) (lx36 : (Nat → Int32)), ∀ (h l : Nat), lx35.toInt = (l : Int) → lx34.toInt + 1 = (h : Int) → l + h = c → l ≤ h → h < n + l → (∀ i, i < c → (lx36 i).toInt = if i < l ∨ h ≤ i then ((yFg N c i : Nat) : Int) else ((yLo N i : Nat) : Int)) → (F_Dig_turn_p_L43 K_F_Dig_turn_p_L0 x2 t0_0 t0_1 t1_0 lx9 n lx34 lx35 lx36).1 = lx9 ∧ (F_Dig_turn_p_L43 K_F_Dig_turn_p_L0 x2 t0_0 t0_1 t1_0 lx9 n lx34 lx35 lx36).2.1.toInt = (if c = 0 then 0 else (c : Int) - 1 - x2.toInt) ∧ ∀ i, i < c → ((F_Dig_turn_p_L43 K_F_Dig_turn_p_L0 x2 t0_0 t0_1 t1_0 lx9 n lx34 lx35 lx36).2.2 i).toInt = ((yFg N c i : Nat) : Int) := by
  have e1 : (1 : Int32).toInt = 1 := rfl
  have eM : (-1 : Int32).toInt = -1 := rfl
  have e0 : (0 : Int32).toInt = 0 := rfl
  have f9 : ∀ a b : Nat, 0 ≤ ((yFg N a b : Nat) : Int) ∧ ((yFg N a b : Nat) : Int) ≤ 10 := fun a b => by
    have : yFg N a b < 10 := yLo_9 _ _
    omega
  have m9 : ∀ i : Nat, 0 ≤ ((yLo N i : Nat) : Int) ∧ ((yLo N i : Nat) : Int) ≤ 10 := fun i => by have := yLo_9 N i; omega
  intro n
  induction n with
  | zero =>
    intro lx34 lx35 lx36 h l h1 h2 h3 h4 h5 h6
    omega
  | succ n ih =>
    intro lx34 lx35 lx36 h l h1 h2 h3 h4 h5 h6
    rw [F_Dig_turn_p_L43.eq_2]
    by_cases g : lx34 ≤ lx35
    · rw [if_pos g]
      have g := q_leI g
      have all : ∀ i, i < c → (lx36 i).toInt = ((yFg N c i : Nat) : Int) := by
        intro i hi
        rw [h6 i hi]
        by_cases k : i < l ∨ h ≤ i
        · rw [if_pos k]
        · rw [if_neg k]
          unfold yFg
          rw [show c - 1 - i = i from by omega]
      by_cases z : lx9 = 0
      · rw [if_pos z]
        rw [z] at hl
        rw [if_pos (by omega)]
        exact ⟨rfl, rfl, all⟩
      · rw [if_neg z]
        have cz : c ≠ 0 := fun h => z (Int32.toInt_inj.mp (by rw [hl, h]; rfl))
        rw [if_neg cz]
        refine ⟨rfl, ?_, all⟩
        have s1 := q_subI hl e1 (by omega) (by omega)
        exact q_subI s1 rfl (by omega) (by omega)
    · rw [if_neg g]
      have g := q_nleI g
      have lc : lx35.toNatClampNeg = l := by
        have := q_clI h1 (by omega)
        omega
      have hcn : lx34.toNatClampNeg = h - 1 := by
        have := q_clI (i := lx34) rfl (by omega)
        omega
      have vl := h6 l (by omega)
      rw [if_neg (by omega)] at vl
      have vh := h6 (h - 1) (by omega)
      rw [if_neg (by omega)] at vh
      refine ih (lx34 + -1) (lx35 + 1) _ (h - 1) (l + 1) (q_addI h1 e1 (by omega) (by omega)) ?_ (by omega) (by omega) (by omega) ?_
      · rw [q_addI (x := (h : Int) - 1) (y := -1) (by omega) eM (by omega) (by omega)]
        omega
      · intro i hi
        rw [lc, hcn, yu_pt, yu_pt]
        rw [(y_nar9 (y := lx36 l) (by rw [vl]; exact m9 l)).2, (y_nar9 (y := lx36 (h - 1)) (by rw [vh]; exact m9 (h - 1))).2]
        by_cases k1 : i = h - 1
        · rw [if_pos k1, if_pos (by omega), vl]
          unfold yFg
          rw [show c - 1 - i = l from by omega]
        · rw [if_neg k1]
          by_cases k2 : i = l
          · rw [if_pos k2, if_pos (by omega), vh]
            unfold yFg
            rw [show c - 1 - i = h - 1 from by omega]
          · rw [if_neg k2, h6 i hi]
            by_cases k3 : i < l ∨ h ≤ i
            · rw [if_pos k3, if_pos (by omega)]
            · rw [if_neg k3, if_neg (by omega)]
theorem V_tnp0 {x2 : Int32} {t0_0 : Int32} {t0_1 : Int32} {t1_0 : (Nat → Int32)} {N : Nat} {m : Nat} (hm : m ≤ 1026) (hx : -30000 ≤ x2.toInt ∧ x2.toInt ≤ 30000) (hr : ∀ i, i < m → (t1_0 i).toInt = ((yLo N i : Nat) : Int)) : ∀ (n : Nat) (lx9 : Int32), ∀ (c : Nat), lx9.toInt = (c : Int) → c ≤ m → c < n → yLt10 N c → yDg (F_Dig_turn_p_L0 x2 t0_0 t0_1 t1_0 n lx9).1 (F_Dig_turn_p_L0 x2 t0_0 t0_1 t1_0 n lx9).2.2 N ∧ (∀ c, yDt N c → (F_Dig_turn_p_L0 x2 t0_0 t0_1 t1_0 n lx9).2.1.toInt = (if c = 0 then 0 else (c : Int) - 1 - x2.toInt)) := by
  have e1 : (1 : Int32).toInt = 1 := rfl
  have e0 : (0 : Int32).toInt = 0 := rfl
  have fin : ∀ (K : Int32 → Int32 × Int32 × (Nat → Int32)) (lx9 : Int32) (c : Nat), lx9.toInt = (c : Int) → c ≤ m → yDt N c → yDg (F_Dig_turn_p_J34 K x2 t0_0 t0_1 t1_0 lx9).1 (F_Dig_turn_p_J34 K x2 t0_0 t0_1 t1_0 lx9).2.2 N ∧ (∀ c, yDt N c → (F_Dig_turn_p_J34 K x2 t0_0 t0_1 t1_0 lx9).2.1.toInt = (if c = 0 then 0 else (c : Int) - 1 - x2.toInt)) := by
    intro K lx9 c hl hcm hd
    unfold F_Dig_turn_p_J34
    have s1 := q_subI hl e1 (by omega) (by omega)
    obtain ⟨i1, i2, i3⟩ := V_tnpL (x2 := x2) (t0_0 := t0_0) (t0_1 := t0_1) (t1_0 := t1_0) (lx9 := lx9) (N := N) (c := c) hl (by omega) hx (((lx9 - 1).toInt - -1000000).toNat + 1) (lx9 - 1) 0 t1_0 c 0 rfl (by omega) (by omega) (by omega) (by omega) (fun i hi => by
      rw [if_neg (by omega), hr i (by omega)])
    refine ⟨⟨c, by rw [i1, hl], by omega, hd, i3⟩, fun d hd2 => ?_⟩
    rw [yDt_U hd2 hd]
    exact i2
  intro n
  induction n with
  | zero =>
    intro lx9 c h1 h2 h3
    omega
  | succ n ih =>
    intro lx9 c h1 h2 h3 h4
    rw [F_Dig_turn_p_L0.eq_2]
    by_cases g : lx9 ≤ 0
    · rw [if_pos g]
      have g := q_leI g
      exact fin _ lx9 c h1 h2 ⟨h4, fun h => by omega⟩
    · rw [if_neg g]
      have g := q_nleI g
      have s1 := q_subI h1 e1 (by omega) (by omega)
      have cc : (lx9 - 1).toNatClampNeg = c - 1 := by
        have := q_clI s1 (by omega)
        omega
      rw [cc]
      have v := hr (c - 1) (by omega)
      by_cases k : t1_0 (c - 1) = 0
      · rw [if_pos k]
        refine ih (lx9 - 1) (c - 1) (by omega) (by omega) (by omega) ?_
        rw [k, e0] at v
        exact y_lt10p (by omega) h4 (by omega)
      · rw [if_neg k]
        refine fin _ lx9 c h1 h2 ⟨h4, fun _ q => ?_⟩
        have : yLo N (c - 1) = 0 := y_lo0 q
        rw [this] at v
        exact absurd (Int32.toInt_inj.mp v) k
theorem V_turnP {x2 : Int32} {t0_0 : Int32} {t0_1 : Int32} {t1_0 : (Nat → Int32)} {N m : Nat} (hm : m ≤ 1026) (hx : -30000 ≤ x2.toInt ∧ x2.toInt ≤ 30000) (h0 : t0_0.toInt = (m : Int)) (hr : ∀ i, i < m → (t1_0 i).toInt = ((yLo N i : Nat) : Int)) (hN : yLt10 N m) : yDg (F_Dig_turn_p x2 t0_0 t0_1 t1_0).1 (F_Dig_turn_p x2 t0_0 t0_1 t1_0).2.2 N ∧ (∀ c, yDt N c → (F_Dig_turn_p x2 t0_0 t0_1 t1_0).2.1.toInt = (if c = 0 then 0 else (c : Int) - 1 - x2.toInt)) := by
  unfold F_Dig_turn_p
  exact V_tnp0 hm hx hr ((t0_0.toInt - -1000000).toNat + 1) t0_0 m h0 (by omega) (by omega) hN
def yW12 : List Nat := [102, 97, 108, 115, 101]
theorem y_cw12 {x : Int32} {k : Nat} (h : x.toInt = (k : Int)) (hk : k < 5) : (F_jStr_charAt_12 x).toInt = ((yW12.getD k 0 : Nat) : Int) ∧ yW12.getD k 0 < 256 ∧ yW12.drop k = yW12.getD k 0 :: yW12.drop (k + 1) := by
  have xc : x.toNatClampNeg = k := by
    have := q_clI h (by omega)
    omega
  unfold F_jStr_charAt_12 F_jLat_charAt_12
  rw [xc]
  have key : ∀ k : Nat, k < 5 → (((((([102, 97, 108, 115, 101] : List Int32).getD k 0) : Int32) &&& 255 : Int32).toUInt32 % 65536).toInt32 : Int32).toInt = ((yW12.getD k 0 : Nat) : Int) ∧ yW12.getD k 0 < 256 ∧ yW12.drop k = yW12.getD k 0 :: yW12.drop (k + 1) := by decide +kernel
  exact key k hk
theorem V_at12L {R : Int32} {N : Int32} {K : Int32} {t0_0 : Int32} {t1_0 : (Nat → Int64)} (hR : R = 11008) : ∀ (n : Nat) (lx7 : Int32) (lx8 : Int32) (lx9 : (Nat → Int64)), ∀ (k : Nat) (l : List Nat), lx7.toInt = (k : Int) → k ≤ 5 → 5 < n + k → yPa lx8 lx9 l → l.length + (5 - k) < 1900000000 → yPa (F_She_addText_12_L2 R N K t0_0 t1_0 n lx7 lx8 lx9).1 (F_She_addText_12_L2 R N K t0_0 t1_0 n lx7 lx8 lx9).2 (l ++ yW12.drop k) := by
  subst hR
  have e1 : (1 : Int32).toInt = 1 := rfl
  have eN : (5 : Int32).toInt = 5 := rfl
  intro n
  induction n with
  | zero =>
    intro lx7 lx8 lx9 k l h1 h2 h3
    omega
  | succ n ih =>
    intro lx7 lx8 lx9 k l h1 h2 h3 h4 h5
    rw [F_She_addText_12_L2.eq_2]
    by_cases g : (5 : Int32) ≤ lx7
    · rw [if_pos g]
      have g := q_leI g
      obtain rfl : k = 5 := by omega
      show yPa lx8 lx9 (l ++ [])
      rw [List.append_nil]
      exact h4
    · rw [if_neg g]
      have g := q_nleI g
      obtain ⟨c1, c2, c3⟩ := y_cw12 h1 (by omega)
      have pa := V_paP (N := N) (K := K) h4 (by omega) c1 c2
      revert pa
      generalize F_She_add_p 11008 N K (F_jStr_charAt_12 lx7) lx8 lx9 = p
      intro pa
      unfold F_She_addText_12_c16
      have r := ih (lx7 + 1) p.1 p.2 (k + 1) _ (q_addI h1 e1 (by omega) (by omega)) (by omega) (by omega) pa (by rw [List.length_append, List.length_singleton]; omega)
      rw [c3]
      rw [List.append_assoc] at r
      exact r
theorem V_at12 {R : Int32} {N : Int32} {K : Int32} {t0_0 : Int32} {t1_0 : (Nat → Int64)} {l : List Nat} (hR : R = 11008) (h : yPa t0_0 t1_0 l) (hl : l.length < 1800000000) : yPa (F_She_addText_12 R N K t0_0 t1_0).1 (F_She_addText_12 R N K t0_0 t1_0).2 (l ++ yW12) := by
  unfold F_She_addText_12
  exact V_at12L hR ((5 - (0 : Int32).toInt).toNat + 1) 0 t0_0 t1_0 0 l rfl (by omega) (by decide) h (by omega)
def yW13 : List Nat := [116, 114, 117, 101]
theorem y_cw13 {x : Int32} {k : Nat} (h : x.toInt = (k : Int)) (hk : k < 4) : (F_jStr_charAt_13 x).toInt = ((yW13.getD k 0 : Nat) : Int) ∧ yW13.getD k 0 < 256 ∧ yW13.drop k = yW13.getD k 0 :: yW13.drop (k + 1) := by
  have xc : x.toNatClampNeg = k := by
    have := q_clI h (by omega)
    omega
  unfold F_jStr_charAt_13 F_jLat_charAt_13
  rw [xc]
  have key : ∀ k : Nat, k < 4 → (((((([116, 114, 117, 101] : List Int32).getD k 0) : Int32) &&& 255 : Int32).toUInt32 % 65536).toInt32 : Int32).toInt = ((yW13.getD k 0 : Nat) : Int) ∧ yW13.getD k 0 < 256 ∧ yW13.drop k = yW13.getD k 0 :: yW13.drop (k + 1) := by decide +kernel
  exact key k hk
theorem V_at13L {R : Int32} {N : Int32} {K : Int32} {t0_0 : Int32} {t1_0 : (Nat → Int64)} (hR : R = 11008) : ∀ (n : Nat) (lx7 : Int32) (lx8 : Int32) (lx9 : (Nat → Int64)), ∀ (k : Nat) (l : List Nat), lx7.toInt = (k : Int) → k ≤ 4 → 4 < n + k → yPa lx8 lx9 l → l.length + (4 - k) < 1900000000 → yPa (F_She_addText_13_L2 R N K t0_0 t1_0 n lx7 lx8 lx9).1 (F_She_addText_13_L2 R N K t0_0 t1_0 n lx7 lx8 lx9).2 (l ++ yW13.drop k) := by
  subst hR
  have e1 : (1 : Int32).toInt = 1 := rfl
  have eN : (4 : Int32).toInt = 4 := rfl
  intro n
  induction n with
  | zero =>
    intro lx7 lx8 lx9 k l h1 h2 h3
    omega
  | succ n ih =>
    intro lx7 lx8 lx9 k l h1 h2 h3 h4 h5
    rw [F_She_addText_13_L2.eq_2]
    by_cases g : (4 : Int32) ≤ lx7
    · rw [if_pos g]
      have g := q_leI g
      obtain rfl : k = 4 := by omega
      show yPa lx8 lx9 (l ++ [])
      rw [List.append_nil]
      exact h4
    · rw [if_neg g]
      have g := q_nleI g
      obtain ⟨c1, c2, c3⟩ := y_cw13 h1 (by omega)
      have pa := V_paP (N := N) (K := K) h4 (by omega) c1 c2
      revert pa
      generalize F_She_add_p 11008 N K (F_jStr_charAt_13 lx7) lx8 lx9 = p
      intro pa
      unfold F_She_addText_13_c16
      have r := ih (lx7 + 1) p.1 p.2 (k + 1) _ (q_addI h1 e1 (by omega) (by omega)) (by omega) (by omega) pa (by rw [List.length_append, List.length_singleton]; omega)
      rw [c3]
      rw [List.append_assoc] at r
      exact r
theorem V_at13 {R : Int32} {N : Int32} {K : Int32} {t0_0 : Int32} {t1_0 : (Nat → Int64)} {l : List Nat} (hR : R = 11008) (h : yPa t0_0 t1_0 l) (hl : l.length < 1800000000) : yPa (F_She_addText_13 R N K t0_0 t1_0).1 (F_She_addText_13 R N K t0_0 t1_0).2 (l ++ yW13) := by
  unfold F_She_addText_13
  exact V_at13L hR ((4 - (0 : Int32).toInt).toNat + 1) 0 t0_0 t1_0 0 l rfl (by omega) (by decide) h (by omega)
def yW15 : List Nat := [110, 117, 108, 108]
theorem y_cw15 {x : Int32} {k : Nat} (h : x.toInt = (k : Int)) (hk : k < 4) : (F_jStr_charAt_15 x).toInt = ((yW15.getD k 0 : Nat) : Int) ∧ yW15.getD k 0 < 256 ∧ yW15.drop k = yW15.getD k 0 :: yW15.drop (k + 1) := by
  have xc : x.toNatClampNeg = k := by
    have := q_clI h (by omega)
    omega
  unfold F_jStr_charAt_15 F_jLat_charAt_15
  rw [xc]
  have key : ∀ k : Nat, k < 4 → (((((([110, 117, 108, 108] : List Int32).getD k 0) : Int32) &&& 255 : Int32).toUInt32 % 65536).toInt32 : Int32).toInt = ((yW15.getD k 0 : Nat) : Int) ∧ yW15.getD k 0 < 256 ∧ yW15.drop k = yW15.getD k 0 :: yW15.drop (k + 1) := by decide +kernel
  exact key k hk
theorem V_at15L {R : Int32} {N : Int32} {K : Int32} {t0_0 : Int32} {t1_0 : (Nat → Int64)} (hR : R = 11008) : ∀ (n : Nat) (lx7 : Int32) (lx8 : Int32) (lx9 : (Nat → Int64)), ∀ (k : Nat) (l : List Nat), lx7.toInt = (k : Int) → k ≤ 4 → 4 < n + k → yPa lx8 lx9 l → l.length + (4 - k) < 1900000000 → yPa (F_She_addText_15_L2 R N K t0_0 t1_0 n lx7 lx8 lx9).1 (F_She_addText_15_L2 R N K t0_0 t1_0 n lx7 lx8 lx9).2 (l ++ yW15.drop k) := by
  subst hR
  have e1 : (1 : Int32).toInt = 1 := rfl
  have eN : (4 : Int32).toInt = 4 := rfl
  intro n
  induction n with
  | zero =>
    intro lx7 lx8 lx9 k l h1 h2 h3
    omega
  | succ n ih =>
    intro lx7 lx8 lx9 k l h1 h2 h3 h4 h5
    rw [F_She_addText_15_L2.eq_2]
    by_cases g : (4 : Int32) ≤ lx7
    · rw [if_pos g]
      have g := q_leI g
      obtain rfl : k = 4 := by omega
      show yPa lx8 lx9 (l ++ [])
      rw [List.append_nil]
      exact h4
    · rw [if_neg g]
      have g := q_nleI g
      obtain ⟨c1, c2, c3⟩ := y_cw15 h1 (by omega)
      have pa := V_paP (N := N) (K := K) h4 (by omega) c1 c2
      revert pa
      generalize F_She_add_p 11008 N K (F_jStr_charAt_15 lx7) lx8 lx9 = p
      intro pa
      unfold F_She_addText_15_c16
      have r := ih (lx7 + 1) p.1 p.2 (k + 1) _ (q_addI h1 e1 (by omega) (by omega)) (by omega) (by omega) pa (by rw [List.length_append, List.length_singleton]; omega)
      rw [c3]
      rw [List.append_assoc] at r
      exact r
theorem V_at15 {R : Int32} {N : Int32} {K : Int32} {t0_0 : Int32} {t1_0 : (Nat → Int64)} {l : List Nat} (hR : R = 11008) (h : yPa t0_0 t1_0 l) (hl : l.length < 1800000000) : yPa (F_She_addText_15 R N K t0_0 t1_0).1 (F_She_addText_15 R N K t0_0 t1_0).2 (l ++ yW15) := by
  unfold F_She_addText_15
  exact V_at15L hR ((4 - (0 : Int32).toInt).toNat + 1) 0 t0_0 t1_0 0 l rfl (by omega) (by decide) h (by omega)
def yW17 : List Nat := [48]
theorem y_cw17 {x : Int32} {k : Nat} (h : x.toInt = (k : Int)) (hk : k < 1) : (F_jStr_charAt_17 x).toInt = ((yW17.getD k 0 : Nat) : Int) ∧ yW17.getD k 0 < 256 ∧ yW17.drop k = yW17.getD k 0 :: yW17.drop (k + 1) := by
  have xc : x.toNatClampNeg = k := by
    have := q_clI h (by omega)
    omega
  unfold F_jStr_charAt_17 F_jLat_charAt_17
  rw [xc]
  have key : ∀ k : Nat, k < 1 → (((((([48] : List Int32).getD k 0) : Int32) &&& 255 : Int32).toUInt32 % 65536).toInt32 : Int32).toInt = ((yW17.getD k 0 : Nat) : Int) ∧ yW17.getD k 0 < 256 ∧ yW17.drop k = yW17.getD k 0 :: yW17.drop (k + 1) := by decide +kernel
  exact key k hk
theorem V_at17L {R : Int32} {N : Int32} {K : Int32} {t0_0 : Int32} {t1_0 : (Nat → Int64)} (hR : R = 11008) : ∀ (n : Nat) (lx7 : Int32) (lx8 : Int32) (lx9 : (Nat → Int64)), ∀ (k : Nat) (l : List Nat), lx7.toInt = (k : Int) → k ≤ 1 → 1 < n + k → yPa lx8 lx9 l → l.length + (1 - k) < 1900000000 → yPa (F_She_addText_17_L2 R N K t0_0 t1_0 n lx7 lx8 lx9).1 (F_She_addText_17_L2 R N K t0_0 t1_0 n lx7 lx8 lx9).2 (l ++ yW17.drop k) := by
  subst hR
  have e1 : (1 : Int32).toInt = 1 := rfl
  have eN : (1 : Int32).toInt = 1 := rfl
  intro n
  induction n with
  | zero =>
    intro lx7 lx8 lx9 k l h1 h2 h3
    omega
  | succ n ih =>
    intro lx7 lx8 lx9 k l h1 h2 h3 h4 h5
    rw [F_She_addText_17_L2.eq_2]
    by_cases g : (1 : Int32) ≤ lx7
    · rw [if_pos g]
      have g := q_leI g
      obtain rfl : k = 1 := by omega
      show yPa lx8 lx9 (l ++ [])
      rw [List.append_nil]
      exact h4
    · rw [if_neg g]
      have g := q_nleI g
      obtain ⟨c1, c2, c3⟩ := y_cw17 h1 (by omega)
      have pa := V_paP (N := N) (K := K) h4 (by omega) c1 c2
      revert pa
      generalize F_She_add_p 11008 N K (F_jStr_charAt_17 lx7) lx8 lx9 = p
      intro pa
      unfold F_She_addText_17_c16
      have r := ih (lx7 + 1) p.1 p.2 (k + 1) _ (q_addI h1 e1 (by omega) (by omega)) (by omega) (by omega) pa (by rw [List.length_append, List.length_singleton]; omega)
      rw [c3]
      rw [List.append_assoc] at r
      exact r
theorem V_at17 {R : Int32} {N : Int32} {K : Int32} {t0_0 : Int32} {t1_0 : (Nat → Int64)} {l : List Nat} (hR : R = 11008) (h : yPa t0_0 t1_0 l) (hl : l.length < 1800000000) : yPa (F_She_addText_17 R N K t0_0 t1_0).1 (F_She_addText_17 R N K t0_0 t1_0).2 (l ++ yW17) := by
  unfold F_She_addText_17
  exact V_at17L hR ((1 - (0 : Int32).toInt).toNat + 1) 0 t0_0 t1_0 0 l rfl (by omega) (by decide) h (by omega)
def yW18 : List Nat := [48, 120]
theorem y_cw18 {x : Int32} {k : Nat} (h : x.toInt = (k : Int)) (hk : k < 2) : (F_jStr_charAt_18 x).toInt = ((yW18.getD k 0 : Nat) : Int) ∧ yW18.getD k 0 < 256 ∧ yW18.drop k = yW18.getD k 0 :: yW18.drop (k + 1) := by
  have xc : x.toNatClampNeg = k := by
    have := q_clI h (by omega)
    omega
  unfold F_jStr_charAt_18 F_jLat_charAt_18
  rw [xc]
  have key : ∀ k : Nat, k < 2 → (((((([48, 120] : List Int32).getD k 0) : Int32) &&& 255 : Int32).toUInt32 % 65536).toInt32 : Int32).toInt = ((yW18.getD k 0 : Nat) : Int) ∧ yW18.getD k 0 < 256 ∧ yW18.drop k = yW18.getD k 0 :: yW18.drop (k + 1) := by decide +kernel
  exact key k hk
theorem V_at18L {R : Int32} {N : Int32} {K : Int32} {t0_0 : Int32} {t1_0 : (Nat → Int64)} (hR : R = 11008) : ∀ (n : Nat) (lx7 : Int32) (lx8 : Int32) (lx9 : (Nat → Int64)), ∀ (k : Nat) (l : List Nat), lx7.toInt = (k : Int) → k ≤ 2 → 2 < n + k → yPa lx8 lx9 l → l.length + (2 - k) < 1900000000 → yPa (F_She_addText_18_L2 R N K t0_0 t1_0 n lx7 lx8 lx9).1 (F_She_addText_18_L2 R N K t0_0 t1_0 n lx7 lx8 lx9).2 (l ++ yW18.drop k) := by
  subst hR
  have e1 : (1 : Int32).toInt = 1 := rfl
  have eN : (2 : Int32).toInt = 2 := rfl
  intro n
  induction n with
  | zero =>
    intro lx7 lx8 lx9 k l h1 h2 h3
    omega
  | succ n ih =>
    intro lx7 lx8 lx9 k l h1 h2 h3 h4 h5
    rw [F_She_addText_18_L2.eq_2]
    by_cases g : (2 : Int32) ≤ lx7
    · rw [if_pos g]
      have g := q_leI g
      obtain rfl : k = 2 := by omega
      show yPa lx8 lx9 (l ++ [])
      rw [List.append_nil]
      exact h4
    · rw [if_neg g]
      have g := q_nleI g
      obtain ⟨c1, c2, c3⟩ := y_cw18 h1 (by omega)
      have pa := V_paP (N := N) (K := K) h4 (by omega) c1 c2
      revert pa
      generalize F_She_add_p 11008 N K (F_jStr_charAt_18 lx7) lx8 lx9 = p
      intro pa
      unfold F_She_addText_18_c16
      have r := ih (lx7 + 1) p.1 p.2 (k + 1) _ (q_addI h1 e1 (by omega) (by omega)) (by omega) (by omega) pa (by rw [List.length_append, List.length_singleton]; omega)
      rw [c3]
      rw [List.append_assoc] at r
      exact r
theorem V_at18 {R : Int32} {N : Int32} {K : Int32} {t0_0 : Int32} {t1_0 : (Nat → Int64)} {l : List Nat} (hR : R = 11008) (h : yPa t0_0 t1_0 l) (hl : l.length < 1800000000) : yPa (F_She_addText_18 R N K t0_0 t1_0).1 (F_She_addText_18 R N K t0_0 t1_0).2 (l ++ yW18) := by
  unfold F_She_addText_18
  exact V_at18L hR ((2 - (0 : Int32).toInt).toNat + 1) 0 t0_0 t1_0 0 l rfl (by omega) (by decide) h (by omega)
def yW20 : List Nat := [78, 97, 78]
theorem y_cw20 {x : Int32} {k : Nat} (h : x.toInt = (k : Int)) (hk : k < 3) : (F_jStr_charAt_20 x).toInt = ((yW20.getD k 0 : Nat) : Int) ∧ yW20.getD k 0 < 256 ∧ yW20.drop k = yW20.getD k 0 :: yW20.drop (k + 1) := by
  have xc : x.toNatClampNeg = k := by
    have := q_clI h (by omega)
    omega
  unfold F_jStr_charAt_20 F_jLat_charAt_20
  rw [xc]
  have key : ∀ k : Nat, k < 3 → (((((([78, 97, 78] : List Int32).getD k 0) : Int32) &&& 255 : Int32).toUInt32 % 65536).toInt32 : Int32).toInt = ((yW20.getD k 0 : Nat) : Int) ∧ yW20.getD k 0 < 256 ∧ yW20.drop k = yW20.getD k 0 :: yW20.drop (k + 1) := by decide +kernel
  exact key k hk
theorem V_at20L {R : Int32} {N : Int32} {K : Int32} {t0_0 : Int32} {t1_0 : (Nat → Int64)} (hR : R = 11008) : ∀ (n : Nat) (lx7 : Int32) (lx8 : Int32) (lx9 : (Nat → Int64)), ∀ (k : Nat) (l : List Nat), lx7.toInt = (k : Int) → k ≤ 3 → 3 < n + k → yPa lx8 lx9 l → l.length + (3 - k) < 1900000000 → yPa (F_She_addText_20_L2 R N K t0_0 t1_0 n lx7 lx8 lx9).1 (F_She_addText_20_L2 R N K t0_0 t1_0 n lx7 lx8 lx9).2 (l ++ yW20.drop k) := by
  subst hR
  have e1 : (1 : Int32).toInt = 1 := rfl
  have eN : (3 : Int32).toInt = 3 := rfl
  intro n
  induction n with
  | zero =>
    intro lx7 lx8 lx9 k l h1 h2 h3
    omega
  | succ n ih =>
    intro lx7 lx8 lx9 k l h1 h2 h3 h4 h5
    rw [F_She_addText_20_L2.eq_2]
    by_cases g : (3 : Int32) ≤ lx7
    · rw [if_pos g]
      have g := q_leI g
      obtain rfl : k = 3 := by omega
      show yPa lx8 lx9 (l ++ [])
      rw [List.append_nil]
      exact h4
    · rw [if_neg g]
      have g := q_nleI g
      obtain ⟨c1, c2, c3⟩ := y_cw20 h1 (by omega)
      have pa := V_paP (N := N) (K := K) h4 (by omega) c1 c2
      revert pa
      generalize F_She_add_p 11008 N K (F_jStr_charAt_20 lx7) lx8 lx9 = p
      intro pa
      unfold F_She_addText_20_c16
      have r := ih (lx7 + 1) p.1 p.2 (k + 1) _ (q_addI h1 e1 (by omega) (by omega)) (by omega) (by omega) pa (by rw [List.length_append, List.length_singleton]; omega)
      rw [c3]
      rw [List.append_assoc] at r
      exact r
theorem V_at20 {R : Int32} {N : Int32} {K : Int32} {t0_0 : Int32} {t1_0 : (Nat → Int64)} {l : List Nat} (hR : R = 11008) (h : yPa t0_0 t1_0 l) (hl : l.length < 1800000000) : yPa (F_She_addText_20 R N K t0_0 t1_0).1 (F_She_addText_20 R N K t0_0 t1_0).2 (l ++ yW20) := by
  unfold F_She_addText_20
  exact V_at20L hR ((3 - (0 : Int32).toInt).toNat + 1) 0 t0_0 t1_0 0 l rfl (by omega) (by decide) h (by omega)
def yW21 : List Nat := [73, 110, 102, 105, 110, 105, 116, 121]
theorem y_cw21 {x : Int32} {k : Nat} (h : x.toInt = (k : Int)) (hk : k < 8) : (F_jStr_charAt_21 x).toInt = ((yW21.getD k 0 : Nat) : Int) ∧ yW21.getD k 0 < 256 ∧ yW21.drop k = yW21.getD k 0 :: yW21.drop (k + 1) := by
  have xc : x.toNatClampNeg = k := by
    have := q_clI h (by omega)
    omega
  unfold F_jStr_charAt_21 F_jLat_charAt_21
  rw [xc]
  have key : ∀ k : Nat, k < 8 → (((((([73, 110, 102, 105, 110, 105, 116, 121] : List Int32).getD k 0) : Int32) &&& 255 : Int32).toUInt32 % 65536).toInt32 : Int32).toInt = ((yW21.getD k 0 : Nat) : Int) ∧ yW21.getD k 0 < 256 ∧ yW21.drop k = yW21.getD k 0 :: yW21.drop (k + 1) := by decide +kernel
  exact key k hk
theorem V_at21L {R : Int32} {N : Int32} {K : Int32} {t0_0 : Int32} {t1_0 : (Nat → Int64)} (hR : R = 11008) : ∀ (n : Nat) (lx7 : Int32) (lx8 : Int32) (lx9 : (Nat → Int64)), ∀ (k : Nat) (l : List Nat), lx7.toInt = (k : Int) → k ≤ 8 → 8 < n + k → yPa lx8 lx9 l → l.length + (8 - k) < 1900000000 → yPa (F_She_addText_21_L2 R N K t0_0 t1_0 n lx7 lx8 lx9).1 (F_She_addText_21_L2 R N K t0_0 t1_0 n lx7 lx8 lx9).2 (l ++ yW21.drop k) := by
  subst hR
  have e1 : (1 : Int32).toInt = 1 := rfl
  have eN : (8 : Int32).toInt = 8 := rfl
  intro n
  induction n with
  | zero =>
    intro lx7 lx8 lx9 k l h1 h2 h3
    omega
  | succ n ih =>
    intro lx7 lx8 lx9 k l h1 h2 h3 h4 h5
    rw [F_She_addText_21_L2.eq_2]
    by_cases g : (8 : Int32) ≤ lx7
    · rw [if_pos g]
      have g := q_leI g
      obtain rfl : k = 8 := by omega
      show yPa lx8 lx9 (l ++ [])
      rw [List.append_nil]
      exact h4
    · rw [if_neg g]
      have g := q_nleI g
      obtain ⟨c1, c2, c3⟩ := y_cw21 h1 (by omega)
      have pa := V_paP (N := N) (K := K) h4 (by omega) c1 c2
      revert pa
      generalize F_She_add_p 11008 N K (F_jStr_charAt_21 lx7) lx8 lx9 = p
      intro pa
      unfold F_She_addText_21_c16
      have r := ih (lx7 + 1) p.1 p.2 (k + 1) _ (q_addI h1 e1 (by omega) (by omega)) (by omega) (by omega) pa (by rw [List.length_append, List.length_singleton]; omega)
      rw [c3]
      rw [List.append_assoc] at r
      exact r
theorem V_at21 {R : Int32} {N : Int32} {K : Int32} {t0_0 : Int32} {t1_0 : (Nat → Int64)} {l : List Nat} (hR : R = 11008) (h : yPa t0_0 t1_0 l) (hl : l.length < 1800000000) : yPa (F_She_addText_21 R N K t0_0 t1_0).1 (F_She_addText_21 R N K t0_0 t1_0).2 (l ++ yW21) := by
  unfold F_She_addText_21
  exact V_at21L hR ((8 - (0 : Int32).toInt).toNat + 1) 0 t0_0 t1_0 0 l rfl (by omega) (by decide) h (by omega)
def yW23 : List Nat := [78, 97, 78]
theorem y_cw23 {x : Int32} {k : Nat} (h : x.toInt = (k : Int)) (hk : k < 3) : (F_jStr_charAt_23 x).toInt = ((yW23.getD k 0 : Nat) : Int) ∧ yW23.getD k 0 < 256 ∧ yW23.drop k = yW23.getD k 0 :: yW23.drop (k + 1) := by
  have xc : x.toNatClampNeg = k := by
    have := q_clI h (by omega)
    omega
  unfold F_jStr_charAt_23 F_jLat_charAt_23
  rw [xc]
  have key : ∀ k : Nat, k < 3 → (((((([78, 97, 78] : List Int32).getD k 0) : Int32) &&& 255 : Int32).toUInt32 % 65536).toInt32 : Int32).toInt = ((yW23.getD k 0 : Nat) : Int) ∧ yW23.getD k 0 < 256 ∧ yW23.drop k = yW23.getD k 0 :: yW23.drop (k + 1) := by decide +kernel
  exact key k hk
theorem V_at23L {R : Int32} {N : Int32} {K : Int32} {t0_0 : Int32} {t1_0 : (Nat → Int64)} (hR : R = 11008) : ∀ (n : Nat) (lx7 : Int32) (lx8 : Int32) (lx9 : (Nat → Int64)), ∀ (k : Nat) (l : List Nat), lx7.toInt = (k : Int) → k ≤ 3 → 3 < n + k → yPa lx8 lx9 l → l.length + (3 - k) < 1900000000 → yPa (F_She_addText_23_L2 R N K t0_0 t1_0 n lx7 lx8 lx9).1 (F_She_addText_23_L2 R N K t0_0 t1_0 n lx7 lx8 lx9).2 (l ++ yW23.drop k) := by
  subst hR
  have e1 : (1 : Int32).toInt = 1 := rfl
  have eN : (3 : Int32).toInt = 3 := rfl
  intro n
  induction n with
  | zero =>
    intro lx7 lx8 lx9 k l h1 h2 h3
    omega
  | succ n ih =>
    intro lx7 lx8 lx9 k l h1 h2 h3 h4 h5
    rw [F_She_addText_23_L2.eq_2]
    by_cases g : (3 : Int32) ≤ lx7
    · rw [if_pos g]
      have g := q_leI g
      obtain rfl : k = 3 := by omega
      show yPa lx8 lx9 (l ++ [])
      rw [List.append_nil]
      exact h4
    · rw [if_neg g]
      have g := q_nleI g
      obtain ⟨c1, c2, c3⟩ := y_cw23 h1 (by omega)
      have pa := V_paP (N := N) (K := K) h4 (by omega) c1 c2
      revert pa
      generalize F_She_add_p 11008 N K (F_jStr_charAt_23 lx7) lx8 lx9 = p
      intro pa
      unfold F_She_addText_23_c16
      have r := ih (lx7 + 1) p.1 p.2 (k + 1) _ (q_addI h1 e1 (by omega) (by omega)) (by omega) (by omega) pa (by rw [List.length_append, List.length_singleton]; omega)
      rw [c3]
      rw [List.append_assoc] at r
      exact r
theorem V_at23 {R : Int32} {N : Int32} {K : Int32} {t0_0 : Int32} {t1_0 : (Nat → Int64)} {l : List Nat} (hR : R = 11008) (h : yPa t0_0 t1_0 l) (hl : l.length < 1800000000) : yPa (F_She_addText_23 R N K t0_0 t1_0).1 (F_She_addText_23 R N K t0_0 t1_0).2 (l ++ yW23) := by
  unfold F_She_addText_23
  exact V_at23L hR ((3 - (0 : Int32).toInt).toNat + 1) 0 t0_0 t1_0 0 l rfl (by omega) (by decide) h (by omega)
def yW24 : List Nat := [73, 110, 102, 105, 110, 105, 116, 121]
theorem y_cw24 {x : Int32} {k : Nat} (h : x.toInt = (k : Int)) (hk : k < 8) : (F_jStr_charAt_24 x).toInt = ((yW24.getD k 0 : Nat) : Int) ∧ yW24.getD k 0 < 256 ∧ yW24.drop k = yW24.getD k 0 :: yW24.drop (k + 1) := by
  have xc : x.toNatClampNeg = k := by
    have := q_clI h (by omega)
    omega
  unfold F_jStr_charAt_24 F_jLat_charAt_24
  rw [xc]
  have key : ∀ k : Nat, k < 8 → (((((([73, 110, 102, 105, 110, 105, 116, 121] : List Int32).getD k 0) : Int32) &&& 255 : Int32).toUInt32 % 65536).toInt32 : Int32).toInt = ((yW24.getD k 0 : Nat) : Int) ∧ yW24.getD k 0 < 256 ∧ yW24.drop k = yW24.getD k 0 :: yW24.drop (k + 1) := by decide +kernel
  exact key k hk
theorem V_at24L {R : Int32} {N : Int32} {K : Int32} {t0_0 : Int32} {t1_0 : (Nat → Int64)} (hR : R = 11008) : ∀ (n : Nat) (lx7 : Int32) (lx8 : Int32) (lx9 : (Nat → Int64)), ∀ (k : Nat) (l : List Nat), lx7.toInt = (k : Int) → k ≤ 8 → 8 < n + k → yPa lx8 lx9 l → l.length + (8 - k) < 1900000000 → yPa (F_She_addText_24_L2 R N K t0_0 t1_0 n lx7 lx8 lx9).1 (F_She_addText_24_L2 R N K t0_0 t1_0 n lx7 lx8 lx9).2 (l ++ yW24.drop k) := by
  subst hR
  have e1 : (1 : Int32).toInt = 1 := rfl
  have eN : (8 : Int32).toInt = 8 := rfl
  intro n
  induction n with
  | zero =>
    intro lx7 lx8 lx9 k l h1 h2 h3
    omega
  | succ n ih =>
    intro lx7 lx8 lx9 k l h1 h2 h3 h4 h5
    rw [F_She_addText_24_L2.eq_2]
    by_cases g : (8 : Int32) ≤ lx7
    · rw [if_pos g]
      have g := q_leI g
      obtain rfl : k = 8 := by omega
      show yPa lx8 lx9 (l ++ [])
      rw [List.append_nil]
      exact h4
    · rw [if_neg g]
      have g := q_nleI g
      obtain ⟨c1, c2, c3⟩ := y_cw24 h1 (by omega)
      have pa := V_paP (N := N) (K := K) h4 (by omega) c1 c2
      revert pa
      generalize F_She_add_p 11008 N K (F_jStr_charAt_24 lx7) lx8 lx9 = p
      intro pa
      unfold F_She_addText_24_c16
      have r := ih (lx7 + 1) p.1 p.2 (k + 1) _ (q_addI h1 e1 (by omega) (by omega)) (by omega) (by omega) pa (by rw [List.length_append, List.length_singleton]; omega)
      rw [c3]
      rw [List.append_assoc] at r
      exact r
theorem V_at24 {R : Int32} {N : Int32} {K : Int32} {t0_0 : Int32} {t1_0 : (Nat → Int64)} {l : List Nat} (hR : R = 11008) (h : yPa t0_0 t1_0 l) (hl : l.length < 1800000000) : yPa (F_She_addText_24 R N K t0_0 t1_0).1 (F_She_addText_24 R N K t0_0 t1_0).2 (l ++ yW24) := by
  unfold F_She_addText_24
  exact V_at24L hR ((8 - (0 : Int32).toInt).toNat + 1) 0 t0_0 t1_0 0 l rfl (by omega) (by decide) h (by omega)
def yW25 : List Nat := [48, 120, 48, 46, 48, 112, 48]
theorem y_cw25 {x : Int32} {k : Nat} (h : x.toInt = (k : Int)) (hk : k < 7) : (F_jStr_charAt_25 x).toInt = ((yW25.getD k 0 : Nat) : Int) ∧ yW25.getD k 0 < 256 ∧ yW25.drop k = yW25.getD k 0 :: yW25.drop (k + 1) := by
  have xc : x.toNatClampNeg = k := by
    have := q_clI h (by omega)
    omega
  unfold F_jStr_charAt_25 F_jLat_charAt_25
  rw [xc]
  have key : ∀ k : Nat, k < 7 → (((((([48, 120, 48, 46, 48, 112, 48] : List Int32).getD k 0) : Int32) &&& 255 : Int32).toUInt32 % 65536).toInt32 : Int32).toInt = ((yW25.getD k 0 : Nat) : Int) ∧ yW25.getD k 0 < 256 ∧ yW25.drop k = yW25.getD k 0 :: yW25.drop (k + 1) := by decide +kernel
  exact key k hk
theorem V_at25L {R : Int32} {N : Int32} {K : Int32} {t0_0 : Int32} {t1_0 : (Nat → Int64)} (hR : R = 11008) : ∀ (n : Nat) (lx7 : Int32) (lx8 : Int32) (lx9 : (Nat → Int64)), ∀ (k : Nat) (l : List Nat), lx7.toInt = (k : Int) → k ≤ 7 → 7 < n + k → yPa lx8 lx9 l → l.length + (7 - k) < 1900000000 → yPa (F_She_addText_25_L2 R N K t0_0 t1_0 n lx7 lx8 lx9).1 (F_She_addText_25_L2 R N K t0_0 t1_0 n lx7 lx8 lx9).2 (l ++ yW25.drop k) := by
  subst hR
  have e1 : (1 : Int32).toInt = 1 := rfl
  have eN : (7 : Int32).toInt = 7 := rfl
  intro n
  induction n with
  | zero =>
    intro lx7 lx8 lx9 k l h1 h2 h3
    omega
  | succ n ih =>
    intro lx7 lx8 lx9 k l h1 h2 h3 h4 h5
    rw [F_She_addText_25_L2.eq_2]
    by_cases g : (7 : Int32) ≤ lx7
    · rw [if_pos g]
      have g := q_leI g
      obtain rfl : k = 7 := by omega
      show yPa lx8 lx9 (l ++ [])
      rw [List.append_nil]
      exact h4
    · rw [if_neg g]
      have g := q_nleI g
      obtain ⟨c1, c2, c3⟩ := y_cw25 h1 (by omega)
      have pa := V_paP (N := N) (K := K) h4 (by omega) c1 c2
      revert pa
      generalize F_She_add_p 11008 N K (F_jStr_charAt_25 lx7) lx8 lx9 = p
      intro pa
      unfold F_She_addText_25_c16
      have r := ih (lx7 + 1) p.1 p.2 (k + 1) _ (q_addI h1 e1 (by omega) (by omega)) (by omega) (by omega) pa (by rw [List.length_append, List.length_singleton]; omega)
      rw [c3]
      rw [List.append_assoc] at r
      exact r
theorem V_at25 {R : Int32} {N : Int32} {K : Int32} {t0_0 : Int32} {t1_0 : (Nat → Int64)} {l : List Nat} (hR : R = 11008) (h : yPa t0_0 t1_0 l) (hl : l.length < 1800000000) : yPa (F_She_addText_25 R N K t0_0 t1_0).1 (F_She_addText_25 R N K t0_0 t1_0).2 (l ++ yW25) := by
  unfold F_She_addText_25
  exact V_at25L hR ((7 - (0 : Int32).toInt).toNat + 1) 0 t0_0 t1_0 0 l rfl (by omega) (by decide) h (by omega)
def yW26 : List Nat := [48, 46, 48]
theorem y_cw26 {x : Int32} {k : Nat} (h : x.toInt = (k : Int)) (hk : k < 3) : (F_jStr_charAt_26 x).toInt = ((yW26.getD k 0 : Nat) : Int) ∧ yW26.getD k 0 < 256 ∧ yW26.drop k = yW26.getD k 0 :: yW26.drop (k + 1) := by
  have xc : x.toNatClampNeg = k := by
    have := q_clI h (by omega)
    omega
  unfold F_jStr_charAt_26 F_jLat_charAt_26
  rw [xc]
  have key : ∀ k : Nat, k < 3 → (((((([48, 46, 48] : List Int32).getD k 0) : Int32) &&& 255 : Int32).toUInt32 % 65536).toInt32 : Int32).toInt = ((yW26.getD k 0 : Nat) : Int) ∧ yW26.getD k 0 < 256 ∧ yW26.drop k = yW26.getD k 0 :: yW26.drop (k + 1) := by decide +kernel
  exact key k hk
theorem V_at26L {R : Int32} {N : Int32} {K : Int32} {t0_0 : Int32} {t1_0 : (Nat → Int64)} (hR : R = 11008) : ∀ (n : Nat) (lx7 : Int32) (lx8 : Int32) (lx9 : (Nat → Int64)), ∀ (k : Nat) (l : List Nat), lx7.toInt = (k : Int) → k ≤ 3 → 3 < n + k → yPa lx8 lx9 l → l.length + (3 - k) < 1900000000 → yPa (F_She_addText_26_L2 R N K t0_0 t1_0 n lx7 lx8 lx9).1 (F_She_addText_26_L2 R N K t0_0 t1_0 n lx7 lx8 lx9).2 (l ++ yW26.drop k) := by
  subst hR
  have e1 : (1 : Int32).toInt = 1 := rfl
  have eN : (3 : Int32).toInt = 3 := rfl
  intro n
  induction n with
  | zero =>
    intro lx7 lx8 lx9 k l h1 h2 h3
    omega
  | succ n ih =>
    intro lx7 lx8 lx9 k l h1 h2 h3 h4 h5
    rw [F_She_addText_26_L2.eq_2]
    by_cases g : (3 : Int32) ≤ lx7
    · rw [if_pos g]
      have g := q_leI g
      obtain rfl : k = 3 := by omega
      show yPa lx8 lx9 (l ++ [])
      rw [List.append_nil]
      exact h4
    · rw [if_neg g]
      have g := q_nleI g
      obtain ⟨c1, c2, c3⟩ := y_cw26 h1 (by omega)
      have pa := V_paP (N := N) (K := K) h4 (by omega) c1 c2
      revert pa
      generalize F_She_add_p 11008 N K (F_jStr_charAt_26 lx7) lx8 lx9 = p
      intro pa
      unfold F_She_addText_26_c16
      have r := ih (lx7 + 1) p.1 p.2 (k + 1) _ (q_addI h1 e1 (by omega) (by omega)) (by omega) (by omega) pa (by rw [List.length_append, List.length_singleton]; omega)
      rw [c3]
      rw [List.append_assoc] at r
      exact r
theorem V_at26 {R : Int32} {N : Int32} {K : Int32} {t0_0 : Int32} {t1_0 : (Nat → Int64)} {l : List Nat} (hR : R = 11008) (h : yPa t0_0 t1_0 l) (hl : l.length < 1800000000) : yPa (F_She_addText_26 R N K t0_0 t1_0).1 (F_She_addText_26 R N K t0_0 t1_0).2 (l ++ yW26) := by
  unfold F_She_addText_26
  exact V_at26L hR ((3 - (0 : Int32).toInt).toNat + 1) 0 t0_0 t1_0 0 l rfl (by omega) (by decide) h (by omega)
def yW27 : List Nat := [48, 120, 49, 46]
theorem y_cw27 {x : Int32} {k : Nat} (h : x.toInt = (k : Int)) (hk : k < 4) : (F_jStr_charAt_27 x).toInt = ((yW27.getD k 0 : Nat) : Int) ∧ yW27.getD k 0 < 256 ∧ yW27.drop k = yW27.getD k 0 :: yW27.drop (k + 1) := by
  have xc : x.toNatClampNeg = k := by
    have := q_clI h (by omega)
    omega
  unfold F_jStr_charAt_27 F_jLat_charAt_27
  rw [xc]
  have key : ∀ k : Nat, k < 4 → (((((([48, 120, 49, 46] : List Int32).getD k 0) : Int32) &&& 255 : Int32).toUInt32 % 65536).toInt32 : Int32).toInt = ((yW27.getD k 0 : Nat) : Int) ∧ yW27.getD k 0 < 256 ∧ yW27.drop k = yW27.getD k 0 :: yW27.drop (k + 1) := by decide +kernel
  exact key k hk
theorem V_at27L {R : Int32} {N : Int32} {K : Int32} {t0_0 : Int32} {t1_0 : (Nat → Int64)} (hR : R = 11008) : ∀ (n : Nat) (lx7 : Int32) (lx8 : Int32) (lx9 : (Nat → Int64)), ∀ (k : Nat) (l : List Nat), lx7.toInt = (k : Int) → k ≤ 4 → 4 < n + k → yPa lx8 lx9 l → l.length + (4 - k) < 1900000000 → yPa (F_She_addText_27_L2 R N K t0_0 t1_0 n lx7 lx8 lx9).1 (F_She_addText_27_L2 R N K t0_0 t1_0 n lx7 lx8 lx9).2 (l ++ yW27.drop k) := by
  subst hR
  have e1 : (1 : Int32).toInt = 1 := rfl
  have eN : (4 : Int32).toInt = 4 := rfl
  intro n
  induction n with
  | zero =>
    intro lx7 lx8 lx9 k l h1 h2 h3
    omega
  | succ n ih =>
    intro lx7 lx8 lx9 k l h1 h2 h3 h4 h5
    rw [F_She_addText_27_L2.eq_2]
    by_cases g : (4 : Int32) ≤ lx7
    · rw [if_pos g]
      have g := q_leI g
      obtain rfl : k = 4 := by omega
      show yPa lx8 lx9 (l ++ [])
      rw [List.append_nil]
      exact h4
    · rw [if_neg g]
      have g := q_nleI g
      obtain ⟨c1, c2, c3⟩ := y_cw27 h1 (by omega)
      have pa := V_paP (N := N) (K := K) h4 (by omega) c1 c2
      revert pa
      generalize F_She_add_p 11008 N K (F_jStr_charAt_27 lx7) lx8 lx9 = p
      intro pa
      unfold F_She_addText_27_c16
      have r := ih (lx7 + 1) p.1 p.2 (k + 1) _ (q_addI h1 e1 (by omega) (by omega)) (by omega) (by omega) pa (by rw [List.length_append, List.length_singleton]; omega)
      rw [c3]
      rw [List.append_assoc] at r
      exact r
theorem V_at27 {R : Int32} {N : Int32} {K : Int32} {t0_0 : Int32} {t1_0 : (Nat → Int64)} {l : List Nat} (hR : R = 11008) (h : yPa t0_0 t1_0 l) (hl : l.length < 1800000000) : yPa (F_She_addText_27 R N K t0_0 t1_0).1 (F_She_addText_27 R N K t0_0 t1_0).2 (l ++ yW27) := by
  unfold F_She_addText_27
  exact V_at27L hR ((4 - (0 : Int32).toInt).toNat + 1) 0 t0_0 t1_0 0 l rfl (by omega) (by decide) h (by omega)
def yW28 : List Nat := [48, 120, 48, 46]
theorem y_cw28 {x : Int32} {k : Nat} (h : x.toInt = (k : Int)) (hk : k < 4) : (F_jStr_charAt_28 x).toInt = ((yW28.getD k 0 : Nat) : Int) ∧ yW28.getD k 0 < 256 ∧ yW28.drop k = yW28.getD k 0 :: yW28.drop (k + 1) := by
  have xc : x.toNatClampNeg = k := by
    have := q_clI h (by omega)
    omega
  unfold F_jStr_charAt_28 F_jLat_charAt_28
  rw [xc]
  have key : ∀ k : Nat, k < 4 → (((((([48, 120, 48, 46] : List Int32).getD k 0) : Int32) &&& 255 : Int32).toUInt32 % 65536).toInt32 : Int32).toInt = ((yW28.getD k 0 : Nat) : Int) ∧ yW28.getD k 0 < 256 ∧ yW28.drop k = yW28.getD k 0 :: yW28.drop (k + 1) := by decide +kernel
  exact key k hk
theorem V_at28L {R : Int32} {N : Int32} {K : Int32} {t0_0 : Int32} {t1_0 : (Nat → Int64)} (hR : R = 11008) : ∀ (n : Nat) (lx7 : Int32) (lx8 : Int32) (lx9 : (Nat → Int64)), ∀ (k : Nat) (l : List Nat), lx7.toInt = (k : Int) → k ≤ 4 → 4 < n + k → yPa lx8 lx9 l → l.length + (4 - k) < 1900000000 → yPa (F_She_addText_28_L2 R N K t0_0 t1_0 n lx7 lx8 lx9).1 (F_She_addText_28_L2 R N K t0_0 t1_0 n lx7 lx8 lx9).2 (l ++ yW28.drop k) := by
  subst hR
  have e1 : (1 : Int32).toInt = 1 := rfl
  have eN : (4 : Int32).toInt = 4 := rfl
  intro n
  induction n with
  | zero =>
    intro lx7 lx8 lx9 k l h1 h2 h3
    omega
  | succ n ih =>
    intro lx7 lx8 lx9 k l h1 h2 h3 h4 h5
    rw [F_She_addText_28_L2.eq_2]
    by_cases g : (4 : Int32) ≤ lx7
    · rw [if_pos g]
      have g := q_leI g
      obtain rfl : k = 4 := by omega
      show yPa lx8 lx9 (l ++ [])
      rw [List.append_nil]
      exact h4
    · rw [if_neg g]
      have g := q_nleI g
      obtain ⟨c1, c2, c3⟩ := y_cw28 h1 (by omega)
      have pa := V_paP (N := N) (K := K) h4 (by omega) c1 c2
      revert pa
      generalize F_She_add_p 11008 N K (F_jStr_charAt_28 lx7) lx8 lx9 = p
      intro pa
      unfold F_She_addText_28_c16
      have r := ih (lx7 + 1) p.1 p.2 (k + 1) _ (q_addI h1 e1 (by omega) (by omega)) (by omega) (by omega) pa (by rw [List.length_append, List.length_singleton]; omega)
      rw [c3]
      rw [List.append_assoc] at r
      exact r
theorem V_at28 {R : Int32} {N : Int32} {K : Int32} {t0_0 : Int32} {t1_0 : (Nat → Int64)} {l : List Nat} (hR : R = 11008) (h : yPa t0_0 t1_0 l) (hl : l.length < 1800000000) : yPa (F_She_addText_28 R N K t0_0 t1_0).1 (F_She_addText_28 R N K t0_0 t1_0).2 (l ++ yW28) := by
  unfold F_She_addText_28
  exact V_at28L hR ((4 - (0 : Int32).toInt).toNat + 1) 0 t0_0 t1_0 0 l rfl (by omega) (by decide) h (by omega)
