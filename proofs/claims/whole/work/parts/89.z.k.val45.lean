/-! values: figures filled -/
theorem v_dt43 {K : Int32 → Prop} {x2 t0_0 t0_1 lx9 : Int32} {t1_0 : Nat → Int32} (hx : -100000 ≤ x2.toInt) (hx2 : x2.toInt ≤ 100000) (h9 : 0 ≤ lx9.toInt) (h92 : lx9.toInt ≤ 1026) : ∀ (n : Nat) (hi lo : Int32) (f : Nat → Int32), hi.toInt - lo.toInt < (n : Int) → 0 < n → 0 ≤ lo.toInt → hi.toInt ≤ 1026 → S_Dig_turn_L43 K x2 t0_0 t0_1 t1_0 lx9 n hi lo f := by
  intro n
  induction n with
  | zero => intros; omega
  | succ n ih =>
    intro hi lo f h1 h2 h3 h4
    rw [S_Dig_turn_L43.eq_2]
    split
    · split
      · trivial
      · have q1 : (lx9 - 1 : Int32).toInt = lx9.toInt - 1 := q_subI rfl v_e1 (by omega) (by omega)
        have q2 : (lx9 - 1 - x2 : Int32).toInt = lx9.toInt - 1 - x2.toInt := q_subI q1 rfl (by omega) (by omega)
        rw [q2]
        exact ⟨by omega, by omega, trivial⟩
    · rename_i g
      have g' := q_nleI g
      have e1 : (hi + (-1) : Int32).toInt = hi.toInt + (-1) := q_addI (b := -1) (y := -1) rfl (by decide) (by omega) (by omega)
      have e2 := v_sc (i := lo) (by omega) (by omega)
      obtain ⟨hi2, eh⟩ := q_nm (hi + (-1) : Int32)
      rw [eh] at e1 ⊢
      exact ih _ _ _ (by omega) (by omega) (by omega) (by omega)
theorem v_dt0 {x2 t0_0 t0_1 : Int32} {t1_0 : Nat → Int32} (hx : -100000 ≤ x2.toInt) (hx2 : x2.toInt ≤ 100000) : ∀ (n : Nat) (c : Int32), c.toInt < (n : Int) → 0 < n → 0 ≤ c.toInt → c.toInt ≤ 1026 → S_Dig_turn_L0 x2 t0_0 t0_1 t1_0 n c := by
  intro n
  induction n with
  | zero => intros; omega
  | succ n ih =>
    intro c h1 h2 h3 h4
    rw [S_Dig_turn_L0.eq_2]
    have q1 : (c - 1 : Int32).toInt = c.toInt - 1 := q_subI rfl v_e1 (by omega) (by omega)
    have J : S_Dig_turn_J34 (S_Dig_turn_L0 x2 t0_0 t0_1 t1_0 n) x2 t0_0 t0_1 t1_0 c := by
      unfold S_Dig_turn_J34
      obtain ⟨s1, es⟩ := q_nm (c - 1 : Int32)
      rw [es] at q1 ⊢
      exact v_dt43 hx hx2 h3 h4 _ _ _ _ (by rw [show (0 : Int32).toInt = 0 from rfl]; omega) (by omega) (by decide) (by omega)
    by_cases g : c ≤ 0
    · rw [if_pos g]
      exact J
    rw [if_neg g]
    have g' := q_nleI g
    have e0 : (0 : Int32).toInt = 0 := rfl
    split
    · obtain ⟨s1, es⟩ := q_nm (c - 1 : Int32)
      rw [es] at q1 ⊢
      exact ih _ (by omega) (by omega) (by omega) (by omega)
    · exact J
theorem v_dturn {x2 t0_0 t0_1 : Int32} {t1_0 : Nat → Int32} (hx : -100000 ≤ x2.toInt) (hx2 : x2.toInt ≤ 100000) (h3 : 0 ≤ t0_0.toInt) (h4 : t0_0.toInt ≤ 1026) : S_Dig_turn x2 t0_0 t0_1 t1_0 := by
  unfold S_Dig_turn
  exact v_dt0 hx hx2 _ _ (by omega) (by omega) h3 h4
theorem v_df31 {K : Int32 → Int32 → (Nat → Int32) → Int32 → Int32 → (Nat → Int32) → Prop} {R x3 t0_0 t0_1 t2_0 t2_1 lx20 lx21 lx23 lx24 y106 y107 : Int32} {t1_0 t3_0 lx22 lx25 f108 : Nat → Int32} {p116 : Int32 × Int32 × Int32 × (Nat → Int32)} {Z : Int} (hZ : Z + 9 ≤ 1026) (hZ0 : 0 ≤ Z) (hK : ∀ (c : Int32) (f : Nat → Int32), c.toInt = Z + 9 → K (lx20 + 1) c f y106 y107 f108) :
    ∀ (n : Nat) (i part c : Int32) (f : Nat → Int32), 9 - i.toInt < (n : Int) → 0 < n → 0 ≤ i.toInt → i.toInt ≤ 9 → c.toInt = Z + i.toInt → S_Dig_fill_L31 K R x3 t0_0 t0_1 t1_0 t2_0 t2_1 t3_0 lx20 lx21 lx22 lx23 lx24 lx25 p116 y106 y107 f108 n i part c f := by
  intro n
  induction n with
  | zero => intros; omega
  | succ n ih =>
    intro i part c f h1 h2 h3 h4 h5
    rw [S_Dig_fill_L31.eq_2]
    have e9 : (9 : Int32).toInt = 9 := rfl
    by_cases g : 9 ≤ i
    · rw [if_pos g]
      have := q_leI g
      exact hK _ _ (by omega)
    rw [if_neg g]
    have g' := q_nleI g
    have e1 := v_sc (i := i) (by omega) (by omega)
    have e2 := v_sc (i := c) (by omega) (by omega)
    exact ⟨by omega, ih _ _ _ _ (by omega) (by omega) (by omega) (by omega) (by omega)⟩
theorem v_df7 {R x3 t0_0 t0_1 t2_0 t2_1 : Int32} {t1_0 t3_0 : Nat → Int32} (hx : -100000 ≤ x3.toInt) (hx2 : x3.toInt ≤ 100000) :
    ∀ (n : Nat) (k c : Int32) (f : Nat → Int32) (s m : Int32) (g : Nat → Int32), 114 - k.toInt < (n : Int) → 0 < n → 0 ≤ k.toInt → k.toInt ≤ 114 → c.toInt = 9 * k.toInt → S_Dig_fill_L7 R x3 t0_0 t0_1 t1_0 t2_0 t2_1 t3_0 n k c f s m g := by
  intro n
  induction n with
  | zero => intros; omega
  | succ n ih =>
    intro k c f s m g h1 h2 h3 h4 h5
    rw [S_Dig_fill_L7.eq_2]
    have e114 : (114 : Int32).toInt = 114 := rfl
    by_cases w : 114 ≤ k
    · rw [if_pos w]
      exact ⟨⟨trivial, v_dturn hx hx2 (by omega) (by omega)⟩, trivial⟩
    rw [if_neg w]
    have w' := q_nleI w
    split
    · exact ⟨⟨trivial, v_dturn hx hx2 (by omega) (by omega)⟩, trivial⟩
    · unfold S_Dig_fill_c23
      have e1 := v_sc (i := k) (by omega) (by omega)
      refine v_df31 (Z := 9 * k.toInt) (by omega) (by omega) (fun c2 f2 h6 => ?_) _ _ _ _ _ (by decide) (by decide) (by decide) (by decide) (by rw [h5, show (0 : Int32).toInt = 0 from rfl]; omega)
      exact ih _ _ _ _ _ _ (by omega) (by omega) (by omega) (by omega) (by omega)
theorem S_fill {R : Int32} {x3 : Int32} {t0_0 : Int32} {t0_1 : Int32} {t1_0 : (Nat → Int32)} {t2_0 : Int32} {t2_1 : Int32} {t3_0 : (Nat → Int32)} (hx : -100000 ≤ x3.toInt) (hx2 : x3.toInt ≤ 100000) : (S_Dig_fill R x3 t0_0 t0_1 t1_0 t2_0 t2_1 t3_0) := by
  unfold S_Dig_fill
  exact v_df7 hx hx2 _ _ _ _ _ _ _ (by decide) (by decide) (by decide) (by decide) (by decide)
