/-! values: a whole written -/
theorem v_at2 {x : Int64} {t0 : Int32} {t1 : Nat → Int64} : S_She_at 11008 1376 1000000 x t0 t1 := by
  unfold S_She_at
  split
  · trivial
  · rename_i h1
    split
    · trivial
    · split
      · rename_i h3
        have h1' := q_k2 h1
        have h3' := q_k1 h3
        have e0 : (0 : Int64).toInt = 0 := rfl
        have e4 : (11008 : Int32).toInt64.toInt = 11008 := rfl
        have e5 : (1376 : Int32).toInt = 1376 := rfl
        have l := s_l2i (x := x) (by omega) (by omega)
        have s := s_shr (x := x.toInt32) (c := 3) 3 (by decide) (by decide) (by omega)
        rw [s, l]
        exact ⟨by omega, by omega, trivial⟩
      · trivial
theorem v_rep2 {x y t0 : Int32} {t1 : Nat → Int64} : S_She_replace 11008 1376 1000000 x y t0 t1 := by
  unfold S_She_replace
  split
  · trivial
  · split
    · trivial
    · exact ⟨⟨trivial, v_at2⟩, trivial⟩
theorem e_M : (1000000 : Int32).toInt = 1000000 := rfl
theorem v_add2S {x t0 : Int32} {t1 : Nat → Int64} (h0 : 0 ≤ t0.toInt) (h : t0.toInt < 1000000) : S_She_add 11008 1376 1000000 x t0 t1 ∧ (F_She_add 11008 1376 1000000 x t0 t1).1.toInt = t0.toInt + 1 := by
  have e := e_M
  have q : (t0 + 1 : Int32).toInt = t0.toInt + 1 := q_addI rfl v_e1 (by omega) (by omega)
  unfold S_She_add F_She_add
  split
  · exact ⟨⟨by omega, trivial⟩, q⟩
  · exact ⟨⟨by omega, trivial⟩, q⟩
theorem v_turnL {x2 sz : Int32} {t1 : Nat → Int64} : ∀ (n : Nat) (hi lo : Int32) (f : Nat → Int64), hi.toInt - lo.toInt < (n : Int) → 0 < n → 0 ≤ lo.toInt → hi.toInt ≤ 1000000 → S_She_turn_L9 11008 1376 1000000 x2 sz t1 n hi lo f := by
  intro n
  induction n with
  | zero => intros; omega
  | succ n ih =>
    intro hi lo f h1 h2 h3 h4
    rw [S_She_turn_L9.eq_2]
    split
    · trivial
    · rename_i g
      have g' := q_nleI g
      have e1 : (hi + (-1) : Int32).toInt = hi.toInt + (-1) := q_addI (b := -1) (y := -1) rfl (by decide) (by omega) (by omega)
      have e2 := v_sc (i := lo) (by omega) (by omega)
      obtain ⟨hi2, eh⟩ := q_nm (hi + (-1) : Int32)
      rw [eh] at e1 ⊢
      exact ⟨⟨trivial, v_at2⟩, ⟨trivial, v_at2⟩, ⟨trivial, v_rep2⟩, ⟨trivial, v_rep2⟩, ih _ _ _ (by omega) (by omega) (by omega) (by omega)⟩
theorem v_turn2 {x2 sz : Int32} {t1 : Nat → Int64} (h0 : 0 ≤ x2.toInt) (h1 : sz.toInt ≤ 1000000) (h2 : 0 ≤ sz.toInt) : S_She_turn 11008 1376 1000000 x2 sz t1 := by
  unfold S_She_turn
  have q : (sz - 1 : Int32).toInt = sz.toInt - 1 := q_subI rfl v_e1 (by omega) (by omega)
  obtain ⟨s1, es⟩ := q_nm (sz - 1 : Int32)
  rw [es] at q ⊢
  exact v_turnL _ _ _ _ (by omega) (by omega) h0 (by omega)
theorem v_rem {a b : Int32} (ha : 0 ≤ a.toInt) (hb : 0 < b.toInt) : (a - a / b * b : Int32).toInt = a.toInt % b.toInt := by
  have q1 : (a / b : Int32).toInt = a.toInt / b.toInt := q_divI rfl rfl ha hb
  have la := Int32.toInt_lt a
  have h1 := Int.ediv_mul_le a.toInt (b := b.toInt) (by omega)
  have h2 : 0 ≤ a.toInt / b.toInt := Int.ediv_nonneg ha (by omega)
  have h3 : 0 ≤ a.toInt / b.toInt * b.toInt := Int.mul_nonneg h2 (by omega)
  have q2 : (a / b * b : Int32).toInt = a.toInt / b.toInt * b.toInt := q_mulI q1 rfl (by omega) (by omega)
  rw [q_subI rfl q2 (by omega) (by omega)]
  have h4 := Int.emod_def a.toInt b.toInt
  rw [Int.mul_comm] at h4
  omega
/-- the figures of a part -/
theorem v_wt106 {K1 : Int32 → Int32 → Prop} {K2 : Int32 → Int32 → Int32 → (Nat → Int32) → Int32 → (Nat → Int64) → Prop} {R x3 t0_0 t2_0 t2_1 t4_0 t4_1 y27 lx45 lx46 lx93 lx94 lx95 lx97 y185 y186 : Int32} {t1_0 f28 lx98 : Nat → Int64} {t3_0 t5_0 lx96 f187 : Nat → Int32} {p34 : Int32 × (Nat → Int64)} {p82 : Int32 × Int32 × (Nat → Int32)} {p195 : Int32 × Int32 × Int32 × (Nat → Int32)} {Z : Int} (hx : 2 ≤ x3.toInt) (hx2 : x3.toInt ≤ 36) (h46 : lx46.toInt ≤ 31) (hZ : Z ≤ 900000) (hK : ∀ (s : Int32) (f : Nat → Int64), 0 ≤ s.toInt → s.toInt ≤ Z + 31 → K2 (lx93 + 1) y185 y186 f187 s f) :
    ∀ (n : Nat) (k part sz : Int32) (f : Nat → Int64), 31 - k.toInt < (n : Int) → 0 < n → 0 ≤ k.toInt → k.toInt ≤ 31 → 0 ≤ part.toInt → 0 ≤ sz.toInt → sz.toInt ≤ Z + k.toInt → S_Wri_wholeText_L106 K1 K2 R x3 t0_0 t1_0 t2_0 t2_1 t3_0 t4_0 t4_1 t5_0 p34 y27 f28 lx45 lx46 p82 lx93 lx94 lx95 lx96 lx97 lx98 p195 y185 y186 f187 n k part sz f := by
  intro n
  induction n with
  | zero => intros; omega
  | succ n ih =>
    intro k part sz f h1 h2 h3 h4 h5 h6 h7
    rw [S_Wri_wholeText_L106.eq_2]
    have step : k.toInt < lx46.toInt → S_Wri_wholeText_J131 K1 K2 (S_Wri_wholeText_L106 K1 K2 R x3 t0_0 t1_0 t2_0 t2_1 t3_0 t4_0 t4_1 t5_0 p34 y27 f28 lx45 lx46 p82 lx93 lx94 lx95 lx96 lx97 lx98 p195 y185 y186 f187 n) R x3 t0_0 t1_0 t2_0 t2_1 t3_0 t4_0 t4_1 t5_0 p34 y27 f28 lx45 lx46 p82 lx93 lx94 lx95 lx96 lx97 lx98 p195 y185 y186 f187 k part sz f := by
      intro g
      unfold S_Wri_wholeText_J131
      have r := v_rem (a := part) (b := x3) h5 (by omega)
      have r1 := Int.emod_nonneg part.toInt (b := x3.toInt) (by omega)
      have r2 := Int.emod_lt_of_pos part.toInt (b := x3.toInt) (by omega)
      have ad := v_add2S (x := F_jStr_charAt_22 (part - part / x3 * x3)) (t0 := sz) (t1 := f) h6 (by omega)
      refine ⟨by omega, by omega, by omega, ⟨trivial, ad.1⟩, ?_⟩
      unfold S_Wri_wholeText_c144
      have ek := v_sc (i := k) (by omega) (by omega)
      have qd : (part / x3 : Int32).toInt = part.toInt / x3.toInt := q_divI rfl rfl h5 (by omega)
      have qd2 := Int.ediv_nonneg h5 (by omega : 0 ≤ x3.toInt)
      exact ih _ _ _ _ (by omega) (by omega) (by omega) (by omega) (by omega) (by omega) (by omega)
    by_cases g : lx46 ≤ k
    · rw [if_pos g]
      exact hK _ _ h6 (by omega)
    rw [if_neg g]
    have g' := q_nleI g
    split
    · exact step g'
    · split
      · exact hK _ _ h6 (by omega)
      · exact step g'
theorem v_wtJ {K1 : Int32 → Int32 → Prop} {K2 : Int32 → Int32 → Int32 → (Nat → Int32) → Int32 → (Nat → Int64) → Prop} {R x3 t0_0 t2_0 t2_1 t4_0 t4_1 y27 lx45 lx46 lx93 lx94 lx95 lx97 : Int32} {t1_0 f28 lx98 : Nat → Int64} {t3_0 t5_0 lx96 : Nat → Int32} {p34 : Int32 × (Nat → Int64)} {p82 : Int32 × Int32 × (Nat → Int32)} (hy : 0 ≤ y27.toInt) (h0 : 0 ≤ lx97.toInt) (h1 : lx97.toInt < 1000000) : S_Wri_wholeText_J165 K1 K2 R x3 t0_0 t1_0 t2_0 t2_1 t3_0 t4_0 t4_1 t5_0 p34 y27 f28 lx45 lx46 p82 lx93 lx94 lx95 lx96 lx97 lx98 := by
  unfold S_Wri_wholeText_J165
  split
  · have ad := v_add2S (x := 48) (t0 := lx97) (t1 := lx98) h0 h1
    refine ⟨⟨trivial, ad.1⟩, ?_⟩
    unfold S_Wri_wholeText_c182
    exact ⟨⟨trivial, v_turn2 hy (by omega) (by omega)⟩, trivial⟩
  · exact ⟨⟨trivial, v_turn2 hy (by omega) (by omega)⟩, trivial⟩
theorem v_wt68 {K1 : Int32 → Int32 → Prop} {R x3 t0_0 t2_0 t2_1 t4_0 t4_1 y27 lx45 lx46 : Int32} {t1_0 f28 : Nat → Int64} {t3_0 t5_0 : Nat → Int32} {p34 : Int32 × (Nat → Int64)} {p82 : Int32 × Int32 × (Nat → Int32)} (hx : 2 ≤ x3.toInt) (hx2 : x3.toInt ≤ 36) (h46 : lx46.toInt ≤ 31) (h45 : 1 ≤ lx45.toInt) (hy : 0 ≤ y27.toInt) :
    ∀ (n : Nat) (i s m : Int32) (f : Nat → Int32) (sz : Int32) (fz : Nat → Int64), 2100 - i.toInt < (n : Int) → 0 < n → 0 ≤ i.toInt → i.toInt ≤ 2100 → bJ 220 s m f → 0 ≤ sz.toInt → sz.toInt ≤ 1 + 31 * i.toInt → S_Wri_wholeText_L68 K1 R x3 t0_0 t1_0 t2_0 t2_1 t3_0 t4_0 t4_1 t5_0 p34 y27 f28 lx45 lx46 p82 n i s m f sz fz := by
  intro n
  induction n with
  | zero => intros; omega
  | succ n ih =>
    intro i s m f sz fz h1 h2 h3 h4 h5 h6 h7
    have e21 : (2100 : Int32).toInt = 2100 := rfl
    rw [S_Wri_wholeText_L68.eq_2]
    by_cases g : 2100 ≤ i
    · rw [if_pos g]
      exact v_wtJ hy h6 (by omega)
    rw [if_neg g]
    have g' := q_nleI g
    split
    · exact v_wtJ hy h6 (by omega)
    · obtain ⟨v, hv⟩ := h5
      obtain ⟨d1, w, d2, d3, d4, d5⟩ := W_divS (x := lx45) hv h45
      generalize F_Big_divideSmall 220 lx45 s m f = p195 at d1 d5 ⊢
      unfold S_Wri_wholeText_c98
      have d6 := Int.emod_nonneg (v.natAbs : Int) (b := lx45.toInt) (by omega)
      have ei := v_sc (i := i) (by omega) (by omega)
      refine v_wt106 (Z := 1 + 31 * i.toInt) hx hx2 h46 (by omega) (fun s2 f2 k1 k2 => ?_) _ _ _ _ _ (by decide) (by decide) (by decide) (by decide) (by omega) h6 (by rw [show (0 : Int32).toInt = 0 from rfl]; omega)
      exact ih _ _ _ _ _ _ (by omega) (by omega) (by omega) (by omega) ⟨w, d5⟩ k1 (by omega)
theorem v_wt22 {R x3 t0_0 t2_0 t2_1 t4_0 t4_1 y27 : Int32} {t1_0 f28 : Nat → Int64} {t3_0 t5_0 : Nat → Int32} {p34 : Int32 × (Nat → Int64)} (hb : bJ R t4_0 t4_1 t5_0) (hx : 2 ≤ x3.toInt) (hx2 : x3.toInt ≤ 36) (hy : 0 ≤ y27.toInt) (hy2 : y27.toInt ≤ 1) :
    ∀ (n : Nat) (c k : Int32), 31 - k.toInt < (n : Int) → 0 < n → 1 ≤ k.toInt → k.toInt ≤ 31 → 1 ≤ c.toInt → S_Wri_wholeText_L22 R x3 t0_0 t1_0 t2_0 t2_1 t3_0 t4_0 t4_1 t5_0 p34 y27 f28 n c k := by
  intro n
  induction n with
  | zero => intros; omega
  | succ n ih =>
    intro c k h1 h2 h3 h4 h5
    rw [S_Wri_wholeText_L22.eq_2]
    have e31 : (31 : Int32).toInt = 31 := rfl
    have eM : (2147483647 : Int64).toInt = 2147483647 := rfl
    have J : S_Wri_wholeText_J54 (S_Wri_wholeText_L22 R x3 t0_0 t1_0 t2_0 t2_1 t3_0 t4_0 t4_1 t5_0 p34 y27 f28 n) R x3 t0_0 t1_0 t2_0 t2_1 t3_0 t4_0 t4_1 t5_0 p34 y27 f28 c k := by
      unfold S_Wri_wholeText_J54 S_Wri_wholeText_c62
      obtain ⟨v, hv⟩ := hb
      exact v_wt68 hx hx2 h4 h5 hy _ _ _ _ _ _ _ (by decide) (by decide) (by decide) (by decide) ⟨v, W_copy hv hv.fit (by decide)⟩ hy (by rw [show (0 : Int32).toInt = 0 from rfl]; omega)
    by_cases g : 31 ≤ k
    · rw [if_pos g]
      exact J
    rw [if_neg g]
    have g' := q_nleI g
    by_cases g2 : 0 < lg_cmp (c.toInt64 * x3.toInt64) 2147483647
    · rw [if_pos g2]
      exact J
    rw [if_neg g2]
    have g3 := q_k4 g2
    have cl := Int32.toInt_lt c
    have m0 : 0 ≤ c.toInt * x3.toInt := Int.mul_nonneg (by omega) (by omega)
    have m1 : c.toInt * x3.toInt ≤ c.toInt * 36 := Int.mul_le_mul_of_nonneg_left hx2 (by omega)
    have m2 : c.toInt * 1 ≤ c.toInt * x3.toInt := Int.mul_le_mul_of_nonneg_left (by omega) (by omega)
    rw [q_mulL (q_i2l rfl) (q_i2l rfl) (by omega) (by omega), eM] at g3
    have q1 : (c * x3 : Int32).toInt = c.toInt * x3.toInt := q_mulI rfl rfl (by omega) (by omega)
    have ek := v_sc (i := k) (by omega) (by omega)
    exact ih _ _ (by omega) (by omega) (by omega) (by omega) (by omega)
theorem S_wholeText2 {R : Int32} {x3 : Int32} {t0_0 : Int32} {t1_0 : (Nat → Int64)} {t2_0 : Int32} {t2_1 : Int32} {t3_0 : (Nat → Int32)} {t4_0 : Int32} {t4_1 : Int32} {t5_0 : (Nat → Int32)} (hb : bJ R t4_0 t4_1 t5_0) (hx : 2 ≤ x3.toInt) (hx2 : x3.toInt ≤ 36) : (S_Wri_wholeText R x3 t0_0 t1_0 t2_0 t2_1 t3_0 t4_0 t4_1 t5_0) := by
  have eM := e_M
  unfold S_Wri_wholeText
  have h1 : S_Wri_begin t4_1 t0_0 t1_0 ∧ 0 ≤ (F_Wri_begin t4_1 t0_0 t1_0).1.toInt ∧ (F_Wri_begin t4_1 t0_0 t1_0).1.toInt ≤ 1 := by
    have ec : (F_She_clear 11008 1376 1000000 t0_0).toInt = 0 := rfl
    unfold S_Wri_begin F_Wri_begin
    split
    · exact ⟨trivial, by show 0 ≤ (F_She_clear 11008 1376 1000000 t0_0).toInt; omega, by show (F_She_clear 11008 1376 1000000 t0_0).toInt ≤ 1; omega⟩
    · have ad := v_add2S (x := 45) (t0 := F_She_clear 11008 1376 1000000 t0_0) (t1 := t1_0) (by omega) (by omega)
      refine ⟨⟨⟨trivial, ad.1⟩, trivial⟩, ?_, ?_⟩
      · show 0 ≤ (F_She_add 11008 1376 1000000 45 (F_She_clear 11008 1376 1000000 t0_0) t1_0).1.toInt
        omega
      · show (F_She_add 11008 1376 1000000 45 (F_She_clear 11008 1376 1000000 t0_0) t1_0).1.toInt ≤ 1
        omega
  refine ⟨⟨trivial, h1.1⟩, ?_⟩
  replace h1 := h1.2
  generalize F_Wri_begin t4_1 t0_0 t1_0 = p34 at h1 ⊢
  unfold S_Wri_wholeText_c5
  exact v_wt22 hb hx hx2 h1.1 h1.2 _ _ _ (by decide) (by decide) (by decide) (by decide) (by omega)
