/-! values, for whole: the class's powerModulo -/
theorem sInv_rng {a m x : Int} (h : sInv a m = some x) : 0 ≤ x ∧ x < m := by
  unfold sInv at h
  split at h
  · rename_i c
    have e := Option.some.inj h
    have := c.choose_spec
    rw [e] at this
    exact ⟨this.1, this.2.1⟩
  · exact absurd h (by intro h; cases h)
theorem sPM_0 {a e m : Int} (h : m ≤ 0) : (none : Option Int) = sPM a e m := by
  unfold sPM
  rw [if_pos h]
theorem sPM_p {a e m : Int} (h : 0 < m) (he : 0 ≤ e) : some ((a % m) ^ e.natAbs % m) = sPM a e m := by
  unfold sPM
  rw [if_neg (by omega), if_neg (by omega)]
theorem sPM_n {a e m : Int} (h : 0 < m) (he : e < 0) (hi : sInv a m = none) : (none : Option Int) = sPM a e m := by
  unfold sPM
  rw [if_neg (by omega), if_pos he, hi]
  rfl
theorem sPM_i {a e m x : Int} (h : 0 < m) (he : e < 0) (hi : sInv a m = some x) : some (x ^ e.natAbs % m) = sPM a e m := by
  unfold sPM
  rw [if_neg (by omega), if_pos he, hi]
  rfl
theorem cAn_n2 {vt : Int} {c s n : Int32} {f : Nat → Int32} (h : bO 68 s n f vt) (hc : c = 2) : cAn none vt c s n f := Or.inr ⟨Or.inl rfl, hc, h⟩
theorem v_ng0 {R s n : Int32} {f : Nat → Int32} {v : Int} (h : bO R s n f v) (g : n = 0) : 0 ≤ v := by
  rcases h.sgn with ⟨e, k⟩ | ⟨e, k⟩
  · exact k
  · rw [g] at e
    exact absurd e (by decide)
theorem v_ng1 {R s n : Int32} {f : Nat → Int32} {v : Int} (h : bO R s n f v) (g : ¬ n = 0) : v < 0 := by
  rcases h.sgn with ⟨e, k⟩ | ⟨e, k⟩
  · exact absurd e g
  · exact k
def QV_powerModulo (o : Option Int) (vt vm : Int) (p : Int32 × Int32 × Int32 × (Nat → Int32) × Int32 × Int32 × (Nat → Int32) × Int32 × Int32 × (Nat → Int32) × Int32 × Int32 × (Nat → Int32) × Int32 × Int32 × (Nat → Int32) × Int32 × Int32 × (Nat → Int32) × Int32 × Int32 × (Nat → Int32) × Int32 × Int32 × (Nat → Int32) × Int32 × Int32 × (Nat → Int32) × Int32 × Int32 × (Nat → Int32)) : Prop := cAn o vt p.1 p.2.2.2.2.2.2.2.2.2.2.2.2.2.2.2.2.2.2.2.2.2.2.2.2.2.2.2.2.1 p.2.2.2.2.2.2.2.2.2.2.2.2.2.2.2.2.2.2.2.2.2.2.2.2.2.2.2.2.2.1 p.2.2.2.2.2.2.2.2.2.2.2.2.2.2.2.2.2.2.2.2.2.2.2.2.2.2.2.2.2.2 ∧ bO 68 p.2.2.2.2.2.2.2.2.2.2.2.2.2.2.2.2.2.2.2.2.2.2.2.2.2.1 p.2.2.2.2.2.2.2.2.2.2.2.2.2.2.2.2.2.2.2.2.2.2.2.2.2.2.1 p.2.2.2.2.2.2.2.2.2.2.2.2.2.2.2.2.2.2.2.2.2.2.2.2.2.2.2.1 vm
theorem V_powerModulo {x2 : Int32} {x3 : Int32} {x4 : Int32} {x5 : Int32} {t0_0 : Int32} {t0_1 : Int32} {t1_0 : (Nat → Int32)} {t2_0 : Int32} {t2_1 : Int32} {t3_0 : (Nat → Int32)} {t4_0 : Int32} {t4_1 : Int32} {t5_0 : (Nat → Int32)} {t6_0 : Int32} {t6_1 : Int32} {t7_0 : (Nat → Int32)} {t8_0 : Int32} {t8_1 : Int32} {t9_0 : (Nat → Int32)} {t10_0 : Int32} {t10_1 : Int32} {t11_0 : (Nat → Int32)} {t12_0 : Int32} {t12_1 : Int32} {t13_0 : (Nat → Int32)} {t14_0 : Int32} {t14_1 : Int32} {t15_0 : (Nat → Int32)} {t16_0 : Int32} {t16_1 : Int32} {t17_0 : (Nat → Int32)} {t18_0 : Int32} {t18_1 : Int32} {t19_0 : (Nat → Int32)} {t20_0 : Int32} {t20_1 : Int32} {t21_0 : (Nat → Int32)} {t22_0 : Int32} {t22_1 : Int32} {t23_0 : (Nat → Int32)} {va ve vm vt : Int} (ha : bO 68 t16_0 t16_1 t17_0 va) (hA : bB 67 va) (he : bO 68 t18_0 t18_1 t19_0 ve) (hm : bO 68 t20_0 t20_1 t21_0 vm) (hM : bB 67 vm) (hw : bO 68 t22_0 t22_1 t23_0 vt) (hr2 : ¬ F_NH_isRegister x2 = 0) (hr3 : ¬ F_NH_isRegister x3 = 0) (hr4 : ¬ F_NH_isRegister x4 = 0) (hr5 : ¬ F_NH_isRegister x5 = 0) : QV_powerModulo (sPM va ve vm) vt vm (F_NH_powerModulo x2 x3 x4 x5 t0_0 t0_1 t1_0 t2_0 t2_1 t3_0 t4_0 t4_1 t5_0 t6_0 t6_1 t7_0 t8_0 t8_1 t9_0 t10_0 t10_1 t11_0 t12_0 t12_1 t13_0 t14_0 t14_1 t15_0 t16_0 t16_1 t17_0 t18_0 t18_1 t19_0 t20_0 t20_1 t21_0 t22_0 t22_1 t23_0) := by
  have e0 : (0 : Int32).toInt = 0 := rfl
  have e220 : (220 : Int32).toInt = 220 := rfl
  have e68 : (68 : Int32).toInt = 68 := rfl
  have sm : t20_0.toInt ≤ 68 := hm.2.2.2.1
  unfold F_NH_powerModulo
  rw [if_neg hr2]
  rw [if_neg hr3]
  rw [if_neg hr4]
  rw [if_neg hr5]
  unfold F_NH_powerModulo_J34
  have g1 : ((F_NH_need (1 : Int32)) = (0 : Int32)) := (by decide)
  rw [if_pos g1]
  by_cases g2 : ((F_Big_sign (68 : Int32) t20_0 t20_1) : Int32) ≤ (0 : Int32)
  ·
    rw [if_pos g2]
    have hvs := v_sgnP0 hm g2
    unfold F_NH_powerModulo_J54
    have g3 : ¬ ((F_NH_canHave (0 : Int32)) = (0 : Int32)) := (by decide)
    rw [if_neg g3]
    (unfold QV_powerModulo; dsimp only; first | exact ⟨cAn_o (cAn_z hkw (by with_reducible assumption)) (sPM_p hvs hes), hm3⟩ | exact ⟨cAn_o hkw (sPM_p hvs hes), hm3⟩ | exact ⟨cAn_o (cAn_z hkw (by with_reducible assumption)) (sPM_i hvs hes hiv), hm3⟩ | exact ⟨cAn_o hkw (sPM_i hvs hes hiv), hm3⟩ | exact ⟨cAn_o (cAn_n hw) (sPM_0 hvs), hm3⟩ | exact ⟨cAn_o (cAn_n2 hw hcc) (sPM_0 hvs), hm3⟩ | exact ⟨cAn_o (cAn_n hw) (sPM_n hvs hes hiv), hm3⟩ | exact ⟨cAn_o (cAn_n2 hw hcc) (sPM_n hvs hes hiv), hm3⟩ | exact ⟨cAn_o (cAn_z hkw (by with_reducible assumption)) (sPM_p hvs hes), hm2⟩ | exact ⟨cAn_o hkw (sPM_p hvs hes), hm2⟩ | exact ⟨cAn_o (cAn_z hkw (by with_reducible assumption)) (sPM_i hvs hes hiv), hm2⟩ | exact ⟨cAn_o hkw (sPM_i hvs hes hiv), hm2⟩ | exact ⟨cAn_o (cAn_n hw) (sPM_0 hvs), hm2⟩ | exact ⟨cAn_o (cAn_n2 hw hcc) (sPM_0 hvs), hm2⟩ | exact ⟨cAn_o (cAn_n hw) (sPM_n hvs hes hiv), hm2⟩ | exact ⟨cAn_o (cAn_n2 hw hcc) (sPM_n hvs hes hiv), hm2⟩ | exact ⟨cAn_o (cAn_z hkw (by with_reducible assumption)) (sPM_p hvs hes), hm⟩ | exact ⟨cAn_o hkw (sPM_p hvs hes), hm⟩ | exact ⟨cAn_o (cAn_z hkw (by with_reducible assumption)) (sPM_i hvs hes hiv), hm⟩ | exact ⟨cAn_o hkw (sPM_i hvs hes hiv), hm⟩ | exact ⟨cAn_o (cAn_n hw) (sPM_0 hvs), hm⟩ | exact ⟨cAn_o (cAn_n2 hw hcc) (sPM_0 hvs), hm⟩ | exact ⟨cAn_o (cAn_n hw) (sPM_n hvs hes hiv), hm⟩ | exact ⟨cAn_o (cAn_n2 hw hcc) (sPM_n hvs hes hiv), hm⟩)
  ·
    rw [if_neg g2]
    have hvs := v_sgnP hm g2
    unfold F_NH_powerModulo_J54
    have g4 : ((F_NH_canHave (1 : Int32)) = (0 : Int32)) := (by decide)
    rw [if_pos g4]
    by_cases g5 : t18_1 = (0 : Int32)
    ·
      rw [if_pos g5]
      have hes := v_ng0 he g5
      have h6 := T_modulo (R := (68 : Int32)) (R2 := (68 : Int32)) (R3 := (220 : Int32)) (t0_0 := t2_0) (t0_1 := t2_1) (t1_0 := t3_0) (t2_0 := t16_0) (t2_1 := t16_1) (t3_0 := t17_0) (t4_0 := t20_0) (t4_1 := t20_1) (t5_0 := t21_0) (t6_0 := t0_0) (t6_1 := t0_1) (t7_0 := t1_0) ha hm (by omega) hA (by decide) (by omega) (by decide)
      replace h6 := h6.2
      generalize F_Mil_modulo (68 : Int32) (68 : Int32) (220 : Int32) t2_0 t2_1 t3_0 t16_0 t16_1 t17_0 t20_0 t20_1 t21_0 t0_0 t0_1 t1_0 = p253 at h6 ⊢
      have hn := h6.2.2
      have hnB := v_modB (va := va) hvs hM
      rw [v_modE hvs] at hn hnB
      have hn0 : 0 ≤ va % vm := Int.emod_nonneg _ (by omega)
      have hm2 := h6.2.1
      unfold F_NH_powerModulo_c117
      have h7 := V_powerBelow (R := (68 : Int32)) (R2 := (68 : Int32)) (t0_0 := (p253.2.2.2.2.2.2.1 : Int32)) (t0_1 := (p253.2.2.2.2.2.2.2.1 : Int32)) (t1_0 := (p253.2.2.2.2.2.2.2.2 : (Nat → Int32))) (t2_0 := (p253.1 : Int32)) (t2_1 := (p253.2.1 : Int32)) (t3_0 := (p253.2.2.1 : (Nat → Int32))) (t4_0 := t4_0) (t4_1 := t4_1) (t5_0 := t5_0) (t6_0 := t6_0) (t6_1 := t6_1) (t7_0 := t7_0) (t8_0 := t18_0) (t8_1 := t18_1) (t9_0 := t19_0) (t10_0 := (p253.2.2.2.1 : Int32)) (t10_1 := (p253.2.2.2.2.1 : Int32)) (t11_0 := (p253.2.2.2.2.2.1 : (Nat → Int32))) hn hn0 hm2 he hvs hnB hM (by decide)
      replace h7 := h7.2
      generalize F_Mil_powerBelow (68 : Int32) (68 : Int32) (p253.2.2.2.2.2.2.1 : Int32) (p253.2.2.2.2.2.2.2.1 : Int32) (p253.2.2.2.2.2.2.2.2 : (Nat → Int32)) (p253.1 : Int32) (p253.2.1 : Int32) (p253.2.2.1 : (Nat → Int32)) t4_0 t4_1 t5_0 t6_0 t6_1 t7_0 t18_0 t18_1 t19_0 (p253.2.2.2.1 : Int32) (p253.2.2.2.2.1 : Int32) (p253.2.2.2.2.2.1 : (Nat → Int32)) = p324 at h7 ⊢
      have hn := h7.1
      have hm3 := h7.2.2.2.2
      unfold F_NH_powerModulo_c136
      have h8 := V_keepWhole (x2 := x5) (t0_0 := (p324.1 : Int32)) (t0_1 := (p324.2.1 : Int32)) (t1_0 := (p324.2.2.1 : (Nat → Int32))) (t2_0 := t22_0) (t2_1 := t22_1) (t3_0 := t23_0) hn (by first | exact hw3 | exact hw2 | exact hw)
      generalize F_NH_keepWhole x5 (p324.1 : Int32) (p324.2.1 : Int32) (p324.2.2.1 : (Nat → Int32)) t22_0 t22_1 t23_0 = p359 at h8 ⊢
      have hkw := h8
      unfold F_NH_powerModulo_c142
      by_cases g9 : p359.1 = (0 : Int32)
      ·
        rw [if_pos g9]
        have g9i : p359.1.toInt = 0 := q_eqI g9
        (unfold QV_powerModulo; dsimp only; first | exact ⟨cAn_o (cAn_z hkw (by with_reducible assumption)) (sPM_p hvs hes), hm3⟩ | exact ⟨cAn_o hkw (sPM_p hvs hes), hm3⟩ | exact ⟨cAn_o (cAn_z hkw (by with_reducible assumption)) (sPM_i hvs hes hiv), hm3⟩ | exact ⟨cAn_o hkw (sPM_i hvs hes hiv), hm3⟩ | exact ⟨cAn_o (cAn_n hw) (sPM_0 hvs), hm3⟩ | exact ⟨cAn_o (cAn_n2 hw hcc) (sPM_0 hvs), hm3⟩ | exact ⟨cAn_o (cAn_n hw) (sPM_n hvs hes hiv), hm3⟩ | exact ⟨cAn_o (cAn_n2 hw hcc) (sPM_n hvs hes hiv), hm3⟩ | exact ⟨cAn_o (cAn_z hkw (by with_reducible assumption)) (sPM_p hvs hes), hm2⟩ | exact ⟨cAn_o hkw (sPM_p hvs hes), hm2⟩ | exact ⟨cAn_o (cAn_z hkw (by with_reducible assumption)) (sPM_i hvs hes hiv), hm2⟩ | exact ⟨cAn_o hkw (sPM_i hvs hes hiv), hm2⟩ | exact ⟨cAn_o (cAn_n hw) (sPM_0 hvs), hm2⟩ | exact ⟨cAn_o (cAn_n2 hw hcc) (sPM_0 hvs), hm2⟩ | exact ⟨cAn_o (cAn_n hw) (sPM_n hvs hes hiv), hm2⟩ | exact ⟨cAn_o (cAn_n2 hw hcc) (sPM_n hvs hes hiv), hm2⟩ | exact ⟨cAn_o (cAn_z hkw (by with_reducible assumption)) (sPM_p hvs hes), hm⟩ | exact ⟨cAn_o hkw (sPM_p hvs hes), hm⟩ | exact ⟨cAn_o (cAn_z hkw (by with_reducible assumption)) (sPM_i hvs hes hiv), hm⟩ | exact ⟨cAn_o hkw (sPM_i hvs hes hiv), hm⟩ | exact ⟨cAn_o (cAn_n hw) (sPM_0 hvs), hm⟩ | exact ⟨cAn_o (cAn_n2 hw hcc) (sPM_0 hvs), hm⟩ | exact ⟨cAn_o (cAn_n hw) (sPM_n hvs hes hiv), hm⟩ | exact ⟨cAn_o (cAn_n2 hw hcc) (sPM_n hvs hes hiv), hm⟩)
      ·
        rw [if_neg g9]
        have g9i : p359.1.toInt ≠ 0 := q_neI g9
        (unfold QV_powerModulo; dsimp only; first | exact ⟨cAn_o (cAn_z hkw (by with_reducible assumption)) (sPM_p hvs hes), hm3⟩ | exact ⟨cAn_o hkw (sPM_p hvs hes), hm3⟩ | exact ⟨cAn_o (cAn_z hkw (by with_reducible assumption)) (sPM_i hvs hes hiv), hm3⟩ | exact ⟨cAn_o hkw (sPM_i hvs hes hiv), hm3⟩ | exact ⟨cAn_o (cAn_n hw) (sPM_0 hvs), hm3⟩ | exact ⟨cAn_o (cAn_n2 hw hcc) (sPM_0 hvs), hm3⟩ | exact ⟨cAn_o (cAn_n hw) (sPM_n hvs hes hiv), hm3⟩ | exact ⟨cAn_o (cAn_n2 hw hcc) (sPM_n hvs hes hiv), hm3⟩ | exact ⟨cAn_o (cAn_z hkw (by with_reducible assumption)) (sPM_p hvs hes), hm2⟩ | exact ⟨cAn_o hkw (sPM_p hvs hes), hm2⟩ | exact ⟨cAn_o (cAn_z hkw (by with_reducible assumption)) (sPM_i hvs hes hiv), hm2⟩ | exact ⟨cAn_o hkw (sPM_i hvs hes hiv), hm2⟩ | exact ⟨cAn_o (cAn_n hw) (sPM_0 hvs), hm2⟩ | exact ⟨cAn_o (cAn_n2 hw hcc) (sPM_0 hvs), hm2⟩ | exact ⟨cAn_o (cAn_n hw) (sPM_n hvs hes hiv), hm2⟩ | exact ⟨cAn_o (cAn_n2 hw hcc) (sPM_n hvs hes hiv), hm2⟩ | exact ⟨cAn_o (cAn_z hkw (by with_reducible assumption)) (sPM_p hvs hes), hm⟩ | exact ⟨cAn_o hkw (sPM_p hvs hes), hm⟩ | exact ⟨cAn_o (cAn_z hkw (by with_reducible assumption)) (sPM_i hvs hes hiv), hm⟩ | exact ⟨cAn_o hkw (sPM_i hvs hes hiv), hm⟩ | exact ⟨cAn_o (cAn_n hw) (sPM_0 hvs), hm⟩ | exact ⟨cAn_o (cAn_n2 hw hcc) (sPM_0 hvs), hm⟩ | exact ⟨cAn_o (cAn_n hw) (sPM_n hvs hes hiv), hm⟩ | exact ⟨cAn_o (cAn_n2 hw hcc) (sPM_n hvs hes hiv), hm⟩)
    ·
      rw [if_neg g5]
      have hes := v_ng1 he g5
      have h10 := V_inverseO (R := (68 : Int32)) (R2 := (68 : Int32)) (t0_0 := t0_0) (t0_1 := t0_1) (t1_0 := t1_0) (t2_0 := t2_0) (t2_1 := t2_1) (t3_0 := t3_0) (t4_0 := t6_0) (t4_1 := t6_1) (t5_0 := t7_0) (t6_0 := t8_0) (t6_1 := t8_1) (t7_0 := t9_0) (t8_0 := t10_0) (t8_1 := t10_1) (t9_0 := t11_0) (t10_0 := t12_0) (t10_1 := t12_1) (t11_0 := t13_0) (t12_0 := t14_0) (t12_1 := t14_1) (t13_0 := t15_0) (t14_0 := t16_0) (t14_1 := t16_1) (t15_0 := t17_0) (t16_0 := t20_0) (t16_1 := t20_1) (t17_0 := t21_0) ha hm hvs hA hM (by decide)
      generalize F_Mil_inverse (68 : Int32) (68 : Int32) t0_0 t0_1 t1_0 t2_0 t2_1 t3_0 t6_0 t6_1 t7_0 t8_0 t8_1 t9_0 t10_0 t10_1 t11_0 t12_0 t12_1 t13_0 t14_0 t14_1 t15_0 t16_0 t16_1 t17_0 t20_0 t20_1 t21_0 = p486 at h10 ⊢
      unfold F_NH_powerModulo_c85
      rcases h10 with ⟨h100, h101, h102⟩ | ⟨xv, h100, h101, h10n, h102⟩
      ·
        have hm2 := h102
        have hiv := h100
        have hcc : F_NH_canHave p486.1 = 2 := by rw [h101]; decide
        have g11 : ¬ ((F_NH_canHave (p486.1 : Int32)) = (0 : Int32)) := (by rw [h101]; decide)
        rw [if_neg g11]
        (unfold QV_powerModulo; dsimp only; first | exact ⟨cAn_o (cAn_z hkw (by with_reducible assumption)) (sPM_p hvs hes), hm3⟩ | exact ⟨cAn_o hkw (sPM_p hvs hes), hm3⟩ | exact ⟨cAn_o (cAn_z hkw (by with_reducible assumption)) (sPM_i hvs hes hiv), hm3⟩ | exact ⟨cAn_o hkw (sPM_i hvs hes hiv), hm3⟩ | exact ⟨cAn_o (cAn_n hw) (sPM_0 hvs), hm3⟩ | exact ⟨cAn_o (cAn_n2 hw hcc) (sPM_0 hvs), hm3⟩ | exact ⟨cAn_o (cAn_n hw) (sPM_n hvs hes hiv), hm3⟩ | exact ⟨cAn_o (cAn_n2 hw hcc) (sPM_n hvs hes hiv), hm3⟩ | exact ⟨cAn_o (cAn_z hkw (by with_reducible assumption)) (sPM_p hvs hes), hm2⟩ | exact ⟨cAn_o hkw (sPM_p hvs hes), hm2⟩ | exact ⟨cAn_o (cAn_z hkw (by with_reducible assumption)) (sPM_i hvs hes hiv), hm2⟩ | exact ⟨cAn_o hkw (sPM_i hvs hes hiv), hm2⟩ | exact ⟨cAn_o (cAn_n hw) (sPM_0 hvs), hm2⟩ | exact ⟨cAn_o (cAn_n2 hw hcc) (sPM_0 hvs), hm2⟩ | exact ⟨cAn_o (cAn_n hw) (sPM_n hvs hes hiv), hm2⟩ | exact ⟨cAn_o (cAn_n2 hw hcc) (sPM_n hvs hes hiv), hm2⟩ | exact ⟨cAn_o (cAn_z hkw (by with_reducible assumption)) (sPM_p hvs hes), hm⟩ | exact ⟨cAn_o hkw (sPM_p hvs hes), hm⟩ | exact ⟨cAn_o (cAn_z hkw (by with_reducible assumption)) (sPM_i hvs hes hiv), hm⟩ | exact ⟨cAn_o hkw (sPM_i hvs hes hiv), hm⟩ | exact ⟨cAn_o (cAn_n hw) (sPM_0 hvs), hm⟩ | exact ⟨cAn_o (cAn_n2 hw hcc) (sPM_0 hvs), hm⟩ | exact ⟨cAn_o (cAn_n hw) (sPM_n hvs hes hiv), hm⟩ | exact ⟨cAn_o (cAn_n2 hw hcc) (sPM_n hvs hes hiv), hm⟩)
      ·
        have hn := h10n
        have hm2 := h102
        have hiv := h100
        have hn0 := (sInv_rng hiv).1
        have hnB : bB 67 xv := hM.le (by have := (sInv_rng hiv).2; omega)
        have g12 : ((F_NH_canHave (p486.1 : Int32)) = (0 : Int32)) := (by rw [h101]; decide)
        rw [if_pos g12]
        have h13 := V_powerBelow (R := (68 : Int32)) (R2 := (68 : Int32)) (t0_0 := (p486.2.1 : Int32)) (t0_1 := (p486.2.2.1 : Int32)) (t1_0 := (p486.2.2.2.1 : (Nat → Int32))) (t2_0 := (p486.2.2.2.2.1 : Int32)) (t2_1 := (p486.2.2.2.2.2.1 : Int32)) (t3_0 := (p486.2.2.2.2.2.2.1 : (Nat → Int32))) (t4_0 := t4_0) (t4_1 := t4_1) (t5_0 := t5_0) (t6_0 := (p486.2.2.2.2.2.2.2.1 : Int32)) (t6_1 := (p486.2.2.2.2.2.2.2.2.1 : Int32)) (t7_0 := (p486.2.2.2.2.2.2.2.2.2.1 : (Nat → Int32))) (t8_0 := t18_0) (t8_1 := t18_1) (t9_0 := t19_0) (t10_0 := (p486.2.2.2.2.2.2.2.2.2.2.2.2.2.2.2.2.2.2.2.2.2.2.1 : Int32)) (t10_1 := (p486.2.2.2.2.2.2.2.2.2.2.2.2.2.2.2.2.2.2.2.2.2.2.2.1 : Int32)) (t11_0 := (p486.2.2.2.2.2.2.2.2.2.2.2.2.2.2.2.2.2.2.2.2.2.2.2.2 : (Nat → Int32))) hn hn0 hm2 he hvs hnB hM (by decide)
        replace h13 := h13.2
        generalize F_Mil_powerBelow (68 : Int32) (68 : Int32) (p486.2.1 : Int32) (p486.2.2.1 : Int32) (p486.2.2.2.1 : (Nat → Int32)) (p486.2.2.2.2.1 : Int32) (p486.2.2.2.2.2.1 : Int32) (p486.2.2.2.2.2.2.1 : (Nat → Int32)) t4_0 t4_1 t5_0 (p486.2.2.2.2.2.2.2.1 : Int32) (p486.2.2.2.2.2.2.2.2.1 : Int32) (p486.2.2.2.2.2.2.2.2.2.1 : (Nat → Int32)) t18_0 t18_1 t19_0 (p486.2.2.2.2.2.2.2.2.2.2.2.2.2.2.2.2.2.2.2.2.2.2.1 : Int32) (p486.2.2.2.2.2.2.2.2.2.2.2.2.2.2.2.2.2.2.2.2.2.2.2.1 : Int32) (p486.2.2.2.2.2.2.2.2.2.2.2.2.2.2.2.2.2.2.2.2.2.2.2.2 : (Nat → Int32)) = p582 at h13 ⊢
        have hn := h13.1
        have hm3 := h13.2.2.2.2
        unfold F_NH_powerModulo_c136_7
        have h14 := V_keepWhole (x2 := x5) (t0_0 := (p582.1 : Int32)) (t0_1 := (p582.2.1 : Int32)) (t1_0 := (p582.2.2.1 : (Nat → Int32))) (t2_0 := t22_0) (t2_1 := t22_1) (t3_0 := t23_0) hn (by first | exact hw3 | exact hw2 | exact hw)
        generalize F_NH_keepWhole x5 (p582.1 : Int32) (p582.2.1 : Int32) (p582.2.2.1 : (Nat → Int32)) t22_0 t22_1 t23_0 = p617 at h14 ⊢
        have hkw := h14
        unfold F_NH_powerModulo_c142_8
        by_cases g15 : p617.1 = (0 : Int32)
        ·
          rw [if_pos g15]
          have g15i : p617.1.toInt = 0 := q_eqI g15
          (unfold QV_powerModulo; dsimp only; first | exact ⟨cAn_o (cAn_z hkw (by with_reducible assumption)) (sPM_p hvs hes), hm3⟩ | exact ⟨cAn_o hkw (sPM_p hvs hes), hm3⟩ | exact ⟨cAn_o (cAn_z hkw (by with_reducible assumption)) (sPM_i hvs hes hiv), hm3⟩ | exact ⟨cAn_o hkw (sPM_i hvs hes hiv), hm3⟩ | exact ⟨cAn_o (cAn_n hw) (sPM_0 hvs), hm3⟩ | exact ⟨cAn_o (cAn_n2 hw hcc) (sPM_0 hvs), hm3⟩ | exact ⟨cAn_o (cAn_n hw) (sPM_n hvs hes hiv), hm3⟩ | exact ⟨cAn_o (cAn_n2 hw hcc) (sPM_n hvs hes hiv), hm3⟩ | exact ⟨cAn_o (cAn_z hkw (by with_reducible assumption)) (sPM_p hvs hes), hm2⟩ | exact ⟨cAn_o hkw (sPM_p hvs hes), hm2⟩ | exact ⟨cAn_o (cAn_z hkw (by with_reducible assumption)) (sPM_i hvs hes hiv), hm2⟩ | exact ⟨cAn_o hkw (sPM_i hvs hes hiv), hm2⟩ | exact ⟨cAn_o (cAn_n hw) (sPM_0 hvs), hm2⟩ | exact ⟨cAn_o (cAn_n2 hw hcc) (sPM_0 hvs), hm2⟩ | exact ⟨cAn_o (cAn_n hw) (sPM_n hvs hes hiv), hm2⟩ | exact ⟨cAn_o (cAn_n2 hw hcc) (sPM_n hvs hes hiv), hm2⟩ | exact ⟨cAn_o (cAn_z hkw (by with_reducible assumption)) (sPM_p hvs hes), hm⟩ | exact ⟨cAn_o hkw (sPM_p hvs hes), hm⟩ | exact ⟨cAn_o (cAn_z hkw (by with_reducible assumption)) (sPM_i hvs hes hiv), hm⟩ | exact ⟨cAn_o hkw (sPM_i hvs hes hiv), hm⟩ | exact ⟨cAn_o (cAn_n hw) (sPM_0 hvs), hm⟩ | exact ⟨cAn_o (cAn_n2 hw hcc) (sPM_0 hvs), hm⟩ | exact ⟨cAn_o (cAn_n hw) (sPM_n hvs hes hiv), hm⟩ | exact ⟨cAn_o (cAn_n2 hw hcc) (sPM_n hvs hes hiv), hm⟩)
        ·
          rw [if_neg g15]
          have g15i : p617.1.toInt ≠ 0 := q_neI g15
          (unfold QV_powerModulo; dsimp only; first | exact ⟨cAn_o (cAn_z hkw (by with_reducible assumption)) (sPM_p hvs hes), hm3⟩ | exact ⟨cAn_o hkw (sPM_p hvs hes), hm3⟩ | exact ⟨cAn_o (cAn_z hkw (by with_reducible assumption)) (sPM_i hvs hes hiv), hm3⟩ | exact ⟨cAn_o hkw (sPM_i hvs hes hiv), hm3⟩ | exact ⟨cAn_o (cAn_n hw) (sPM_0 hvs), hm3⟩ | exact ⟨cAn_o (cAn_n2 hw hcc) (sPM_0 hvs), hm3⟩ | exact ⟨cAn_o (cAn_n hw) (sPM_n hvs hes hiv), hm3⟩ | exact ⟨cAn_o (cAn_n2 hw hcc) (sPM_n hvs hes hiv), hm3⟩ | exact ⟨cAn_o (cAn_z hkw (by with_reducible assumption)) (sPM_p hvs hes), hm2⟩ | exact ⟨cAn_o hkw (sPM_p hvs hes), hm2⟩ | exact ⟨cAn_o (cAn_z hkw (by with_reducible assumption)) (sPM_i hvs hes hiv), hm2⟩ | exact ⟨cAn_o hkw (sPM_i hvs hes hiv), hm2⟩ | exact ⟨cAn_o (cAn_n hw) (sPM_0 hvs), hm2⟩ | exact ⟨cAn_o (cAn_n2 hw hcc) (sPM_0 hvs), hm2⟩ | exact ⟨cAn_o (cAn_n hw) (sPM_n hvs hes hiv), hm2⟩ | exact ⟨cAn_o (cAn_n2 hw hcc) (sPM_n hvs hes hiv), hm2⟩ | exact ⟨cAn_o (cAn_z hkw (by with_reducible assumption)) (sPM_p hvs hes), hm⟩ | exact ⟨cAn_o hkw (sPM_p hvs hes), hm⟩ | exact ⟨cAn_o (cAn_z hkw (by with_reducible assumption)) (sPM_i hvs hes hiv), hm⟩ | exact ⟨cAn_o hkw (sPM_i hvs hes hiv), hm⟩ | exact ⟨cAn_o (cAn_n hw) (sPM_0 hvs), hm⟩ | exact ⟨cAn_o (cAn_n2 hw hcc) (sPM_0 hvs), hm⟩ | exact ⟨cAn_o (cAn_n hw) (sPM_n hvs hes hiv), hm⟩ | exact ⟨cAn_o (cAn_n2 hw hcc) (sPM_n hvs hes hiv), hm⟩)
def QV_powerModulo_a (o : Option Int) (vt vm : Int) (p : Int32 × Int32 × Int32 × (Nat → Int32) × Int32 × Int32 × (Nat → Int32) × Int32 × Int32 × (Nat → Int32) × Int32 × Int32 × (Nat → Int32) × Int32 × Int32 × (Nat → Int32) × Int32 × Int32 × (Nat → Int32) × Int32 × Int32 × (Nat → Int32) × Int32 × Int32 × (Nat → Int32) × Int32 × Int32 × (Nat → Int32) × Int32 × Int32 × (Nat → Int32)) : Prop := cAn o vt p.1 p.2.2.2.2.2.2.2.2.2.2.2.2.2.2.2.2.2.2.2.2.2.2.2.2.2.2.2.2.1 p.2.2.2.2.2.2.2.2.2.2.2.2.2.2.2.2.2.2.2.2.2.2.2.2.2.2.2.2.2.1 p.2.2.2.2.2.2.2.2.2.2.2.2.2.2.2.2.2.2.2.2.2.2.2.2.2.2.2.2.2.2 ∧ bO 68 p.2.2.2.2.2.2.2.2.2.2.2.2.2.2.2.2.2.2.2.2.2.2.2.2.2.1 p.2.2.2.2.2.2.2.2.2.2.2.2.2.2.2.2.2.2.2.2.2.2.2.2.2.2.1 p.2.2.2.2.2.2.2.2.2.2.2.2.2.2.2.2.2.2.2.2.2.2.2.2.2.2.2.1 vm
theorem V_powerModulo_a {x2 : Int32} {x3 : Int32} {x4 : Int32} {x5 : Int32} {t0_0 : Int32} {t0_1 : Int32} {t1_0 : (Nat → Int32)} {t2_0 : Int32} {t2_1 : Int32} {t3_0 : (Nat → Int32)} {t4_0 : Int32} {t4_1 : Int32} {t5_0 : (Nat → Int32)} {t6_0 : Int32} {t6_1 : Int32} {t7_0 : (Nat → Int32)} {t8_0 : Int32} {t8_1 : Int32} {t9_0 : (Nat → Int32)} {t10_0 : Int32} {t10_1 : Int32} {t11_0 : (Nat → Int32)} {t12_0 : Int32} {t12_1 : Int32} {t13_0 : (Nat → Int32)} {t14_0 : Int32} {t14_1 : Int32} {t15_0 : (Nat → Int32)} {t16_0 : Int32} {t16_1 : Int32} {t17_0 : (Nat → Int32)} {t18_0 : Int32} {t18_1 : Int32} {t19_0 : (Nat → Int32)} {t20_0 : Int32} {t20_1 : Int32} {t21_0 : (Nat → Int32)} {ve vm vt : Int} (he : bO 68 t18_0 t18_1 t19_0 ve) (hm : bO 68 t16_0 t16_1 t17_0 vm) (hM : bB 67 vm) (hw : bO 68 t20_0 t20_1 t21_0 vt) (hr2 : ¬ F_NH_isRegister x2 = 0) (hr3 : ¬ F_NH_isRegister x3 = 0) (hr4 : ¬ F_NH_isRegister x4 = 0) (hr5 : ¬ F_NH_isRegister x5 = 0) : QV_powerModulo_a (sPM vm ve vm) vt vm (F_NH_powerModulo_a x2 x3 x4 x5 t0_0 t0_1 t1_0 t2_0 t2_1 t3_0 t4_0 t4_1 t5_0 t6_0 t6_1 t7_0 t8_0 t8_1 t9_0 t10_0 t10_1 t11_0 t12_0 t12_1 t13_0 t14_0 t14_1 t15_0 t16_0 t16_1 t17_0 t18_0 t18_1 t19_0 t20_0 t20_1 t21_0) := by
  have e0 : (0 : Int32).toInt = 0 := rfl
  have e220 : (220 : Int32).toInt = 220 := rfl
  have e68 : (68 : Int32).toInt = 68 := rfl
  have sm : t16_0.toInt ≤ 68 := hm.2.2.2.1
  unfold F_NH_powerModulo_a
  rw [if_neg hr2]
  rw [if_neg hr3]
  rw [if_neg hr4]
  rw [if_neg hr5]
  unfold F_NH_powerModulo_a_J34
  have g1 : ((F_NH_need (1 : Int32)) = (0 : Int32)) := (by decide)
  rw [if_pos g1]
  by_cases g2 : ((F_Big_sign (68 : Int32) t16_0 t16_1) : Int32) ≤ (0 : Int32)
  ·
    rw [if_pos g2]
    have hvs := v_sgnP0 hm g2
    unfold F_NH_powerModulo_a_J54
    have g3 : ¬ ((F_NH_canHave (0 : Int32)) = (0 : Int32)) := (by decide)
    rw [if_neg g3]
    (unfold QV_powerModulo_a; dsimp only; first | exact ⟨cAn_o (cAn_z hkw (by with_reducible assumption)) (sPM_p hvs hes), hm3⟩ | exact ⟨cAn_o hkw (sPM_p hvs hes), hm3⟩ | exact ⟨cAn_o (cAn_z hkw (by with_reducible assumption)) (sPM_i hvs hes hiv), hm3⟩ | exact ⟨cAn_o hkw (sPM_i hvs hes hiv), hm3⟩ | exact ⟨cAn_o (cAn_n hw) (sPM_0 hvs), hm3⟩ | exact ⟨cAn_o (cAn_n2 hw hcc) (sPM_0 hvs), hm3⟩ | exact ⟨cAn_o (cAn_n hw) (sPM_n hvs hes hiv), hm3⟩ | exact ⟨cAn_o (cAn_n2 hw hcc) (sPM_n hvs hes hiv), hm3⟩ | exact ⟨cAn_o (cAn_z hkw (by with_reducible assumption)) (sPM_p hvs hes), hm2⟩ | exact ⟨cAn_o hkw (sPM_p hvs hes), hm2⟩ | exact ⟨cAn_o (cAn_z hkw (by with_reducible assumption)) (sPM_i hvs hes hiv), hm2⟩ | exact ⟨cAn_o hkw (sPM_i hvs hes hiv), hm2⟩ | exact ⟨cAn_o (cAn_n hw) (sPM_0 hvs), hm2⟩ | exact ⟨cAn_o (cAn_n2 hw hcc) (sPM_0 hvs), hm2⟩ | exact ⟨cAn_o (cAn_n hw) (sPM_n hvs hes hiv), hm2⟩ | exact ⟨cAn_o (cAn_n2 hw hcc) (sPM_n hvs hes hiv), hm2⟩ | exact ⟨cAn_o (cAn_z hkw (by with_reducible assumption)) (sPM_p hvs hes), hm⟩ | exact ⟨cAn_o hkw (sPM_p hvs hes), hm⟩ | exact ⟨cAn_o (cAn_z hkw (by with_reducible assumption)) (sPM_i hvs hes hiv), hm⟩ | exact ⟨cAn_o hkw (sPM_i hvs hes hiv), hm⟩ | exact ⟨cAn_o (cAn_n hw) (sPM_0 hvs), hm⟩ | exact ⟨cAn_o (cAn_n2 hw hcc) (sPM_0 hvs), hm⟩ | exact ⟨cAn_o (cAn_n hw) (sPM_n hvs hes hiv), hm⟩ | exact ⟨cAn_o (cAn_n2 hw hcc) (sPM_n hvs hes hiv), hm⟩)
  ·
    rw [if_neg g2]
    have hvs := v_sgnP hm g2
    unfold F_NH_powerModulo_a_J54
    have g4 : ((F_NH_canHave (1 : Int32)) = (0 : Int32)) := (by decide)
    rw [if_pos g4]
    by_cases g5 : t18_1 = (0 : Int32)
    ·
      rw [if_pos g5]
      have hes := v_ng0 he g5
      have h6 := T_modulo_a (R2 := (68 : Int32)) (R4 := (220 : Int32)) (t0_0 := t2_0) (t0_1 := t2_1) (t1_0 := t3_0) (t2_0 := t16_0) (t2_1 := t16_1) (t3_0 := t17_0) (t4_0 := t0_0) (t4_1 := t0_1) (t5_0 := t1_0) hm (by omega) hM (by decide) (by decide)
      replace h6 := h6.2
      generalize F_Mil_modulo_a (68 : Int32) (220 : Int32) t2_0 t2_1 t3_0 t16_0 t16_1 t17_0 t0_0 t0_1 t1_0 = p241 at h6 ⊢
      have hn := h6.2.2
      have hnB : bB 67 0 := hM.le (Nat.zero_le _)
      rw [v_mod0 hvs] at hn hnB
      have hn0 : 0 ≤ vm % vm := Int.emod_nonneg _ (by omega)
      have hm2 := h6.2.1
      unfold F_NH_powerModulo_a_c117
      have h7 := V_powerBelow (R := (68 : Int32)) (R2 := (68 : Int32)) (t0_0 := (p241.2.2.2.2.2.2.1 : Int32)) (t0_1 := (p241.2.2.2.2.2.2.2.1 : Int32)) (t1_0 := (p241.2.2.2.2.2.2.2.2 : (Nat → Int32))) (t2_0 := (p241.1 : Int32)) (t2_1 := (p241.2.1 : Int32)) (t3_0 := (p241.2.2.1 : (Nat → Int32))) (t4_0 := t4_0) (t4_1 := t4_1) (t5_0 := t5_0) (t6_0 := t6_0) (t6_1 := t6_1) (t7_0 := t7_0) (t8_0 := t18_0) (t8_1 := t18_1) (t9_0 := t19_0) (t10_0 := (p241.2.2.2.1 : Int32)) (t10_1 := (p241.2.2.2.2.1 : Int32)) (t11_0 := (p241.2.2.2.2.2.1 : (Nat → Int32))) hn hn0 hm2 he hvs hnB hM (by decide)
      replace h7 := h7.2
      generalize F_Mil_powerBelow (68 : Int32) (68 : Int32) (p241.2.2.2.2.2.2.1 : Int32) (p241.2.2.2.2.2.2.2.1 : Int32) (p241.2.2.2.2.2.2.2.2 : (Nat → Int32)) (p241.1 : Int32) (p241.2.1 : Int32) (p241.2.2.1 : (Nat → Int32)) t4_0 t4_1 t5_0 t6_0 t6_1 t7_0 t18_0 t18_1 t19_0 (p241.2.2.2.1 : Int32) (p241.2.2.2.2.1 : Int32) (p241.2.2.2.2.2.1 : (Nat → Int32)) = p312 at h7 ⊢
      have hn := h7.1
      have hm3 := h7.2.2.2.2
      unfold F_NH_powerModulo_a_c136
      have h8 := V_keepWhole (x2 := x5) (t0_0 := (p312.1 : Int32)) (t0_1 := (p312.2.1 : Int32)) (t1_0 := (p312.2.2.1 : (Nat → Int32))) (t2_0 := t20_0) (t2_1 := t20_1) (t3_0 := t21_0) hn (by first | exact hw3 | exact hw2 | exact hw)
      generalize F_NH_keepWhole x5 (p312.1 : Int32) (p312.2.1 : Int32) (p312.2.2.1 : (Nat → Int32)) t20_0 t20_1 t21_0 = p347 at h8 ⊢
      have hkw := h8
      unfold F_NH_powerModulo_a_c142
      by_cases g9 : p347.1 = (0 : Int32)
      ·
        rw [if_pos g9]
        have g9i : p347.1.toInt = 0 := q_eqI g9
        (unfold QV_powerModulo_a; dsimp only; first | exact ⟨cAn_o (cAn_z hkw (by with_reducible assumption)) (sPM_p hvs hes), hm3⟩ | exact ⟨cAn_o hkw (sPM_p hvs hes), hm3⟩ | exact ⟨cAn_o (cAn_z hkw (by with_reducible assumption)) (sPM_i hvs hes hiv), hm3⟩ | exact ⟨cAn_o hkw (sPM_i hvs hes hiv), hm3⟩ | exact ⟨cAn_o (cAn_n hw) (sPM_0 hvs), hm3⟩ | exact ⟨cAn_o (cAn_n2 hw hcc) (sPM_0 hvs), hm3⟩ | exact ⟨cAn_o (cAn_n hw) (sPM_n hvs hes hiv), hm3⟩ | exact ⟨cAn_o (cAn_n2 hw hcc) (sPM_n hvs hes hiv), hm3⟩ | exact ⟨cAn_o (cAn_z hkw (by with_reducible assumption)) (sPM_p hvs hes), hm2⟩ | exact ⟨cAn_o hkw (sPM_p hvs hes), hm2⟩ | exact ⟨cAn_o (cAn_z hkw (by with_reducible assumption)) (sPM_i hvs hes hiv), hm2⟩ | exact ⟨cAn_o hkw (sPM_i hvs hes hiv), hm2⟩ | exact ⟨cAn_o (cAn_n hw) (sPM_0 hvs), hm2⟩ | exact ⟨cAn_o (cAn_n2 hw hcc) (sPM_0 hvs), hm2⟩ | exact ⟨cAn_o (cAn_n hw) (sPM_n hvs hes hiv), hm2⟩ | exact ⟨cAn_o (cAn_n2 hw hcc) (sPM_n hvs hes hiv), hm2⟩ | exact ⟨cAn_o (cAn_z hkw (by with_reducible assumption)) (sPM_p hvs hes), hm⟩ | exact ⟨cAn_o hkw (sPM_p hvs hes), hm⟩ | exact ⟨cAn_o (cAn_z hkw (by with_reducible assumption)) (sPM_i hvs hes hiv), hm⟩ | exact ⟨cAn_o hkw (sPM_i hvs hes hiv), hm⟩ | exact ⟨cAn_o (cAn_n hw) (sPM_0 hvs), hm⟩ | exact ⟨cAn_o (cAn_n2 hw hcc) (sPM_0 hvs), hm⟩ | exact ⟨cAn_o (cAn_n hw) (sPM_n hvs hes hiv), hm⟩ | exact ⟨cAn_o (cAn_n2 hw hcc) (sPM_n hvs hes hiv), hm⟩)
      ·
        rw [if_neg g9]
        have g9i : p347.1.toInt ≠ 0 := q_neI g9
        (unfold QV_powerModulo_a; dsimp only; first | exact ⟨cAn_o (cAn_z hkw (by with_reducible assumption)) (sPM_p hvs hes), hm3⟩ | exact ⟨cAn_o hkw (sPM_p hvs hes), hm3⟩ | exact ⟨cAn_o (cAn_z hkw (by with_reducible assumption)) (sPM_i hvs hes hiv), hm3⟩ | exact ⟨cAn_o hkw (sPM_i hvs hes hiv), hm3⟩ | exact ⟨cAn_o (cAn_n hw) (sPM_0 hvs), hm3⟩ | exact ⟨cAn_o (cAn_n2 hw hcc) (sPM_0 hvs), hm3⟩ | exact ⟨cAn_o (cAn_n hw) (sPM_n hvs hes hiv), hm3⟩ | exact ⟨cAn_o (cAn_n2 hw hcc) (sPM_n hvs hes hiv), hm3⟩ | exact ⟨cAn_o (cAn_z hkw (by with_reducible assumption)) (sPM_p hvs hes), hm2⟩ | exact ⟨cAn_o hkw (sPM_p hvs hes), hm2⟩ | exact ⟨cAn_o (cAn_z hkw (by with_reducible assumption)) (sPM_i hvs hes hiv), hm2⟩ | exact ⟨cAn_o hkw (sPM_i hvs hes hiv), hm2⟩ | exact ⟨cAn_o (cAn_n hw) (sPM_0 hvs), hm2⟩ | exact ⟨cAn_o (cAn_n2 hw hcc) (sPM_0 hvs), hm2⟩ | exact ⟨cAn_o (cAn_n hw) (sPM_n hvs hes hiv), hm2⟩ | exact ⟨cAn_o (cAn_n2 hw hcc) (sPM_n hvs hes hiv), hm2⟩ | exact ⟨cAn_o (cAn_z hkw (by with_reducible assumption)) (sPM_p hvs hes), hm⟩ | exact ⟨cAn_o hkw (sPM_p hvs hes), hm⟩ | exact ⟨cAn_o (cAn_z hkw (by with_reducible assumption)) (sPM_i hvs hes hiv), hm⟩ | exact ⟨cAn_o hkw (sPM_i hvs hes hiv), hm⟩ | exact ⟨cAn_o (cAn_n hw) (sPM_0 hvs), hm⟩ | exact ⟨cAn_o (cAn_n2 hw hcc) (sPM_0 hvs), hm⟩ | exact ⟨cAn_o (cAn_n hw) (sPM_n hvs hes hiv), hm⟩ | exact ⟨cAn_o (cAn_n2 hw hcc) (sPM_n hvs hes hiv), hm⟩)
    ·
      rw [if_neg g5]
      have hes := v_ng1 he g5
      have h10 := V_inverse_aO (R2 := (68 : Int32)) (t0_0 := t0_0) (t0_1 := t0_1) (t1_0 := t1_0) (t2_0 := t2_0) (t2_1 := t2_1) (t3_0 := t3_0) (t4_0 := t6_0) (t4_1 := t6_1) (t5_0 := t7_0) (t6_0 := t8_0) (t6_1 := t8_1) (t7_0 := t9_0) (t8_0 := t10_0) (t8_1 := t10_1) (t9_0 := t11_0) (t10_0 := t12_0) (t10_1 := t12_1) (t11_0 := t13_0) (t12_0 := t14_0) (t12_1 := t14_1) (t13_0 := t15_0) (t14_0 := t16_0) (t14_1 := t16_1) (t15_0 := t17_0) hm hvs hM (by decide)
      generalize F_Mil_inverse_a (68 : Int32) t0_0 t0_1 t1_0 t2_0 t2_1 t3_0 t6_0 t6_1 t7_0 t8_0 t8_1 t9_0 t10_0 t10_1 t11_0 t12_0 t12_1 t13_0 t14_0 t14_1 t15_0 t16_0 t16_1 t17_0 = p471 at h10 ⊢
      unfold F_NH_powerModulo_a_c85
      rcases h10 with ⟨h100, h101, h102⟩ | ⟨xv, h100, h101, h10n, h102⟩
      ·
        have hm2 := h102
        have hiv := h100
        have hcc : F_NH_canHave p471.1 = 2 := by rw [h101]; decide
        have g11 : ¬ ((F_NH_canHave (p471.1 : Int32)) = (0 : Int32)) := (by rw [h101]; decide)
        rw [if_neg g11]
        (unfold QV_powerModulo_a; dsimp only; first | exact ⟨cAn_o (cAn_z hkw (by with_reducible assumption)) (sPM_p hvs hes), hm3⟩ | exact ⟨cAn_o hkw (sPM_p hvs hes), hm3⟩ | exact ⟨cAn_o (cAn_z hkw (by with_reducible assumption)) (sPM_i hvs hes hiv), hm3⟩ | exact ⟨cAn_o hkw (sPM_i hvs hes hiv), hm3⟩ | exact ⟨cAn_o (cAn_n hw) (sPM_0 hvs), hm3⟩ | exact ⟨cAn_o (cAn_n2 hw hcc) (sPM_0 hvs), hm3⟩ | exact ⟨cAn_o (cAn_n hw) (sPM_n hvs hes hiv), hm3⟩ | exact ⟨cAn_o (cAn_n2 hw hcc) (sPM_n hvs hes hiv), hm3⟩ | exact ⟨cAn_o (cAn_z hkw (by with_reducible assumption)) (sPM_p hvs hes), hm2⟩ | exact ⟨cAn_o hkw (sPM_p hvs hes), hm2⟩ | exact ⟨cAn_o (cAn_z hkw (by with_reducible assumption)) (sPM_i hvs hes hiv), hm2⟩ | exact ⟨cAn_o hkw (sPM_i hvs hes hiv), hm2⟩ | exact ⟨cAn_o (cAn_n hw) (sPM_0 hvs), hm2⟩ | exact ⟨cAn_o (cAn_n2 hw hcc) (sPM_0 hvs), hm2⟩ | exact ⟨cAn_o (cAn_n hw) (sPM_n hvs hes hiv), hm2⟩ | exact ⟨cAn_o (cAn_n2 hw hcc) (sPM_n hvs hes hiv), hm2⟩ | exact ⟨cAn_o (cAn_z hkw (by with_reducible assumption)) (sPM_p hvs hes), hm⟩ | exact ⟨cAn_o hkw (sPM_p hvs hes), hm⟩ | exact ⟨cAn_o (cAn_z hkw (by with_reducible assumption)) (sPM_i hvs hes hiv), hm⟩ | exact ⟨cAn_o hkw (sPM_i hvs hes hiv), hm⟩ | exact ⟨cAn_o (cAn_n hw) (sPM_0 hvs), hm⟩ | exact ⟨cAn_o (cAn_n2 hw hcc) (sPM_0 hvs), hm⟩ | exact ⟨cAn_o (cAn_n hw) (sPM_n hvs hes hiv), hm⟩ | exact ⟨cAn_o (cAn_n2 hw hcc) (sPM_n hvs hes hiv), hm⟩)
      ·
        have hn := h10n
        have hm2 := h102
        have hiv := h100
        have hn0 := (sInv_rng hiv).1
        have hnB : bB 67 xv := hM.le (by have := (sInv_rng hiv).2; omega)
        have g12 : ((F_NH_canHave (p471.1 : Int32)) = (0 : Int32)) := (by rw [h101]; decide)
        rw [if_pos g12]
        have h13 := V_powerBelow (R := (68 : Int32)) (R2 := (68 : Int32)) (t0_0 := (p471.2.1 : Int32)) (t0_1 := (p471.2.2.1 : Int32)) (t1_0 := (p471.2.2.2.1 : (Nat → Int32))) (t2_0 := (p471.2.2.2.2.1 : Int32)) (t2_1 := (p471.2.2.2.2.2.1 : Int32)) (t3_0 := (p471.2.2.2.2.2.2.1 : (Nat → Int32))) (t4_0 := t4_0) (t4_1 := t4_1) (t5_0 := t5_0) (t6_0 := (p471.2.2.2.2.2.2.2.1 : Int32)) (t6_1 := (p471.2.2.2.2.2.2.2.2.1 : Int32)) (t7_0 := (p471.2.2.2.2.2.2.2.2.2.1 : (Nat → Int32))) (t8_0 := t18_0) (t8_1 := t18_1) (t9_0 := t19_0) (t10_0 := (p471.2.2.2.2.2.2.2.2.2.2.2.2.2.2.2.2.2.2.2.2.2.2.1 : Int32)) (t10_1 := (p471.2.2.2.2.2.2.2.2.2.2.2.2.2.2.2.2.2.2.2.2.2.2.2.1 : Int32)) (t11_0 := (p471.2.2.2.2.2.2.2.2.2.2.2.2.2.2.2.2.2.2.2.2.2.2.2.2 : (Nat → Int32))) hn hn0 hm2 he hvs hnB hM (by decide)
        replace h13 := h13.2
        generalize F_Mil_powerBelow (68 : Int32) (68 : Int32) (p471.2.1 : Int32) (p471.2.2.1 : Int32) (p471.2.2.2.1 : (Nat → Int32)) (p471.2.2.2.2.1 : Int32) (p471.2.2.2.2.2.1 : Int32) (p471.2.2.2.2.2.2.1 : (Nat → Int32)) t4_0 t4_1 t5_0 (p471.2.2.2.2.2.2.2.1 : Int32) (p471.2.2.2.2.2.2.2.2.1 : Int32) (p471.2.2.2.2.2.2.2.2.2.1 : (Nat → Int32)) t18_0 t18_1 t19_0 (p471.2.2.2.2.2.2.2.2.2.2.2.2.2.2.2.2.2.2.2.2.2.2.1 : Int32) (p471.2.2.2.2.2.2.2.2.2.2.2.2.2.2.2.2.2.2.2.2.2.2.2.1 : Int32) (p471.2.2.2.2.2.2.2.2.2.2.2.2.2.2.2.2.2.2.2.2.2.2.2.2 : (Nat → Int32)) = p567 at h13 ⊢
        have hn := h13.1
        have hm3 := h13.2.2.2.2
        unfold F_NH_powerModulo_a_c136_7
        have h14 := V_keepWhole (x2 := x5) (t0_0 := (p567.1 : Int32)) (t0_1 := (p567.2.1 : Int32)) (t1_0 := (p567.2.2.1 : (Nat → Int32))) (t2_0 := t20_0) (t2_1 := t20_1) (t3_0 := t21_0) hn (by first | exact hw3 | exact hw2 | exact hw)
        generalize F_NH_keepWhole x5 (p567.1 : Int32) (p567.2.1 : Int32) (p567.2.2.1 : (Nat → Int32)) t20_0 t20_1 t21_0 = p602 at h14 ⊢
        have hkw := h14
        unfold F_NH_powerModulo_a_c142_8
        by_cases g15 : p602.1 = (0 : Int32)
        ·
          rw [if_pos g15]
          have g15i : p602.1.toInt = 0 := q_eqI g15
          (unfold QV_powerModulo_a; dsimp only; first | exact ⟨cAn_o (cAn_z hkw (by with_reducible assumption)) (sPM_p hvs hes), hm3⟩ | exact ⟨cAn_o hkw (sPM_p hvs hes), hm3⟩ | exact ⟨cAn_o (cAn_z hkw (by with_reducible assumption)) (sPM_i hvs hes hiv), hm3⟩ | exact ⟨cAn_o hkw (sPM_i hvs hes hiv), hm3⟩ | exact ⟨cAn_o (cAn_n hw) (sPM_0 hvs), hm3⟩ | exact ⟨cAn_o (cAn_n2 hw hcc) (sPM_0 hvs), hm3⟩ | exact ⟨cAn_o (cAn_n hw) (sPM_n hvs hes hiv), hm3⟩ | exact ⟨cAn_o (cAn_n2 hw hcc) (sPM_n hvs hes hiv), hm3⟩ | exact ⟨cAn_o (cAn_z hkw (by with_reducible assumption)) (sPM_p hvs hes), hm2⟩ | exact ⟨cAn_o hkw (sPM_p hvs hes), hm2⟩ | exact ⟨cAn_o (cAn_z hkw (by with_reducible assumption)) (sPM_i hvs hes hiv), hm2⟩ | exact ⟨cAn_o hkw (sPM_i hvs hes hiv), hm2⟩ | exact ⟨cAn_o (cAn_n hw) (sPM_0 hvs), hm2⟩ | exact ⟨cAn_o (cAn_n2 hw hcc) (sPM_0 hvs), hm2⟩ | exact ⟨cAn_o (cAn_n hw) (sPM_n hvs hes hiv), hm2⟩ | exact ⟨cAn_o (cAn_n2 hw hcc) (sPM_n hvs hes hiv), hm2⟩ | exact ⟨cAn_o (cAn_z hkw (by with_reducible assumption)) (sPM_p hvs hes), hm⟩ | exact ⟨cAn_o hkw (sPM_p hvs hes), hm⟩ | exact ⟨cAn_o (cAn_z hkw (by with_reducible assumption)) (sPM_i hvs hes hiv), hm⟩ | exact ⟨cAn_o hkw (sPM_i hvs hes hiv), hm⟩ | exact ⟨cAn_o (cAn_n hw) (sPM_0 hvs), hm⟩ | exact ⟨cAn_o (cAn_n2 hw hcc) (sPM_0 hvs), hm⟩ | exact ⟨cAn_o (cAn_n hw) (sPM_n hvs hes hiv), hm⟩ | exact ⟨cAn_o (cAn_n2 hw hcc) (sPM_n hvs hes hiv), hm⟩)
        ·
          rw [if_neg g15]
          have g15i : p602.1.toInt ≠ 0 := q_neI g15
          (unfold QV_powerModulo_a; dsimp only; first | exact ⟨cAn_o (cAn_z hkw (by with_reducible assumption)) (sPM_p hvs hes), hm3⟩ | exact ⟨cAn_o hkw (sPM_p hvs hes), hm3⟩ | exact ⟨cAn_o (cAn_z hkw (by with_reducible assumption)) (sPM_i hvs hes hiv), hm3⟩ | exact ⟨cAn_o hkw (sPM_i hvs hes hiv), hm3⟩ | exact ⟨cAn_o (cAn_n hw) (sPM_0 hvs), hm3⟩ | exact ⟨cAn_o (cAn_n2 hw hcc) (sPM_0 hvs), hm3⟩ | exact ⟨cAn_o (cAn_n hw) (sPM_n hvs hes hiv), hm3⟩ | exact ⟨cAn_o (cAn_n2 hw hcc) (sPM_n hvs hes hiv), hm3⟩ | exact ⟨cAn_o (cAn_z hkw (by with_reducible assumption)) (sPM_p hvs hes), hm2⟩ | exact ⟨cAn_o hkw (sPM_p hvs hes), hm2⟩ | exact ⟨cAn_o (cAn_z hkw (by with_reducible assumption)) (sPM_i hvs hes hiv), hm2⟩ | exact ⟨cAn_o hkw (sPM_i hvs hes hiv), hm2⟩ | exact ⟨cAn_o (cAn_n hw) (sPM_0 hvs), hm2⟩ | exact ⟨cAn_o (cAn_n2 hw hcc) (sPM_0 hvs), hm2⟩ | exact ⟨cAn_o (cAn_n hw) (sPM_n hvs hes hiv), hm2⟩ | exact ⟨cAn_o (cAn_n2 hw hcc) (sPM_n hvs hes hiv), hm2⟩ | exact ⟨cAn_o (cAn_z hkw (by with_reducible assumption)) (sPM_p hvs hes), hm⟩ | exact ⟨cAn_o hkw (sPM_p hvs hes), hm⟩ | exact ⟨cAn_o (cAn_z hkw (by with_reducible assumption)) (sPM_i hvs hes hiv), hm⟩ | exact ⟨cAn_o hkw (sPM_i hvs hes hiv), hm⟩ | exact ⟨cAn_o (cAn_n hw) (sPM_0 hvs), hm⟩ | exact ⟨cAn_o (cAn_n2 hw hcc) (sPM_0 hvs), hm⟩ | exact ⟨cAn_o (cAn_n hw) (sPM_n hvs hes hiv), hm⟩ | exact ⟨cAn_o (cAn_n2 hw hcc) (sPM_n hvs hes hiv), hm⟩)
def QV_powerModulo_e (o : Option Int) (vt vm : Int) (p : Int32 × Int32 × Int32 × (Nat → Int32) × Int32 × Int32 × (Nat → Int32) × Int32 × Int32 × (Nat → Int32) × Int32 × Int32 × (Nat → Int32) × Int32 × Int32 × (Nat → Int32) × Int32 × Int32 × (Nat → Int32) × Int32 × Int32 × (Nat → Int32) × Int32 × Int32 × (Nat → Int32) × Int32 × Int32 × (Nat → Int32) × Int32 × Int32 × (Nat → Int32)) : Prop := cAn o vt p.1 p.2.2.2.2.2.2.2.2.2.2.2.2.2.2.2.2.2.2.2.2.2.2.2.2.2.2.2.2.1 p.2.2.2.2.2.2.2.2.2.2.2.2.2.2.2.2.2.2.2.2.2.2.2.2.2.2.2.2.2.1 p.2.2.2.2.2.2.2.2.2.2.2.2.2.2.2.2.2.2.2.2.2.2.2.2.2.2.2.2.2.2 ∧ bO 68 p.2.2.2.2.2.2.2.2.2.2.2.2.2.2.2.2.2.2.2.2.2.2.2.2.2.1 p.2.2.2.2.2.2.2.2.2.2.2.2.2.2.2.2.2.2.2.2.2.2.2.2.2.2.1 p.2.2.2.2.2.2.2.2.2.2.2.2.2.2.2.2.2.2.2.2.2.2.2.2.2.2.2.1 vm
theorem V_powerModulo_e {x2 : Int32} {x3 : Int32} {x4 : Int32} {x5 : Int32} {t0_0 : Int32} {t0_1 : Int32} {t1_0 : (Nat → Int32)} {t2_0 : Int32} {t2_1 : Int32} {t3_0 : (Nat → Int32)} {t4_0 : Int32} {t4_1 : Int32} {t5_0 : (Nat → Int32)} {t6_0 : Int32} {t6_1 : Int32} {t7_0 : (Nat → Int32)} {t8_0 : Int32} {t8_1 : Int32} {t9_0 : (Nat → Int32)} {t10_0 : Int32} {t10_1 : Int32} {t11_0 : (Nat → Int32)} {t12_0 : Int32} {t12_1 : Int32} {t13_0 : (Nat → Int32)} {t14_0 : Int32} {t14_1 : Int32} {t15_0 : (Nat → Int32)} {t16_0 : Int32} {t16_1 : Int32} {t17_0 : (Nat → Int32)} {t18_0 : Int32} {t18_1 : Int32} {t19_0 : (Nat → Int32)} {t20_0 : Int32} {t20_1 : Int32} {t21_0 : (Nat → Int32)} {va vm vt : Int} (ha : bO 68 t16_0 t16_1 t17_0 va) (hA : bB 67 va) (hm : bO 68 t18_0 t18_1 t19_0 vm) (hM : bB 67 vm) (hw : bO 68 t20_0 t20_1 t21_0 vt) (hr2 : ¬ F_NH_isRegister x2 = 0) (hr3 : ¬ F_NH_isRegister x3 = 0) (hr4 : ¬ F_NH_isRegister x4 = 0) (hr5 : ¬ F_NH_isRegister x5 = 0) : QV_powerModulo_e (sPM va vm vm) vt vm (F_NH_powerModulo_e x2 x3 x4 x5 t0_0 t0_1 t1_0 t2_0 t2_1 t3_0 t4_0 t4_1 t5_0 t6_0 t6_1 t7_0 t8_0 t8_1 t9_0 t10_0 t10_1 t11_0 t12_0 t12_1 t13_0 t14_0 t14_1 t15_0 t16_0 t16_1 t17_0 t18_0 t18_1 t19_0 t20_0 t20_1 t21_0) := by
  have e0 : (0 : Int32).toInt = 0 := rfl
  have e220 : (220 : Int32).toInt = 220 := rfl
  have e68 : (68 : Int32).toInt = 68 := rfl
  have sm : t18_0.toInt ≤ 68 := hm.2.2.2.1
  unfold F_NH_powerModulo_e
  rw [if_neg hr2]
  rw [if_neg hr3]
  rw [if_neg hr4]
  rw [if_neg hr5]
  unfold F_NH_powerModulo_e_J34
  have g1 : ((F_NH_need (1 : Int32)) = (0 : Int32)) := (by decide)
  rw [if_pos g1]
  by_cases g2 : ((F_Big_sign (68 : Int32) t18_0 t18_1) : Int32) ≤ (0 : Int32)
  ·
    rw [if_pos g2]
    have hvs := v_sgnP0 hm g2
    unfold F_NH_powerModulo_e_J54
    have g3 : ¬ ((F_NH_canHave (0 : Int32)) = (0 : Int32)) := (by decide)
    rw [if_neg g3]
    (unfold QV_powerModulo_e; dsimp only; first | exact ⟨cAn_o (cAn_z hkw (by with_reducible assumption)) (sPM_p hvs hes), hm3⟩ | exact ⟨cAn_o hkw (sPM_p hvs hes), hm3⟩ | exact ⟨cAn_o (cAn_z hkw (by with_reducible assumption)) (sPM_i hvs hes hiv), hm3⟩ | exact ⟨cAn_o hkw (sPM_i hvs hes hiv), hm3⟩ | exact ⟨cAn_o (cAn_n hw) (sPM_0 hvs), hm3⟩ | exact ⟨cAn_o (cAn_n2 hw hcc) (sPM_0 hvs), hm3⟩ | exact ⟨cAn_o (cAn_n hw) (sPM_n hvs hes hiv), hm3⟩ | exact ⟨cAn_o (cAn_n2 hw hcc) (sPM_n hvs hes hiv), hm3⟩ | exact ⟨cAn_o (cAn_z hkw (by with_reducible assumption)) (sPM_p hvs hes), hm2⟩ | exact ⟨cAn_o hkw (sPM_p hvs hes), hm2⟩ | exact ⟨cAn_o (cAn_z hkw (by with_reducible assumption)) (sPM_i hvs hes hiv), hm2⟩ | exact ⟨cAn_o hkw (sPM_i hvs hes hiv), hm2⟩ | exact ⟨cAn_o (cAn_n hw) (sPM_0 hvs), hm2⟩ | exact ⟨cAn_o (cAn_n2 hw hcc) (sPM_0 hvs), hm2⟩ | exact ⟨cAn_o (cAn_n hw) (sPM_n hvs hes hiv), hm2⟩ | exact ⟨cAn_o (cAn_n2 hw hcc) (sPM_n hvs hes hiv), hm2⟩ | exact ⟨cAn_o (cAn_z hkw (by with_reducible assumption)) (sPM_p hvs hes), hm⟩ | exact ⟨cAn_o hkw (sPM_p hvs hes), hm⟩ | exact ⟨cAn_o (cAn_z hkw (by with_reducible assumption)) (sPM_i hvs hes hiv), hm⟩ | exact ⟨cAn_o hkw (sPM_i hvs hes hiv), hm⟩ | exact ⟨cAn_o (cAn_n hw) (sPM_0 hvs), hm⟩ | exact ⟨cAn_o (cAn_n2 hw hcc) (sPM_0 hvs), hm⟩ | exact ⟨cAn_o (cAn_n hw) (sPM_n hvs hes hiv), hm⟩ | exact ⟨cAn_o (cAn_n2 hw hcc) (sPM_n hvs hes hiv), hm⟩)
  ·
    rw [if_neg g2]
    have hvs := v_sgnP hm g2
    unfold F_NH_powerModulo_e_J54
    have g4 : ((F_NH_canHave (1 : Int32)) = (0 : Int32)) := (by decide)
    rw [if_pos g4]
    by_cases g5 : t18_1 = (0 : Int32)
    ·
      rw [if_pos g5]
      have hes := v_ng0 hm g5
      have h6 := T_modulo (R := (68 : Int32)) (R2 := (68 : Int32)) (R3 := (220 : Int32)) (t0_0 := t2_0) (t0_1 := t2_1) (t1_0 := t3_0) (t2_0 := t16_0) (t2_1 := t16_1) (t3_0 := t17_0) (t4_0 := t18_0) (t4_1 := t18_1) (t5_0 := t19_0) (t6_0 := t0_0) (t6_1 := t0_1) (t7_0 := t1_0) ha hm (by omega) hA (by decide) (by omega) (by decide)
      replace h6 := h6.2
      generalize F_Mil_modulo (68 : Int32) (68 : Int32) (220 : Int32) t2_0 t2_1 t3_0 t16_0 t16_1 t17_0 t18_0 t18_1 t19_0 t0_0 t0_1 t1_0 = p241 at h6 ⊢
      have hn := h6.2.2
      have hnB := v_modB (va := va) hvs hM
      rw [v_modE hvs] at hn hnB
      have hn0 : 0 ≤ va % vm := Int.emod_nonneg _ (by omega)
      have hm2 := h6.2.1
      unfold F_NH_powerModulo_e_c117
      have h7 := V_powerBelow_a (ve := 0) (R2 := (68 : Int32)) (t0_0 := (p241.2.2.2.2.2.2.1 : Int32)) (t0_1 := (p241.2.2.2.2.2.2.2.1 : Int32)) (t1_0 := (p241.2.2.2.2.2.2.2.2 : (Nat → Int32))) (t2_0 := (p241.1 : Int32)) (t2_1 := (p241.2.1 : Int32)) (t3_0 := (p241.2.2.1 : (Nat → Int32))) (t4_0 := t4_0) (t4_1 := t4_1) (t5_0 := t5_0) (t6_0 := t6_0) (t6_1 := t6_1) (t7_0 := t7_0) (t8_0 := (p241.2.2.2.1 : Int32)) (t8_1 := (p241.2.2.2.2.1 : Int32)) (t9_0 := (p241.2.2.2.2.2.1 : (Nat → Int32))) hn hn0 hm2 hvs hnB hM (by decide)
      replace h7 := h7.2
      generalize F_Mil_powerBelow_a (68 : Int32) (p241.2.2.2.2.2.2.1 : Int32) (p241.2.2.2.2.2.2.2.1 : Int32) (p241.2.2.2.2.2.2.2.2 : (Nat → Int32)) (p241.1 : Int32) (p241.2.1 : Int32) (p241.2.2.1 : (Nat → Int32)) t4_0 t4_1 t5_0 t6_0 t6_1 t7_0 (p241.2.2.2.1 : Int32) (p241.2.2.2.2.1 : Int32) (p241.2.2.2.2.2.1 : (Nat → Int32)) = p312 at h7 ⊢
      have hn := h7.1
      have hm3 := h7.2.2.2.2
      unfold F_NH_powerModulo_e_c136
      have h8 := V_keepWhole (x2 := x5) (t0_0 := (p312.1 : Int32)) (t0_1 := (p312.2.1 : Int32)) (t1_0 := (p312.2.2.1 : (Nat → Int32))) (t2_0 := t20_0) (t2_1 := t20_1) (t3_0 := t21_0) hn (by first | exact hw3 | exact hw2 | exact hw)
      generalize F_NH_keepWhole x5 (p312.1 : Int32) (p312.2.1 : Int32) (p312.2.2.1 : (Nat → Int32)) t20_0 t20_1 t21_0 = p347 at h8 ⊢
      have hkw := h8
      unfold F_NH_powerModulo_e_c142
      by_cases g9 : p347.1 = (0 : Int32)
      ·
        rw [if_pos g9]
        have g9i : p347.1.toInt = 0 := q_eqI g9
        (unfold QV_powerModulo_e; dsimp only; first | exact ⟨cAn_o (cAn_z hkw (by with_reducible assumption)) (sPM_p hvs hes), hm3⟩ | exact ⟨cAn_o hkw (sPM_p hvs hes), hm3⟩ | exact ⟨cAn_o (cAn_z hkw (by with_reducible assumption)) (sPM_i hvs hes hiv), hm3⟩ | exact ⟨cAn_o hkw (sPM_i hvs hes hiv), hm3⟩ | exact ⟨cAn_o (cAn_n hw) (sPM_0 hvs), hm3⟩ | exact ⟨cAn_o (cAn_n2 hw hcc) (sPM_0 hvs), hm3⟩ | exact ⟨cAn_o (cAn_n hw) (sPM_n hvs hes hiv), hm3⟩ | exact ⟨cAn_o (cAn_n2 hw hcc) (sPM_n hvs hes hiv), hm3⟩ | exact ⟨cAn_o (cAn_z hkw (by with_reducible assumption)) (sPM_p hvs hes), hm2⟩ | exact ⟨cAn_o hkw (sPM_p hvs hes), hm2⟩ | exact ⟨cAn_o (cAn_z hkw (by with_reducible assumption)) (sPM_i hvs hes hiv), hm2⟩ | exact ⟨cAn_o hkw (sPM_i hvs hes hiv), hm2⟩ | exact ⟨cAn_o (cAn_n hw) (sPM_0 hvs), hm2⟩ | exact ⟨cAn_o (cAn_n2 hw hcc) (sPM_0 hvs), hm2⟩ | exact ⟨cAn_o (cAn_n hw) (sPM_n hvs hes hiv), hm2⟩ | exact ⟨cAn_o (cAn_n2 hw hcc) (sPM_n hvs hes hiv), hm2⟩ | exact ⟨cAn_o (cAn_z hkw (by with_reducible assumption)) (sPM_p hvs hes), hm⟩ | exact ⟨cAn_o hkw (sPM_p hvs hes), hm⟩ | exact ⟨cAn_o (cAn_z hkw (by with_reducible assumption)) (sPM_i hvs hes hiv), hm⟩ | exact ⟨cAn_o hkw (sPM_i hvs hes hiv), hm⟩ | exact ⟨cAn_o (cAn_n hw) (sPM_0 hvs), hm⟩ | exact ⟨cAn_o (cAn_n2 hw hcc) (sPM_0 hvs), hm⟩ | exact ⟨cAn_o (cAn_n hw) (sPM_n hvs hes hiv), hm⟩ | exact ⟨cAn_o (cAn_n2 hw hcc) (sPM_n hvs hes hiv), hm⟩)
      ·
        rw [if_neg g9]
        have g9i : p347.1.toInt ≠ 0 := q_neI g9
        (unfold QV_powerModulo_e; dsimp only; first | exact ⟨cAn_o (cAn_z hkw (by with_reducible assumption)) (sPM_p hvs hes), hm3⟩ | exact ⟨cAn_o hkw (sPM_p hvs hes), hm3⟩ | exact ⟨cAn_o (cAn_z hkw (by with_reducible assumption)) (sPM_i hvs hes hiv), hm3⟩ | exact ⟨cAn_o hkw (sPM_i hvs hes hiv), hm3⟩ | exact ⟨cAn_o (cAn_n hw) (sPM_0 hvs), hm3⟩ | exact ⟨cAn_o (cAn_n2 hw hcc) (sPM_0 hvs), hm3⟩ | exact ⟨cAn_o (cAn_n hw) (sPM_n hvs hes hiv), hm3⟩ | exact ⟨cAn_o (cAn_n2 hw hcc) (sPM_n hvs hes hiv), hm3⟩ | exact ⟨cAn_o (cAn_z hkw (by with_reducible assumption)) (sPM_p hvs hes), hm2⟩ | exact ⟨cAn_o hkw (sPM_p hvs hes), hm2⟩ | exact ⟨cAn_o (cAn_z hkw (by with_reducible assumption)) (sPM_i hvs hes hiv), hm2⟩ | exact ⟨cAn_o hkw (sPM_i hvs hes hiv), hm2⟩ | exact ⟨cAn_o (cAn_n hw) (sPM_0 hvs), hm2⟩ | exact ⟨cAn_o (cAn_n2 hw hcc) (sPM_0 hvs), hm2⟩ | exact ⟨cAn_o (cAn_n hw) (sPM_n hvs hes hiv), hm2⟩ | exact ⟨cAn_o (cAn_n2 hw hcc) (sPM_n hvs hes hiv), hm2⟩ | exact ⟨cAn_o (cAn_z hkw (by with_reducible assumption)) (sPM_p hvs hes), hm⟩ | exact ⟨cAn_o hkw (sPM_p hvs hes), hm⟩ | exact ⟨cAn_o (cAn_z hkw (by with_reducible assumption)) (sPM_i hvs hes hiv), hm⟩ | exact ⟨cAn_o hkw (sPM_i hvs hes hiv), hm⟩ | exact ⟨cAn_o (cAn_n hw) (sPM_0 hvs), hm⟩ | exact ⟨cAn_o (cAn_n2 hw hcc) (sPM_0 hvs), hm⟩ | exact ⟨cAn_o (cAn_n hw) (sPM_n hvs hes hiv), hm⟩ | exact ⟨cAn_o (cAn_n2 hw hcc) (sPM_n hvs hes hiv), hm⟩)
    ·
      rw [if_neg g5]
      have hes := v_ng1 hm g5
      have h10 := V_inverseO (R := (68 : Int32)) (R2 := (68 : Int32)) (t0_0 := t0_0) (t0_1 := t0_1) (t1_0 := t1_0) (t2_0 := t2_0) (t2_1 := t2_1) (t3_0 := t3_0) (t4_0 := t6_0) (t4_1 := t6_1) (t5_0 := t7_0) (t6_0 := t8_0) (t6_1 := t8_1) (t7_0 := t9_0) (t8_0 := t10_0) (t8_1 := t10_1) (t9_0 := t11_0) (t10_0 := t12_0) (t10_1 := t12_1) (t11_0 := t13_0) (t12_0 := t14_0) (t12_1 := t14_1) (t13_0 := t15_0) (t14_0 := t16_0) (t14_1 := t16_1) (t15_0 := t17_0) (t16_0 := t18_0) (t16_1 := t18_1) (t17_0 := t19_0) ha hm hvs hA hM (by decide)
      generalize F_Mil_inverse (68 : Int32) (68 : Int32) t0_0 t0_1 t1_0 t2_0 t2_1 t3_0 t6_0 t6_1 t7_0 t8_0 t8_1 t9_0 t10_0 t10_1 t11_0 t12_0 t12_1 t13_0 t14_0 t14_1 t15_0 t16_0 t16_1 t17_0 t18_0 t18_1 t19_0 = p474 at h10 ⊢
      unfold F_NH_powerModulo_e_c85
      rcases h10 with ⟨h100, h101, h102⟩ | ⟨xv, h100, h101, h10n, h102⟩
      ·
        have hm2 := h102
        have hiv := h100
        have hcc : F_NH_canHave p474.1 = 2 := by rw [h101]; decide
        have g11 : ¬ ((F_NH_canHave (p474.1 : Int32)) = (0 : Int32)) := (by rw [h101]; decide)
        rw [if_neg g11]
        (unfold QV_powerModulo_e; dsimp only; first | exact ⟨cAn_o (cAn_z hkw (by with_reducible assumption)) (sPM_p hvs hes), hm3⟩ | exact ⟨cAn_o hkw (sPM_p hvs hes), hm3⟩ | exact ⟨cAn_o (cAn_z hkw (by with_reducible assumption)) (sPM_i hvs hes hiv), hm3⟩ | exact ⟨cAn_o hkw (sPM_i hvs hes hiv), hm3⟩ | exact ⟨cAn_o (cAn_n hw) (sPM_0 hvs), hm3⟩ | exact ⟨cAn_o (cAn_n2 hw hcc) (sPM_0 hvs), hm3⟩ | exact ⟨cAn_o (cAn_n hw) (sPM_n hvs hes hiv), hm3⟩ | exact ⟨cAn_o (cAn_n2 hw hcc) (sPM_n hvs hes hiv), hm3⟩ | exact ⟨cAn_o (cAn_z hkw (by with_reducible assumption)) (sPM_p hvs hes), hm2⟩ | exact ⟨cAn_o hkw (sPM_p hvs hes), hm2⟩ | exact ⟨cAn_o (cAn_z hkw (by with_reducible assumption)) (sPM_i hvs hes hiv), hm2⟩ | exact ⟨cAn_o hkw (sPM_i hvs hes hiv), hm2⟩ | exact ⟨cAn_o (cAn_n hw) (sPM_0 hvs), hm2⟩ | exact ⟨cAn_o (cAn_n2 hw hcc) (sPM_0 hvs), hm2⟩ | exact ⟨cAn_o (cAn_n hw) (sPM_n hvs hes hiv), hm2⟩ | exact ⟨cAn_o (cAn_n2 hw hcc) (sPM_n hvs hes hiv), hm2⟩ | exact ⟨cAn_o (cAn_z hkw (by with_reducible assumption)) (sPM_p hvs hes), hm⟩ | exact ⟨cAn_o hkw (sPM_p hvs hes), hm⟩ | exact ⟨cAn_o (cAn_z hkw (by with_reducible assumption)) (sPM_i hvs hes hiv), hm⟩ | exact ⟨cAn_o hkw (sPM_i hvs hes hiv), hm⟩ | exact ⟨cAn_o (cAn_n hw) (sPM_0 hvs), hm⟩ | exact ⟨cAn_o (cAn_n2 hw hcc) (sPM_0 hvs), hm⟩ | exact ⟨cAn_o (cAn_n hw) (sPM_n hvs hes hiv), hm⟩ | exact ⟨cAn_o (cAn_n2 hw hcc) (sPM_n hvs hes hiv), hm⟩)
      ·
        have hn := h10n
        have hm2 := h102
        have hiv := h100
        have hn0 := (sInv_rng hiv).1
        have hnB : bB 67 xv := hM.le (by have := (sInv_rng hiv).2; omega)
        have g12 : ((F_NH_canHave (p474.1 : Int32)) = (0 : Int32)) := (by rw [h101]; decide)
        rw [if_pos g12]
        have h13 := V_powerBelow_a (ve := 0) (R2 := (68 : Int32)) (t0_0 := (p474.2.1 : Int32)) (t0_1 := (p474.2.2.1 : Int32)) (t1_0 := (p474.2.2.2.1 : (Nat → Int32))) (t2_0 := (p474.2.2.2.2.1 : Int32)) (t2_1 := (p474.2.2.2.2.2.1 : Int32)) (t3_0 := (p474.2.2.2.2.2.2.1 : (Nat → Int32))) (t4_0 := t4_0) (t4_1 := t4_1) (t5_0 := t5_0) (t6_0 := (p474.2.2.2.2.2.2.2.1 : Int32)) (t6_1 := (p474.2.2.2.2.2.2.2.2.1 : Int32)) (t7_0 := (p474.2.2.2.2.2.2.2.2.2.1 : (Nat → Int32))) (t8_0 := (p474.2.2.2.2.2.2.2.2.2.2.2.2.2.2.2.2.2.2.2.2.2.2.1 : Int32)) (t8_1 := (p474.2.2.2.2.2.2.2.2.2.2.2.2.2.2.2.2.2.2.2.2.2.2.2.1 : Int32)) (t9_0 := (p474.2.2.2.2.2.2.2.2.2.2.2.2.2.2.2.2.2.2.2.2.2.2.2.2 : (Nat → Int32))) hn hn0 hm2 hvs hnB hM (by decide)
        replace h13 := h13.2
        generalize F_Mil_powerBelow_a (68 : Int32) (p474.2.1 : Int32) (p474.2.2.1 : Int32) (p474.2.2.2.1 : (Nat → Int32)) (p474.2.2.2.2.1 : Int32) (p474.2.2.2.2.2.1 : Int32) (p474.2.2.2.2.2.2.1 : (Nat → Int32)) t4_0 t4_1 t5_0 (p474.2.2.2.2.2.2.2.1 : Int32) (p474.2.2.2.2.2.2.2.2.1 : Int32) (p474.2.2.2.2.2.2.2.2.2.1 : (Nat → Int32)) (p474.2.2.2.2.2.2.2.2.2.2.2.2.2.2.2.2.2.2.2.2.2.2.1 : Int32) (p474.2.2.2.2.2.2.2.2.2.2.2.2.2.2.2.2.2.2.2.2.2.2.2.1 : Int32) (p474.2.2.2.2.2.2.2.2.2.2.2.2.2.2.2.2.2.2.2.2.2.2.2.2 : (Nat → Int32)) = p570 at h13 ⊢
        have hn := h13.1
        have hm3 := h13.2.2.2.2
        unfold F_NH_powerModulo_e_c136_7
        have h14 := V_keepWhole (x2 := x5) (t0_0 := (p570.1 : Int32)) (t0_1 := (p570.2.1 : Int32)) (t1_0 := (p570.2.2.1 : (Nat → Int32))) (t2_0 := t20_0) (t2_1 := t20_1) (t3_0 := t21_0) hn (by first | exact hw3 | exact hw2 | exact hw)
        generalize F_NH_keepWhole x5 (p570.1 : Int32) (p570.2.1 : Int32) (p570.2.2.1 : (Nat → Int32)) t20_0 t20_1 t21_0 = p605 at h14 ⊢
        have hkw := h14
        unfold F_NH_powerModulo_e_c142_8
        by_cases g15 : p605.1 = (0 : Int32)
        ·
          rw [if_pos g15]
          have g15i : p605.1.toInt = 0 := q_eqI g15
          (unfold QV_powerModulo_e; dsimp only; first | exact ⟨cAn_o (cAn_z hkw (by with_reducible assumption)) (sPM_p hvs hes), hm3⟩ | exact ⟨cAn_o hkw (sPM_p hvs hes), hm3⟩ | exact ⟨cAn_o (cAn_z hkw (by with_reducible assumption)) (sPM_i hvs hes hiv), hm3⟩ | exact ⟨cAn_o hkw (sPM_i hvs hes hiv), hm3⟩ | exact ⟨cAn_o (cAn_n hw) (sPM_0 hvs), hm3⟩ | exact ⟨cAn_o (cAn_n2 hw hcc) (sPM_0 hvs), hm3⟩ | exact ⟨cAn_o (cAn_n hw) (sPM_n hvs hes hiv), hm3⟩ | exact ⟨cAn_o (cAn_n2 hw hcc) (sPM_n hvs hes hiv), hm3⟩ | exact ⟨cAn_o (cAn_z hkw (by with_reducible assumption)) (sPM_p hvs hes), hm2⟩ | exact ⟨cAn_o hkw (sPM_p hvs hes), hm2⟩ | exact ⟨cAn_o (cAn_z hkw (by with_reducible assumption)) (sPM_i hvs hes hiv), hm2⟩ | exact ⟨cAn_o hkw (sPM_i hvs hes hiv), hm2⟩ | exact ⟨cAn_o (cAn_n hw) (sPM_0 hvs), hm2⟩ | exact ⟨cAn_o (cAn_n2 hw hcc) (sPM_0 hvs), hm2⟩ | exact ⟨cAn_o (cAn_n hw) (sPM_n hvs hes hiv), hm2⟩ | exact ⟨cAn_o (cAn_n2 hw hcc) (sPM_n hvs hes hiv), hm2⟩ | exact ⟨cAn_o (cAn_z hkw (by with_reducible assumption)) (sPM_p hvs hes), hm⟩ | exact ⟨cAn_o hkw (sPM_p hvs hes), hm⟩ | exact ⟨cAn_o (cAn_z hkw (by with_reducible assumption)) (sPM_i hvs hes hiv), hm⟩ | exact ⟨cAn_o hkw (sPM_i hvs hes hiv), hm⟩ | exact ⟨cAn_o (cAn_n hw) (sPM_0 hvs), hm⟩ | exact ⟨cAn_o (cAn_n2 hw hcc) (sPM_0 hvs), hm⟩ | exact ⟨cAn_o (cAn_n hw) (sPM_n hvs hes hiv), hm⟩ | exact ⟨cAn_o (cAn_n2 hw hcc) (sPM_n hvs hes hiv), hm⟩)
        ·
          rw [if_neg g15]
          have g15i : p605.1.toInt ≠ 0 := q_neI g15
          (unfold QV_powerModulo_e; dsimp only; first | exact ⟨cAn_o (cAn_z hkw (by with_reducible assumption)) (sPM_p hvs hes), hm3⟩ | exact ⟨cAn_o hkw (sPM_p hvs hes), hm3⟩ | exact ⟨cAn_o (cAn_z hkw (by with_reducible assumption)) (sPM_i hvs hes hiv), hm3⟩ | exact ⟨cAn_o hkw (sPM_i hvs hes hiv), hm3⟩ | exact ⟨cAn_o (cAn_n hw) (sPM_0 hvs), hm3⟩ | exact ⟨cAn_o (cAn_n2 hw hcc) (sPM_0 hvs), hm3⟩ | exact ⟨cAn_o (cAn_n hw) (sPM_n hvs hes hiv), hm3⟩ | exact ⟨cAn_o (cAn_n2 hw hcc) (sPM_n hvs hes hiv), hm3⟩ | exact ⟨cAn_o (cAn_z hkw (by with_reducible assumption)) (sPM_p hvs hes), hm2⟩ | exact ⟨cAn_o hkw (sPM_p hvs hes), hm2⟩ | exact ⟨cAn_o (cAn_z hkw (by with_reducible assumption)) (sPM_i hvs hes hiv), hm2⟩ | exact ⟨cAn_o hkw (sPM_i hvs hes hiv), hm2⟩ | exact ⟨cAn_o (cAn_n hw) (sPM_0 hvs), hm2⟩ | exact ⟨cAn_o (cAn_n2 hw hcc) (sPM_0 hvs), hm2⟩ | exact ⟨cAn_o (cAn_n hw) (sPM_n hvs hes hiv), hm2⟩ | exact ⟨cAn_o (cAn_n2 hw hcc) (sPM_n hvs hes hiv), hm2⟩ | exact ⟨cAn_o (cAn_z hkw (by with_reducible assumption)) (sPM_p hvs hes), hm⟩ | exact ⟨cAn_o hkw (sPM_p hvs hes), hm⟩ | exact ⟨cAn_o (cAn_z hkw (by with_reducible assumption)) (sPM_i hvs hes hiv), hm⟩ | exact ⟨cAn_o hkw (sPM_i hvs hes hiv), hm⟩ | exact ⟨cAn_o (cAn_n hw) (sPM_0 hvs), hm⟩ | exact ⟨cAn_o (cAn_n2 hw hcc) (sPM_0 hvs), hm⟩ | exact ⟨cAn_o (cAn_n hw) (sPM_n hvs hes hiv), hm⟩ | exact ⟨cAn_o (cAn_n2 hw hcc) (sPM_n hvs hes hiv), hm⟩)
def QV_powerModulo_ae (o : Option Int) (vt vm : Int) (p : Int32 × Int32 × Int32 × (Nat → Int32) × Int32 × Int32 × (Nat → Int32) × Int32 × Int32 × (Nat → Int32) × Int32 × Int32 × (Nat → Int32) × Int32 × Int32 × (Nat → Int32) × Int32 × Int32 × (Nat → Int32) × Int32 × Int32 × (Nat → Int32) × Int32 × Int32 × (Nat → Int32) × Int32 × Int32 × (Nat → Int32) × Int32 × Int32 × (Nat → Int32)) : Prop := cAn o vt p.1 p.2.2.2.2.2.2.2.2.2.2.2.2.2.2.2.2.2.2.2.2.2.2.2.2.2.2.2.2.1 p.2.2.2.2.2.2.2.2.2.2.2.2.2.2.2.2.2.2.2.2.2.2.2.2.2.2.2.2.2.1 p.2.2.2.2.2.2.2.2.2.2.2.2.2.2.2.2.2.2.2.2.2.2.2.2.2.2.2.2.2.2 ∧ bO 68 p.2.2.2.2.2.2.2.2.2.2.2.2.2.2.2.2.2.2.2.2.2.2.2.2.2.1 p.2.2.2.2.2.2.2.2.2.2.2.2.2.2.2.2.2.2.2.2.2.2.2.2.2.2.1 p.2.2.2.2.2.2.2.2.2.2.2.2.2.2.2.2.2.2.2.2.2.2.2.2.2.2.2.1 vm
theorem V_powerModulo_ae {x2 : Int32} {x3 : Int32} {x4 : Int32} {x5 : Int32} {t0_0 : Int32} {t0_1 : Int32} {t1_0 : (Nat → Int32)} {t2_0 : Int32} {t2_1 : Int32} {t3_0 : (Nat → Int32)} {t4_0 : Int32} {t4_1 : Int32} {t5_0 : (Nat → Int32)} {t6_0 : Int32} {t6_1 : Int32} {t7_0 : (Nat → Int32)} {t8_0 : Int32} {t8_1 : Int32} {t9_0 : (Nat → Int32)} {t10_0 : Int32} {t10_1 : Int32} {t11_0 : (Nat → Int32)} {t12_0 : Int32} {t12_1 : Int32} {t13_0 : (Nat → Int32)} {t14_0 : Int32} {t14_1 : Int32} {t15_0 : (Nat → Int32)} {t16_0 : Int32} {t16_1 : Int32} {t17_0 : (Nat → Int32)} {t18_0 : Int32} {t18_1 : Int32} {t19_0 : (Nat → Int32)} {vm vt : Int} (hm : bO 68 t16_0 t16_1 t17_0 vm) (hM : bB 67 vm) (hw : bO 68 t18_0 t18_1 t19_0 vt) (hr2 : ¬ F_NH_isRegister x2 = 0) (hr3 : ¬ F_NH_isRegister x3 = 0) (hr4 : ¬ F_NH_isRegister x4 = 0) (hr5 : ¬ F_NH_isRegister x5 = 0) : QV_powerModulo_ae (sPM vm vm vm) vt vm (F_NH_powerModulo_ae x2 x3 x4 x5 t0_0 t0_1 t1_0 t2_0 t2_1 t3_0 t4_0 t4_1 t5_0 t6_0 t6_1 t7_0 t8_0 t8_1 t9_0 t10_0 t10_1 t11_0 t12_0 t12_1 t13_0 t14_0 t14_1 t15_0 t16_0 t16_1 t17_0 t18_0 t18_1 t19_0) := by
  have e0 : (0 : Int32).toInt = 0 := rfl
  have e220 : (220 : Int32).toInt = 220 := rfl
  have e68 : (68 : Int32).toInt = 68 := rfl
  have sm : t16_0.toInt ≤ 68 := hm.2.2.2.1
  unfold F_NH_powerModulo_ae
  rw [if_neg hr2]
  rw [if_neg hr3]
  rw [if_neg hr4]
  rw [if_neg hr5]
  unfold F_NH_powerModulo_ae_J34
  have g1 : ((F_NH_need (1 : Int32)) = (0 : Int32)) := (by decide)
  rw [if_pos g1]
  by_cases g2 : ((F_Big_sign (68 : Int32) t16_0 t16_1) : Int32) ≤ (0 : Int32)
  ·
    rw [if_pos g2]
    have hvs := v_sgnP0 hm g2
    unfold F_NH_powerModulo_ae_J54
    have g3 : ¬ ((F_NH_canHave (0 : Int32)) = (0 : Int32)) := (by decide)
    rw [if_neg g3]
    (unfold QV_powerModulo_ae; dsimp only; first | exact ⟨cAn_o (cAn_z hkw (by with_reducible assumption)) (sPM_p hvs hes), hm3⟩ | exact ⟨cAn_o hkw (sPM_p hvs hes), hm3⟩ | exact ⟨cAn_o (cAn_z hkw (by with_reducible assumption)) (sPM_i hvs hes hiv), hm3⟩ | exact ⟨cAn_o hkw (sPM_i hvs hes hiv), hm3⟩ | exact ⟨cAn_o (cAn_n hw) (sPM_0 hvs), hm3⟩ | exact ⟨cAn_o (cAn_n2 hw hcc) (sPM_0 hvs), hm3⟩ | exact ⟨cAn_o (cAn_n hw) (sPM_n hvs hes hiv), hm3⟩ | exact ⟨cAn_o (cAn_n2 hw hcc) (sPM_n hvs hes hiv), hm3⟩ | exact ⟨cAn_o (cAn_z hkw (by with_reducible assumption)) (sPM_p hvs hes), hm2⟩ | exact ⟨cAn_o hkw (sPM_p hvs hes), hm2⟩ | exact ⟨cAn_o (cAn_z hkw (by with_reducible assumption)) (sPM_i hvs hes hiv), hm2⟩ | exact ⟨cAn_o hkw (sPM_i hvs hes hiv), hm2⟩ | exact ⟨cAn_o (cAn_n hw) (sPM_0 hvs), hm2⟩ | exact ⟨cAn_o (cAn_n2 hw hcc) (sPM_0 hvs), hm2⟩ | exact ⟨cAn_o (cAn_n hw) (sPM_n hvs hes hiv), hm2⟩ | exact ⟨cAn_o (cAn_n2 hw hcc) (sPM_n hvs hes hiv), hm2⟩ | exact ⟨cAn_o (cAn_z hkw (by with_reducible assumption)) (sPM_p hvs hes), hm⟩ | exact ⟨cAn_o hkw (sPM_p hvs hes), hm⟩ | exact ⟨cAn_o (cAn_z hkw (by with_reducible assumption)) (sPM_i hvs hes hiv), hm⟩ | exact ⟨cAn_o hkw (sPM_i hvs hes hiv), hm⟩ | exact ⟨cAn_o (cAn_n hw) (sPM_0 hvs), hm⟩ | exact ⟨cAn_o (cAn_n2 hw hcc) (sPM_0 hvs), hm⟩ | exact ⟨cAn_o (cAn_n hw) (sPM_n hvs hes hiv), hm⟩ | exact ⟨cAn_o (cAn_n2 hw hcc) (sPM_n hvs hes hiv), hm⟩)
  ·
    rw [if_neg g2]
    have hvs := v_sgnP hm g2
    unfold F_NH_powerModulo_ae_J54
    have g4 : ((F_NH_canHave (1 : Int32)) = (0 : Int32)) := (by decide)
    rw [if_pos g4]
    by_cases g5 : t16_1 = (0 : Int32)
    ·
      rw [if_pos g5]
      have hes := v_ng0 hm g5
      have h6 := T_modulo_a (R2 := (68 : Int32)) (R4 := (220 : Int32)) (t0_0 := t2_0) (t0_1 := t2_1) (t1_0 := t3_0) (t2_0 := t16_0) (t2_1 := t16_1) (t3_0 := t17_0) (t4_0 := t0_0) (t4_1 := t0_1) (t5_0 := t1_0) hm (by omega) hM (by decide) (by decide)
      replace h6 := h6.2
      generalize F_Mil_modulo_a (68 : Int32) (220 : Int32) t2_0 t2_1 t3_0 t16_0 t16_1 t17_0 t0_0 t0_1 t1_0 = p229 at h6 ⊢
      have hn := h6.2.2
      have hnB : bB 67 0 := hM.le (Nat.zero_le _)
      rw [v_mod0 hvs] at hn hnB
      have hn0 : 0 ≤ vm % vm := Int.emod_nonneg _ (by omega)
      have hm2 := h6.2.1
      unfold F_NH_powerModulo_ae_c117
      have h7 := V_powerBelow_a (ve := 0) (R2 := (68 : Int32)) (t0_0 := (p229.2.2.2.2.2.2.1 : Int32)) (t0_1 := (p229.2.2.2.2.2.2.2.1 : Int32)) (t1_0 := (p229.2.2.2.2.2.2.2.2 : (Nat → Int32))) (t2_0 := (p229.1 : Int32)) (t2_1 := (p229.2.1 : Int32)) (t3_0 := (p229.2.2.1 : (Nat → Int32))) (t4_0 := t4_0) (t4_1 := t4_1) (t5_0 := t5_0) (t6_0 := t6_0) (t6_1 := t6_1) (t7_0 := t7_0) (t8_0 := (p229.2.2.2.1 : Int32)) (t8_1 := (p229.2.2.2.2.1 : Int32)) (t9_0 := (p229.2.2.2.2.2.1 : (Nat → Int32))) hn hn0 hm2 hvs hnB hM (by decide)
      replace h7 := h7.2
      generalize F_Mil_powerBelow_a (68 : Int32) (p229.2.2.2.2.2.2.1 : Int32) (p229.2.2.2.2.2.2.2.1 : Int32) (p229.2.2.2.2.2.2.2.2 : (Nat → Int32)) (p229.1 : Int32) (p229.2.1 : Int32) (p229.2.2.1 : (Nat → Int32)) t4_0 t4_1 t5_0 t6_0 t6_1 t7_0 (p229.2.2.2.1 : Int32) (p229.2.2.2.2.1 : Int32) (p229.2.2.2.2.2.1 : (Nat → Int32)) = p300 at h7 ⊢
      have hn := h7.1
      have hm3 := h7.2.2.2.2
      unfold F_NH_powerModulo_ae_c136
      have h8 := V_keepWhole (x2 := x5) (t0_0 := (p300.1 : Int32)) (t0_1 := (p300.2.1 : Int32)) (t1_0 := (p300.2.2.1 : (Nat → Int32))) (t2_0 := t18_0) (t2_1 := t18_1) (t3_0 := t19_0) hn (by first | exact hw3 | exact hw2 | exact hw)
      generalize F_NH_keepWhole x5 (p300.1 : Int32) (p300.2.1 : Int32) (p300.2.2.1 : (Nat → Int32)) t18_0 t18_1 t19_0 = p335 at h8 ⊢
      have hkw := h8
      unfold F_NH_powerModulo_ae_c142
      by_cases g9 : p335.1 = (0 : Int32)
      ·
        rw [if_pos g9]
        have g9i : p335.1.toInt = 0 := q_eqI g9
        (unfold QV_powerModulo_ae; dsimp only; first | exact ⟨cAn_o (cAn_z hkw (by with_reducible assumption)) (sPM_p hvs hes), hm3⟩ | exact ⟨cAn_o hkw (sPM_p hvs hes), hm3⟩ | exact ⟨cAn_o (cAn_z hkw (by with_reducible assumption)) (sPM_i hvs hes hiv), hm3⟩ | exact ⟨cAn_o hkw (sPM_i hvs hes hiv), hm3⟩ | exact ⟨cAn_o (cAn_n hw) (sPM_0 hvs), hm3⟩ | exact ⟨cAn_o (cAn_n2 hw hcc) (sPM_0 hvs), hm3⟩ | exact ⟨cAn_o (cAn_n hw) (sPM_n hvs hes hiv), hm3⟩ | exact ⟨cAn_o (cAn_n2 hw hcc) (sPM_n hvs hes hiv), hm3⟩ | exact ⟨cAn_o (cAn_z hkw (by with_reducible assumption)) (sPM_p hvs hes), hm2⟩ | exact ⟨cAn_o hkw (sPM_p hvs hes), hm2⟩ | exact ⟨cAn_o (cAn_z hkw (by with_reducible assumption)) (sPM_i hvs hes hiv), hm2⟩ | exact ⟨cAn_o hkw (sPM_i hvs hes hiv), hm2⟩ | exact ⟨cAn_o (cAn_n hw) (sPM_0 hvs), hm2⟩ | exact ⟨cAn_o (cAn_n2 hw hcc) (sPM_0 hvs), hm2⟩ | exact ⟨cAn_o (cAn_n hw) (sPM_n hvs hes hiv), hm2⟩ | exact ⟨cAn_o (cAn_n2 hw hcc) (sPM_n hvs hes hiv), hm2⟩ | exact ⟨cAn_o (cAn_z hkw (by with_reducible assumption)) (sPM_p hvs hes), hm⟩ | exact ⟨cAn_o hkw (sPM_p hvs hes), hm⟩ | exact ⟨cAn_o (cAn_z hkw (by with_reducible assumption)) (sPM_i hvs hes hiv), hm⟩ | exact ⟨cAn_o hkw (sPM_i hvs hes hiv), hm⟩ | exact ⟨cAn_o (cAn_n hw) (sPM_0 hvs), hm⟩ | exact ⟨cAn_o (cAn_n2 hw hcc) (sPM_0 hvs), hm⟩ | exact ⟨cAn_o (cAn_n hw) (sPM_n hvs hes hiv), hm⟩ | exact ⟨cAn_o (cAn_n2 hw hcc) (sPM_n hvs hes hiv), hm⟩)
      ·
        rw [if_neg g9]
        have g9i : p335.1.toInt ≠ 0 := q_neI g9
        (unfold QV_powerModulo_ae; dsimp only; first | exact ⟨cAn_o (cAn_z hkw (by with_reducible assumption)) (sPM_p hvs hes), hm3⟩ | exact ⟨cAn_o hkw (sPM_p hvs hes), hm3⟩ | exact ⟨cAn_o (cAn_z hkw (by with_reducible assumption)) (sPM_i hvs hes hiv), hm3⟩ | exact ⟨cAn_o hkw (sPM_i hvs hes hiv), hm3⟩ | exact ⟨cAn_o (cAn_n hw) (sPM_0 hvs), hm3⟩ | exact ⟨cAn_o (cAn_n2 hw hcc) (sPM_0 hvs), hm3⟩ | exact ⟨cAn_o (cAn_n hw) (sPM_n hvs hes hiv), hm3⟩ | exact ⟨cAn_o (cAn_n2 hw hcc) (sPM_n hvs hes hiv), hm3⟩ | exact ⟨cAn_o (cAn_z hkw (by with_reducible assumption)) (sPM_p hvs hes), hm2⟩ | exact ⟨cAn_o hkw (sPM_p hvs hes), hm2⟩ | exact ⟨cAn_o (cAn_z hkw (by with_reducible assumption)) (sPM_i hvs hes hiv), hm2⟩ | exact ⟨cAn_o hkw (sPM_i hvs hes hiv), hm2⟩ | exact ⟨cAn_o (cAn_n hw) (sPM_0 hvs), hm2⟩ | exact ⟨cAn_o (cAn_n2 hw hcc) (sPM_0 hvs), hm2⟩ | exact ⟨cAn_o (cAn_n hw) (sPM_n hvs hes hiv), hm2⟩ | exact ⟨cAn_o (cAn_n2 hw hcc) (sPM_n hvs hes hiv), hm2⟩ | exact ⟨cAn_o (cAn_z hkw (by with_reducible assumption)) (sPM_p hvs hes), hm⟩ | exact ⟨cAn_o hkw (sPM_p hvs hes), hm⟩ | exact ⟨cAn_o (cAn_z hkw (by with_reducible assumption)) (sPM_i hvs hes hiv), hm⟩ | exact ⟨cAn_o hkw (sPM_i hvs hes hiv), hm⟩ | exact ⟨cAn_o (cAn_n hw) (sPM_0 hvs), hm⟩ | exact ⟨cAn_o (cAn_n2 hw hcc) (sPM_0 hvs), hm⟩ | exact ⟨cAn_o (cAn_n hw) (sPM_n hvs hes hiv), hm⟩ | exact ⟨cAn_o (cAn_n2 hw hcc) (sPM_n hvs hes hiv), hm⟩)
    ·
      rw [if_neg g5]
      have hes := v_ng1 hm g5
      have h10 := V_inverse_aO (R2 := (68 : Int32)) (t0_0 := t0_0) (t0_1 := t0_1) (t1_0 := t1_0) (t2_0 := t2_0) (t2_1 := t2_1) (t3_0 := t3_0) (t4_0 := t6_0) (t4_1 := t6_1) (t5_0 := t7_0) (t6_0 := t8_0) (t6_1 := t8_1) (t7_0 := t9_0) (t8_0 := t10_0) (t8_1 := t10_1) (t9_0 := t11_0) (t10_0 := t12_0) (t10_1 := t12_1) (t11_0 := t13_0) (t12_0 := t14_0) (t12_1 := t14_1) (t13_0 := t15_0) (t14_0 := t16_0) (t14_1 := t16_1) (t15_0 := t17_0) hm hvs hM (by decide)
      generalize F_Mil_inverse_a (68 : Int32) t0_0 t0_1 t1_0 t2_0 t2_1 t3_0 t6_0 t6_1 t7_0 t8_0 t8_1 t9_0 t10_0 t10_1 t11_0 t12_0 t12_1 t13_0 t14_0 t14_1 t15_0 t16_0 t16_1 t17_0 = p459 at h10 ⊢
      unfold F_NH_powerModulo_ae_c85
      rcases h10 with ⟨h100, h101, h102⟩ | ⟨xv, h100, h101, h10n, h102⟩
      ·
        have hm2 := h102
        have hiv := h100
        have hcc : F_NH_canHave p459.1 = 2 := by rw [h101]; decide
        have g11 : ¬ ((F_NH_canHave (p459.1 : Int32)) = (0 : Int32)) := (by rw [h101]; decide)
        rw [if_neg g11]
        (unfold QV_powerModulo_ae; dsimp only; first | exact ⟨cAn_o (cAn_z hkw (by with_reducible assumption)) (sPM_p hvs hes), hm3⟩ | exact ⟨cAn_o hkw (sPM_p hvs hes), hm3⟩ | exact ⟨cAn_o (cAn_z hkw (by with_reducible assumption)) (sPM_i hvs hes hiv), hm3⟩ | exact ⟨cAn_o hkw (sPM_i hvs hes hiv), hm3⟩ | exact ⟨cAn_o (cAn_n hw) (sPM_0 hvs), hm3⟩ | exact ⟨cAn_o (cAn_n2 hw hcc) (sPM_0 hvs), hm3⟩ | exact ⟨cAn_o (cAn_n hw) (sPM_n hvs hes hiv), hm3⟩ | exact ⟨cAn_o (cAn_n2 hw hcc) (sPM_n hvs hes hiv), hm3⟩ | exact ⟨cAn_o (cAn_z hkw (by with_reducible assumption)) (sPM_p hvs hes), hm2⟩ | exact ⟨cAn_o hkw (sPM_p hvs hes), hm2⟩ | exact ⟨cAn_o (cAn_z hkw (by with_reducible assumption)) (sPM_i hvs hes hiv), hm2⟩ | exact ⟨cAn_o hkw (sPM_i hvs hes hiv), hm2⟩ | exact ⟨cAn_o (cAn_n hw) (sPM_0 hvs), hm2⟩ | exact ⟨cAn_o (cAn_n2 hw hcc) (sPM_0 hvs), hm2⟩ | exact ⟨cAn_o (cAn_n hw) (sPM_n hvs hes hiv), hm2⟩ | exact ⟨cAn_o (cAn_n2 hw hcc) (sPM_n hvs hes hiv), hm2⟩ | exact ⟨cAn_o (cAn_z hkw (by with_reducible assumption)) (sPM_p hvs hes), hm⟩ | exact ⟨cAn_o hkw (sPM_p hvs hes), hm⟩ | exact ⟨cAn_o (cAn_z hkw (by with_reducible assumption)) (sPM_i hvs hes hiv), hm⟩ | exact ⟨cAn_o hkw (sPM_i hvs hes hiv), hm⟩ | exact ⟨cAn_o (cAn_n hw) (sPM_0 hvs), hm⟩ | exact ⟨cAn_o (cAn_n2 hw hcc) (sPM_0 hvs), hm⟩ | exact ⟨cAn_o (cAn_n hw) (sPM_n hvs hes hiv), hm⟩ | exact ⟨cAn_o (cAn_n2 hw hcc) (sPM_n hvs hes hiv), hm⟩)
      ·
        have hn := h10n
        have hm2 := h102
        have hiv := h100
        have hn0 := (sInv_rng hiv).1
        have hnB : bB 67 xv := hM.le (by have := (sInv_rng hiv).2; omega)
        have g12 : ((F_NH_canHave (p459.1 : Int32)) = (0 : Int32)) := (by rw [h101]; decide)
        rw [if_pos g12]
        have h13 := V_powerBelow_a (ve := 0) (R2 := (68 : Int32)) (t0_0 := (p459.2.1 : Int32)) (t0_1 := (p459.2.2.1 : Int32)) (t1_0 := (p459.2.2.2.1 : (Nat → Int32))) (t2_0 := (p459.2.2.2.2.1 : Int32)) (t2_1 := (p459.2.2.2.2.2.1 : Int32)) (t3_0 := (p459.2.2.2.2.2.2.1 : (Nat → Int32))) (t4_0 := t4_0) (t4_1 := t4_1) (t5_0 := t5_0) (t6_0 := (p459.2.2.2.2.2.2.2.1 : Int32)) (t6_1 := (p459.2.2.2.2.2.2.2.2.1 : Int32)) (t7_0 := (p459.2.2.2.2.2.2.2.2.2.1 : (Nat → Int32))) (t8_0 := (p459.2.2.2.2.2.2.2.2.2.2.2.2.2.2.2.2.2.2.2.2.2.2.1 : Int32)) (t8_1 := (p459.2.2.2.2.2.2.2.2.2.2.2.2.2.2.2.2.2.2.2.2.2.2.2.1 : Int32)) (t9_0 := (p459.2.2.2.2.2.2.2.2.2.2.2.2.2.2.2.2.2.2.2.2.2.2.2.2 : (Nat → Int32))) hn hn0 hm2 hvs hnB hM (by decide)
        replace h13 := h13.2
        generalize F_Mil_powerBelow_a (68 : Int32) (p459.2.1 : Int32) (p459.2.2.1 : Int32) (p459.2.2.2.1 : (Nat → Int32)) (p459.2.2.2.2.1 : Int32) (p459.2.2.2.2.2.1 : Int32) (p459.2.2.2.2.2.2.1 : (Nat → Int32)) t4_0 t4_1 t5_0 (p459.2.2.2.2.2.2.2.1 : Int32) (p459.2.2.2.2.2.2.2.2.1 : Int32) (p459.2.2.2.2.2.2.2.2.2.1 : (Nat → Int32)) (p459.2.2.2.2.2.2.2.2.2.2.2.2.2.2.2.2.2.2.2.2.2.2.1 : Int32) (p459.2.2.2.2.2.2.2.2.2.2.2.2.2.2.2.2.2.2.2.2.2.2.2.1 : Int32) (p459.2.2.2.2.2.2.2.2.2.2.2.2.2.2.2.2.2.2.2.2.2.2.2.2 : (Nat → Int32)) = p555 at h13 ⊢
        have hn := h13.1
        have hm3 := h13.2.2.2.2
        unfold F_NH_powerModulo_ae_c136_7
        have h14 := V_keepWhole (x2 := x5) (t0_0 := (p555.1 : Int32)) (t0_1 := (p555.2.1 : Int32)) (t1_0 := (p555.2.2.1 : (Nat → Int32))) (t2_0 := t18_0) (t2_1 := t18_1) (t3_0 := t19_0) hn (by first | exact hw3 | exact hw2 | exact hw)
        generalize F_NH_keepWhole x5 (p555.1 : Int32) (p555.2.1 : Int32) (p555.2.2.1 : (Nat → Int32)) t18_0 t18_1 t19_0 = p590 at h14 ⊢
        have hkw := h14
        unfold F_NH_powerModulo_ae_c142_8
        by_cases g15 : p590.1 = (0 : Int32)
        ·
          rw [if_pos g15]
          have g15i : p590.1.toInt = 0 := q_eqI g15
          (unfold QV_powerModulo_ae; dsimp only; first | exact ⟨cAn_o (cAn_z hkw (by with_reducible assumption)) (sPM_p hvs hes), hm3⟩ | exact ⟨cAn_o hkw (sPM_p hvs hes), hm3⟩ | exact ⟨cAn_o (cAn_z hkw (by with_reducible assumption)) (sPM_i hvs hes hiv), hm3⟩ | exact ⟨cAn_o hkw (sPM_i hvs hes hiv), hm3⟩ | exact ⟨cAn_o (cAn_n hw) (sPM_0 hvs), hm3⟩ | exact ⟨cAn_o (cAn_n2 hw hcc) (sPM_0 hvs), hm3⟩ | exact ⟨cAn_o (cAn_n hw) (sPM_n hvs hes hiv), hm3⟩ | exact ⟨cAn_o (cAn_n2 hw hcc) (sPM_n hvs hes hiv), hm3⟩ | exact ⟨cAn_o (cAn_z hkw (by with_reducible assumption)) (sPM_p hvs hes), hm2⟩ | exact ⟨cAn_o hkw (sPM_p hvs hes), hm2⟩ | exact ⟨cAn_o (cAn_z hkw (by with_reducible assumption)) (sPM_i hvs hes hiv), hm2⟩ | exact ⟨cAn_o hkw (sPM_i hvs hes hiv), hm2⟩ | exact ⟨cAn_o (cAn_n hw) (sPM_0 hvs), hm2⟩ | exact ⟨cAn_o (cAn_n2 hw hcc) (sPM_0 hvs), hm2⟩ | exact ⟨cAn_o (cAn_n hw) (sPM_n hvs hes hiv), hm2⟩ | exact ⟨cAn_o (cAn_n2 hw hcc) (sPM_n hvs hes hiv), hm2⟩ | exact ⟨cAn_o (cAn_z hkw (by with_reducible assumption)) (sPM_p hvs hes), hm⟩ | exact ⟨cAn_o hkw (sPM_p hvs hes), hm⟩ | exact ⟨cAn_o (cAn_z hkw (by with_reducible assumption)) (sPM_i hvs hes hiv), hm⟩ | exact ⟨cAn_o hkw (sPM_i hvs hes hiv), hm⟩ | exact ⟨cAn_o (cAn_n hw) (sPM_0 hvs), hm⟩ | exact ⟨cAn_o (cAn_n2 hw hcc) (sPM_0 hvs), hm⟩ | exact ⟨cAn_o (cAn_n hw) (sPM_n hvs hes hiv), hm⟩ | exact ⟨cAn_o (cAn_n2 hw hcc) (sPM_n hvs hes hiv), hm⟩)
        ·
          rw [if_neg g15]
          have g15i : p590.1.toInt ≠ 0 := q_neI g15
          (unfold QV_powerModulo_ae; dsimp only; first | exact ⟨cAn_o (cAn_z hkw (by with_reducible assumption)) (sPM_p hvs hes), hm3⟩ | exact ⟨cAn_o hkw (sPM_p hvs hes), hm3⟩ | exact ⟨cAn_o (cAn_z hkw (by with_reducible assumption)) (sPM_i hvs hes hiv), hm3⟩ | exact ⟨cAn_o hkw (sPM_i hvs hes hiv), hm3⟩ | exact ⟨cAn_o (cAn_n hw) (sPM_0 hvs), hm3⟩ | exact ⟨cAn_o (cAn_n2 hw hcc) (sPM_0 hvs), hm3⟩ | exact ⟨cAn_o (cAn_n hw) (sPM_n hvs hes hiv), hm3⟩ | exact ⟨cAn_o (cAn_n2 hw hcc) (sPM_n hvs hes hiv), hm3⟩ | exact ⟨cAn_o (cAn_z hkw (by with_reducible assumption)) (sPM_p hvs hes), hm2⟩ | exact ⟨cAn_o hkw (sPM_p hvs hes), hm2⟩ | exact ⟨cAn_o (cAn_z hkw (by with_reducible assumption)) (sPM_i hvs hes hiv), hm2⟩ | exact ⟨cAn_o hkw (sPM_i hvs hes hiv), hm2⟩ | exact ⟨cAn_o (cAn_n hw) (sPM_0 hvs), hm2⟩ | exact ⟨cAn_o (cAn_n2 hw hcc) (sPM_0 hvs), hm2⟩ | exact ⟨cAn_o (cAn_n hw) (sPM_n hvs hes hiv), hm2⟩ | exact ⟨cAn_o (cAn_n2 hw hcc) (sPM_n hvs hes hiv), hm2⟩ | exact ⟨cAn_o (cAn_z hkw (by with_reducible assumption)) (sPM_p hvs hes), hm⟩ | exact ⟨cAn_o hkw (sPM_p hvs hes), hm⟩ | exact ⟨cAn_o (cAn_z hkw (by with_reducible assumption)) (sPM_i hvs hes hiv), hm⟩ | exact ⟨cAn_o hkw (sPM_i hvs hes hiv), hm⟩ | exact ⟨cAn_o (cAn_n hw) (sPM_0 hvs), hm⟩ | exact ⟨cAn_o (cAn_n2 hw hcc) (sPM_0 hvs), hm⟩ | exact ⟨cAn_o (cAn_n hw) (sPM_n hvs hes hiv), hm⟩ | exact ⟨cAn_o (cAn_n2 hw hcc) (sPM_n hvs hes hiv), hm⟩)
def QV_powerModulo_t (o : Option Int) (vm : Int) (p : Int32 × Int32 × Int32 × (Nat → Int32) × Int32 × Int32 × (Nat → Int32) × Int32 × Int32 × (Nat → Int32) × Int32 × Int32 × (Nat → Int32) × Int32 × Int32 × (Nat → Int32) × Int32 × Int32 × (Nat → Int32) × Int32 × Int32 × (Nat → Int32) × Int32 × Int32 × (Nat → Int32) × Int32 × Int32 × (Nat → Int32)) : Prop := cAn o vm p.1 p.2.2.2.2.2.2.2.2.2.2.2.2.2.2.2.2.2.2.2.2.2.2.2.2.2.1 p.2.2.2.2.2.2.2.2.2.2.2.2.2.2.2.2.2.2.2.2.2.2.2.2.2.2.1 p.2.2.2.2.2.2.2.2.2.2.2.2.2.2.2.2.2.2.2.2.2.2.2.2.2.2.2
theorem V_powerModulo_t {x2 : Int32} {x3 : Int32} {x4 : Int32} {x5 : Int32} {t0_0 : Int32} {t0_1 : Int32} {t1_0 : (Nat → Int32)} {t2_0 : Int32} {t2_1 : Int32} {t3_0 : (Nat → Int32)} {t4_0 : Int32} {t4_1 : Int32} {t5_0 : (Nat → Int32)} {t6_0 : Int32} {t6_1 : Int32} {t7_0 : (Nat → Int32)} {t8_0 : Int32} {t8_1 : Int32} {t9_0 : (Nat → Int32)} {t10_0 : Int32} {t10_1 : Int32} {t11_0 : (Nat → Int32)} {t12_0 : Int32} {t12_1 : Int32} {t13_0 : (Nat → Int32)} {t14_0 : Int32} {t14_1 : Int32} {t15_0 : (Nat → Int32)} {t16_0 : Int32} {t16_1 : Int32} {t17_0 : (Nat → Int32)} {t18_0 : Int32} {t18_1 : Int32} {t19_0 : (Nat → Int32)} {t20_0 : Int32} {t20_1 : Int32} {t21_0 : (Nat → Int32)} {va ve vm : Int} (ha : bO 68 t16_0 t16_1 t17_0 va) (hA : bB 67 va) (he : bO 68 t18_0 t18_1 t19_0 ve) (hm : bO 68 t20_0 t20_1 t21_0 vm) (hM : bB 67 vm) (hr2 : ¬ F_NH_isRegister x2 = 0) (hr3 : ¬ F_NH_isRegister x3 = 0) (hr4 : ¬ F_NH_isRegister x4 = 0) (hr5 : ¬ F_NH_isRegister x5 = 0) : QV_powerModulo_t (sPM va ve vm) vm (F_NH_powerModulo_t x2 x3 x4 x5 t0_0 t0_1 t1_0 t2_0 t2_1 t3_0 t4_0 t4_1 t5_0 t6_0 t6_1 t7_0 t8_0 t8_1 t9_0 t10_0 t10_1 t11_0 t12_0 t12_1 t13_0 t14_0 t14_1 t15_0 t16_0 t16_1 t17_0 t18_0 t18_1 t19_0 t20_0 t20_1 t21_0) := by
  have e0 : (0 : Int32).toInt = 0 := rfl
  have e220 : (220 : Int32).toInt = 220 := rfl
  have e68 : (68 : Int32).toInt = 68 := rfl
  have sm : t20_0.toInt ≤ 68 := hm.2.2.2.1
  have hw := hm
  unfold F_NH_powerModulo_t
  rw [if_neg hr2]
  rw [if_neg hr3]
  rw [if_neg hr4]
  rw [if_neg hr5]
  unfold F_NH_powerModulo_t_J34
  have g1 : ((F_NH_need (1 : Int32)) = (0 : Int32)) := (by decide)
  rw [if_pos g1]
  by_cases g2 : ((F_Big_sign (68 : Int32) t20_0 t20_1) : Int32) ≤ (0 : Int32)
  ·
    rw [if_pos g2]
    have hvs := v_sgnP0 hm g2
    unfold F_NH_powerModulo_t_J54
    have g3 : ¬ ((F_NH_canHave (0 : Int32)) = (0 : Int32)) := (by decide)
    rw [if_neg g3]
    (unfold QV_powerModulo_t; dsimp only; first | exact cAn_o (cAn_z hkw (by with_reducible assumption)) (sPM_p hvs hes) | exact cAn_o hkw (sPM_p hvs hes) | exact cAn_o (cAn_z hkw (by with_reducible assumption)) (sPM_i hvs hes hiv) | exact cAn_o hkw (sPM_i hvs hes hiv) | exact cAn_o (cAn_n hw2) (sPM_0 hvs) | exact cAn_o (cAn_n2 hw2 hcc) (sPM_0 hvs) | exact cAn_o (cAn_n hw) (sPM_0 hvs) | exact cAn_o (cAn_n2 hw hcc) (sPM_0 hvs) | exact cAn_o (cAn_n hw2) (sPM_n hvs hes hiv) | exact cAn_o (cAn_n2 hw2 hcc) (sPM_n hvs hes hiv) | exact cAn_o (cAn_n hw) (sPM_n hvs hes hiv) | exact cAn_o (cAn_n2 hw hcc) (sPM_n hvs hes hiv))
  ·
    rw [if_neg g2]
    have hvs := v_sgnP hm g2
    unfold F_NH_powerModulo_t_J54
    have g4 : ((F_NH_canHave (1 : Int32)) = (0 : Int32)) := (by decide)
    rw [if_pos g4]
    by_cases g5 : t18_1 = (0 : Int32)
    ·
      rw [if_pos g5]
      have hes := v_ng0 he g5
      have h6 := T_modulo (R := (68 : Int32)) (R2 := (68 : Int32)) (R3 := (220 : Int32)) (t0_0 := t2_0) (t0_1 := t2_1) (t1_0 := t3_0) (t2_0 := t16_0) (t2_1 := t16_1) (t3_0 := t17_0) (t4_0 := t20_0) (t4_1 := t20_1) (t5_0 := t21_0) (t6_0 := t0_0) (t6_1 := t0_1) (t7_0 := t1_0) ha hm (by omega) hA (by decide) (by omega) (by decide)
      replace h6 := h6.2
      generalize F_Mil_modulo (68 : Int32) (68 : Int32) (220 : Int32) t2_0 t2_1 t3_0 t16_0 t16_1 t17_0 t20_0 t20_1 t21_0 t0_0 t0_1 t1_0 = p241 at h6 ⊢
      have hn := h6.2.2
      have hnB := v_modB (va := va) hvs hM
      rw [v_modE hvs] at hn hnB
      have hn0 : 0 ≤ va % vm := Int.emod_nonneg _ (by omega)
      have hm2 := h6.2.1
      have hw2 := hm2
      unfold F_NH_powerModulo_t_c117
      have h7 := V_powerBelow (R := (68 : Int32)) (R2 := (68 : Int32)) (t0_0 := (p241.2.2.2.2.2.2.1 : Int32)) (t0_1 := (p241.2.2.2.2.2.2.2.1 : Int32)) (t1_0 := (p241.2.2.2.2.2.2.2.2 : (Nat → Int32))) (t2_0 := (p241.1 : Int32)) (t2_1 := (p241.2.1 : Int32)) (t3_0 := (p241.2.2.1 : (Nat → Int32))) (t4_0 := t4_0) (t4_1 := t4_1) (t5_0 := t5_0) (t6_0 := t6_0) (t6_1 := t6_1) (t7_0 := t7_0) (t8_0 := t18_0) (t8_1 := t18_1) (t9_0 := t19_0) (t10_0 := (p241.2.2.2.1 : Int32)) (t10_1 := (p241.2.2.2.2.1 : Int32)) (t11_0 := (p241.2.2.2.2.2.1 : (Nat → Int32))) hn hn0 hm2 he hvs hnB hM (by decide)
      replace h7 := h7.2
      generalize F_Mil_powerBelow (68 : Int32) (68 : Int32) (p241.2.2.2.2.2.2.1 : Int32) (p241.2.2.2.2.2.2.2.1 : Int32) (p241.2.2.2.2.2.2.2.2 : (Nat → Int32)) (p241.1 : Int32) (p241.2.1 : Int32) (p241.2.2.1 : (Nat → Int32)) t4_0 t4_1 t5_0 t6_0 t6_1 t7_0 t18_0 t18_1 t19_0 (p241.2.2.2.1 : Int32) (p241.2.2.2.2.1 : Int32) (p241.2.2.2.2.2.1 : (Nat → Int32)) = p312 at h7 ⊢
      have hn := h7.1
      have hm3 := h7.2.2.2.2
      have hw3 := hm3
      unfold F_NH_powerModulo_t_c136
      have h8 := V_keepWhole (x2 := x5) (t0_0 := (p312.1 : Int32)) (t0_1 := (p312.2.1 : Int32)) (t1_0 := (p312.2.2.1 : (Nat → Int32))) (t2_0 := (p312.2.2.2.2.2.2.2.2.2.2.2.2.1 : Int32)) (t2_1 := (p312.2.2.2.2.2.2.2.2.2.2.2.2.2.1 : Int32)) (t3_0 := (p312.2.2.2.2.2.2.2.2.2.2.2.2.2.2 : (Nat → Int32))) hn (by first | exact hw3 | exact hw2 | exact hw)
      generalize F_NH_keepWhole x5 (p312.1 : Int32) (p312.2.1 : Int32) (p312.2.2.1 : (Nat → Int32)) (p312.2.2.2.2.2.2.2.2.2.2.2.2.1 : Int32) (p312.2.2.2.2.2.2.2.2.2.2.2.2.2.1 : Int32) (p312.2.2.2.2.2.2.2.2.2.2.2.2.2.2 : (Nat → Int32)) = p347 at h8 ⊢
      have hkw := h8
      unfold F_NH_powerModulo_t_c142
      by_cases g9 : p347.1 = (0 : Int32)
      ·
        rw [if_pos g9]
        have g9i : p347.1.toInt = 0 := q_eqI g9
        (unfold QV_powerModulo_t; dsimp only; first | exact cAn_o (cAn_z hkw (by with_reducible assumption)) (sPM_p hvs hes) | exact cAn_o hkw (sPM_p hvs hes) | exact cAn_o (cAn_z hkw (by with_reducible assumption)) (sPM_i hvs hes hiv) | exact cAn_o hkw (sPM_i hvs hes hiv) | exact cAn_o (cAn_n hw2) (sPM_0 hvs) | exact cAn_o (cAn_n2 hw2 hcc) (sPM_0 hvs) | exact cAn_o (cAn_n hw) (sPM_0 hvs) | exact cAn_o (cAn_n2 hw hcc) (sPM_0 hvs) | exact cAn_o (cAn_n hw2) (sPM_n hvs hes hiv) | exact cAn_o (cAn_n2 hw2 hcc) (sPM_n hvs hes hiv) | exact cAn_o (cAn_n hw) (sPM_n hvs hes hiv) | exact cAn_o (cAn_n2 hw hcc) (sPM_n hvs hes hiv))
      ·
        rw [if_neg g9]
        have g9i : p347.1.toInt ≠ 0 := q_neI g9
        (unfold QV_powerModulo_t; dsimp only; first | exact cAn_o (cAn_z hkw (by with_reducible assumption)) (sPM_p hvs hes) | exact cAn_o hkw (sPM_p hvs hes) | exact cAn_o (cAn_z hkw (by with_reducible assumption)) (sPM_i hvs hes hiv) | exact cAn_o hkw (sPM_i hvs hes hiv) | exact cAn_o (cAn_n hw2) (sPM_0 hvs) | exact cAn_o (cAn_n2 hw2 hcc) (sPM_0 hvs) | exact cAn_o (cAn_n hw) (sPM_0 hvs) | exact cAn_o (cAn_n2 hw hcc) (sPM_0 hvs) | exact cAn_o (cAn_n hw2) (sPM_n hvs hes hiv) | exact cAn_o (cAn_n2 hw2 hcc) (sPM_n hvs hes hiv) | exact cAn_o (cAn_n hw) (sPM_n hvs hes hiv) | exact cAn_o (cAn_n2 hw hcc) (sPM_n hvs hes hiv))
    ·
      rw [if_neg g5]
      have hes := v_ng1 he g5
      have h10 := V_inverseO (R := (68 : Int32)) (R2 := (68 : Int32)) (t0_0 := t0_0) (t0_1 := t0_1) (t1_0 := t1_0) (t2_0 := t2_0) (t2_1 := t2_1) (t3_0 := t3_0) (t4_0 := t6_0) (t4_1 := t6_1) (t5_0 := t7_0) (t6_0 := t8_0) (t6_1 := t8_1) (t7_0 := t9_0) (t8_0 := t10_0) (t8_1 := t10_1) (t9_0 := t11_0) (t10_0 := t12_0) (t10_1 := t12_1) (t11_0 := t13_0) (t12_0 := t14_0) (t12_1 := t14_1) (t13_0 := t15_0) (t14_0 := t16_0) (t14_1 := t16_1) (t15_0 := t17_0) (t16_0 := t20_0) (t16_1 := t20_1) (t17_0 := t21_0) ha hm hvs hA hM (by decide)
      generalize F_Mil_inverse (68 : Int32) (68 : Int32) t0_0 t0_1 t1_0 t2_0 t2_1 t3_0 t6_0 t6_1 t7_0 t8_0 t8_1 t9_0 t10_0 t10_1 t11_0 t12_0 t12_1 t13_0 t14_0 t14_1 t15_0 t16_0 t16_1 t17_0 t20_0 t20_1 t21_0 = p474 at h10 ⊢
      unfold F_NH_powerModulo_t_c85
      rcases h10 with ⟨h100, h101, h102⟩ | ⟨xv, h100, h101, h10n, h102⟩
      ·
        have hm2 := h102
        have hiv := h100
        have hcc : F_NH_canHave p474.1 = 2 := by rw [h101]; decide
        have hw2 := hm2
        have g11 : ¬ ((F_NH_canHave (p474.1 : Int32)) = (0 : Int32)) := (by rw [h101]; decide)
        rw [if_neg g11]
        (unfold QV_powerModulo_t; dsimp only; first | exact cAn_o (cAn_z hkw (by with_reducible assumption)) (sPM_p hvs hes) | exact cAn_o hkw (sPM_p hvs hes) | exact cAn_o (cAn_z hkw (by with_reducible assumption)) (sPM_i hvs hes hiv) | exact cAn_o hkw (sPM_i hvs hes hiv) | exact cAn_o (cAn_n hw2) (sPM_0 hvs) | exact cAn_o (cAn_n2 hw2 hcc) (sPM_0 hvs) | exact cAn_o (cAn_n hw) (sPM_0 hvs) | exact cAn_o (cAn_n2 hw hcc) (sPM_0 hvs) | exact cAn_o (cAn_n hw2) (sPM_n hvs hes hiv) | exact cAn_o (cAn_n2 hw2 hcc) (sPM_n hvs hes hiv) | exact cAn_o (cAn_n hw) (sPM_n hvs hes hiv) | exact cAn_o (cAn_n2 hw hcc) (sPM_n hvs hes hiv))
      ·
        have hn := h10n
        have hm2 := h102
        have hiv := h100
        have hn0 := (sInv_rng hiv).1
        have hnB : bB 67 xv := hM.le (by have := (sInv_rng hiv).2; omega)
        have hw2 := hm2
        have g12 : ((F_NH_canHave (p474.1 : Int32)) = (0 : Int32)) := (by rw [h101]; decide)
        rw [if_pos g12]
        have h13 := V_powerBelow (R := (68 : Int32)) (R2 := (68 : Int32)) (t0_0 := (p474.2.1 : Int32)) (t0_1 := (p474.2.2.1 : Int32)) (t1_0 := (p474.2.2.2.1 : (Nat → Int32))) (t2_0 := (p474.2.2.2.2.1 : Int32)) (t2_1 := (p474.2.2.2.2.2.1 : Int32)) (t3_0 := (p474.2.2.2.2.2.2.1 : (Nat → Int32))) (t4_0 := t4_0) (t4_1 := t4_1) (t5_0 := t5_0) (t6_0 := (p474.2.2.2.2.2.2.2.1 : Int32)) (t6_1 := (p474.2.2.2.2.2.2.2.2.1 : Int32)) (t7_0 := (p474.2.2.2.2.2.2.2.2.2.1 : (Nat → Int32))) (t8_0 := t18_0) (t8_1 := t18_1) (t9_0 := t19_0) (t10_0 := (p474.2.2.2.2.2.2.2.2.2.2.2.2.2.2.2.2.2.2.2.2.2.2.1 : Int32)) (t10_1 := (p474.2.2.2.2.2.2.2.2.2.2.2.2.2.2.2.2.2.2.2.2.2.2.2.1 : Int32)) (t11_0 := (p474.2.2.2.2.2.2.2.2.2.2.2.2.2.2.2.2.2.2.2.2.2.2.2.2 : (Nat → Int32))) hn hn0 hm2 he hvs hnB hM (by decide)
        replace h13 := h13.2
        generalize F_Mil_powerBelow (68 : Int32) (68 : Int32) (p474.2.1 : Int32) (p474.2.2.1 : Int32) (p474.2.2.2.1 : (Nat → Int32)) (p474.2.2.2.2.1 : Int32) (p474.2.2.2.2.2.1 : Int32) (p474.2.2.2.2.2.2.1 : (Nat → Int32)) t4_0 t4_1 t5_0 (p474.2.2.2.2.2.2.2.1 : Int32) (p474.2.2.2.2.2.2.2.2.1 : Int32) (p474.2.2.2.2.2.2.2.2.2.1 : (Nat → Int32)) t18_0 t18_1 t19_0 (p474.2.2.2.2.2.2.2.2.2.2.2.2.2.2.2.2.2.2.2.2.2.2.1 : Int32) (p474.2.2.2.2.2.2.2.2.2.2.2.2.2.2.2.2.2.2.2.2.2.2.2.1 : Int32) (p474.2.2.2.2.2.2.2.2.2.2.2.2.2.2.2.2.2.2.2.2.2.2.2.2 : (Nat → Int32)) = p570 at h13 ⊢
        have hn := h13.1
        have hm3 := h13.2.2.2.2
        have hw3 := hm3
        unfold F_NH_powerModulo_t_c136_7
        have h14 := V_keepWhole (x2 := x5) (t0_0 := (p570.1 : Int32)) (t0_1 := (p570.2.1 : Int32)) (t1_0 := (p570.2.2.1 : (Nat → Int32))) (t2_0 := (p570.2.2.2.2.2.2.2.2.2.2.2.2.1 : Int32)) (t2_1 := (p570.2.2.2.2.2.2.2.2.2.2.2.2.2.1 : Int32)) (t3_0 := (p570.2.2.2.2.2.2.2.2.2.2.2.2.2.2 : (Nat → Int32))) hn (by first | exact hw3 | exact hw2 | exact hw)
        generalize F_NH_keepWhole x5 (p570.1 : Int32) (p570.2.1 : Int32) (p570.2.2.1 : (Nat → Int32)) (p570.2.2.2.2.2.2.2.2.2.2.2.2.1 : Int32) (p570.2.2.2.2.2.2.2.2.2.2.2.2.2.1 : Int32) (p570.2.2.2.2.2.2.2.2.2.2.2.2.2.2 : (Nat → Int32)) = p605 at h14 ⊢
        have hkw := h14
        unfold F_NH_powerModulo_t_c142_8
        by_cases g15 : p605.1 = (0 : Int32)
        ·
          rw [if_pos g15]
          have g15i : p605.1.toInt = 0 := q_eqI g15
          (unfold QV_powerModulo_t; dsimp only; first | exact cAn_o (cAn_z hkw (by with_reducible assumption)) (sPM_p hvs hes) | exact cAn_o hkw (sPM_p hvs hes) | exact cAn_o (cAn_z hkw (by with_reducible assumption)) (sPM_i hvs hes hiv) | exact cAn_o hkw (sPM_i hvs hes hiv) | exact cAn_o (cAn_n hw2) (sPM_0 hvs) | exact cAn_o (cAn_n2 hw2 hcc) (sPM_0 hvs) | exact cAn_o (cAn_n hw) (sPM_0 hvs) | exact cAn_o (cAn_n2 hw hcc) (sPM_0 hvs) | exact cAn_o (cAn_n hw2) (sPM_n hvs hes hiv) | exact cAn_o (cAn_n2 hw2 hcc) (sPM_n hvs hes hiv) | exact cAn_o (cAn_n hw) (sPM_n hvs hes hiv) | exact cAn_o (cAn_n2 hw hcc) (sPM_n hvs hes hiv))
        ·
          rw [if_neg g15]
          have g15i : p605.1.toInt ≠ 0 := q_neI g15
          (unfold QV_powerModulo_t; dsimp only; first | exact cAn_o (cAn_z hkw (by with_reducible assumption)) (sPM_p hvs hes) | exact cAn_o hkw (sPM_p hvs hes) | exact cAn_o (cAn_z hkw (by with_reducible assumption)) (sPM_i hvs hes hiv) | exact cAn_o hkw (sPM_i hvs hes hiv) | exact cAn_o (cAn_n hw2) (sPM_0 hvs) | exact cAn_o (cAn_n2 hw2 hcc) (sPM_0 hvs) | exact cAn_o (cAn_n hw) (sPM_0 hvs) | exact cAn_o (cAn_n2 hw hcc) (sPM_0 hvs) | exact cAn_o (cAn_n hw2) (sPM_n hvs hes hiv) | exact cAn_o (cAn_n2 hw2 hcc) (sPM_n hvs hes hiv) | exact cAn_o (cAn_n hw) (sPM_n hvs hes hiv) | exact cAn_o (cAn_n2 hw hcc) (sPM_n hvs hes hiv))
def QV_powerModulo_at (o : Option Int) (vm : Int) (p : Int32 × Int32 × Int32 × (Nat → Int32) × Int32 × Int32 × (Nat → Int32) × Int32 × Int32 × (Nat → Int32) × Int32 × Int32 × (Nat → Int32) × Int32 × Int32 × (Nat → Int32) × Int32 × Int32 × (Nat → Int32) × Int32 × Int32 × (Nat → Int32) × Int32 × Int32 × (Nat → Int32) × Int32 × Int32 × (Nat → Int32)) : Prop := cAn o vm p.1 p.2.2.2.2.2.2.2.2.2.2.2.2.2.2.2.2.2.2.2.2.2.2.2.2.2.1 p.2.2.2.2.2.2.2.2.2.2.2.2.2.2.2.2.2.2.2.2.2.2.2.2.2.2.1 p.2.2.2.2.2.2.2.2.2.2.2.2.2.2.2.2.2.2.2.2.2.2.2.2.2.2.2
theorem V_powerModulo_at {x2 : Int32} {x3 : Int32} {x4 : Int32} {x5 : Int32} {t0_0 : Int32} {t0_1 : Int32} {t1_0 : (Nat → Int32)} {t2_0 : Int32} {t2_1 : Int32} {t3_0 : (Nat → Int32)} {t4_0 : Int32} {t4_1 : Int32} {t5_0 : (Nat → Int32)} {t6_0 : Int32} {t6_1 : Int32} {t7_0 : (Nat → Int32)} {t8_0 : Int32} {t8_1 : Int32} {t9_0 : (Nat → Int32)} {t10_0 : Int32} {t10_1 : Int32} {t11_0 : (Nat → Int32)} {t12_0 : Int32} {t12_1 : Int32} {t13_0 : (Nat → Int32)} {t14_0 : Int32} {t14_1 : Int32} {t15_0 : (Nat → Int32)} {t16_0 : Int32} {t16_1 : Int32} {t17_0 : (Nat → Int32)} {t18_0 : Int32} {t18_1 : Int32} {t19_0 : (Nat → Int32)} {ve vm : Int} (he : bO 68 t18_0 t18_1 t19_0 ve) (hm : bO 68 t16_0 t16_1 t17_0 vm) (hM : bB 67 vm) (hr2 : ¬ F_NH_isRegister x2 = 0) (hr3 : ¬ F_NH_isRegister x3 = 0) (hr4 : ¬ F_NH_isRegister x4 = 0) (hr5 : ¬ F_NH_isRegister x5 = 0) : QV_powerModulo_at (sPM vm ve vm) vm (F_NH_powerModulo_at x2 x3 x4 x5 t0_0 t0_1 t1_0 t2_0 t2_1 t3_0 t4_0 t4_1 t5_0 t6_0 t6_1 t7_0 t8_0 t8_1 t9_0 t10_0 t10_1 t11_0 t12_0 t12_1 t13_0 t14_0 t14_1 t15_0 t16_0 t16_1 t17_0 t18_0 t18_1 t19_0) := by
  have e0 : (0 : Int32).toInt = 0 := rfl
  have e220 : (220 : Int32).toInt = 220 := rfl
  have e68 : (68 : Int32).toInt = 68 := rfl
  have sm : t16_0.toInt ≤ 68 := hm.2.2.2.1
  have hw := hm
  unfold F_NH_powerModulo_at
  rw [if_neg hr2]
  rw [if_neg hr3]
  rw [if_neg hr4]
  rw [if_neg hr5]
  unfold F_NH_powerModulo_at_J34
  have g1 : ((F_NH_need (1 : Int32)) = (0 : Int32)) := (by decide)
  rw [if_pos g1]
  by_cases g2 : ((F_Big_sign (68 : Int32) t16_0 t16_1) : Int32) ≤ (0 : Int32)
  ·
    rw [if_pos g2]
    have hvs := v_sgnP0 hm g2
    unfold F_NH_powerModulo_at_J54
    have g3 : ¬ ((F_NH_canHave (0 : Int32)) = (0 : Int32)) := (by decide)
    rw [if_neg g3]
    (unfold QV_powerModulo_at; dsimp only; first | exact cAn_o (cAn_z hkw (by with_reducible assumption)) (sPM_p hvs hes) | exact cAn_o hkw (sPM_p hvs hes) | exact cAn_o (cAn_z hkw (by with_reducible assumption)) (sPM_i hvs hes hiv) | exact cAn_o hkw (sPM_i hvs hes hiv) | exact cAn_o (cAn_n hw2) (sPM_0 hvs) | exact cAn_o (cAn_n2 hw2 hcc) (sPM_0 hvs) | exact cAn_o (cAn_n hw) (sPM_0 hvs) | exact cAn_o (cAn_n2 hw hcc) (sPM_0 hvs) | exact cAn_o (cAn_n hw2) (sPM_n hvs hes hiv) | exact cAn_o (cAn_n2 hw2 hcc) (sPM_n hvs hes hiv) | exact cAn_o (cAn_n hw) (sPM_n hvs hes hiv) | exact cAn_o (cAn_n2 hw hcc) (sPM_n hvs hes hiv))
  ·
    rw [if_neg g2]
    have hvs := v_sgnP hm g2
    unfold F_NH_powerModulo_at_J54
    have g4 : ((F_NH_canHave (1 : Int32)) = (0 : Int32)) := (by decide)
    rw [if_pos g4]
    by_cases g5 : t18_1 = (0 : Int32)
    ·
      rw [if_pos g5]
      have hes := v_ng0 he g5
      have h6 := T_modulo_a (R2 := (68 : Int32)) (R4 := (220 : Int32)) (t0_0 := t2_0) (t0_1 := t2_1) (t1_0 := t3_0) (t2_0 := t16_0) (t2_1 := t16_1) (t3_0 := t17_0) (t4_0 := t0_0) (t4_1 := t0_1) (t5_0 := t1_0) hm (by omega) hM (by decide) (by decide)
      replace h6 := h6.2
      generalize F_Mil_modulo_a (68 : Int32) (220 : Int32) t2_0 t2_1 t3_0 t16_0 t16_1 t17_0 t0_0 t0_1 t1_0 = p229 at h6 ⊢
      have hn := h6.2.2
      have hnB : bB 67 0 := hM.le (Nat.zero_le _)
      rw [v_mod0 hvs] at hn hnB
      have hn0 : 0 ≤ vm % vm := Int.emod_nonneg _ (by omega)
      have hm2 := h6.2.1
      have hw2 := hm2
      unfold F_NH_powerModulo_at_c117
      have h7 := V_powerBelow (R := (68 : Int32)) (R2 := (68 : Int32)) (t0_0 := (p229.2.2.2.2.2.2.1 : Int32)) (t0_1 := (p229.2.2.2.2.2.2.2.1 : Int32)) (t1_0 := (p229.2.2.2.2.2.2.2.2 : (Nat → Int32))) (t2_0 := (p229.1 : Int32)) (t2_1 := (p229.2.1 : Int32)) (t3_0 := (p229.2.2.1 : (Nat → Int32))) (t4_0 := t4_0) (t4_1 := t4_1) (t5_0 := t5_0) (t6_0 := t6_0) (t6_1 := t6_1) (t7_0 := t7_0) (t8_0 := t18_0) (t8_1 := t18_1) (t9_0 := t19_0) (t10_0 := (p229.2.2.2.1 : Int32)) (t10_1 := (p229.2.2.2.2.1 : Int32)) (t11_0 := (p229.2.2.2.2.2.1 : (Nat → Int32))) hn hn0 hm2 he hvs hnB hM (by decide)
      replace h7 := h7.2
      generalize F_Mil_powerBelow (68 : Int32) (68 : Int32) (p229.2.2.2.2.2.2.1 : Int32) (p229.2.2.2.2.2.2.2.1 : Int32) (p229.2.2.2.2.2.2.2.2 : (Nat → Int32)) (p229.1 : Int32) (p229.2.1 : Int32) (p229.2.2.1 : (Nat → Int32)) t4_0 t4_1 t5_0 t6_0 t6_1 t7_0 t18_0 t18_1 t19_0 (p229.2.2.2.1 : Int32) (p229.2.2.2.2.1 : Int32) (p229.2.2.2.2.2.1 : (Nat → Int32)) = p300 at h7 ⊢
      have hn := h7.1
      have hm3 := h7.2.2.2.2
      have hw3 := hm3
      unfold F_NH_powerModulo_at_c136
      have h8 := V_keepWhole (x2 := x5) (t0_0 := (p300.1 : Int32)) (t0_1 := (p300.2.1 : Int32)) (t1_0 := (p300.2.2.1 : (Nat → Int32))) (t2_0 := (p300.2.2.2.2.2.2.2.2.2.2.2.2.1 : Int32)) (t2_1 := (p300.2.2.2.2.2.2.2.2.2.2.2.2.2.1 : Int32)) (t3_0 := (p300.2.2.2.2.2.2.2.2.2.2.2.2.2.2 : (Nat → Int32))) hn (by first | exact hw3 | exact hw2 | exact hw)
      generalize F_NH_keepWhole x5 (p300.1 : Int32) (p300.2.1 : Int32) (p300.2.2.1 : (Nat → Int32)) (p300.2.2.2.2.2.2.2.2.2.2.2.2.1 : Int32) (p300.2.2.2.2.2.2.2.2.2.2.2.2.2.1 : Int32) (p300.2.2.2.2.2.2.2.2.2.2.2.2.2.2 : (Nat → Int32)) = p335 at h8 ⊢
      have hkw := h8
      unfold F_NH_powerModulo_at_c142
      by_cases g9 : p335.1 = (0 : Int32)
      ·
        rw [if_pos g9]
        have g9i : p335.1.toInt = 0 := q_eqI g9
        (unfold QV_powerModulo_at; dsimp only; first | exact cAn_o (cAn_z hkw (by with_reducible assumption)) (sPM_p hvs hes) | exact cAn_o hkw (sPM_p hvs hes) | exact cAn_o (cAn_z hkw (by with_reducible assumption)) (sPM_i hvs hes hiv) | exact cAn_o hkw (sPM_i hvs hes hiv) | exact cAn_o (cAn_n hw2) (sPM_0 hvs) | exact cAn_o (cAn_n2 hw2 hcc) (sPM_0 hvs) | exact cAn_o (cAn_n hw) (sPM_0 hvs) | exact cAn_o (cAn_n2 hw hcc) (sPM_0 hvs) | exact cAn_o (cAn_n hw2) (sPM_n hvs hes hiv) | exact cAn_o (cAn_n2 hw2 hcc) (sPM_n hvs hes hiv) | exact cAn_o (cAn_n hw) (sPM_n hvs hes hiv) | exact cAn_o (cAn_n2 hw hcc) (sPM_n hvs hes hiv))
      ·
        rw [if_neg g9]
        have g9i : p335.1.toInt ≠ 0 := q_neI g9
        (unfold QV_powerModulo_at; dsimp only; first | exact cAn_o (cAn_z hkw (by with_reducible assumption)) (sPM_p hvs hes) | exact cAn_o hkw (sPM_p hvs hes) | exact cAn_o (cAn_z hkw (by with_reducible assumption)) (sPM_i hvs hes hiv) | exact cAn_o hkw (sPM_i hvs hes hiv) | exact cAn_o (cAn_n hw2) (sPM_0 hvs) | exact cAn_o (cAn_n2 hw2 hcc) (sPM_0 hvs) | exact cAn_o (cAn_n hw) (sPM_0 hvs) | exact cAn_o (cAn_n2 hw hcc) (sPM_0 hvs) | exact cAn_o (cAn_n hw2) (sPM_n hvs hes hiv) | exact cAn_o (cAn_n2 hw2 hcc) (sPM_n hvs hes hiv) | exact cAn_o (cAn_n hw) (sPM_n hvs hes hiv) | exact cAn_o (cAn_n2 hw hcc) (sPM_n hvs hes hiv))
    ·
      rw [if_neg g5]
      have hes := v_ng1 he g5
      have h10 := V_inverse_aO (R2 := (68 : Int32)) (t0_0 := t0_0) (t0_1 := t0_1) (t1_0 := t1_0) (t2_0 := t2_0) (t2_1 := t2_1) (t3_0 := t3_0) (t4_0 := t6_0) (t4_1 := t6_1) (t5_0 := t7_0) (t6_0 := t8_0) (t6_1 := t8_1) (t7_0 := t9_0) (t8_0 := t10_0) (t8_1 := t10_1) (t9_0 := t11_0) (t10_0 := t12_0) (t10_1 := t12_1) (t11_0 := t13_0) (t12_0 := t14_0) (t12_1 := t14_1) (t13_0 := t15_0) (t14_0 := t16_0) (t14_1 := t16_1) (t15_0 := t17_0) hm hvs hM (by decide)
      generalize F_Mil_inverse_a (68 : Int32) t0_0 t0_1 t1_0 t2_0 t2_1 t3_0 t6_0 t6_1 t7_0 t8_0 t8_1 t9_0 t10_0 t10_1 t11_0 t12_0 t12_1 t13_0 t14_0 t14_1 t15_0 t16_0 t16_1 t17_0 = p459 at h10 ⊢
      unfold F_NH_powerModulo_at_c85
      rcases h10 with ⟨h100, h101, h102⟩ | ⟨xv, h100, h101, h10n, h102⟩
      ·
        have hm2 := h102
        have hiv := h100
        have hcc : F_NH_canHave p459.1 = 2 := by rw [h101]; decide
        have hw2 := hm2
        have g11 : ¬ ((F_NH_canHave (p459.1 : Int32)) = (0 : Int32)) := (by rw [h101]; decide)
        rw [if_neg g11]
        (unfold QV_powerModulo_at; dsimp only; first | exact cAn_o (cAn_z hkw (by with_reducible assumption)) (sPM_p hvs hes) | exact cAn_o hkw (sPM_p hvs hes) | exact cAn_o (cAn_z hkw (by with_reducible assumption)) (sPM_i hvs hes hiv) | exact cAn_o hkw (sPM_i hvs hes hiv) | exact cAn_o (cAn_n hw2) (sPM_0 hvs) | exact cAn_o (cAn_n2 hw2 hcc) (sPM_0 hvs) | exact cAn_o (cAn_n hw) (sPM_0 hvs) | exact cAn_o (cAn_n2 hw hcc) (sPM_0 hvs) | exact cAn_o (cAn_n hw2) (sPM_n hvs hes hiv) | exact cAn_o (cAn_n2 hw2 hcc) (sPM_n hvs hes hiv) | exact cAn_o (cAn_n hw) (sPM_n hvs hes hiv) | exact cAn_o (cAn_n2 hw hcc) (sPM_n hvs hes hiv))
      ·
        have hn := h10n
        have hm2 := h102
        have hiv := h100
        have hn0 := (sInv_rng hiv).1
        have hnB : bB 67 xv := hM.le (by have := (sInv_rng hiv).2; omega)
        have hw2 := hm2
        have g12 : ((F_NH_canHave (p459.1 : Int32)) = (0 : Int32)) := (by rw [h101]; decide)
        rw [if_pos g12]
        have h13 := V_powerBelow (R := (68 : Int32)) (R2 := (68 : Int32)) (t0_0 := (p459.2.1 : Int32)) (t0_1 := (p459.2.2.1 : Int32)) (t1_0 := (p459.2.2.2.1 : (Nat → Int32))) (t2_0 := (p459.2.2.2.2.1 : Int32)) (t2_1 := (p459.2.2.2.2.2.1 : Int32)) (t3_0 := (p459.2.2.2.2.2.2.1 : (Nat → Int32))) (t4_0 := t4_0) (t4_1 := t4_1) (t5_0 := t5_0) (t6_0 := (p459.2.2.2.2.2.2.2.1 : Int32)) (t6_1 := (p459.2.2.2.2.2.2.2.2.1 : Int32)) (t7_0 := (p459.2.2.2.2.2.2.2.2.2.1 : (Nat → Int32))) (t8_0 := t18_0) (t8_1 := t18_1) (t9_0 := t19_0) (t10_0 := (p459.2.2.2.2.2.2.2.2.2.2.2.2.2.2.2.2.2.2.2.2.2.2.1 : Int32)) (t10_1 := (p459.2.2.2.2.2.2.2.2.2.2.2.2.2.2.2.2.2.2.2.2.2.2.2.1 : Int32)) (t11_0 := (p459.2.2.2.2.2.2.2.2.2.2.2.2.2.2.2.2.2.2.2.2.2.2.2.2 : (Nat → Int32))) hn hn0 hm2 he hvs hnB hM (by decide)
        replace h13 := h13.2
        generalize F_Mil_powerBelow (68 : Int32) (68 : Int32) (p459.2.1 : Int32) (p459.2.2.1 : Int32) (p459.2.2.2.1 : (Nat → Int32)) (p459.2.2.2.2.1 : Int32) (p459.2.2.2.2.2.1 : Int32) (p459.2.2.2.2.2.2.1 : (Nat → Int32)) t4_0 t4_1 t5_0 (p459.2.2.2.2.2.2.2.1 : Int32) (p459.2.2.2.2.2.2.2.2.1 : Int32) (p459.2.2.2.2.2.2.2.2.2.1 : (Nat → Int32)) t18_0 t18_1 t19_0 (p459.2.2.2.2.2.2.2.2.2.2.2.2.2.2.2.2.2.2.2.2.2.2.1 : Int32) (p459.2.2.2.2.2.2.2.2.2.2.2.2.2.2.2.2.2.2.2.2.2.2.2.1 : Int32) (p459.2.2.2.2.2.2.2.2.2.2.2.2.2.2.2.2.2.2.2.2.2.2.2.2 : (Nat → Int32)) = p555 at h13 ⊢
        have hn := h13.1
        have hm3 := h13.2.2.2.2
        have hw3 := hm3
        unfold F_NH_powerModulo_at_c136_7
        have h14 := V_keepWhole (x2 := x5) (t0_0 := (p555.1 : Int32)) (t0_1 := (p555.2.1 : Int32)) (t1_0 := (p555.2.2.1 : (Nat → Int32))) (t2_0 := (p555.2.2.2.2.2.2.2.2.2.2.2.2.1 : Int32)) (t2_1 := (p555.2.2.2.2.2.2.2.2.2.2.2.2.2.1 : Int32)) (t3_0 := (p555.2.2.2.2.2.2.2.2.2.2.2.2.2.2 : (Nat → Int32))) hn (by first | exact hw3 | exact hw2 | exact hw)
        generalize F_NH_keepWhole x5 (p555.1 : Int32) (p555.2.1 : Int32) (p555.2.2.1 : (Nat → Int32)) (p555.2.2.2.2.2.2.2.2.2.2.2.2.1 : Int32) (p555.2.2.2.2.2.2.2.2.2.2.2.2.2.1 : Int32) (p555.2.2.2.2.2.2.2.2.2.2.2.2.2.2 : (Nat → Int32)) = p590 at h14 ⊢
        have hkw := h14
        unfold F_NH_powerModulo_at_c142_8
        by_cases g15 : p590.1 = (0 : Int32)
        ·
          rw [if_pos g15]
          have g15i : p590.1.toInt = 0 := q_eqI g15
          (unfold QV_powerModulo_at; dsimp only; first | exact cAn_o (cAn_z hkw (by with_reducible assumption)) (sPM_p hvs hes) | exact cAn_o hkw (sPM_p hvs hes) | exact cAn_o (cAn_z hkw (by with_reducible assumption)) (sPM_i hvs hes hiv) | exact cAn_o hkw (sPM_i hvs hes hiv) | exact cAn_o (cAn_n hw2) (sPM_0 hvs) | exact cAn_o (cAn_n2 hw2 hcc) (sPM_0 hvs) | exact cAn_o (cAn_n hw) (sPM_0 hvs) | exact cAn_o (cAn_n2 hw hcc) (sPM_0 hvs) | exact cAn_o (cAn_n hw2) (sPM_n hvs hes hiv) | exact cAn_o (cAn_n2 hw2 hcc) (sPM_n hvs hes hiv) | exact cAn_o (cAn_n hw) (sPM_n hvs hes hiv) | exact cAn_o (cAn_n2 hw hcc) (sPM_n hvs hes hiv))
        ·
          rw [if_neg g15]
          have g15i : p590.1.toInt ≠ 0 := q_neI g15
          (unfold QV_powerModulo_at; dsimp only; first | exact cAn_o (cAn_z hkw (by with_reducible assumption)) (sPM_p hvs hes) | exact cAn_o hkw (sPM_p hvs hes) | exact cAn_o (cAn_z hkw (by with_reducible assumption)) (sPM_i hvs hes hiv) | exact cAn_o hkw (sPM_i hvs hes hiv) | exact cAn_o (cAn_n hw2) (sPM_0 hvs) | exact cAn_o (cAn_n2 hw2 hcc) (sPM_0 hvs) | exact cAn_o (cAn_n hw) (sPM_0 hvs) | exact cAn_o (cAn_n2 hw hcc) (sPM_0 hvs) | exact cAn_o (cAn_n hw2) (sPM_n hvs hes hiv) | exact cAn_o (cAn_n2 hw2 hcc) (sPM_n hvs hes hiv) | exact cAn_o (cAn_n hw) (sPM_n hvs hes hiv) | exact cAn_o (cAn_n2 hw hcc) (sPM_n hvs hes hiv))
def QV_powerModulo_et (o : Option Int) (vm : Int) (p : Int32 × Int32 × Int32 × (Nat → Int32) × Int32 × Int32 × (Nat → Int32) × Int32 × Int32 × (Nat → Int32) × Int32 × Int32 × (Nat → Int32) × Int32 × Int32 × (Nat → Int32) × Int32 × Int32 × (Nat → Int32) × Int32 × Int32 × (Nat → Int32) × Int32 × Int32 × (Nat → Int32) × Int32 × Int32 × (Nat → Int32)) : Prop := cAn o vm p.1 p.2.2.2.2.2.2.2.2.2.2.2.2.2.2.2.2.2.2.2.2.2.2.2.2.2.1 p.2.2.2.2.2.2.2.2.2.2.2.2.2.2.2.2.2.2.2.2.2.2.2.2.2.2.1 p.2.2.2.2.2.2.2.2.2.2.2.2.2.2.2.2.2.2.2.2.2.2.2.2.2.2.2
theorem V_powerModulo_et {x2 : Int32} {x3 : Int32} {x4 : Int32} {x5 : Int32} {t0_0 : Int32} {t0_1 : Int32} {t1_0 : (Nat → Int32)} {t2_0 : Int32} {t2_1 : Int32} {t3_0 : (Nat → Int32)} {t4_0 : Int32} {t4_1 : Int32} {t5_0 : (Nat → Int32)} {t6_0 : Int32} {t6_1 : Int32} {t7_0 : (Nat → Int32)} {t8_0 : Int32} {t8_1 : Int32} {t9_0 : (Nat → Int32)} {t10_0 : Int32} {t10_1 : Int32} {t11_0 : (Nat → Int32)} {t12_0 : Int32} {t12_1 : Int32} {t13_0 : (Nat → Int32)} {t14_0 : Int32} {t14_1 : Int32} {t15_0 : (Nat → Int32)} {t16_0 : Int32} {t16_1 : Int32} {t17_0 : (Nat → Int32)} {t18_0 : Int32} {t18_1 : Int32} {t19_0 : (Nat → Int32)} {va vm : Int} (ha : bO 68 t16_0 t16_1 t17_0 va) (hA : bB 67 va) (hm : bO 68 t18_0 t18_1 t19_0 vm) (hM : bB 67 vm) (hr2 : ¬ F_NH_isRegister x2 = 0) (hr3 : ¬ F_NH_isRegister x3 = 0) (hr4 : ¬ F_NH_isRegister x4 = 0) (hr5 : ¬ F_NH_isRegister x5 = 0) : QV_powerModulo_et (sPM va vm vm) vm (F_NH_powerModulo_et x2 x3 x4 x5 t0_0 t0_1 t1_0 t2_0 t2_1 t3_0 t4_0 t4_1 t5_0 t6_0 t6_1 t7_0 t8_0 t8_1 t9_0 t10_0 t10_1 t11_0 t12_0 t12_1 t13_0 t14_0 t14_1 t15_0 t16_0 t16_1 t17_0 t18_0 t18_1 t19_0) := by
  have e0 : (0 : Int32).toInt = 0 := rfl
  have e220 : (220 : Int32).toInt = 220 := rfl
  have e68 : (68 : Int32).toInt = 68 := rfl
  have sm : t18_0.toInt ≤ 68 := hm.2.2.2.1
  have hw := hm
  unfold F_NH_powerModulo_et
  rw [if_neg hr2]
  rw [if_neg hr3]
  rw [if_neg hr4]
  rw [if_neg hr5]
  unfold F_NH_powerModulo_et_J34
  have g1 : ((F_NH_need (1 : Int32)) = (0 : Int32)) := (by decide)
  rw [if_pos g1]
  by_cases g2 : ((F_Big_sign (68 : Int32) t18_0 t18_1) : Int32) ≤ (0 : Int32)
  ·
    rw [if_pos g2]
    have hvs := v_sgnP0 hm g2
    unfold F_NH_powerModulo_et_J54
    have g3 : ¬ ((F_NH_canHave (0 : Int32)) = (0 : Int32)) := (by decide)
    rw [if_neg g3]
    (unfold QV_powerModulo_et; dsimp only; first | exact cAn_o (cAn_z hkw (by with_reducible assumption)) (sPM_p hvs hes) | exact cAn_o hkw (sPM_p hvs hes) | exact cAn_o (cAn_z hkw (by with_reducible assumption)) (sPM_i hvs hes hiv) | exact cAn_o hkw (sPM_i hvs hes hiv) | exact cAn_o (cAn_n hw2) (sPM_0 hvs) | exact cAn_o (cAn_n2 hw2 hcc) (sPM_0 hvs) | exact cAn_o (cAn_n hw) (sPM_0 hvs) | exact cAn_o (cAn_n2 hw hcc) (sPM_0 hvs) | exact cAn_o (cAn_n hw2) (sPM_n hvs hes hiv) | exact cAn_o (cAn_n2 hw2 hcc) (sPM_n hvs hes hiv) | exact cAn_o (cAn_n hw) (sPM_n hvs hes hiv) | exact cAn_o (cAn_n2 hw hcc) (sPM_n hvs hes hiv))
  ·
    rw [if_neg g2]
    have hvs := v_sgnP hm g2
    unfold F_NH_powerModulo_et_J54
    have g4 : ((F_NH_canHave (1 : Int32)) = (0 : Int32)) := (by decide)
    rw [if_pos g4]
    by_cases g5 : t18_1 = (0 : Int32)
    ·
      rw [if_pos g5]
      have hes := v_ng0 hm g5
      have h6 := T_modulo (R := (68 : Int32)) (R2 := (68 : Int32)) (R3 := (220 : Int32)) (t0_0 := t2_0) (t0_1 := t2_1) (t1_0 := t3_0) (t2_0 := t16_0) (t2_1 := t16_1) (t3_0 := t17_0) (t4_0 := t18_0) (t4_1 := t18_1) (t5_0 := t19_0) (t6_0 := t0_0) (t6_1 := t0_1) (t7_0 := t1_0) ha hm (by omega) hA (by decide) (by omega) (by decide)
      replace h6 := h6.2
      generalize F_Mil_modulo (68 : Int32) (68 : Int32) (220 : Int32) t2_0 t2_1 t3_0 t16_0 t16_1 t17_0 t18_0 t18_1 t19_0 t0_0 t0_1 t1_0 = p229 at h6 ⊢
      have hn := h6.2.2
      have hnB := v_modB (va := va) hvs hM
      rw [v_modE hvs] at hn hnB
      have hn0 : 0 ≤ va % vm := Int.emod_nonneg _ (by omega)
      have hm2 := h6.2.1
      have hw2 := hm2
      unfold F_NH_powerModulo_et_c117
      have h7 := V_powerBelow_a (ve := 0) (R2 := (68 : Int32)) (t0_0 := (p229.2.2.2.2.2.2.1 : Int32)) (t0_1 := (p229.2.2.2.2.2.2.2.1 : Int32)) (t1_0 := (p229.2.2.2.2.2.2.2.2 : (Nat → Int32))) (t2_0 := (p229.1 : Int32)) (t2_1 := (p229.2.1 : Int32)) (t3_0 := (p229.2.2.1 : (Nat → Int32))) (t4_0 := t4_0) (t4_1 := t4_1) (t5_0 := t5_0) (t6_0 := t6_0) (t6_1 := t6_1) (t7_0 := t7_0) (t8_0 := (p229.2.2.2.1 : Int32)) (t8_1 := (p229.2.2.2.2.1 : Int32)) (t9_0 := (p229.2.2.2.2.2.1 : (Nat → Int32))) hn hn0 hm2 hvs hnB hM (by decide)
      replace h7 := h7.2
      generalize F_Mil_powerBelow_a (68 : Int32) (p229.2.2.2.2.2.2.1 : Int32) (p229.2.2.2.2.2.2.2.1 : Int32) (p229.2.2.2.2.2.2.2.2 : (Nat → Int32)) (p229.1 : Int32) (p229.2.1 : Int32) (p229.2.2.1 : (Nat → Int32)) t4_0 t4_1 t5_0 t6_0 t6_1 t7_0 (p229.2.2.2.1 : Int32) (p229.2.2.2.2.1 : Int32) (p229.2.2.2.2.2.1 : (Nat → Int32)) = p300 at h7 ⊢
      have hn := h7.1
      have hm3 := h7.2.2.2.2
      have hw3 := hm3
      unfold F_NH_powerModulo_et_c136
      have h8 := V_keepWhole (x2 := x5) (t0_0 := (p300.1 : Int32)) (t0_1 := (p300.2.1 : Int32)) (t1_0 := (p300.2.2.1 : (Nat → Int32))) (t2_0 := (p300.2.2.2.2.2.2.2.2.2.2.2.2.1 : Int32)) (t2_1 := (p300.2.2.2.2.2.2.2.2.2.2.2.2.2.1 : Int32)) (t3_0 := (p300.2.2.2.2.2.2.2.2.2.2.2.2.2.2 : (Nat → Int32))) hn (by first | exact hw3 | exact hw2 | exact hw)
      generalize F_NH_keepWhole x5 (p300.1 : Int32) (p300.2.1 : Int32) (p300.2.2.1 : (Nat → Int32)) (p300.2.2.2.2.2.2.2.2.2.2.2.2.1 : Int32) (p300.2.2.2.2.2.2.2.2.2.2.2.2.2.1 : Int32) (p300.2.2.2.2.2.2.2.2.2.2.2.2.2.2 : (Nat → Int32)) = p335 at h8 ⊢
      have hkw := h8
      unfold F_NH_powerModulo_et_c142
      by_cases g9 : p335.1 = (0 : Int32)
      ·
        rw [if_pos g9]
        have g9i : p335.1.toInt = 0 := q_eqI g9
        (unfold QV_powerModulo_et; dsimp only; first | exact cAn_o (cAn_z hkw (by with_reducible assumption)) (sPM_p hvs hes) | exact cAn_o hkw (sPM_p hvs hes) | exact cAn_o (cAn_z hkw (by with_reducible assumption)) (sPM_i hvs hes hiv) | exact cAn_o hkw (sPM_i hvs hes hiv) | exact cAn_o (cAn_n hw2) (sPM_0 hvs) | exact cAn_o (cAn_n2 hw2 hcc) (sPM_0 hvs) | exact cAn_o (cAn_n hw) (sPM_0 hvs) | exact cAn_o (cAn_n2 hw hcc) (sPM_0 hvs) | exact cAn_o (cAn_n hw2) (sPM_n hvs hes hiv) | exact cAn_o (cAn_n2 hw2 hcc) (sPM_n hvs hes hiv) | exact cAn_o (cAn_n hw) (sPM_n hvs hes hiv) | exact cAn_o (cAn_n2 hw hcc) (sPM_n hvs hes hiv))
      ·
        rw [if_neg g9]
        have g9i : p335.1.toInt ≠ 0 := q_neI g9
        (unfold QV_powerModulo_et; dsimp only; first | exact cAn_o (cAn_z hkw (by with_reducible assumption)) (sPM_p hvs hes) | exact cAn_o hkw (sPM_p hvs hes) | exact cAn_o (cAn_z hkw (by with_reducible assumption)) (sPM_i hvs hes hiv) | exact cAn_o hkw (sPM_i hvs hes hiv) | exact cAn_o (cAn_n hw2) (sPM_0 hvs) | exact cAn_o (cAn_n2 hw2 hcc) (sPM_0 hvs) | exact cAn_o (cAn_n hw) (sPM_0 hvs) | exact cAn_o (cAn_n2 hw hcc) (sPM_0 hvs) | exact cAn_o (cAn_n hw2) (sPM_n hvs hes hiv) | exact cAn_o (cAn_n2 hw2 hcc) (sPM_n hvs hes hiv) | exact cAn_o (cAn_n hw) (sPM_n hvs hes hiv) | exact cAn_o (cAn_n2 hw hcc) (sPM_n hvs hes hiv))
    ·
      rw [if_neg g5]
      have hes := v_ng1 hm g5
      have h10 := V_inverseO (R := (68 : Int32)) (R2 := (68 : Int32)) (t0_0 := t0_0) (t0_1 := t0_1) (t1_0 := t1_0) (t2_0 := t2_0) (t2_1 := t2_1) (t3_0 := t3_0) (t4_0 := t6_0) (t4_1 := t6_1) (t5_0 := t7_0) (t6_0 := t8_0) (t6_1 := t8_1) (t7_0 := t9_0) (t8_0 := t10_0) (t8_1 := t10_1) (t9_0 := t11_0) (t10_0 := t12_0) (t10_1 := t12_1) (t11_0 := t13_0) (t12_0 := t14_0) (t12_1 := t14_1) (t13_0 := t15_0) (t14_0 := t16_0) (t14_1 := t16_1) (t15_0 := t17_0) (t16_0 := t18_0) (t16_1 := t18_1) (t17_0 := t19_0) ha hm hvs hA hM (by decide)
      generalize F_Mil_inverse (68 : Int32) (68 : Int32) t0_0 t0_1 t1_0 t2_0 t2_1 t3_0 t6_0 t6_1 t7_0 t8_0 t8_1 t9_0 t10_0 t10_1 t11_0 t12_0 t12_1 t13_0 t14_0 t14_1 t15_0 t16_0 t16_1 t17_0 t18_0 t18_1 t19_0 = p462 at h10 ⊢
      unfold F_NH_powerModulo_et_c85
      rcases h10 with ⟨h100, h101, h102⟩ | ⟨xv, h100, h101, h10n, h102⟩
      ·
        have hm2 := h102
        have hiv := h100
        have hcc : F_NH_canHave p462.1 = 2 := by rw [h101]; decide
        have hw2 := hm2
        have g11 : ¬ ((F_NH_canHave (p462.1 : Int32)) = (0 : Int32)) := (by rw [h101]; decide)
        rw [if_neg g11]
        (unfold QV_powerModulo_et; dsimp only; first | exact cAn_o (cAn_z hkw (by with_reducible assumption)) (sPM_p hvs hes) | exact cAn_o hkw (sPM_p hvs hes) | exact cAn_o (cAn_z hkw (by with_reducible assumption)) (sPM_i hvs hes hiv) | exact cAn_o hkw (sPM_i hvs hes hiv) | exact cAn_o (cAn_n hw2) (sPM_0 hvs) | exact cAn_o (cAn_n2 hw2 hcc) (sPM_0 hvs) | exact cAn_o (cAn_n hw) (sPM_0 hvs) | exact cAn_o (cAn_n2 hw hcc) (sPM_0 hvs) | exact cAn_o (cAn_n hw2) (sPM_n hvs hes hiv) | exact cAn_o (cAn_n2 hw2 hcc) (sPM_n hvs hes hiv) | exact cAn_o (cAn_n hw) (sPM_n hvs hes hiv) | exact cAn_o (cAn_n2 hw hcc) (sPM_n hvs hes hiv))
      ·
        have hn := h10n
        have hm2 := h102
        have hiv := h100
        have hn0 := (sInv_rng hiv).1
        have hnB : bB 67 xv := hM.le (by have := (sInv_rng hiv).2; omega)
        have hw2 := hm2
        have g12 : ((F_NH_canHave (p462.1 : Int32)) = (0 : Int32)) := (by rw [h101]; decide)
        rw [if_pos g12]
        have h13 := V_powerBelow_a (ve := 0) (R2 := (68 : Int32)) (t0_0 := (p462.2.1 : Int32)) (t0_1 := (p462.2.2.1 : Int32)) (t1_0 := (p462.2.2.2.1 : (Nat → Int32))) (t2_0 := (p462.2.2.2.2.1 : Int32)) (t2_1 := (p462.2.2.2.2.2.1 : Int32)) (t3_0 := (p462.2.2.2.2.2.2.1 : (Nat → Int32))) (t4_0 := t4_0) (t4_1 := t4_1) (t5_0 := t5_0) (t6_0 := (p462.2.2.2.2.2.2.2.1 : Int32)) (t6_1 := (p462.2.2.2.2.2.2.2.2.1 : Int32)) (t7_0 := (p462.2.2.2.2.2.2.2.2.2.1 : (Nat → Int32))) (t8_0 := (p462.2.2.2.2.2.2.2.2.2.2.2.2.2.2.2.2.2.2.2.2.2.2.1 : Int32)) (t8_1 := (p462.2.2.2.2.2.2.2.2.2.2.2.2.2.2.2.2.2.2.2.2.2.2.2.1 : Int32)) (t9_0 := (p462.2.2.2.2.2.2.2.2.2.2.2.2.2.2.2.2.2.2.2.2.2.2.2.2 : (Nat → Int32))) hn hn0 hm2 hvs hnB hM (by decide)
        replace h13 := h13.2
        generalize F_Mil_powerBelow_a (68 : Int32) (p462.2.1 : Int32) (p462.2.2.1 : Int32) (p462.2.2.2.1 : (Nat → Int32)) (p462.2.2.2.2.1 : Int32) (p462.2.2.2.2.2.1 : Int32) (p462.2.2.2.2.2.2.1 : (Nat → Int32)) t4_0 t4_1 t5_0 (p462.2.2.2.2.2.2.2.1 : Int32) (p462.2.2.2.2.2.2.2.2.1 : Int32) (p462.2.2.2.2.2.2.2.2.2.1 : (Nat → Int32)) (p462.2.2.2.2.2.2.2.2.2.2.2.2.2.2.2.2.2.2.2.2.2.2.1 : Int32) (p462.2.2.2.2.2.2.2.2.2.2.2.2.2.2.2.2.2.2.2.2.2.2.2.1 : Int32) (p462.2.2.2.2.2.2.2.2.2.2.2.2.2.2.2.2.2.2.2.2.2.2.2.2 : (Nat → Int32)) = p558 at h13 ⊢
        have hn := h13.1
        have hm3 := h13.2.2.2.2
        have hw3 := hm3
        unfold F_NH_powerModulo_et_c136_7
        have h14 := V_keepWhole (x2 := x5) (t0_0 := (p558.1 : Int32)) (t0_1 := (p558.2.1 : Int32)) (t1_0 := (p558.2.2.1 : (Nat → Int32))) (t2_0 := (p558.2.2.2.2.2.2.2.2.2.2.2.2.1 : Int32)) (t2_1 := (p558.2.2.2.2.2.2.2.2.2.2.2.2.2.1 : Int32)) (t3_0 := (p558.2.2.2.2.2.2.2.2.2.2.2.2.2.2 : (Nat → Int32))) hn (by first | exact hw3 | exact hw2 | exact hw)
        generalize F_NH_keepWhole x5 (p558.1 : Int32) (p558.2.1 : Int32) (p558.2.2.1 : (Nat → Int32)) (p558.2.2.2.2.2.2.2.2.2.2.2.2.1 : Int32) (p558.2.2.2.2.2.2.2.2.2.2.2.2.2.1 : Int32) (p558.2.2.2.2.2.2.2.2.2.2.2.2.2.2 : (Nat → Int32)) = p593 at h14 ⊢
        have hkw := h14
        unfold F_NH_powerModulo_et_c142_8
        by_cases g15 : p593.1 = (0 : Int32)
        ·
          rw [if_pos g15]
          have g15i : p593.1.toInt = 0 := q_eqI g15
          (unfold QV_powerModulo_et; dsimp only; first | exact cAn_o (cAn_z hkw (by with_reducible assumption)) (sPM_p hvs hes) | exact cAn_o hkw (sPM_p hvs hes) | exact cAn_o (cAn_z hkw (by with_reducible assumption)) (sPM_i hvs hes hiv) | exact cAn_o hkw (sPM_i hvs hes hiv) | exact cAn_o (cAn_n hw2) (sPM_0 hvs) | exact cAn_o (cAn_n2 hw2 hcc) (sPM_0 hvs) | exact cAn_o (cAn_n hw) (sPM_0 hvs) | exact cAn_o (cAn_n2 hw hcc) (sPM_0 hvs) | exact cAn_o (cAn_n hw2) (sPM_n hvs hes hiv) | exact cAn_o (cAn_n2 hw2 hcc) (sPM_n hvs hes hiv) | exact cAn_o (cAn_n hw) (sPM_n hvs hes hiv) | exact cAn_o (cAn_n2 hw hcc) (sPM_n hvs hes hiv))
        ·
          rw [if_neg g15]
          have g15i : p593.1.toInt ≠ 0 := q_neI g15
          (unfold QV_powerModulo_et; dsimp only; first | exact cAn_o (cAn_z hkw (by with_reducible assumption)) (sPM_p hvs hes) | exact cAn_o hkw (sPM_p hvs hes) | exact cAn_o (cAn_z hkw (by with_reducible assumption)) (sPM_i hvs hes hiv) | exact cAn_o hkw (sPM_i hvs hes hiv) | exact cAn_o (cAn_n hw2) (sPM_0 hvs) | exact cAn_o (cAn_n2 hw2 hcc) (sPM_0 hvs) | exact cAn_o (cAn_n hw) (sPM_0 hvs) | exact cAn_o (cAn_n2 hw hcc) (sPM_0 hvs) | exact cAn_o (cAn_n hw2) (sPM_n hvs hes hiv) | exact cAn_o (cAn_n2 hw2 hcc) (sPM_n hvs hes hiv) | exact cAn_o (cAn_n hw) (sPM_n hvs hes hiv) | exact cAn_o (cAn_n2 hw hcc) (sPM_n hvs hes hiv))
def QV_powerModulo_aet (o : Option Int) (vm : Int) (p : Int32 × Int32 × Int32 × (Nat → Int32) × Int32 × Int32 × (Nat → Int32) × Int32 × Int32 × (Nat → Int32) × Int32 × Int32 × (Nat → Int32) × Int32 × Int32 × (Nat → Int32) × Int32 × Int32 × (Nat → Int32) × Int32 × Int32 × (Nat → Int32) × Int32 × Int32 × (Nat → Int32) × Int32 × Int32 × (Nat → Int32)) : Prop := cAn o vm p.1 p.2.2.2.2.2.2.2.2.2.2.2.2.2.2.2.2.2.2.2.2.2.2.2.2.2.1 p.2.2.2.2.2.2.2.2.2.2.2.2.2.2.2.2.2.2.2.2.2.2.2.2.2.2.1 p.2.2.2.2.2.2.2.2.2.2.2.2.2.2.2.2.2.2.2.2.2.2.2.2.2.2.2
theorem V_powerModulo_aet {x2 : Int32} {x3 : Int32} {x4 : Int32} {x5 : Int32} {t0_0 : Int32} {t0_1 : Int32} {t1_0 : (Nat → Int32)} {t2_0 : Int32} {t2_1 : Int32} {t3_0 : (Nat → Int32)} {t4_0 : Int32} {t4_1 : Int32} {t5_0 : (Nat → Int32)} {t6_0 : Int32} {t6_1 : Int32} {t7_0 : (Nat → Int32)} {t8_0 : Int32} {t8_1 : Int32} {t9_0 : (Nat → Int32)} {t10_0 : Int32} {t10_1 : Int32} {t11_0 : (Nat → Int32)} {t12_0 : Int32} {t12_1 : Int32} {t13_0 : (Nat → Int32)} {t14_0 : Int32} {t14_1 : Int32} {t15_0 : (Nat → Int32)} {t16_0 : Int32} {t16_1 : Int32} {t17_0 : (Nat → Int32)} {vm : Int} (hm : bO 68 t16_0 t16_1 t17_0 vm) (hM : bB 67 vm) (hr2 : ¬ F_NH_isRegister x2 = 0) (hr3 : ¬ F_NH_isRegister x3 = 0) (hr4 : ¬ F_NH_isRegister x4 = 0) (hr5 : ¬ F_NH_isRegister x5 = 0) : QV_powerModulo_aet (sPM vm vm vm) vm (F_NH_powerModulo_aet x2 x3 x4 x5 t0_0 t0_1 t1_0 t2_0 t2_1 t3_0 t4_0 t4_1 t5_0 t6_0 t6_1 t7_0 t8_0 t8_1 t9_0 t10_0 t10_1 t11_0 t12_0 t12_1 t13_0 t14_0 t14_1 t15_0 t16_0 t16_1 t17_0) := by
  have e0 : (0 : Int32).toInt = 0 := rfl
  have e220 : (220 : Int32).toInt = 220 := rfl
  have e68 : (68 : Int32).toInt = 68 := rfl
  have sm : t16_0.toInt ≤ 68 := hm.2.2.2.1
  have hw := hm
  unfold F_NH_powerModulo_aet
  rw [if_neg hr2]
  rw [if_neg hr3]
  rw [if_neg hr4]
  rw [if_neg hr5]
  unfold F_NH_powerModulo_aet_J34
  have g1 : ((F_NH_need (1 : Int32)) = (0 : Int32)) := (by decide)
  rw [if_pos g1]
  by_cases g2 : ((F_Big_sign (68 : Int32) t16_0 t16_1) : Int32) ≤ (0 : Int32)
  ·
    rw [if_pos g2]
    have hvs := v_sgnP0 hm g2
    unfold F_NH_powerModulo_aet_J54
    have g3 : ¬ ((F_NH_canHave (0 : Int32)) = (0 : Int32)) := (by decide)
    rw [if_neg g3]
    (unfold QV_powerModulo_aet; dsimp only; first | exact cAn_o (cAn_z hkw (by with_reducible assumption)) (sPM_p hvs hes) | exact cAn_o hkw (sPM_p hvs hes) | exact cAn_o (cAn_z hkw (by with_reducible assumption)) (sPM_i hvs hes hiv) | exact cAn_o hkw (sPM_i hvs hes hiv) | exact cAn_o (cAn_n hw2) (sPM_0 hvs) | exact cAn_o (cAn_n2 hw2 hcc) (sPM_0 hvs) | exact cAn_o (cAn_n hw) (sPM_0 hvs) | exact cAn_o (cAn_n2 hw hcc) (sPM_0 hvs) | exact cAn_o (cAn_n hw2) (sPM_n hvs hes hiv) | exact cAn_o (cAn_n2 hw2 hcc) (sPM_n hvs hes hiv) | exact cAn_o (cAn_n hw) (sPM_n hvs hes hiv) | exact cAn_o (cAn_n2 hw hcc) (sPM_n hvs hes hiv))
  ·
    rw [if_neg g2]
    have hvs := v_sgnP hm g2
    unfold F_NH_powerModulo_aet_J54
    have g4 : ((F_NH_canHave (1 : Int32)) = (0 : Int32)) := (by decide)
    rw [if_pos g4]
    by_cases g5 : t16_1 = (0 : Int32)
    ·
      rw [if_pos g5]
      have hes := v_ng0 hm g5
      have h6 := T_modulo_a (R2 := (68 : Int32)) (R4 := (220 : Int32)) (t0_0 := t2_0) (t0_1 := t2_1) (t1_0 := t3_0) (t2_0 := t16_0) (t2_1 := t16_1) (t3_0 := t17_0) (t4_0 := t0_0) (t4_1 := t0_1) (t5_0 := t1_0) hm (by omega) hM (by decide) (by decide)
      replace h6 := h6.2
      generalize F_Mil_modulo_a (68 : Int32) (220 : Int32) t2_0 t2_1 t3_0 t16_0 t16_1 t17_0 t0_0 t0_1 t1_0 = p217 at h6 ⊢
      have hn := h6.2.2
      have hnB : bB 67 0 := hM.le (Nat.zero_le _)
      rw [v_mod0 hvs] at hn hnB
      have hn0 : 0 ≤ vm % vm := Int.emod_nonneg _ (by omega)
      have hm2 := h6.2.1
      have hw2 := hm2
      unfold F_NH_powerModulo_aet_c117
      have h7 := V_powerBelow_a (ve := 0) (R2 := (68 : Int32)) (t0_0 := (p217.2.2.2.2.2.2.1 : Int32)) (t0_1 := (p217.2.2.2.2.2.2.2.1 : Int32)) (t1_0 := (p217.2.2.2.2.2.2.2.2 : (Nat → Int32))) (t2_0 := (p217.1 : Int32)) (t2_1 := (p217.2.1 : Int32)) (t3_0 := (p217.2.2.1 : (Nat → Int32))) (t4_0 := t4_0) (t4_1 := t4_1) (t5_0 := t5_0) (t6_0 := t6_0) (t6_1 := t6_1) (t7_0 := t7_0) (t8_0 := (p217.2.2.2.1 : Int32)) (t8_1 := (p217.2.2.2.2.1 : Int32)) (t9_0 := (p217.2.2.2.2.2.1 : (Nat → Int32))) hn hn0 hm2 hvs hnB hM (by decide)
      replace h7 := h7.2
      generalize F_Mil_powerBelow_a (68 : Int32) (p217.2.2.2.2.2.2.1 : Int32) (p217.2.2.2.2.2.2.2.1 : Int32) (p217.2.2.2.2.2.2.2.2 : (Nat → Int32)) (p217.1 : Int32) (p217.2.1 : Int32) (p217.2.2.1 : (Nat → Int32)) t4_0 t4_1 t5_0 t6_0 t6_1 t7_0 (p217.2.2.2.1 : Int32) (p217.2.2.2.2.1 : Int32) (p217.2.2.2.2.2.1 : (Nat → Int32)) = p288 at h7 ⊢
      have hn := h7.1
      have hm3 := h7.2.2.2.2
      have hw3 := hm3
      unfold F_NH_powerModulo_aet_c136
      have h8 := V_keepWhole (x2 := x5) (t0_0 := (p288.1 : Int32)) (t0_1 := (p288.2.1 : Int32)) (t1_0 := (p288.2.2.1 : (Nat → Int32))) (t2_0 := (p288.2.2.2.2.2.2.2.2.2.2.2.2.1 : Int32)) (t2_1 := (p288.2.2.2.2.2.2.2.2.2.2.2.2.2.1 : Int32)) (t3_0 := (p288.2.2.2.2.2.2.2.2.2.2.2.2.2.2 : (Nat → Int32))) hn (by first | exact hw3 | exact hw2 | exact hw)
      generalize F_NH_keepWhole x5 (p288.1 : Int32) (p288.2.1 : Int32) (p288.2.2.1 : (Nat → Int32)) (p288.2.2.2.2.2.2.2.2.2.2.2.2.1 : Int32) (p288.2.2.2.2.2.2.2.2.2.2.2.2.2.1 : Int32) (p288.2.2.2.2.2.2.2.2.2.2.2.2.2.2 : (Nat → Int32)) = p323 at h8 ⊢
      have hkw := h8
      unfold F_NH_powerModulo_aet_c142
      by_cases g9 : p323.1 = (0 : Int32)
      ·
        rw [if_pos g9]
        have g9i : p323.1.toInt = 0 := q_eqI g9
        (unfold QV_powerModulo_aet; dsimp only; first | exact cAn_o (cAn_z hkw (by with_reducible assumption)) (sPM_p hvs hes) | exact cAn_o hkw (sPM_p hvs hes) | exact cAn_o (cAn_z hkw (by with_reducible assumption)) (sPM_i hvs hes hiv) | exact cAn_o hkw (sPM_i hvs hes hiv) | exact cAn_o (cAn_n hw2) (sPM_0 hvs) | exact cAn_o (cAn_n2 hw2 hcc) (sPM_0 hvs) | exact cAn_o (cAn_n hw) (sPM_0 hvs) | exact cAn_o (cAn_n2 hw hcc) (sPM_0 hvs) | exact cAn_o (cAn_n hw2) (sPM_n hvs hes hiv) | exact cAn_o (cAn_n2 hw2 hcc) (sPM_n hvs hes hiv) | exact cAn_o (cAn_n hw) (sPM_n hvs hes hiv) | exact cAn_o (cAn_n2 hw hcc) (sPM_n hvs hes hiv))
      ·
        rw [if_neg g9]
        have g9i : p323.1.toInt ≠ 0 := q_neI g9
        (unfold QV_powerModulo_aet; dsimp only; first | exact cAn_o (cAn_z hkw (by with_reducible assumption)) (sPM_p hvs hes) | exact cAn_o hkw (sPM_p hvs hes) | exact cAn_o (cAn_z hkw (by with_reducible assumption)) (sPM_i hvs hes hiv) | exact cAn_o hkw (sPM_i hvs hes hiv) | exact cAn_o (cAn_n hw2) (sPM_0 hvs) | exact cAn_o (cAn_n2 hw2 hcc) (sPM_0 hvs) | exact cAn_o (cAn_n hw) (sPM_0 hvs) | exact cAn_o (cAn_n2 hw hcc) (sPM_0 hvs) | exact cAn_o (cAn_n hw2) (sPM_n hvs hes hiv) | exact cAn_o (cAn_n2 hw2 hcc) (sPM_n hvs hes hiv) | exact cAn_o (cAn_n hw) (sPM_n hvs hes hiv) | exact cAn_o (cAn_n2 hw hcc) (sPM_n hvs hes hiv))
    ·
      rw [if_neg g5]
      have hes := v_ng1 hm g5
      have h10 := V_inverse_aO (R2 := (68 : Int32)) (t0_0 := t0_0) (t0_1 := t0_1) (t1_0 := t1_0) (t2_0 := t2_0) (t2_1 := t2_1) (t3_0 := t3_0) (t4_0 := t6_0) (t4_1 := t6_1) (t5_0 := t7_0) (t6_0 := t8_0) (t6_1 := t8_1) (t7_0 := t9_0) (t8_0 := t10_0) (t8_1 := t10_1) (t9_0 := t11_0) (t10_0 := t12_0) (t10_1 := t12_1) (t11_0 := t13_0) (t12_0 := t14_0) (t12_1 := t14_1) (t13_0 := t15_0) (t14_0 := t16_0) (t14_1 := t16_1) (t15_0 := t17_0) hm hvs hM (by decide)
      generalize F_Mil_inverse_a (68 : Int32) t0_0 t0_1 t1_0 t2_0 t2_1 t3_0 t6_0 t6_1 t7_0 t8_0 t8_1 t9_0 t10_0 t10_1 t11_0 t12_0 t12_1 t13_0 t14_0 t14_1 t15_0 t16_0 t16_1 t17_0 = p447 at h10 ⊢
      unfold F_NH_powerModulo_aet_c85
      rcases h10 with ⟨h100, h101, h102⟩ | ⟨xv, h100, h101, h10n, h102⟩
      ·
        have hm2 := h102
        have hiv := h100
        have hcc : F_NH_canHave p447.1 = 2 := by rw [h101]; decide
        have hw2 := hm2
        have g11 : ¬ ((F_NH_canHave (p447.1 : Int32)) = (0 : Int32)) := (by rw [h101]; decide)
        rw [if_neg g11]
        (unfold QV_powerModulo_aet; dsimp only; first | exact cAn_o (cAn_z hkw (by with_reducible assumption)) (sPM_p hvs hes) | exact cAn_o hkw (sPM_p hvs hes) | exact cAn_o (cAn_z hkw (by with_reducible assumption)) (sPM_i hvs hes hiv) | exact cAn_o hkw (sPM_i hvs hes hiv) | exact cAn_o (cAn_n hw2) (sPM_0 hvs) | exact cAn_o (cAn_n2 hw2 hcc) (sPM_0 hvs) | exact cAn_o (cAn_n hw) (sPM_0 hvs) | exact cAn_o (cAn_n2 hw hcc) (sPM_0 hvs) | exact cAn_o (cAn_n hw2) (sPM_n hvs hes hiv) | exact cAn_o (cAn_n2 hw2 hcc) (sPM_n hvs hes hiv) | exact cAn_o (cAn_n hw) (sPM_n hvs hes hiv) | exact cAn_o (cAn_n2 hw hcc) (sPM_n hvs hes hiv))
      ·
        have hn := h10n
        have hm2 := h102
        have hiv := h100
        have hn0 := (sInv_rng hiv).1
        have hnB : bB 67 xv := hM.le (by have := (sInv_rng hiv).2; omega)
        have hw2 := hm2
        have g12 : ((F_NH_canHave (p447.1 : Int32)) = (0 : Int32)) := (by rw [h101]; decide)
        rw [if_pos g12]
        have h13 := V_powerBelow_a (ve := 0) (R2 := (68 : Int32)) (t0_0 := (p447.2.1 : Int32)) (t0_1 := (p447.2.2.1 : Int32)) (t1_0 := (p447.2.2.2.1 : (Nat → Int32))) (t2_0 := (p447.2.2.2.2.1 : Int32)) (t2_1 := (p447.2.2.2.2.2.1 : Int32)) (t3_0 := (p447.2.2.2.2.2.2.1 : (Nat → Int32))) (t4_0 := t4_0) (t4_1 := t4_1) (t5_0 := t5_0) (t6_0 := (p447.2.2.2.2.2.2.2.1 : Int32)) (t6_1 := (p447.2.2.2.2.2.2.2.2.1 : Int32)) (t7_0 := (p447.2.2.2.2.2.2.2.2.2.1 : (Nat → Int32))) (t8_0 := (p447.2.2.2.2.2.2.2.2.2.2.2.2.2.2.2.2.2.2.2.2.2.2.1 : Int32)) (t8_1 := (p447.2.2.2.2.2.2.2.2.2.2.2.2.2.2.2.2.2.2.2.2.2.2.2.1 : Int32)) (t9_0 := (p447.2.2.2.2.2.2.2.2.2.2.2.2.2.2.2.2.2.2.2.2.2.2.2.2 : (Nat → Int32))) hn hn0 hm2 hvs hnB hM (by decide)
        replace h13 := h13.2
        generalize F_Mil_powerBelow_a (68 : Int32) (p447.2.1 : Int32) (p447.2.2.1 : Int32) (p447.2.2.2.1 : (Nat → Int32)) (p447.2.2.2.2.1 : Int32) (p447.2.2.2.2.2.1 : Int32) (p447.2.2.2.2.2.2.1 : (Nat → Int32)) t4_0 t4_1 t5_0 (p447.2.2.2.2.2.2.2.1 : Int32) (p447.2.2.2.2.2.2.2.2.1 : Int32) (p447.2.2.2.2.2.2.2.2.2.1 : (Nat → Int32)) (p447.2.2.2.2.2.2.2.2.2.2.2.2.2.2.2.2.2.2.2.2.2.2.1 : Int32) (p447.2.2.2.2.2.2.2.2.2.2.2.2.2.2.2.2.2.2.2.2.2.2.2.1 : Int32) (p447.2.2.2.2.2.2.2.2.2.2.2.2.2.2.2.2.2.2.2.2.2.2.2.2 : (Nat → Int32)) = p543 at h13 ⊢
        have hn := h13.1
        have hm3 := h13.2.2.2.2
        have hw3 := hm3
        unfold F_NH_powerModulo_aet_c136_7
        have h14 := V_keepWhole (x2 := x5) (t0_0 := (p543.1 : Int32)) (t0_1 := (p543.2.1 : Int32)) (t1_0 := (p543.2.2.1 : (Nat → Int32))) (t2_0 := (p543.2.2.2.2.2.2.2.2.2.2.2.2.1 : Int32)) (t2_1 := (p543.2.2.2.2.2.2.2.2.2.2.2.2.2.1 : Int32)) (t3_0 := (p543.2.2.2.2.2.2.2.2.2.2.2.2.2.2 : (Nat → Int32))) hn (by first | exact hw3 | exact hw2 | exact hw)
        generalize F_NH_keepWhole x5 (p543.1 : Int32) (p543.2.1 : Int32) (p543.2.2.1 : (Nat → Int32)) (p543.2.2.2.2.2.2.2.2.2.2.2.2.1 : Int32) (p543.2.2.2.2.2.2.2.2.2.2.2.2.2.1 : Int32) (p543.2.2.2.2.2.2.2.2.2.2.2.2.2.2 : (Nat → Int32)) = p578 at h14 ⊢
        have hkw := h14
        unfold F_NH_powerModulo_aet_c142_8
        by_cases g15 : p578.1 = (0 : Int32)
        ·
          rw [if_pos g15]
          have g15i : p578.1.toInt = 0 := q_eqI g15
          (unfold QV_powerModulo_aet; dsimp only; first | exact cAn_o (cAn_z hkw (by with_reducible assumption)) (sPM_p hvs hes) | exact cAn_o hkw (sPM_p hvs hes) | exact cAn_o (cAn_z hkw (by with_reducible assumption)) (sPM_i hvs hes hiv) | exact cAn_o hkw (sPM_i hvs hes hiv) | exact cAn_o (cAn_n hw2) (sPM_0 hvs) | exact cAn_o (cAn_n2 hw2 hcc) (sPM_0 hvs) | exact cAn_o (cAn_n hw) (sPM_0 hvs) | exact cAn_o (cAn_n2 hw hcc) (sPM_0 hvs) | exact cAn_o (cAn_n hw2) (sPM_n hvs hes hiv) | exact cAn_o (cAn_n2 hw2 hcc) (sPM_n hvs hes hiv) | exact cAn_o (cAn_n hw) (sPM_n hvs hes hiv) | exact cAn_o (cAn_n2 hw hcc) (sPM_n hvs hes hiv))
        ·
          rw [if_neg g15]
          have g15i : p578.1.toInt ≠ 0 := q_neI g15
          (unfold QV_powerModulo_aet; dsimp only; first | exact cAn_o (cAn_z hkw (by with_reducible assumption)) (sPM_p hvs hes) | exact cAn_o hkw (sPM_p hvs hes) | exact cAn_o (cAn_z hkw (by with_reducible assumption)) (sPM_i hvs hes hiv) | exact cAn_o hkw (sPM_i hvs hes hiv) | exact cAn_o (cAn_n hw2) (sPM_0 hvs) | exact cAn_o (cAn_n2 hw2 hcc) (sPM_0 hvs) | exact cAn_o (cAn_n hw) (sPM_0 hvs) | exact cAn_o (cAn_n2 hw hcc) (sPM_0 hvs) | exact cAn_o (cAn_n hw2) (sPM_n hvs hes hiv) | exact cAn_o (cAn_n2 hw2 hcc) (sPM_n hvs hes hiv) | exact cAn_o (cAn_n hw) (sPM_n hvs hes hiv) | exact cAn_o (cAn_n2 hw hcc) (sPM_n hvs hes hiv))
