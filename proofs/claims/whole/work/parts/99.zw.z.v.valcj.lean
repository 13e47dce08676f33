/-! values, for whole: the class's wholeText -/
def yQ (b M f k : Nat) : Nat := M % b ^ f / b ^ k
theorem yQ_s {b M f k : Nat} : yQ b M f (k + 1) = yQ b M f k / b := by
  unfold yQ
  rw [Nat.pow_succ, ← Nat.div_div_eq_div_mul]
theorem y_dvA {b N m k : Nat} : N / b ^ m / b ^ k = N / b ^ (m + k) := by
  rw [Nat.div_div_eq_div_mul, Nat.pow_add]
theorem yQ_d {b N m f k : Nat} (h : k < f) : yQ b (N / b ^ m) f k % b = yBg b N (m + k) := by
  unfold yQ yBg
  rw [← y_dvA]
  generalize N / b ^ m = M
  obtain ⟨d, rfl⟩ : ∃ d, f = k + (1 + d) := ⟨f - 1 - k, by omega⟩
  have e : b ^ (k + (1 + d)) = b ^ k * (b ^ 1 * b ^ d) := by
    rw [← Nat.pow_add, ← Nat.pow_add]
  rw [e, Nat.mod_mul_right_div_self]
  exact Nat.mod_mod_of_dvd _ ⟨b ^ d, by rw [Nat.pow_one]⟩
theorem yQ_p {b N m f k : Nat} (hb : 0 < b) (h : k ≤ f) : (0 < yQ b (N / b ^ m) f k ∨ N / b ^ (m + f) ≠ 0) ↔ N / b ^ (m + k) ≠ 0 := by
  unfold yQ
  constructor
  · intro q e
    have e2 := y_dv0 hb e (show m + k ≤ m + f by omega)
    rcases q with q | q
    · rw [← y_dvA] at e e2
      generalize N / b ^ m = M at e e2 q
      have h1 : M < b ^ f := (Nat.div_eq_zero_iff_lt (Nat.pow_pos hb)).mp e2
      rw [Nat.mod_eq_of_lt h1, e] at q
      exact absurd q (Nat.lt_irrefl _)
    · exact q e2
  · intro q
    by_cases e : N / b ^ (m + f) = 0
    · left
      rw [← y_dvA] at e q
      generalize N / b ^ m = M at e q ⊢
      have h1 : M < b ^ f := (Nat.div_eq_zero_iff_lt (Nat.pow_pos hb)).mp e
      rw [Nat.mod_eq_of_lt h1]
      exact Nat.pos_of_ne_zero q
    · exact Or.inr e
theorem yQ_l {b M f k : Nat} (hb : 0 < b) : yQ b M f k < b ^ f := Nat.lt_of_le_of_lt (Nat.div_le_self _ _) (Nat.mod_lt _ (Nat.pow_pos hb))
theorem V_wtI {K_F_Wri_wholeText_L22 : Int32 → Int32 → (Int32 × (Nat → Int64) × Int32 × Int32 × (Nat → Int32))} {K_F_Wri_wholeText_L68 : Int32 → Int32 → Int32 → (Nat → Int32) → Int32 → (Nat → Int64) → (Int32 × (Nat → Int64) × Int32 × Int32 × (Nat → Int32))} {R : Int32} {x3 : Int32} {t0_0 : Int32} {t1_0 : (Nat → Int64)} {t2_0 : Int32} {t2_1 : Int32} {t3_0 : (Nat → Int32)} {t4_0 : Int32} {t4_1 : Int32} {t5_0 : (Nat → Int32)} {p34 : (Int32 × (Nat → Int64))} {y27 : Int32} {f28 : (Nat → Int64)} {lx45 : Int32} {lx46 : Int32} {p82 : (Int32 × Int32 × (Nat → Int32))} {lx93 : Int32} {lx94 : Int32} {lx95 : Int32} {lx96 : (Nat → Int32)} {lx97 : Int32} {lx98 : (Nat → Int64)} {p195 : (Int32 × Int32 × Int32 × (Nat → Int32))} {y185 : Int32} {y186 : Int32} {f187 : (Nat → Int32)} {Q : (Int32 × (Nat → Int64) × Int32 × Int32 × (Nat → Int32)) → Prop} {N b m f : Nat} {w : Int} {a : List Nat} (hb : x3.toInt = (b : Int)) (hb2 : 2 ≤ b ∧ b ≤ 36) (h46 : lx46.toInt = (f : Int)) (hf : f ≤ 31) (hy : bO 220 y185 y186 f187 w) (hw : w.natAbs = N / b ^ (m + f)) (ha : a.length ≤ 1) (hm : m ≤ 100000) (hbf : b ^ f < 2147483648) (hK : ∀ (s : Int32) (c : Nat → Int64) (k : Nat), yPa s c (a ++ yLw b N 0 (m + k)) → w.natAbs = N / b ^ (m + k) → (k ≠ 0 → N / b ^ (m + k - 1) ≠ 0) → (N / b ^ m ≠ 0 → 0 < f → k ≠ 0) → Q (K_F_Wri_wholeText_L68 (lx93 + 1) y185 y186 f187 s c)) : ∀ (n : Nat) (lx208 : Int32) (lx209 : Int32) (lx210 : Int32) (lx211 : (Nat → Int64)), ∀ (k : Nat), lx208.toInt = (k : Int) → k ≤ f → f < n + k → lx209.toInt = ((yQ b (N / b ^ m) f k : Nat) : Int) → yPa lx210 lx211 (a ++ yLw b N 0 (m + k)) → (k ≠ 0 → N / b ^ (m + k - 1) ≠ 0) → Q (F_Wri_wholeText_L106 K_F_Wri_wholeText_L22 K_F_Wri_wholeText_L68 R x3 t0_0 t1_0 t2_0 t2_1 t3_0 t4_0 t4_1 t5_0 p34 y27 f28 lx45 lx46 p82 lx93 lx94 lx95 lx96 lx97 lx98 p195 y185 y186 f187 n lx208 lx209 lx210 lx211) := by
  have e0 : (0 : Int32).toInt = 0 := rfl
  have e1 : (1 : Int32).toInt = 1 := rfl
  intro n
  induction n with
  | zero =>
    intro lx208 lx209 lx210 lx211 k h1 h2 h3
    omega
  | succ n ih =>
    intro lx208 lx209 lx210 lx211 k h1 h2 h3 h4 h5 h6
    have ql := yQ_l (b := b) (M := N / b ^ m) (f := f) (k := k) (by omega)
    rw [F_Wri_wholeText_L106.eq_2]
    by_cases g : lx46 ≤ lx208
    · rw [if_pos g]
      have g := q_leI g
      have kf : k = f := by clear ql hbf hw; omega
      exact hK lx210 lx211 k h5 (by rw [hw, kf]) h6 (fun _ q => by clear ql hbf hw; omega)
    · rw [if_neg g]
      have g := q_nleI g
      have kf : k < f := by clear ql hbf hw; omega
      have qp := yQ_p (b := b) (N := N) (m := m) (f := f) (k := k) (by omega) (by omega)
      have qd := yQ_d (b := b) (N := N) (m := m) kf
      have qs := yQ_s (b := b) (M := N / b ^ m) (f := f) (k := k)
      have bl := yBg_lt (N := N) (i := m + k) hb2.1
      have more : N / b ^ (m + k) ≠ 0 → Q (F_Wri_wholeText_J131 K_F_Wri_wholeText_L22 K_F_Wri_wholeText_L68 (F_Wri_wholeText_L106 K_F_Wri_wholeText_L22 K_F_Wri_wholeText_L68 R x3 t0_0 t1_0 t2_0 t2_1 t3_0 t4_0 t4_1 t5_0 p34 y27 f28 lx45 lx46 p82 lx93 lx94 lx95 lx96 lx97 lx98 p195 y185 y186 f187 n) R x3 t0_0 t1_0 t2_0 t2_1 t3_0 t4_0 t4_1 t5_0 p34 y27 f28 lx45 lx46 p82 lx93 lx94 lx95 lx96 lx97 lx98 p195 y185 y186 f187 lx208 lx209 lx210 lx211) := by
        intro nz
        unfold F_Wri_wholeText_J131
        have vr := v_rem (a := lx209) (b := x3) (by rw [h4]; exact Int.natCast_nonneg _) (by clear ql hbf hw; omega)
        rw [h4, hb] at vr
        have vr2 : (lx209 - lx209 / x3 * x3 : Int32).toInt = ((yBg b N (m + k) : Nat) : Int) := by
          rw [vr, ← qd]
          rfl
        have ch := y_ch22 vr2 (by clear ql hbf hw qp qd qs; omega)
        have pa := V_pa (N := 1376) (K := 1000000) h5 (by rw [List.length_append, yLw_len]; clear ql hbf hw qp qd qs; omega) ch (yLet_lt (by clear ql hbf hw qp qd qs; omega))
        rw [List.append_assoc] at pa
        have e : yLw b N 0 (m + k) ++ [yLet (yBg b N (m + k))] = yLw b N 0 (m + (k + 1)) := by
          rw [show m + (k + 1) = m + k + 1 from rfl, yLw_s, Nat.zero_add]
        rw [e] at pa
        revert pa
        generalize F_She_add 11008 1376 1000000 (F_jStr_charAt_22 (lx209 - lx209 / x3 * x3)) lx210 lx211 = p
        intro pa
        unfold F_Wri_wholeText_c144
        refine ih (lx208 + 1) (lx209 / x3) p.1 p.2 (k + 1) (q_addI h1 e1 (by clear ql hbf hw qp qd qs; omega) (by clear ql hbf hw qp qd qs; omega)) (by omega) (by clear ql hbf hw qp qd qs; omega) ?_ pa (fun _ => ?_)
        · rw [q_divI h4 hb (Int.natCast_nonneg _) (by clear ql hbf hw qp qd qs; omega), qs]
          rfl
        · rw [show m + (k + 1) - 1 = m + k from by omega]
          exact nz
      by_cases z : (0 : Int32) < lx209
      · rw [if_pos z]
        have z := q_ltI z
        rw [h4, e0] at z
        exact more (qp.mp (Or.inl (Int.ofNat_lt.mp z)))
      · rw [if_neg z]
        have z := q_nltI z
        rw [h4, e0] at z
        by_cases u : y185 ≤ 0
        · rw [if_pos u]
          have u := q_leI u
          have w0 : w = 0 := Classical.byContradiction (fun q => by have := hy.pos.mpr q; clear ql hbf hw qp qd qs; omega)
          have nf : N / b ^ (m + f) = 0 := by
            rw [← hw, w0]
            rfl
          have nk : N / b ^ (m + k) = 0 := Classical.byContradiction (fun q => by
            rcases qp.mpr q with q | q
            · have : ((yQ b (N / b ^ m) f k : Nat) : Int) ≤ ((0 : Nat) : Int) := z
              exact absurd q (Nat.not_lt.mpr (Int.ofNat_le.mp this))
            · exact q nf)
          refine hK lx210 lx211 k h5 (by rw [w0, nk]; rfl) h6 (fun q _ k0 => q ?_)
          rw [k0] at nk
          exact nk
        · rw [if_neg u]
          have u := q_nleI u
          have w0 : w ≠ 0 := hy.pos.mp (by clear ql hbf hw qp qd qs; omega)
          exact more (qp.mp (Or.inr (fun q => w0 (by rw [q] at hw; exact Int.natAbs_eq_zero.mp hw))))
theorem V_wt165 {K_F_Wri_wholeText_L22 : Int32 → Int32 → (Int32 × (Nat → Int64) × Int32 × Int32 × (Nat → Int32))} {K_F_Wri_wholeText_L68 : Int32 → Int32 → Int32 → (Nat → Int32) → Int32 → (Nat → Int64) → (Int32 × (Nat → Int64) × Int32 × Int32 × (Nat → Int32))} {R : Int32} {x3 : Int32} {t0_0 : Int32} {t1_0 : (Nat → Int64)} {t2_0 : Int32} {t2_1 : Int32} {t3_0 : (Nat → Int32)} {t4_0 : Int32} {t4_1 : Int32} {t5_0 : (Nat → Int32)} {p34 : (Int32 × (Nat → Int64))} {y27 : Int32} {f28 : (Nat → Int64)} {lx45 : Int32} {lx46 : Int32} {p82 : (Int32 × Int32 × (Nat → Int32))} {lx93 : Int32} {lx94 : Int32} {lx95 : Int32} {lx96 : (Nat → Int32)} {lx97 : Int32} {lx98 : (Nat → Int64)} {N b m c : Nat} {a : List Nat} (hb2 : 2 ≤ b ∧ b ≤ 36) (ha : a.length ≤ 1) (hm : m ≤ 2100) (hy : y27.toInt = (a.length : Int)) (hp : yPa lx97 lx98 (a ++ yLw b N 0 m)) (hd : yDB b N m) (hc : yDB b N c) : yPa (F_Wri_wholeText_J165 K_F_Wri_wholeText_L22 K_F_Wri_wholeText_L68 R x3 t0_0 t1_0 t2_0 t2_1 t3_0 t4_0 t4_1 t5_0 p34 y27 f28 lx45 lx46 p82 lx93 lx94 lx95 lx96 lx97 lx98).1 (F_Wri_wholeText_J165 K_F_Wri_wholeText_L22 K_F_Wri_wholeText_L68 R x3 t0_0 t1_0 t2_0 t2_1 t3_0 t4_0 t4_1 t5_0 p34 y27 f28 lx45 lx46 p82 lx93 lx94 lx95 lx96 lx97 lx98).2.1 (a ++ (yLw b N 0 (max c 1)).reverse) := by
  have mc := yDB_U (by omega) hd hc
  subst mc
  unfold F_Wri_wholeText_J165
  have sz := hp.1
  rw [List.length_append, yLw_len] at sz
  by_cases z : lx97 = y27
  · rw [if_pos z]
    have m0 : m = 0 := by
      rw [z] at sz
      omega
    subst m0
    have pa := V_pa (N := 1376) (K := 1000000) (x2 := 48) (v := 48) hp (by rw [List.length_append, yLw_len]; omega) rfl (by decide)
    have N0 : N = 0 := by
      have := hd.1
      rw [Nat.pow_zero, Nat.div_one] at this
      exact this
    rw [show a ++ yLw b N 0 0 ++ [48] = a ++ [48] from by show a ++ [] ++ [48] = _; rw [List.append_nil]] at pa
    revert pa
    generalize F_She_add 11008 1376 1000000 48 lx97 lx98 = p
    intro pa
    unfold F_Wri_wholeText_c182
    have t := V_turnS (R := 11008) (N := 1376) (K := 1000000) (x2 := y27) pa (by rw [List.length_append, List.length_singleton]; omega) rfl hy (by decide)
    have e : yLw b N 0 (max 0 1) = [48] := by
      rw [N0]
      show [yLet (0 / b ^ 0 % b)] = [48]
      rw [Nat.zero_div, Nat.zero_mod]
      rfl
    rw [e]
    exact t
  · rw [if_neg z]
    have m0 : 0 < m := Nat.pos_of_ne_zero (fun e => z (Int32.toInt_inj.mp (by rw [hy, sz, e]; rfl)))
    have t := V_turnS (R := 11008) (N := 1376) (K := 1000000) (x2 := y27) hp (by rw [List.length_append, yLw_len]; omega) rfl hy (by rw [yLw_len]; exact m0)
    rw [show max m 1 = m from by omega]
    exact t
theorem V_wt68 {K_F_Wri_wholeText_L22 : Int32 → Int32 → (Int32 × (Nat → Int64) × Int32 × Int32 × (Nat → Int32))} {R : Int32} {x3 : Int32} {t0_0 : Int32} {t1_0 : (Nat → Int64)} {t2_0 : Int32} {t2_1 : Int32} {t3_0 : (Nat → Int32)} {t4_0 : Int32} {t4_1 : Int32} {t5_0 : (Nat → Int32)} {p34 : (Int32 × (Nat → Int64))} {y27 : Int32} {f28 : (Nat → Int64)} {lx45 : Int32} {lx46 : Int32} {p82 : (Int32 × Int32 × (Nat → Int32))} {N b f c : Nat} {a : List Nat} (hb : x3.toInt = (b : Int)) (hb2 : 2 ≤ b ∧ b ≤ 36) (h46 : lx46.toInt = (f : Int)) (hf : 1 ≤ f ∧ f ≤ 31) (h45 : lx45.toInt = ((b ^ f : Nat) : Int)) (hbf : b ^ f < 2147483648) (ha : a.length ≤ 1) (hy : y27.toInt = (a.length : Int)) (hN : N < 2 ^ 2048) (hc : yDB b N c) : ∀ (n : Nat) (lx93 : Int32) (lx94 : Int32) (lx95 : Int32) (lx96 : (Nat → Int32)) (lx97 : Int32) (lx98 : (Nat → Int64)), ∀ (j m : Nat) (w : Int), lx93.toInt = (j : Int) → j ≤ m → m ≤ 2048 + 31 → 2100 < n + j → bO 220 lx94 lx95 lx96 w → w.natAbs = N / b ^ m → yPa lx97 lx98 (a ++ yLw b N 0 m) → (m ≠ 0 → N / b ^ (m - 1) ≠ 0) → yPa (F_Wri_wholeText_L68 K_F_Wri_wholeText_L22 R x3 t0_0 t1_0 t2_0 t2_1 t3_0 t4_0 t4_1 t5_0 p34 y27 f28 lx45 lx46 p82 n lx93 lx94 lx95 lx96 lx97 lx98).1 (F_Wri_wholeText_L68 K_F_Wri_wholeText_L22 R x3 t0_0 t1_0 t2_0 t2_1 t3_0 t4_0 t4_1 t5_0 p34 y27 f28 lx45 lx46 p82 n lx93 lx94 lx95 lx96 lx97 lx98).2.1 (a ++ (yLw b N 0 (max c 1)).reverse) := by
  have e0 : (0 : Int32).toInt = 0 := rfl
  have e1 : (1 : Int32).toInt = 1 := rfl
  have eM : (2100 : Int32).toInt = 2100 := rfl
  have big : ∀ k, 2048 ≤ k → N / b ^ k = 0 := by
    intro k hk
    refine Nat.div_eq_of_lt (Nat.lt_of_lt_of_le hN ?_)
    exact Nat.le_trans (Nat.pow_le_pow_right (by decide) hk) (Nat.pow_le_pow_left hb2.1 k)
  intro n
  induction n with
  | zero =>
    intro lx93 lx94 lx95 lx96 lx97 lx98 j m w h1 h2 h3 h4
    omega
  | succ n ih =>
    intro lx93 lx94 lx95 lx96 lx97 lx98 j m w h1 h2 h3 h4 h5 h6 h7 h8
    have m48 : m ≤ 2048 := by
      rcases Nat.lt_or_ge 2048 m with q | q
      · exact absurd (big (m - 1) (by omega)) (h8 (by omega))
      · exact q
    rw [F_Wri_wholeText_L68.eq_2]
    rw [if_neg (show ¬ (2100 : Int32) ≤ lx93 from fun q => by have := q_leI q; clear h45 hbf h6; omega)]
    by_cases z : lx94 ≤ 0
    · rw [if_pos z]
      have z := q_leI z
      have w0 : w = 0 := Classical.byContradiction (fun q => by have := h5.pos.mpr q; clear h45 hbf h6; omega)
      have nz : N / b ^ m = 0 := by
        rw [← h6, w0]
        rfl
      exact V_wt165 hb2 ha (by omega) hy h7 ⟨nz, h8⟩ hc
    · rw [if_neg z]
      have z := q_nleI z
      have w0 : w ≠ 0 := h5.pos.mp (by clear h45 hbf h6; omega)
      have bp : 1 ≤ b ^ f := Nat.one_le_pow _ _ (by omega)
      have dv := W_divS (x := lx45) h5 (by rw [h45]; exact Int.ofNat_le.mpr bp)
      revert dv
      generalize F_Big_divideSmall 220 lx45 lx94 lx95 lx96 = p
      intro dv
      obtain ⟨d1, w2, d2, _, _, d3⟩ := dv
      unfold F_Wri_wholeText_c98
      have d2' : w2.natAbs = N / b ^ (m + f) := by
        rw [d2, h45, h6, Int.toNat_natCast, y_dvA]
      have nm : N / b ^ m ≠ 0 := fun q => w0 (by rw [q] at h6; exact Int.natAbs_eq_zero.mp h6)
      refine V_wtI (Q := fun r => yPa r.1 r.2.1 (a ++ (yLw b N 0 (max c 1)).reverse)) (N := N) (b := b) (m := m) (f := f) (w := w2) (a := a) hb hb2 h46 hf.2 d3 d2' ha (by omega) hbf ?_ ((31 - (0 : Int32).toInt).toNat + 1) 0 p.1 lx97 lx98 0 rfl (by omega) (by show f < 32 + 0; omega) ?_ h7 (fun q => absurd rfl q)
      · intro s c' k hk hw2 hk1 hk2
        have k0 : k ≠ 0 := hk2 nm (by omega)
        have k48 : m + k ≤ 2048 := by
          rcases Nat.lt_or_ge 2048 (m + k) with q | q
          · exact absurd (big (m + k - 1) (by omega)) (hk1 k0)
          · exact q
        exact ih (lx93 + 1) p.2.1 p.2.2.1 p.2.2.2 s c' (j + 1) (m + k) w2 (q_addI h1 e1 (by clear h45 hbf h6; omega) (by clear h45 hbf h6; omega)) (by omega) (by omega) (by omega) d3 hw2 hk (fun _ => hk1 k0)
      · rw [d1, h45, h6]
        unfold yQ
        rw [Nat.pow_zero, Nat.div_one]
        rfl
theorem V_wt22 {R : Int32} {x3 : Int32} {t0_0 : Int32} {t1_0 : (Nat → Int64)} {t2_0 : Int32} {t2_1 : Int32} {t3_0 : (Nat → Int32)} {t4_0 : Int32} {t4_1 : Int32} {t5_0 : (Nat → Int32)} {p34 : (Int32 × (Nat → Int64))} {y27 : Int32} {f28 : (Nat → Int64)} {v : Int} {N b c : Nat} {a : List Nat} (hb : x3.toInt = (b : Int)) (hb2 : 2 ≤ b ∧ b ≤ 36) (ha : a.length ≤ 1) (hy : y27.toInt = (a.length : Int)) (hp : yPa y27 f28 a) (hv : bO R t4_0 t4_1 t5_0 v) (hR : R.toInt ≤ 220) (hvN : v.natAbs = N) (hN : N < 2 ^ 2048) (hc : yDB b N c) : ∀ (n : Nat) (lx45 : Int32) (lx46 : Int32), ∀ (f : Nat), lx46.toInt = (f : Int) → (1 ≤ f ∧ f ≤ 31) → 31 < n + f → lx45.toInt = ((b ^ f : Nat) : Int) → b ^ f < 2147483648 → yPa (F_Wri_wholeText_L22 R x3 t0_0 t1_0 t2_0 t2_1 t3_0 t4_0 t4_1 t5_0 p34 y27 f28 n lx45 lx46).1 (F_Wri_wholeText_L22 R x3 t0_0 t1_0 t2_0 t2_1 t3_0 t4_0 t4_1 t5_0 p34 y27 f28 n lx45 lx46).2.1 (a ++ (yLw b N 0 (max c 1)).reverse) := by
  have e1 : (1 : Int32).toInt = 1 := rfl
  have e31 : (31 : Int32).toInt = 31 := rfl
  have eM : (2147483647 : Int64).toInt = 2147483647 := rfl
  intro n
  induction n with
  | zero =>
    intro lx45 lx46 f h1 h2 h3
    omega
  | succ n ih =>
    intro lx45 lx46 f h1 h2 h3 h4 h5
    have go : yPa (F_Wri_wholeText_J54 (F_Wri_wholeText_L22 R x3 t0_0 t1_0 t2_0 t2_1 t3_0 t4_0 t4_1 t5_0 p34 y27 f28 n) R x3 t0_0 t1_0 t2_0 t2_1 t3_0 t4_0 t4_1 t5_0 p34 y27 f28 lx45 lx46).1 (F_Wri_wholeText_J54 (F_Wri_wholeText_L22 R x3 t0_0 t1_0 t2_0 t2_1 t3_0 t4_0 t4_1 t5_0 p34 y27 f28 n) R x3 t0_0 t1_0 t2_0 t2_1 t3_0 t4_0 t4_1 t5_0 p34 y27 f28 lx45 lx46).2.1 (a ++ (yLw b N 0 (max c 1)).reverse) := by
      unfold F_Wri_wholeText_J54
      have cp := W_copy (R := 220) (R2 := R) (s := t2_0) (neg := t2_1) (f := t3_0) hv (by have := hv.2.2.2.1; have e220 : (220 : Int32).toInt = 220 := rfl; clear h4 h5; omega) (by decide)
      revert cp
      generalize F_Big_copy 220 R t2_0 t2_1 t3_0 t4_0 t4_1 t5_0 = p
      intro cp
      unfold F_Wri_wholeText_c62
      exact V_wt68 hb hb2 h1 h2 h4 h5 ha hy hN hc ((2100 - (0 : Int32).toInt).toNat + 1) 0 p.1 p.2.1 p.2.2 y27 f28 0 0 v rfl (by omega) (by omega) (by show 2100 < 2101 + 0; omega) cp (by rw [hvN, Nat.pow_zero, Nat.div_one]) (by show yPa y27 f28 (a ++ []); rw [List.append_nil]; exact hp) (fun q => absurd rfl q)
    rw [F_Wri_wholeText_L22.eq_2]
    by_cases g : (31 : Int32) ≤ lx46
    · rw [if_pos g]
      exact go
    · rw [if_neg g]
      have g := q_nleI g
      have b36 : ((b ^ f : Nat) : Int) * (b : Int) ≤ 2147483648 * 36 := by
        have q1 : ((b ^ f : Nat) : Int) ≤ 2147483648 := by
          have : ((b ^ f : Nat) : Int) < ((2147483648 : Nat) : Int) := Int.ofNat_lt.mpr h5
          exact Int.le_of_lt this
        exact Int.mul_le_mul q1 (by clear h4 h5; omega) (by clear h4 h5; omega) (by decide)
      have b0 : 0 ≤ ((b ^ f : Nat) : Int) * (b : Int) := Int.mul_nonneg (Int.natCast_nonneg _) (by clear h4 h5; omega)
      have ml := q_mulL (q_i2l h4) (q_i2l hb) (by generalize ((b ^ f : Nat) : Int) * (b : Int) = z at b36 b0 ⊢; clear h4 h5; omega) (by generalize ((b ^ f : Nat) : Int) * (b : Int) = z at b36 b0 ⊢; clear h4 h5; omega)
      by_cases k : (0 : Int32) < lg_cmp (lx45.toInt64 * x3.toInt64) 2147483647
      · rw [if_pos k]
        exact go
      · rw [if_neg k]
        have k := g_lc8 k
        rw [ml, eM] at k
        have ps : ((b ^ (f + 1) : Nat) : Int) = ((b ^ f : Nat) : Int) * (b : Int) := by
          rw [Nat.pow_succ, Int.natCast_mul]
        refine ih (lx45 * x3) (lx46 + 1) (f + 1) (q_addI h1 e1 (by clear h4 h5; omega) (by clear h4 h5; omega)) (by clear h4 h5; omega) (by omega) ?_ ?_
        · rw [ps]
          exact q_mulI h4 hb (by generalize ((b ^ f : Nat) : Int) * (b : Int) = z at k b0 ⊢; clear h4 h5 ps; omega) k
        · rw [← ps] at k
          have : ((b ^ (f + 1) : Nat) : Int) ≤ ((2147483647 : Nat) : Int) := k
          exact Nat.lt_succ_of_le (Int.ofNat_le.mp this)
theorem V_Wwhole {R : Int32} {x3 : Int32} {t0_0 : Int32} {t1_0 : (Nat → Int64)} {t2_0 : Int32} {t2_1 : Int32} {t3_0 : (Nat → Int32)} {t4_0 : Int32} {t4_1 : Int32} {t5_0 : (Nat → Int32)} {v : Int} {b c : Nat} (hv : bO R t4_0 t4_1 t5_0 v) (hR : R.toInt ≤ 220) (hb : x3.toInt = (b : Int)) (hb2 : 2 ≤ b ∧ b ≤ 36) (hN : v.natAbs < 2 ^ 2048) (hc : yDB b v.natAbs c) : yPa (F_Wri_wholeText R x3 t0_0 t1_0 t2_0 t2_1 t3_0 t4_0 t4_1 t5_0).1 (F_Wri_wholeText R x3 t0_0 t1_0 t2_0 t2_1 t3_0 t4_0 t4_1 t5_0).2.1 (yWtx b v c) := by
  unfold F_Wri_wholeText yWtx
  have b1 := V_begin (x2 := t4_1) (t0_0 := t0_0) (t1_0 := t1_0)
  rw [yMin_c (y_ngI hv)] at b1
  have mL := yMin_l (a := v < 0)
  revert b1 mL
  generalize F_Wri_begin t4_1 t0_0 t1_0 = p
  generalize yMin (v < 0) = mn
  intro b1 mL
  unfold F_Wri_wholeText_c5
  exact V_wt22 hb hb2 mL b1.1 b1 hv hR rfl hN hc ((31 - (1 : Int32).toInt).toNat + 1) x3 1 1 rfl (by omega) (by decide) (by rw [hb, Nat.pow_one]) (by rw [Nat.pow_one]; omega)
