/-! values, for whole: the class's shortest figures: nextFigure, chooseEnd -/
theorem W_subS {R R2 s n s2 n2 : Int32} {f g : Nat → Int32} {a u : Nat} (h : bO R s n f (a : Int)) (h2 : bO R2 s2 n2 g (u : Int)) (hau : u ≤ a) : P1 R ((a - u : Nat) : Int) (F_Big_subtractSize R R2 s n f s2 n2 g) := by
  have e1 := h.abs
  have e2 := h2.abs
  rw [Int.natAbs_natCast] at e1 e2
  have n0 : n = 0 := by
    rcases h.sgn with ⟨k, _⟩ | ⟨_, k⟩
    · exact k
    · omega
  obtain ⟨z, k, q1, q2, q3, q4⟩ := V_sub (R := R) (R2 := R2) (neg := n) (neg2 := n2) h.1 h2.1 (by rw [e1, e2]; omega) h.fit
  show bO R (F_Big_subtractSize R R2 s n f s2 n2 g).1 (F_Big_subtractSize R R2 s n f s2 n2 g).2.1 (F_Big_subtractSize R R2 s n f s2 n2 g).2.2 _
  rw [q1]
  have := h.2.2.2.1
  rw [n0]
  have r := bO.mk0 (R := R) q3 (by omega) h.2.2.2.2
  rw [q4, e1, e2] at r
  have e : (a : Int) - (u : Int) = ((a - u : Nat) : Int) := by omega
  rw [e] at r
  exact r
theorem y_cmpB {R R2 s n s2 n2 : Int32} {f g : Nat → Int32} {a u : Nat} (h : bO R s n f (a : Int)) (h2 : bO R2 s2 n2 g (u : Int)) : (F_Big_compareSize R R2 s n f s2 n2 g = 0 ∧ a = u) ∨ (F_Big_compareSize R R2 s n f s2 n2 g = 1 ∧ u < a) ∨ (F_Big_compareSize R R2 s n f s2 n2 g = -1 ∧ a < u) := by
  have := W_cmpE h h2
  rw [Int.natAbs_natCast, Int.natAbs_natCast] at this
  exact this
theorem V_nfL {A : Int32} {B : Int32} {C : Int32} {t0_0 : Int32} {t0_1 : Int32} {t1_0 : (Nat → Int32)} {t2_0 : Int32} {t2_1 : Int32} {t3_0 : (Nat → Int32)} {t4_0 : Int32} {t4_1 : Int32} {t5_0 : (Nat → Int32)} {t6_0 : Int32} {t6_1 : Int32} {t7_0 : (Nat → Int32)} {p52 : (Int32 × Int32 × (Nat → Int32))} {y41 : Int32} {y42 : Int32} {f43 : (Nat → Int32)} {p76 : (Int32 × Int32 × (Nat → Int32))} {y65 : Int32} {y66 : Int32} {f67 : (Nat → Int32)} {p100 : (Int32 × Int32 × (Nat → Int32))} {y89 : Int32} {y90 : Int32} {f91 : (Nat → Int32)} {a u b c : Nat} (h2 : bO 220 t2_0 t2_1 t3_0 (u : Int)) (h3 : bO 220 y65 y66 f67 (b : Int)) (h4 : bO 220 y89 y90 f91 (c : Int)) (hlt : a < 10 * u) : ∀ (n : Nat) (lx111 : Int32) (lx112 : Int32) (lx113 : Int32) (lx114 : (Nat → Int32)), ∀ (d w : Nat), lx111.toInt = (d : Int) → d ≤ 9 → 9 < n + d → bO 220 lx112 lx113 lx114 (w : Int) → w + d * u = a → (F_Flo_nextFigure_L41 A B C t0_0 t0_1 t1_0 t2_0 t2_1 t3_0 t4_0 t4_1 t5_0 t6_0 t6_1 t7_0 p52 y41 y42 f43 p76 y65 y66 f67 p100 y89 y90 f91 n lx111 lx112 lx113 lx114).1.toInt = ((a / u : Nat) : Int) ∧ bO 220 (F_Flo_nextFigure_L41 A B C t0_0 t0_1 t1_0 t2_0 t2_1 t3_0 t4_0 t4_1 t5_0 t6_0 t6_1 t7_0 p52 y41 y42 f43 p76 y65 y66 f67 p100 y89 y90 f91 n lx111 lx112 lx113 lx114).2.1 (F_Flo_nextFigure_L41 A B C t0_0 t0_1 t1_0 t2_0 t2_1 t3_0 t4_0 t4_1 t5_0 t6_0 t6_1 t7_0 p52 y41 y42 f43 p76 y65 y66 f67 p100 y89 y90 f91 n lx111 lx112 lx113 lx114).2.2.1 (F_Flo_nextFigure_L41 A B C t0_0 t0_1 t1_0 t2_0 t2_1 t3_0 t4_0 t4_1 t5_0 t6_0 t6_1 t7_0 p52 y41 y42 f43 p76 y65 y66 f67 p100 y89 y90 f91 n lx111 lx112 lx113 lx114).2.2.2.1 ((a % u : Nat) : Int) ∧ bO 220 (F_Flo_nextFigure_L41 A B C t0_0 t0_1 t1_0 t2_0 t2_1 t3_0 t4_0 t4_1 t5_0 t6_0 t6_1 t7_0 p52 y41 y42 f43 p76 y65 y66 f67 p100 y89 y90 f91 n lx111 lx112 lx113 lx114).2.2.2.2.1 (F_Flo_nextFigure_L41 A B C t0_0 t0_1 t1_0 t2_0 t2_1 t3_0 t4_0 t4_1 t5_0 t6_0 t6_1 t7_0 p52 y41 y42 f43 p76 y65 y66 f67 p100 y89 y90 f91 n lx111 lx112 lx113 lx114).2.2.2.2.2.1 (F_Flo_nextFigure_L41 A B C t0_0 t0_1 t1_0 t2_0 t2_1 t3_0 t4_0 t4_1 t5_0 t6_0 t6_1 t7_0 p52 y41 y42 f43 p76 y65 y66 f67 p100 y89 y90 f91 n lx111 lx112 lx113 lx114).2.2.2.2.2.2.1 (b : Int) ∧ bO 220 (F_Flo_nextFigure_L41 A B C t0_0 t0_1 t1_0 t2_0 t2_1 t3_0 t4_0 t4_1 t5_0 t6_0 t6_1 t7_0 p52 y41 y42 f43 p76 y65 y66 f67 p100 y89 y90 f91 n lx111 lx112 lx113 lx114).2.2.2.2.2.2.2.1 (F_Flo_nextFigure_L41 A B C t0_0 t0_1 t1_0 t2_0 t2_1 t3_0 t4_0 t4_1 t5_0 t6_0 t6_1 t7_0 p52 y41 y42 f43 p76 y65 y66 f67 p100 y89 y90 f91 n lx111 lx112 lx113 lx114).2.2.2.2.2.2.2.2.1 (F_Flo_nextFigure_L41 A B C t0_0 t0_1 t1_0 t2_0 t2_1 t3_0 t4_0 t4_1 t5_0 t6_0 t6_1 t7_0 p52 y41 y42 f43 p76 y65 y66 f67 p100 y89 y90 f91 n lx111 lx112 lx113 lx114).2.2.2.2.2.2.2.2.2 (c : Int) := by
  have e0 : (0 : Int32).toInt = 0 := rfl
  have e1 : (1 : Int32).toInt = 1 := rfl
  have e9 : (9 : Int32).toInt = 9 := rfl
  intro n
  induction n with
  | zero =>
    intro lx111 lx112 lx113 lx114 d w g1 g2 g3
    omega
  | succ n ih =>
    intro lx111 lx112 lx113 lx114 d w g1 g2 g3 g4 g5
    have fin : w < u → lx111.toInt = ((a / u : Nat) : Int) ∧ bO 220 lx112 lx113 lx114 ((a % u : Nat) : Int) := by
      intro q
      have hq : a / u = d := by
        rw [← g5, Nat.add_mul_div_right _ _ (by omega), Nat.div_eq_of_lt q, Nat.zero_add]
      have hr : a % u = w := by
        rw [← g5, Nat.add_mul_mod_self_right, Nat.mod_eq_of_lt q]
      rw [hq, hr]
      exact ⟨g1, g4⟩
    rw [F_Flo_nextFigure_L41.eq_2]
    by_cases k : (9 : Int32) ≤ lx111
    · rw [if_pos k]
      have k := q_leI k
      obtain rfl : d = 9 := by clear g5; omega
      have f := fin (by omega)
      exact ⟨f.1, f.2, h3, h4⟩
    · rw [if_neg k]
      have k := q_nleI k
      by_cases c1 : F_Big_compareSize 220 220 lx112 lx113 lx114 t2_0 t2_1 t3_0 < 0
      · rw [if_pos c1]
        have wu : w < u := by
          rcases y_cmpB g4 h2 with ⟨r, _⟩ | ⟨r, _⟩ | ⟨_, r⟩
          · rw [r] at c1
            exact absurd c1 (by decide)
          · rw [r] at c1
            exact absurd c1 (by decide)
          · exact r
        have f := fin wu
        exact ⟨f.1, f.2, h3, h4⟩
      · rw [if_neg c1]
        have uw : u ≤ w := by
          rcases y_cmpB g4 h2 with ⟨_, r⟩ | ⟨_, r⟩ | ⟨r, _⟩
          · omega
          · omega
          · rw [r] at c1
            exact absurd (by decide) c1
        have sb := W_subS g4 h2 uw
        revert sb
        generalize F_Big_subtractSize 220 220 lx112 lx113 lx114 t2_0 t2_1 t3_0 = p
        intro sb
        unfold F_Flo_nextFigure_c81
        refine ih (lx111 + 1) p.1 p.2.1 p.2.2 (d + 1) (w - u) (q_addI g1 e1 (by clear g5; omega) (by clear g5; omega)) (by clear g5; omega) (by omega) sb ?_
        rw [Nat.add_mul, Nat.one_mul]
        omega
theorem y_b10 {M a : Nat} (h : bB M (a : Int)) : bB (M + 1) ((10 * a : Nat) : Int) := by
  unfold bB at h ⊢
  rw [Int.natAbs_natCast] at h ⊢
  rw [Nat.pow_succ]
  generalize 2147483648 ^ M = Z at h ⊢
  omega
theorem V_next {A : Int32} {B : Int32} {C : Int32} {t0_0 : Int32} {t0_1 : Int32} {t1_0 : (Nat → Int32)} {t2_0 : Int32} {t2_1 : Int32} {t3_0 : (Nat → Int32)} {t4_0 : Int32} {t4_1 : Int32} {t5_0 : (Nat → Int32)} {t6_0 : Int32} {t6_1 : Int32} {t7_0 : (Nat → Int32)} {a u b c M : Nat} (h1 : bO 220 t0_0 t0_1 t1_0 (a : Int)) (h2 : bO 220 t2_0 t2_1 t3_0 (u : Int)) (h3 : bO 220 t4_0 t4_1 t5_0 (b : Int)) (h4 : bO 220 t6_0 t6_1 t7_0 (c : Int)) (hlt : a < u) (hM : M ≤ 210) (ha : bB M (a : Int)) (hb : bB M (b : Int)) (hc : bB M (c : Int)) : (F_Flo_nextFigure A B C t0_0 t0_1 t1_0 t2_0 t2_1 t3_0 t4_0 t4_1 t5_0 t6_0 t6_1 t7_0).1.toInt = ((10 * a / u : Nat) : Int) ∧ bO 220 (F_Flo_nextFigure A B C t0_0 t0_1 t1_0 t2_0 t2_1 t3_0 t4_0 t4_1 t5_0 t6_0 t6_1 t7_0).2.1 (F_Flo_nextFigure A B C t0_0 t0_1 t1_0 t2_0 t2_1 t3_0 t4_0 t4_1 t5_0 t6_0 t6_1 t7_0).2.2.1 (F_Flo_nextFigure A B C t0_0 t0_1 t1_0 t2_0 t2_1 t3_0 t4_0 t4_1 t5_0 t6_0 t6_1 t7_0).2.2.2.1 ((10 * a % u : Nat) : Int) ∧ bO 220 (F_Flo_nextFigure A B C t0_0 t0_1 t1_0 t2_0 t2_1 t3_0 t4_0 t4_1 t5_0 t6_0 t6_1 t7_0).2.2.2.2.1 (F_Flo_nextFigure A B C t0_0 t0_1 t1_0 t2_0 t2_1 t3_0 t4_0 t4_1 t5_0 t6_0 t6_1 t7_0).2.2.2.2.2.1 (F_Flo_nextFigure A B C t0_0 t0_1 t1_0 t2_0 t2_1 t3_0 t4_0 t4_1 t5_0 t6_0 t6_1 t7_0).2.2.2.2.2.2.1 ((10 * b : Nat) : Int) ∧ bO 220 (F_Flo_nextFigure A B C t0_0 t0_1 t1_0 t2_0 t2_1 t3_0 t4_0 t4_1 t5_0 t6_0 t6_1 t7_0).2.2.2.2.2.2.2.1 (F_Flo_nextFigure A B C t0_0 t0_1 t1_0 t2_0 t2_1 t3_0 t4_0 t4_1 t5_0 t6_0 t6_1 t7_0).2.2.2.2.2.2.2.2.1 (F_Flo_nextFigure A B C t0_0 t0_1 t1_0 t2_0 t2_1 t3_0 t4_0 t4_1 t5_0 t6_0 t6_1 t7_0).2.2.2.2.2.2.2.2.2 ((10 * c : Nat) : Int) := by
  have e220 : (220 : Int32).toInt = 220 := rfl
  have mul : ∀ {s n : Int32} {f : Nat → Int32} {x : Nat}, bO 220 s n f (x : Int) → bB M (x : Int) → P1 220 ((10 * x : Nat) : Int) (F_Big_multiplySmall 220 10 0 s n f) := by
    intro s n f x hx hB
    have r := W_mulS (x := 10) (y := 0) hx (by omega) (by decide) (by decide) (by have := hx.sB hB; omega)
    have e : (10 : Int32).toInt * (x : Int) + (0 : Int32).toInt = ((10 * x : Nat) : Int) := by
      show (10 : Int) * (x : Int) + 0 = _
      omega
    rw [e] at r
    exact r
  unfold F_Flo_nextFigure
  have m1 := mul h1 ha
  revert m1
  generalize F_Big_multiplySmall 220 10 0 t0_0 t0_1 t1_0 = p
  intro m1
  unfold F_Flo_nextFigure_c10
  have m2 := mul h3 hb
  revert m2
  generalize F_Big_multiplySmall 220 10 0 t4_0 t4_1 t5_0 = q
  intro m2
  unfold F_Flo_nextFigure_c23
  have m3 := mul h4 hc
  revert m3
  generalize F_Big_multiplySmall 220 10 0 t6_0 t6_1 t7_0 = r
  intro m3
  unfold F_Flo_nextFigure_c36
  exact V_nfL h2 m2 m3 (by omega) ((9 - (0 : Int32).toInt).toNat + 1) 0 p.1 p.2.1 p.2.2 0 (10 * a) rfl (by omega) (by decide) m1 (by rw [Nat.zero_mul, Nat.add_zero])
theorem V_ceL {A : Int32} {B : Int32} {C : Int32} {x2 : Int32} {x3 : Int32} {x4 : Int32} {t0_0 : Int64} {t0_1 : Int32} {t0_2 : Int32} {t1_0 : Int32} {t1_1 : Int32} {t2_0 : (Nat → Int32)} {t3_0 : Int32} {t3_1 : Int32} {t4_0 : (Nat → Int32)} {lx21 : Int32} {lx22 : Int32} {lx23 : Int32} {lx24 : (Nat → Int32)} {lx49 : Int64}  : ∀ (n : Nat) (lx63 : Int32) (lx64 : Int64) (lx65 : Int32), ∀ (i S : Nat), lx63.toInt = (i : Int) → i ≤ 20 → 20 < n + i → lx64.toInt = (S : Int) → 0 < S → S * 10 ^ i < 10 ^ 19 → S < 1000000000000000000 → -100000 ≤ lx65.toInt → lx65.toInt ≤ 100000 + (i : Int) → ∃ T z : Nat, S = T * 10 ^ z ∧ T % 10 ≠ 0 ∧ (F_Flo_chooseEnd_L92 A B C x2 x3 x4 t0_0 t0_1 t0_2 t1_0 t1_1 t2_0 t3_0 t3_1 t4_0 lx21 lx22 lx23 lx24 lx49 n lx63 lx64 lx65).1.toInt = (T : Int) ∧ (F_Flo_chooseEnd_L92 A B C x2 x3 x4 t0_0 t0_1 t0_2 t1_0 t1_1 t2_0 t3_0 t3_1 t4_0 lx21 lx22 lx23 lx24 lx49 n lx63 lx64 lx65).2.1.toInt = lx65.toInt + (z : Int) ∧ (F_Flo_chooseEnd_L92 A B C x2 x3 x4 t0_0 t0_1 t0_2 t1_0 t1_1 t2_0 t3_0 t3_1 t4_0 lx21 lx22 lx23 lx24 lx49 n lx63 lx64 lx65).2.2.1 = t0_2 := by
  have e1 : (1 : Int32).toInt = 1 := rfl
  have e20 : (20 : Int32).toInt = 20 := rfl
  have e0L : (0 : Int64).toInt = 0 := rfl
  have e10L : (10 : Int64).toInt = 10 := rfl
  intro n
  induction n with
  | zero =>
    intro lx63 lx64 lx65 i S g1 g2 g3
    omega
  | succ n ih =>
    intro lx63 lx64 lx65 i S g1 g2 g3 g4 g5 g6 g7 g8 g9
    rw [F_Flo_chooseEnd_L92.eq_2]
    have i19 : i < 19 := by
      rcases Nat.lt_or_ge i 19 with q | q
      · exact q
      · have h1 : 10 ^ 19 ≤ 10 ^ i := Nat.pow_le_pow_right (by decide) q
        have h2 : 1 * 10 ^ i ≤ S * 10 ^ i := Nat.mul_le_mul_right _ g5
        rw [Nat.one_mul] at h2
        exact absurd g6 (Nat.not_lt.mpr (Nat.le_trans h1 h2))
    rw [if_neg (show ¬ (20 : Int32) ≤ lx63 from fun q => by have := q_leI q; clear g6; omega)]
    have dv := v_divL (x := lx64) (y := 10) (by rw [g4]; clear g6; omega) (by decide)
    rw [g4, e10L] at dv
    have rm : (lx64 - lx64 / 10 * 10 : Int64).toInt = (S : Int) % 10 := by
      have m := q_mulL (a := lx64 / 10) (b := 10) dv e10L (by clear g6; omega) (by clear g6; omega)
      rw [q_subL g4 m (by clear g6; omega) (by clear g6; omega)]
      omega
    by_cases k : lg_cmp (lx64 - lx64 / 10 * 10) 0 = 0
    · rw [if_pos k]
      have k := g_lcz k
      rw [rm, e0L] at k
      obtain ⟨T, z, t1, t2, t3, t4, t5⟩ := ih (lx63 + 1) (lx64 / 10) (lx65 + 1) (i + 1) (S / 10) (q_addI g1 e1 (by clear g6; omega) (by clear g6; omega)) (by omega) (by omega) (by rw [dv]; rfl) (by clear g6; omega) (by
        have e : S = 10 * (S / 10) := by clear g6; omega
        rw [e] at g6
        rw [Nat.pow_succ, Nat.mul_comm (10 ^ i), ← Nat.mul_assoc, Nat.mul_comm (S / 10)]
        exact g6) (by clear g6; omega) (by rw [q_addI rfl e1 (by clear g6; omega) (by clear g6; omega)]; clear g6; omega) (by rw [q_addI rfl e1 (by clear g6; omega) (by clear g6; omega)]; clear g6; omega)
      refine ⟨T, z + 1, ?_, t2, t3, ?_, t5⟩
      · have e : S = 10 * (S / 10) := by clear g6; omega
        rw [e, t1, Nat.pow_succ, Nat.mul_comm 10, Nat.mul_assoc]
      · rw [t4, q_addI rfl e1 (by clear g6; omega) (by clear g6; omega)]
        omega
    · rw [if_neg k]
      have k2 : ¬ (S : Int) % 10 = 0 := fun q => k (y_lcE.mpr (by rw [rm, q]; rfl))
      exact ⟨S, 0, by rw [Nat.pow_zero, Nat.mul_one], by clear g6; omega, g4, by show lx65.toInt = _; clear g6; omega, rfl⟩
theorem V_ce69 {A : Int32} {B : Int32} {C : Int32} {x2 : Int32} {x3 : Int32} {x4 : Int32} {t0_0 : Int64} {t0_1 : Int32} {t0_2 : Int32} {t1_0 : Int32} {t1_1 : Int32} {t2_0 : (Nat → Int32)} {t3_0 : Int32} {t3_1 : Int32} {t4_0 : (Nat → Int32)} {lx21 : Int32} {lx22 : Int32} {lx23 : Int32} {lx24 : (Nat → Int32)} {t : Nat} (ht : t0_0.toInt = (t : Int)) (ht2 : 0 < t ∧ t < 100000000000000000) (h4 : -20000 ≤ x4.toInt ∧ x4.toInt ≤ 20000) (hl : lx21 = 0 ∨ lx21 = 1) : ∃ T z : Nat, (if lx21 = 0 then t else t + 1) = T * 10 ^ z ∧ T % 10 ≠ 0 ∧ (F_Flo_chooseEnd_J69 A B C x2 x3 x4 t0_0 t0_1 t0_2 t1_0 t1_1 t2_0 t3_0 t3_1 t4_0 lx21 lx22 lx23 lx24).1.toInt = (T : Int) ∧ (F_Flo_chooseEnd_J69 A B C x2 x3 x4 t0_0 t0_1 t0_2 t1_0 t1_1 t2_0 t3_0 t3_1 t4_0 lx21 lx22 lx23 lx24).2.1.toInt = x4.toInt + (z : Int) ∧ (F_Flo_chooseEnd_J69 A B C x2 x3 x4 t0_0 t0_1 t0_2 t1_0 t1_1 t2_0 t3_0 t3_1 t4_0 lx21 lx22 lx23 lx24).2.2.1 = t0_2 := by
  have e1L : (1 : Int64).toInt = 1 := rfl
  unfold F_Flo_chooseEnd_J69
  rcases hl with z | z
  · rw [if_pos z, if_pos z]
    unfold F_Flo_chooseEnd_J89
    exact V_ceL ((20 - (0 : Int32).toInt).toNat + 1) 0 t0_0 x4 0 t rfl (by omega) (by decide) ht ht2.1 (by rw [Nat.pow_zero, Nat.mul_one]; exact Nat.lt_trans ht2.2 (by decide)) (by omega) (by omega) (by omega)
  · rw [if_neg (by rw [z]; decide), if_neg (by rw [z]; decide)]
    unfold F_Flo_chooseEnd_J89
    exact V_ceL ((20 - (0 : Int32).toInt).toNat + 1) 0 (t0_0 + 1) x4 0 (t + 1) rfl (by omega) (by decide) (q_addL ht e1L (by omega) (by omega)) (by omega) (by rw [Nat.pow_zero, Nat.mul_one]; exact Nat.lt_of_le_of_lt ht2.2 (by decide)) (by omega) (by omega) (by omega)
theorem V_ce {A : Int32} {B : Int32} {C : Int32} {x2 : Int32} {x3 : Int32} {x4 : Int32} {t0_0 : Int64} {t0_1 : Int32} {t0_2 : Int32} {t1_0 : Int32} {t1_1 : Int32} {t2_0 : (Nat → Int32)} {t3_0 : Int32} {t3_1 : Int32} {t4_0 : (Nat → Int32)} {t a u : Nat} (ht : t0_0.toInt = (t : Int)) (ht2 : 0 < t ∧ t < 100000000000000000) (h4 : -20000 ≤ x4.toInt ∧ x4.toInt ≤ 20000) (h1 : bO 220 t1_0 t1_1 t2_0 (a : Int)) (hB : bB 210 (a : Int)) (h2 : bO 220 t3_0 t3_1 t4_0 (u : Int)) (hx2 : x2 = 0 ∨ x2 = 1) (hx3 : x3 = 0 ∨ x3 = 1) : ∃ S0 T z : Nat, ((x3 = 1 ∧ (x2 = 0 ∨ u < 2 * a ∨ (2 * a = u ∧ t % 2 = 1)) ∧ S0 = t + 1) ∨ (¬ (x3 = 1 ∧ (x2 = 0 ∨ u < 2 * a ∨ (2 * a = u ∧ t % 2 = 1))) ∧ S0 = t)) ∧ S0 = T * 10 ^ z ∧ T % 10 ≠ 0 ∧ (F_Flo_chooseEnd A B C x2 x3 x4 t0_0 t0_1 t0_2 t1_0 t1_1 t2_0 t3_0 t3_1 t4_0).1.toInt = (T : Int) ∧ (F_Flo_chooseEnd A B C x2 x3 x4 t0_0 t0_1 t0_2 t1_0 t1_1 t2_0 t3_0 t3_1 t4_0).2.1.toInt = x4.toInt + (z : Int) ∧ (F_Flo_chooseEnd A B C x2 x3 x4 t0_0 t0_1 t0_2 t1_0 t1_1 t2_0 t3_0 t3_1 t4_0).2.2.1 = t0_2 := by
  have e1L : (1 : Int64).toInt = 1 := rfl
  have n10 : ¬ (1 : Int32) = 0 := by decide
  have n01 : ¬ (0 : Int32) = 1 := by decide
  unfold F_Flo_chooseEnd
  rcases hx2 with a2 | a2
  · rw [if_pos a2]
    obtain ⟨T, z, q1, q2, q3⟩ := V_ce69 (A := A) (B := B) (C := C) (x2 := x2) (x3 := x3) (t0_1 := t0_1) (t0_2 := t0_2) (t1_0 := t1_0) (t1_1 := t1_1) (t2_0 := t2_0) (t3_0 := t3_0) (t3_1 := t3_1) (t4_0 := t4_0) (lx21 := x3) (lx22 := t1_0) (lx23 := t1_1) (lx24 := t2_0) ht ht2 h4 hx3
    rcases hx3 with a3 | a3
    · rw [if_pos a3] at q1
      exact ⟨t, T, z, Or.inr ⟨fun q => n01 (by rw [a3] at q; exact q.1), rfl⟩, q1, q2, q3⟩
    · rw [if_neg (by rw [a3]; exact n10)] at q1
      exact ⟨t + 1, T, z, Or.inl ⟨a3, Or.inl a2, rfl⟩, q1, q2, q3⟩
  · rw [if_neg (show ¬ x2 = 0 by rw [a2]; exact n10)]
    rcases hx3 with a3 | a3
    · rw [if_pos a3]
      obtain ⟨T, z, q1, q2, q3⟩ := V_ce69 (A := A) (B := B) (C := C) (x2 := x2) (x3 := x3) (t0_1 := t0_1) (t0_2 := t0_2) (t1_0 := t1_0) (t1_1 := t1_1) (t2_0 := t2_0) (t3_0 := t3_0) (t3_1 := t3_1) (t4_0 := t4_0) (lx21 := x3) (lx22 := t1_0) (lx23 := t1_1) (lx24 := t2_0) ht ht2 h4 (Or.inl a3)
      rw [if_pos a3] at q1
      exact ⟨t, T, z, Or.inr ⟨fun q => n01 (by rw [a3] at q; exact q.1), rfl⟩, q1, q2, q3⟩
    · rw [if_neg (show ¬ x3 = 0 by rw [a3]; exact n10)]
      have e220 : (220 : Int32).toInt = 220 := rfl
      have e1 : (1 : Int32).toInt = 1 := rfl
      have sh := W_shl (x := 1) h1 (fun _ _ => by have := h1.sB hB; rw [e1, e220]; omega)
      have sh2 : P1 220 ((2 * a : Nat) : Int) (F_Big_shiftLeft 220 1 t1_0 t1_1 t2_0) := by
        have e : (a : Int) * 2 ^ (1 : Int32).toNatClampNeg = ((2 * a : Nat) : Int) := by
          show (a : Int) * 2 ^ 1 = _
          omega
        rw [e] at sh
        exact sh
      revert sh2
      generalize F_Big_shiftLeft 220 1 t1_0 t1_1 t2_0 = p
      intro sh2
      have cm := y_cmpB sh2 h2
      unfold F_Flo_chooseEnd_c19
      have go : ∀ (lx : Int32) (o : Int64 × Int32 × Int32 × Int32 × Int32 × (Nat → Int32)), (lx = 0 ∨ lx = 1) → o = F_Flo_chooseEnd_J67 A B C x2 x3 x4 t0_0 t0_1 t0_2 t1_0 t1_1 t2_0 t3_0 t3_1 t4_0 p p.1 p.2.1 p.2.2 lx → ∃ T z : Nat, (if lx = 0 then t else t + 1) = T * 10 ^ z ∧ T % 10 ≠ 0 ∧ o.1.toInt = (T : Int) ∧ o.2.1.toInt = x4.toInt + (z : Int) ∧ o.2.2.1 = t0_2 := by
        intro lx o hlx ho
        rw [ho]
        unfold F_Flo_chooseEnd_J67
        exact V_ce69 ht ht2 h4 hlx
      have yes : (u < 2 * a ∨ (2 * a = u ∧ t % 2 = 1)) → ∃ S0 T z : Nat, ((x3 = 1 ∧ (x2 = 0 ∨ u < 2 * a ∨ (2 * a = u ∧ t % 2 = 1)) ∧ S0 = t + 1) ∨ (¬ (x3 = 1 ∧ (x2 = 0 ∨ u < 2 * a ∨ (2 * a = u ∧ t % 2 = 1))) ∧ S0 = t)) ∧ S0 = T * 10 ^ z ∧ T % 10 ≠ 0 ∧ (F_Flo_chooseEnd_J62 A B C x2 x3 x4 t0_0 t0_1 t0_2 t1_0 t1_1 t2_0 t3_0 t3_1 t4_0 p p.1 p.2.1 p.2.2).1.toInt = (T : Int) ∧ (F_Flo_chooseEnd_J62 A B C x2 x3 x4 t0_0 t0_1 t0_2 t1_0 t1_1 t2_0 t3_0 t3_1 t4_0 p p.1 p.2.1 p.2.2).2.1.toInt = x4.toInt + (z : Int) ∧ (F_Flo_chooseEnd_J62 A B C x2 x3 x4 t0_0 t0_1 t0_2 t1_0 t1_1 t2_0 t3_0 t3_1 t4_0 p p.1 p.2.1 p.2.2).2.2.1 = t0_2 := by
        intro hy
        obtain ⟨T, z, q1, q2⟩ := go 1 _ (Or.inr rfl) rfl
        rw [if_neg n10] at q1
        unfold F_Flo_chooseEnd_J62
        exact ⟨t + 1, T, z, Or.inl ⟨a3, Or.inr hy, rfl⟩, q1, q2⟩
      have no : ¬ (u < 2 * a ∨ (2 * a = u ∧ t % 2 = 1)) → ∃ S0 T z : Nat, ((x3 = 1 ∧ (x2 = 0 ∨ u < 2 * a ∨ (2 * a = u ∧ t % 2 = 1)) ∧ S0 = t + 1) ∨ (¬ (x3 = 1 ∧ (x2 = 0 ∨ u < 2 * a ∨ (2 * a = u ∧ t % 2 = 1))) ∧ S0 = t)) ∧ S0 = T * 10 ^ z ∧ T % 10 ≠ 0 ∧ (F_Flo_chooseEnd_J66 A B C x2 x3 x4 t0_0 t0_1 t0_2 t1_0 t1_1 t2_0 t3_0 t3_1 t4_0 p p.1 p.2.1 p.2.2).1.toInt = (T : Int) ∧ (F_Flo_chooseEnd_J66 A B C x2 x3 x4 t0_0 t0_1 t0_2 t1_0 t1_1 t2_0 t3_0 t3_1 t4_0 p p.1 p.2.1 p.2.2).2.1.toInt = x4.toInt + (z : Int) ∧ (F_Flo_chooseEnd_J66 A B C x2 x3 x4 t0_0 t0_1 t0_2 t1_0 t1_1 t2_0 t3_0 t3_1 t4_0 p p.1 p.2.1 p.2.2).2.2.1 = t0_2 := by
        intro hn
        obtain ⟨T, z, q1, q2⟩ := go 0 _ (Or.inl rfl) rfl
        rw [if_pos rfl] at q1
        unfold F_Flo_chooseEnd_J66
        exact ⟨t, T, z, Or.inr ⟨fun q => by rcases q.2 with w | w; exact n10 (by rw [a2] at w; exact w); exact hn w, rfl⟩, q1, q2⟩
      have odd : lg_cmp (t0_0 &&& 1) 1 = 0 ↔ t % 2 = 1 := by
        have o := y_and1 ht
        rw [y_lcE, o, e1L]
        omega
      rcases cm with ⟨r, k⟩ | ⟨r, k⟩ | ⟨r, k⟩
      · rw [if_neg (by rw [r]; decide), if_pos r]
        by_cases w : lg_cmp (t0_0 &&& 1) 1 = 0
        · rw [if_pos w]
          exact yes (Or.inr ⟨k, odd.mp w⟩)
        · rw [if_neg w]
          exact no (fun q => by rcases q with q | q; omega; exact w (odd.mpr q.2))
      · rw [if_pos (by rw [r]; decide)]
        exact yes (Or.inl k)
      · rw [if_neg (by rw [r]; decide), if_neg (by rw [r]; decide)]
        exact no (fun q => by rcases q with q | q; omega; omega)
