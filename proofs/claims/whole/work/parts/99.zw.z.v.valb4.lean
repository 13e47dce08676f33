/-! values, for whole: texts of decimals: the class's Reader: decimalText -/
/-- what decimalText answers: 0, or the number and its scale, or too many figures -/
def QV_dt (B : Nat → Int) (L : Nat) (c : Int32) (sc : Int64) (s n : Int32) (row : Nat → Int32) : Prop := ∃ z, yDc B L z ∧ ((c = 0 ∧ z = none) ∨ (∃ (M : Nat) (f : Nat → Int) (x : Int), z = some (M, f, x) ∧ M ≤ L ∧ (∀ j, j < M → 0 ≤ f j ∧ f j < 10) ∧ sc.toInt = x ∧ (-2000000000000 ≤ x ∧ x ≤ 2000000000000) ∧ ((c = 1 ∧ yuB 10 f M < 10 ^ 1000 ∧ ∃ g : Int, ((yNg B L 0 ∧ g = -1) ∨ (¬ yNg B L 0 ∧ g = 1)) ∧ bO 220 s n row (g * ((yuB 10 f M : Nat) : Int))) ∨ (c = 2 ∧ 10 ^ 1000 ≤ yuB 10 f M))))
theorem V_dt50 {t0_0 : Int64} {t0_1 : Int64} {t0_2 : Int32} {t0_3 : Int32} {t0_4 : Int32} {t0_5 : Int32} {t0_6 : Int32} {t0_7 : Int32} {t0_8 : Int32} {t0_9 : Int64} {t1_0 : Int32} {t2_0 : (Nat → Int64)} {t3_0 : Int32} {t3_1 : Int32} {t4_0 : (Nat → Int32)} {p62 : (Int64 × Int64 × Int32 × Int32 × Int32 × Int32 × Int32 × Int32 × Int32 × Int64)} {p113 : (Int64 × Int64 × Int32 × Int32 × Int32 × Int32 × Int32 × Int32 × Int32 × Int64)} {p172 : (Int32 × Int64 × Int64 × Int32 × Int32 × Int32 × Int32 × Int32 × Int32 × Int32 × Int64 × Int32 × Int32 × (Nat → Int32))} {y146 : Int32} {y147 : Int32} {f148 : (Nat → Int32)} {lx207 : Int64} {lx208 : Int64} {lx209 : Int32} {lx210 : Int32} {lx211 : Int32} {lx212 : Int32} {lx213 : Int32} {lx214 : Int32} {lx215 : Int32} {lx216 : Int64} {L M q : Nat} {f : Nat → Int} {kp so : Int32} (hL : L ≤ 4100) (hz : q = L → yDc (ySB t2_0) L (some (M, f, lx212.toInt - lx216.toInt))) (hn : q ≠ L → yDc (ySB t2_0) L none) (hM : M ≤ L) (hf : ∀ j, j < M → 0 ≤ f j ∧ f j < 10) (h209 : lx209.toInt = (q : Int)) (hq : q ≤ L) (h210 : lx210.toInt = (L : Int)) (h211 : (lx211 = 0 ∧ ¬ yNg (ySB t2_0) L 0) ∨ (lx211 = 1 ∧ yNg (ySB t2_0) L 0)) (h212 : -10000 ≤ lx212.toInt ∧ lx212.toInt ≤ 10000) (h216 : -1000000000000 ≤ lx216.toInt ∧ lx216.toInt ≤ 1000000000000) (hK : yKp 10 1000 M f kp lx214 so y146 y147 f148) : QV_dt (ySB t2_0) L (F_Rea_decimalText_J50 t0_0 t0_1 t0_2 t0_3 t0_4 t0_5 t0_6 t0_7 t0_8 t0_9 t1_0 t2_0 t3_0 t3_1 t4_0 p62 p113 p172 y146 y147 f148 lx207 lx208 lx209 lx210 lx211 lx212 lx213 lx214 lx215 lx216).1 (F_Rea_decimalText_J50 t0_0 t0_1 t0_2 t0_3 t0_4 t0_5 t0_6 t0_7 t0_8 t0_9 t1_0 t2_0 t3_0 t3_1 t4_0 p62 p113 p172 y146 y147 f148 lx207 lx208 lx209 lx210 lx211 lx212 lx213 lx214 lx215 lx216).2.1 (F_Rea_decimalText_J50 t0_0 t0_1 t0_2 t0_3 t0_4 t0_5 t0_6 t0_7 t0_8 t0_9 t1_0 t2_0 t3_0 t3_1 t4_0 p62 p113 p172 y146 y147 f148 lx207 lx208 lx209 lx210 lx211 lx212 lx213 lx214 lx215 lx216).2.2.2.2.2.2.2.2.2.2.2.1 (F_Rea_decimalText_J50 t0_0 t0_1 t0_2 t0_3 t0_4 t0_5 t0_6 t0_7 t0_8 t0_9 t1_0 t2_0 t3_0 t3_1 t4_0 p62 p113 p172 y146 y147 f148 lx207 lx208 lx209 lx210 lx211 lx212 lx213 lx214 lx215 lx216).2.2.2.2.2.2.2.2.2.2.2.2.1 (F_Rea_decimalText_J50 t0_0 t0_1 t0_2 t0_3 t0_4 t0_5 t0_6 t0_7 t0_8 t0_9 t1_0 t2_0 t3_0 t3_1 t4_0 p62 p113 p172 y146 y147 f148 lx207 lx208 lx209 lx210 lx211 lx212 lx213 lx214 lx215 lx216).2.2.2.2.2.2.2.2.2.2.2.2.2 := by
  have e0 : (0 : Int32).toInt = 0 := rfl
  have hsc : (lx212.toInt64 - lx216 : Int64).toInt = lx212.toInt - lx216.toInt := q_subL (q_i2l rfl) rfl (by omega) (by omega)
  obtain ⟨v, d, k, r, k1, kn, k2, k3, k4, k5, k6, k7, k8, k9, k10, k11⟩ := hK
  unfold F_Rea_decimalText_J50
  by_cases c1 : lx210 ≤ lx209
  · rw [if_pos c1]
    have c1 := q_leI c1
    have hz := hz (by omega)
    have J : ∀ (nn : Int32) (g : Int), ((yNg (ySB t2_0) L 0 ∧ g = -1) ∨ (¬ yNg (ySB t2_0) L 0 ∧ g = 1)) → bO 220 y146 nn f148 (g * (v : Int)) → QV_dt (ySB t2_0) L (if lx214 ≤ 0 then 1 else 2) (lx212.toInt64 - lx216) y146 nn f148 := fun nn g hg hb => by
      refine ⟨_, hz, Or.inr ⟨M, f, _, rfl, hM, hf, hsc, by omega, ?_⟩⟩
      by_cases c2 : lx214 ≤ 0
      · rw [if_pos c2]
        have c2 := q_leI c2
        have d0 : d = 0 := by omega
        subst d0
        rw [Nat.pow_zero] at k10
        have r0 : r = 0 := by omega
        subst r0
        rw [Nat.pow_zero, Nat.mul_one, Nat.add_zero] at k9
        refine Or.inl ⟨rfl, ?_, g, hg, ?_⟩
        · rw [k9]
          exact Nat.lt_of_lt_of_le k4 (Nat.pow_le_pow_right (by decide) k3)
        · rw [k9]
          exact hb
      · rw [if_neg c2]
        have c2 := q_nleI c2
        have dp : 0 < d := by omega
        have kk := k8 dp
        refine Or.inr ⟨rfl, ?_⟩
        rw [k9]
        rcases k5 with u | u
        · omega
        · rw [kk, show 1000 - 1 = 999 by decide] at u
          have a1 : 10 ^ 999 * 10 ≤ v * 10 ^ d := by
            refine Nat.mul_le_mul u ?_
            exact Nat.le_trans (by decide : 10 ≤ 10 ^ 1) (Nat.pow_le_pow_right (by decide) dp)
          have a2 : (10 : Nat) ^ 1000 = 10 ^ 999 * 10 := Nat.pow_succ _ _
          rw [a2]
          exact Nat.le_trans a1 (Nat.le_add_right _ _)
    have J95 : ∀ (nn : Int32), QV_dt (ySB t2_0) L (if lx214 ≤ 0 then 1 else 2) (lx212.toInt64 - lx216) y146 nn f148 → QV_dt (ySB t2_0) L (if lx214 ≤ 0 then ((1 : Int32), (lx212.toInt64 - lx216 : Int64), lx208, lx209, lx210, lx211, lx212, lx213, lx214, lx215, lx216, y146, nn, f148) else (2, (lx212.toInt64 - lx216 : Int64), lx208, lx209, lx210, lx211, lx212, lx213, lx214, lx215, lx216, y146, nn, f148)).1 (if lx214 ≤ 0 then ((1 : Int32), (lx212.toInt64 - lx216 : Int64), lx208, lx209, lx210, lx211, lx212, lx213, lx214, lx215, lx216, y146, nn, f148) else (2, (lx212.toInt64 - lx216 : Int64), lx208, lx209, lx210, lx211, lx212, lx213, lx214, lx215, lx216, y146, nn, f148)).2.1 (if lx214 ≤ 0 then ((1 : Int32), (lx212.toInt64 - lx216 : Int64), lx208, lx209, lx210, lx211, lx212, lx213, lx214, lx215, lx216, y146, nn, f148) else (2, (lx212.toInt64 - lx216 : Int64), lx208, lx209, lx210, lx211, lx212, lx213, lx214, lx215, lx216, y146, nn, f148)).2.2.2.2.2.2.2.2.2.2.2.1 (if lx214 ≤ 0 then ((1 : Int32), (lx212.toInt64 - lx216 : Int64), lx208, lx209, lx210, lx211, lx212, lx213, lx214, lx215, lx216, y146, nn, f148) else (2, (lx212.toInt64 - lx216 : Int64), lx208, lx209, lx210, lx211, lx212, lx213, lx214, lx215, lx216, y146, nn, f148)).2.2.2.2.2.2.2.2.2.2.2.2.1 (if lx214 ≤ 0 then ((1 : Int32), (lx212.toInt64 - lx216 : Int64), lx208, lx209, lx210, lx211, lx212, lx213, lx214, lx215, lx216, y146, nn, f148) else (2, (lx212.toInt64 - lx216 : Int64), lx208, lx209, lx210, lx211, lx212, lx213, lx214, lx215, lx216, y146, nn, f148)).2.2.2.2.2.2.2.2.2.2.2.2.2 := fun nn h => by
      by_cases c2 : lx214 ≤ 0
      · rw [if_pos c2] at h ⊢
        exact h
      · rw [if_neg c2] at h ⊢
        exact h
    rw [kn] at k1
    rcases h211 with ⟨n1, n2⟩ | ⟨n1, n2⟩
    · rw [if_pos n1]
      unfold F_Rea_decimalText_J94 F_Rea_decimalText_J95
      exact J95 0 (J 0 1 (Or.inr ⟨n2, rfl⟩) (by rw [Int.one_mul]; exact k1))
    · rw [if_neg (show ¬ lx211 = 0 by rw [n1]; decide)]
      by_cases c3 : y146 ≤ 0
      · rw [if_pos c3]
        have c3 := q_leI c3
        have v0 : v = 0 := by
          have s0 := k1.s0
          have := k1.nil.mp (Int32.toInt_inj.mp (by omega))
          omega
        unfold F_Rea_decimalText_J94 F_Rea_decimalText_J95
        refine J95 0 (J 0 (-1) (Or.inl ⟨n2, rfl⟩) ?_)
        rw [v0] at k1 ⊢
        exact k1
      · rw [if_neg c3]
        have c3 := q_nleI c3
        unfold F_Rea_decimalText_J95
        refine J95 1 (J 1 (-1) (Or.inl ⟨n2, rfl⟩) ?_)
        have := k1.abs1 (by omega)
        rw [Int.natAbs_natCast] at this
        rw [show (-1 : Int) * (v : Int) = -(v : Int) by omega]
        exact this
  · rw [if_neg c1]
    have c1 := q_nleI c1
    exact ⟨none, hn (by omega), Or.inl ⟨rfl, rfl⟩⟩
theorem V_R_dect {t0_0 : Int64} {t0_1 : Int64} {t0_2 : Int32} {t0_3 : Int32} {t0_4 : Int32} {t0_5 : Int32} {t0_6 : Int32} {t0_7 : Int32} {t0_8 : Int32} {t0_9 : Int64} {t1_0 : Int32} {t2_0 : (Nat → Int64)} {t3_0 : Int32} {t3_1 : Int32} {t4_0 : (Nat → Int32)} {L : Nat} (hs : t1_0.toInt = (L : Int)) (hL : L ≤ 4100) : QV_dt (ySB t2_0) L (F_Rea_decimalText t0_0 t0_1 t0_2 t0_3 t0_4 t0_5 t0_6 t0_7 t0_8 t0_9 t1_0 t2_0 t3_0 t3_1 t4_0).1 (F_Rea_decimalText t0_0 t0_1 t0_2 t0_3 t0_4 t0_5 t0_6 t0_7 t0_8 t0_9 t1_0 t2_0 t3_0 t3_1 t4_0).2.1 (F_Rea_decimalText t0_0 t0_1 t0_2 t0_3 t0_4 t0_5 t0_6 t0_7 t0_8 t0_9 t1_0 t2_0 t3_0 t3_1 t4_0).2.2.2.2.2.2.2.2.2.2.2.1 (F_Rea_decimalText t0_0 t0_1 t0_2 t0_3 t0_4 t0_5 t0_6 t0_7 t0_8 t0_9 t1_0 t2_0 t3_0 t3_1 t4_0).2.2.2.2.2.2.2.2.2.2.2.2.1 (F_Rea_decimalText t0_0 t0_1 t0_2 t0_3 t0_4 t0_5 t0_6 t0_7 t0_8 t0_9 t1_0 t2_0 t3_0 t3_1 t4_0).2.2.2.2.2.2.2.2.2.2.2.2.2 := by
  unfold F_Rea_decimalText F_Rea_begin F_Rea_decimalText_c1
  obtain ⟨w, g, c1, c2, c3⟩ := V_R_sign (t0_0 := t0_0) (t0_1 := t0_1) (t0_2 := 0) (t0_3 := t1_0) (t0_4 := t0_4) (t0_5 := t0_5) (t0_6 := t0_6) (t0_7 := t0_7) (t0_8 := t0_8) (t0_9 := t0_9) (t2_0 := t2_0) (a := 0) hs hL hs (Nat.le_refl _) rfl
  rw [c1]
  unfold F_Rea_decimalText_c5
  obtain ⟨p, M, o, f, c, w2, bh, kp, dr, so, s', n', row, a1, a2, a3, a4, a5, a6, a7⟩ := V_R_figs (x2 := 10) (x3 := 1000) (b := 10) (most := 1000) (t0_0 := t0_0) (t0_1 := t0_1) (t0_2 := w) (t0_3 := t1_0) (t0_4 := g) (t0_5 := t0_5) (t0_6 := t0_6) (t0_7 := t0_7) (t0_8 := t0_8) (t0_9 := t0_9) (t2_0 := t2_0) (t3_0 := t3_0) (t3_1 := t3_1) (t4_0 := t4_0) hs hL hs (Nat.le_refl _) c2 (yS1_le (by omega)).2 rfl (by decide) (by decide) rfl (by decide) (Nat.le_refl _)
  rw [a7]
  have rle := yRn_le a1
  have kM := yRn_k a1
  have hf := yRn_f a1
  have pe := a2.1
  unfold F_Rea_decimalText_c14
  rcases a3 with ⟨z1, z2⟩ | ⟨z1, z2⟩
  · rw [if_pos z1]
    exact ⟨none, ⟨p, M, o, f, a1, a2, Or.inl ⟨z2, rfl⟩⟩, Or.inl ⟨rfl, rfl⟩⟩
  · rw [if_neg (show ¬ c = 0 by rw [z1]; decide)]
    have hh := V_R_here (t0_0 := t0_0) (t0_1 := t0_1) (t0_4 := g) (t0_5 := bh) (t0_6 := kp) (t0_7 := dr) (t0_8 := so) (t0_9 := 0) (t2_0 := t2_0) hs hL hs (Nat.le_refl _) a4
    have be := y_hL (p := p) (e := L) (B := ySB t2_0) (fun i => ySB_b) hh (x := 101) (b := 101) (a := 69) rfl (by decide) (by decide)
    by_cases c4 : F_Rea_here t0_0 t0_1 w2 t1_0 g bh kp dr so 0 t1_0 t2_0 ||| 32 = 101
    · rw [if_pos c4]
      have k := be.mp c4
      obtain ⟨q, v, w', ex, b1, b2, b3, b4, b5, b6⟩ := V_R_exp (x2 := 10) (m := 10) (t0_0 := t0_0) (t0_1 := t0_1) (t0_4 := g) (t0_5 := bh) (t0_6 := kp) (t0_7 := dr) (t0_8 := so) (t0_9 := 0) (t2_0 := t2_0) hs hL hs (Nat.le_refl _) rfl a4 k.1
      rw [b6]
      unfold F_Rea_decimalText_c42
      have qe := b1.2.1
      by_cases d1 : yS1 (ySB t2_0) L (p + 1) < q ∧ q - yS1 (ySB t2_0) L (p + 1) ≤ 10
      · rw [if_pos d1, if_neg (show ¬ (1 : Int32) = 0 by decide)]
        have xlt : yDx (ySB t2_0) (yS1 (ySB t2_0) L (p + 1)) (q - yS1 (ySB t2_0) L (p + 1)) < 10 ^ 10 := Nat.lt_of_lt_of_le (yDx_lt (fun j a b => b1.2.2.1 j a (by omega))) (Nat.pow_le_pow_right (by decide) d1.2)
        rw [show (10 : Nat) ^ 10 = 10000000000 by decide] at xlt
        have vx : v = yDx (ySB t2_0) (yS1 (ySB t2_0) L (p + 1)) (q - yS1 (ySB t2_0) L (p + 1)) := by
          rcases b2 with b2 | b2
          · exact b2.2
          · omega
        refine V_dt50 (q := q) hL (fun h => ?_) (fun h => ⟨p, M, o, f, a1, a2, Or.inr (Or.inr ⟨z2, k, q, b1, Or.inl ⟨fun u => h u.2.2, rfl⟩⟩)⟩) (by omega) hf b4 qe hs c3 (show -10000 ≤ bh.toInt ∧ bh.toInt ≤ 10000 by omega) (show -1000000000000 ≤ ex.toInt ∧ ex.toInt ≤ 1000000000000 by omega) a6
        refine ⟨p, M, o, f, a1, a2, Or.inr (Or.inr ⟨z2, k, q, b1, Or.inr ⟨⟨d1.1, d1.2, h⟩, _, rfl, ?_⟩⟩)⟩
        rw [← vx]
        show (_ ∧ bh.toInt - ex.toInt = _) ∨ (_ ∧ bh.toInt - ex.toInt = _)
        rcases b5 with ⟨u1, u2⟩ | ⟨u1, u2⟩
        · exact Or.inl ⟨u1, by omega⟩
        · exact Or.inr ⟨u1, by omega⟩
      · rw [if_neg d1, if_pos rfl]
        exact ⟨none, ⟨p, M, o, f, a1, a2, Or.inr (Or.inr ⟨z2, k, q, b1, Or.inl ⟨fun u => d1 ⟨u.1, u.2.1⟩, rfl⟩⟩)⟩, Or.inl ⟨rfl, rfl⟩⟩
    · rw [if_neg c4]
      have nE : ¬ yAt (ySB t2_0) L p 101 69 := fun h => c4 (be.mpr h)
      refine V_dt50 (q := p) hL (fun h => ?_) (fun h => ⟨p, M, o, f, a1, a2, Or.inr (Or.inl ⟨z2, nE, Or.inr ⟨h, rfl⟩⟩)⟩) (by omega) hf a4 pe hs c3 (show -10000 ≤ bh.toInt ∧ bh.toInt ≤ 10000 by omega) (by decide) a6
      refine ⟨p, M, o, f, a1, a2, Or.inr (Or.inl ⟨z2, nE, Or.inl ⟨h, ?_⟩⟩)⟩
      show some (M, f, bh.toInt - (0 : Int64).toInt) = some (M, f, (M : Int) - ((o.getD M : Nat) : Int))
      rw [a5, show (0 : Int64).toInt = 0 from rfl, Int.sub_zero]
