/-! values, for whole: texts of whole numbers: the class's Reader: wholeText -/
/-- what wholeText answers -/
def QV_wt (B : Nat → Int) (b L : Nat) (c s n : Int32) (row : Nat → Int32) : Prop := (c = 0 ∧ ¬ yWt B b L) ∨ (yWt B b L ∧ ((c = 2 ∧ 2 ^ 2048 ≤ yWn B b L) ∨ (c = 1 ∧ yWn B b L < 2 ^ 2048 ∧ ∃ g : Int, ((yNg B L 0 ∧ g = -1) ∨ (¬ yNg B L 0 ∧ g = 1)) ∧ bO 220 s n row (g * ((yWn B b L : Nat) : Int)))))
theorem y_2048 : (2 : Nat) ^ 2048 ≤ 2147483648 ^ 67 := by decide +kernel
theorem V_wtL {x2 : Int32} {t0_0 : Int64} {t0_1 : Int64} {t0_2 : Int32} {t0_3 : Int32} {t0_4 : Int32} {t0_5 : Int32} {t0_6 : Int32} {t0_7 : Int32} {t0_8 : Int32} {t0_9 : Int64} {t1_0 : Int32} {t2_0 : (Nat → Int64)} {t3_0 : Int32} {t3_1 : Int32} {t4_0 : (Nat → Int32)} {p62 : (Int64 × Int64 × Int32 × Int32 × Int32 × Int32 × Int32 × Int32 × Int32 × Int64)} {p113 : (Int64 × Int64 × Int32 × Int32 × Int32 × Int32 × Int32 × Int32 × Int32 × Int64)} {y83 : Int64} {y84 : Int64} {y85 : Int32} {y86 : Int32} {y87 : Int32} {y88 : Int32} {y89 : Int32} {y90 : Int32} {y91 : Int32} {y92 : Int64} {p142 : (Int32 × Int32)} {L b s0 : Nat} (hs : t1_0.toInt = (L : Int)) (hL : L ≤ 4100) (h86 : y86.toInt = (L : Int)) (h87 : (y87 = 0 ∧ ¬ yNg (ySB t2_0) L 0) ∨ (y87 = 1 ∧ yNg (ySB t2_0) L 0)) (hb : x2.toInt = (b : Int)) (hb2 : 2 ≤ b ∧ b ≤ 36) (hs0 : yS1 (ySB t2_0) L 0 = s0) (hsL : s0 < L) : ∀ (n : Nat) (lx154 : Int32) (lx155 : Int32) (lx156 : Int32) (lx157 : Int32) (lx158 : (Nat → Int32)), ∀ i : Nat, lx155.toInt = (i : Int) → s0 ≤ i → i ≤ L → L < n + i → (∀ j, s0 ≤ j → j < i → yDv (ySB t2_0 j) < (b : Int)) → ((lx154 = 1 ∧ lx157 = 0 ∧ yuB b (fun j => yDv (ySB t2_0 (s0 + j))) (i - s0) < 2 ^ 2048 ∧ bO 220 lx156 lx157 lx158 ((yuB b (fun j => yDv (ySB t2_0 (s0 + j))) (i - s0) : Nat) : Int)) ∨ (lx154 = 0 ∧ 2 ^ 2048 ≤ yuB b (fun j => yDv (ySB t2_0 (s0 + j))) (i - s0))) → QV_wt (ySB t2_0) b L (F_Rea_wholeText_L35 x2 t0_0 t0_1 t0_2 t0_3 t0_4 t0_5 t0_6 t0_7 t0_8 t0_9 t1_0 t2_0 t3_0 t3_1 t4_0 p62 p113 y83 y84 y85 y86 y87 y88 y89 y90 y91 y92 p142 n lx154 lx155 lx156 lx157 lx158).1 (F_Rea_wholeText_L35 x2 t0_0 t0_1 t0_2 t0_3 t0_4 t0_5 t0_6 t0_7 t0_8 t0_9 t1_0 t2_0 t3_0 t3_1 t4_0 p62 p113 y83 y84 y85 y86 y87 y88 y89 y90 y91 y92 p142 n lx154 lx155 lx156 lx157 lx158).2.2.2.2.2.2.2.2.2.2.2.1 (F_Rea_wholeText_L35 x2 t0_0 t0_1 t0_2 t0_3 t0_4 t0_5 t0_6 t0_7 t0_8 t0_9 t1_0 t2_0 t3_0 t3_1 t4_0 p62 p113 y83 y84 y85 y86 y87 y88 y89 y90 y91 y92 p142 n lx154 lx155 lx156 lx157 lx158).2.2.2.2.2.2.2.2.2.2.2.2.1 (F_Rea_wholeText_L35 x2 t0_0 t0_1 t0_2 t0_3 t0_4 t0_5 t0_6 t0_7 t0_8 t0_9 t1_0 t2_0 t3_0 t3_1 t4_0 p62 p113 y83 y84 y85 y86 y87 y88 y89 y90 y91 y92 p142 n lx154 lx155 lx156 lx157 lx158).2.2.2.2.2.2.2.2.2.2.2.2.2 := by
  have e0 : (0 : Int32).toInt = 0 := rfl
  have e2048 : (2048 : Int32).toInt = 2048 := rfl
  have e220 : (220 : Int32).toInt = 220 := rfl
  intro n
  induction n with
  | zero =>
    intro lx154 lx155 lx156 lx157 lx158 i h0 h1 h2 h3
    omega
  | succ n ih =>
    intro lx154 lx155 lx156 lx157 lx158 i h0 h1 h2 h3 hd hv
    rw [F_Rea_wholeText_L35.eq_2]
    by_cases c : y86 ≤ lx155
    · rw [if_pos c]
      have c := q_leI c
      have iL : i = L := by omega
      subst iL
      have ok : yWt (ySB t2_0) b i := by
        unfold yWt
        rw [hs0]
        exact ⟨hsL, hd⟩
      have en : yWn (ySB t2_0) b i = yuB b (fun j => yDv (ySB t2_0 (s0 + j))) (i - s0) := by
        unfold yWn
        rw [hs0]
      rw [← en] at hv
      have z10 : ¬ (1 : Int32) = 0 := by decide
      rcases h87 with ⟨n1, n2⟩ | ⟨n1, n2⟩
      · rw [if_pos n1]
        rcases hv with ⟨v1, v2, v3, v4⟩ | ⟨v1, v2⟩
        · rw [if_neg (show ¬ lx154 = 0 by rw [v1]; decide)]
          rw [v2] at v4
          exact Or.inr ⟨ok, Or.inr ⟨rfl, v3, 1, Or.inr ⟨n2, rfl⟩, by rw [Int.one_mul]; exact v4⟩⟩
        · rw [if_pos v1]
          exact Or.inr ⟨ok, Or.inl ⟨rfl, v2⟩⟩
      · rw [if_neg (show ¬ y87 = 0 by rw [n1]; decide)]
        by_cases d : lx156 ≤ 0
        · rw [if_pos d]
          have d := q_leI d
          rcases hv with ⟨v1, v2, v3, v4⟩ | ⟨v1, v2⟩
          · rw [if_neg (show ¬ lx154 = 0 by rw [v1]; decide)]
            rw [v2] at v4
            have s0' := v4.s0
            have vz := v4.nil.mp (Int32.toInt_inj.mp (by omega))
            refine Or.inr ⟨ok, Or.inr ⟨rfl, v3, -1, Or.inl ⟨n2, rfl⟩, ?_⟩⟩
            rw [vz] at v4 ⊢
            exact v4
          · rw [if_pos v1]
            exact Or.inr ⟨ok, Or.inl ⟨rfl, v2⟩⟩
        · rw [if_neg d]
          have d := q_nleI d
          rcases hv with ⟨v1, v2, v3, v4⟩ | ⟨v1, v2⟩
          · rw [if_neg (show ¬ lx154 = 0 by rw [v1]; decide)]
            have a := v4.abs1 (by omega)
            rw [Int.natAbs_natCast] at a
            refine Or.inr ⟨ok, Or.inr ⟨rfl, v3, -1, Or.inl ⟨n2, rfl⟩, ?_⟩⟩
            rw [show (-1 : Int) * ((yWn (ySB t2_0) b i : Nat) : Int) = -((yWn (ySB t2_0) b i : Nat) : Int) by omega]
            exact a
          · rw [if_pos v1]
            exact Or.inr ⟨ok, Or.inl ⟨rfl, v2⟩⟩
    · rw [if_neg c]
      have c := q_nleI c
      have iL : i < L := by omega
      have hdg := V_R_digit (t0_0 := y83) (t0_1 := y84) (t0_4 := y87) (t0_5 := y88) (t0_6 := y89) (t0_7 := y90) (t0_8 := y91) (t0_9 := y92) (t2_0 := t2_0) hs hL h86 (Nat.le_refl _) h0
      rw [if_pos iL] at hdg
      generalize F_Rea_digitHere y83 y84 lx155 y86 y87 y88 y89 y90 y91 y92 t1_0 t2_0 = g at hdg ⊢
      have nn := yDv_nn (c := ySB t2_0 i)
      have ea : (lx155 + 1 : Int32).toInt = ((i + 1 : Nat) : Int) := by
        rw [q_addI (y := 1) h0 rfl (by omega) (by omega)]
        omega
      by_cases d : g < x2
      · rw [if_pos d]
        have d := q_ltI d
        have hd2 : ∀ j, s0 ≤ j → j < i + 1 → yDv (ySB t2_0 j) < (b : Int) := fun j a b => by
          by_cases e : j = i
          · rw [e]
            omega
          · exact hd j a (by omega)
        have stp : yuB b (fun j => yDv (ySB t2_0 (s0 + j))) (i + 1 - s0) = yuB b (fun j => yDv (ySB t2_0 (s0 + j))) (i - s0) * b + (yDv (ySB t2_0 i)).toNat := by
          rw [show i + 1 - s0 = (i - s0) + 1 by omega]
          show yuB b (fun j => yDv (ySB t2_0 (s0 + j))) (i - s0) * b + (yDv (ySB t2_0 (s0 + (i - s0)))).toNat = _
          rw [show s0 + (i - s0) = i by omega]
        rcases hv with ⟨v1, v2, v3, v4⟩ | ⟨v1, v2⟩
        · rw [if_neg (show ¬ lx154 = 0 by rw [v1]; decide)]
          generalize yuB b (fun j => yDv (ySB t2_0 (s0 + j))) (i - s0) = V at v3 v4 stp
          have sz := v4.sz (M := 67) (by rw [Int.natAbs_natCast]; exact Nat.lt_of_lt_of_le v3 y_2048)
          have hp := W_mulS (x := x2) (y := g) v4 (by omega) (by omega) (by omega) (by omega)
          generalize F_Big_multiplySmall 220 x2 g lx156 lx157 lx158 = p237 at hp ⊢
          rw [hb, show (b : Int) * (V : Int) + g.toInt = ((V * b + (yDv (ySB t2_0 i)).toNat : Nat) : Int) by rw [Int.mul_comm]; omega, ← stp] at hp
          have hp1 : bO 220 p237.1 p237.2.1 p237.2.2 ((yuB b (fun j => yDv (ySB t2_0 (s0 + j))) (i + 1 - s0) : Nat) : Int) := hp
          have pn : p237.2.1 = 0 := by
            rcases hp1.sgn with h | h
            · exact h.1
            · have := h.2
              omega
          unfold F_Rea_wholeText_c68
          by_cases z : (2048 : Int32) < F_Big_bitLength 220 p237.1 p237.2.1 p237.2.2
          · rw [if_pos z]
            have z := q_ltI z
            refine ih _ _ _ _ _ (i + 1) ea (by omega) (by omega) (by omega) hd2 (Or.inr ⟨rfl, ?_⟩)
            have w := W_bitsN (x := 2048) hp1 z
            rw [Int.natAbs_natCast, e2048] at w
            rcases w with w | w
            · exact w
            · omega
          · rw [if_neg z]
            have z := q_nltI z
            refine ih _ _ _ _ _ (i + 1) ea (by omega) (by omega) (by omega) hd2 (Or.inl ⟨rfl, pn, ?_, hp1⟩)
            have w := W_bits (x := 2048) hp1 z
            rw [Int.natAbs_natCast, e2048] at w
            exact w
        · rw [if_pos v1]
          refine ih _ _ _ _ _ (i + 1) ea (by omega) (by omega) (by omega) hd2 (Or.inr ⟨v1, ?_⟩)
          have m := yuB_mono (b := b) (f := fun j => yDv (ySB t2_0 (s0 + j))) (by omega) (n := i - s0) 1
          rw [show i - s0 + 1 = i + 1 - s0 by omega] at m
          exact Nat.le_trans v2 m
      · rw [if_neg d]
        have d := q_nltI d
        refine Or.inl ⟨rfl, fun h => ?_⟩
        have := h.2 i (by omega) iL
        omega
theorem V_R_whole {x2 : Int32} {t0_0 : Int64} {t0_1 : Int64} {t0_2 : Int32} {t0_3 : Int32} {t0_4 : Int32} {t0_5 : Int32} {t0_6 : Int32} {t0_7 : Int32} {t0_8 : Int32} {t0_9 : Int64} {t1_0 : Int32} {t2_0 : (Nat → Int64)} {t3_0 : Int32} {t3_1 : Int32} {t4_0 : (Nat → Int32)} {L b : Nat} (hs : t1_0.toInt = (L : Int)) (hL : L ≤ 4100) (hb : x2.toInt = (b : Int)) (hb2 : 2 ≤ b ∧ b ≤ 36) : QV_wt (ySB t2_0) b L (F_Rea_wholeText x2 t0_0 t0_1 t0_2 t0_3 t0_4 t0_5 t0_6 t0_7 t0_8 t0_9 t1_0 t2_0 t3_0 t3_1 t4_0).1 (F_Rea_wholeText x2 t0_0 t0_1 t0_2 t0_3 t0_4 t0_5 t0_6 t0_7 t0_8 t0_9 t1_0 t2_0 t3_0 t3_1 t4_0).2.2.2.2.2.2.2.2.2.2.2.1 (F_Rea_wholeText x2 t0_0 t0_1 t0_2 t0_3 t0_4 t0_5 t0_6 t0_7 t0_8 t0_9 t1_0 t2_0 t3_0 t3_1 t4_0).2.2.2.2.2.2.2.2.2.2.2.2.1 (F_Rea_wholeText x2 t0_0 t0_1 t0_2 t0_3 t0_4 t0_5 t0_6 t0_7 t0_8 t0_9 t1_0 t2_0 t3_0 t3_1 t4_0).2.2.2.2.2.2.2.2.2.2.2.2.2 := by
  unfold F_Rea_wholeText F_Rea_begin F_Rea_wholeText_c1
  obtain ⟨w, g, c1, c2, c3⟩ := V_R_sign (t0_0 := t0_0) (t0_1 := t0_1) (t0_2 := 0) (t0_3 := t1_0) (t0_4 := t0_4) (t0_5 := t0_5) (t0_6 := t0_6) (t0_7 := t0_7) (t0_8 := t0_8) (t0_9 := t0_9) (t2_0 := t2_0) (a := 0) hs hL hs (Nat.le_refl _) rfl
  rw [c1]
  unfold F_Rea_wholeText_c5 F_Rea_wholeText_c17
  have W0 := W_clear (R := 220) (R2 := 220) (s := t3_0) (n := t3_1) (f := t4_0) (by decide) (by decide)
  have wn : (F_Big_clear 220 t3_0 t3_1).2 = 0 := by
    rcases W0.sgn with h | h
    · exact h.1
    · have := h.2
      omega
  by_cases c : w < t1_0
  · rw [if_pos c]
    have c := q_ltI c
    refine V_wtL hs hL hs c3 hb hb2 rfl (by omega) 1000000 1 w _ _ t4_0 _ c2 (Nat.le_refl _) (by omega) (by omega) (fun j a b => by omega) (Or.inl ⟨rfl, wn, ?_, ?_⟩)
    · rw [Nat.sub_self]
      exact Nat.pow_pos (by decide)
    · rw [Nat.sub_self]
      exact W0
  · rw [if_neg c]
    have c := q_nltI c
    exact Or.inl ⟨rfl, fun h => by have := h.1; omega⟩
