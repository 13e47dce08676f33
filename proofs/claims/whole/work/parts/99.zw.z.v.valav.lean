/-! values, for whole: texts: the class's Reader: takeFigures -/
theorem yKp_c {b most M : Nat} {f g : Nat → Int} {kept dropped some s n : Int32} {row : Nat → Int32} (u : ∀ j, j < M → f j = g j) (h : yKp b most M f kept dropped some s n row) : yKp b most M g kept dropped some s n row := by
  obtain ⟨v, d, kp, r, k1, kn, k2, k3, k4, k5, k6, k7, k8, k9, k10⟩ := h
  exact ⟨v, d, kp, r, k1, kn, k2, k3, k4, k5, k6, k7, k8, by rw [← yuB_c u]; exact k9, k10⟩
theorem V_tfL {x2 : Int32} {x3 : Int32} {t0_0 : Int64} {t0_1 : Int64} {t0_2 : Int32} {t0_3 : Int32} {t0_4 : Int32} {t0_5 : Int32} {t0_6 : Int32} {t0_7 : Int32} {t0_8 : Int32} {t0_9 : Int64} {t1_0 : Int32} {t2_0 : (Nat → Int64)} {t3_0 : Int32} {t3_1 : Int32} {t4_0 : (Nat → Int32)} {p47 : (Int32 × Int32)} {L e s b most : Nat} (hs : t1_0.toInt = (L : Int)) (hL : L ≤ 4100) (he : e ≤ L) (hb : x2.toInt = (b : Int)) (hb2 : 2 ≤ b) (hb3 : b ≤ 99) (hm : x3.toInt = (most : Int)) (hmm : most ≤ 4100) (hbm : b ^ most ≤ 10 ^ 1000) : ∀ (n : Nat) (lx58 : Int32) (lx59 : Int32) (lx60 : Int32) (lx61 : Int64) (lx62 : Int64) (lx63 : Int32) (lx64 : Int32) (lx65 : Int32) (lx66 : Int32) (lx67 : Int32) (lx68 : Int32) (lx69 : Int64) (lx70 : Int32) (lx71 : Int32) (lx72 : (Nat → Int32)), ∀ (i M : Nat) (o : Option Nat) (f : Nat → Int), lx60.toInt = (i : Int) → s ≤ i → i ≤ e → e < n + i → lx63.toInt = (e : Int) → yRn (ySB t2_0) b s i M o f → lx58.toInt = (M : Int) → ((lx59 = 0 ∧ o = none) ∨ (lx59 = 1 ∧ o ≠ none)) → lx65.toInt = (M : Int) - ((o.getD M : Nat) : Int) → yKp b most M f lx66 lx67 lx68 lx70 lx71 lx72 → ∃ (p M : Nat) (o : Option Nat) (f : Nat → Int) (c w bh kp dr so s' n' : Int32) (row : Nat → Int32), yRn (ySB t2_0) b s p M o f ∧ ySp (ySB t2_0) b e p o ∧ ((c = 0 ∧ M = 0) ∨ (c = 1 ∧ 0 < M)) ∧ w.toInt = (p : Int) ∧ bh.toInt = (M : Int) - ((o.getD M : Nat) : Int) ∧ yKp b most M f kp dr so s' n' row ∧ (F_Rea_takeFigures_L35 x2 x3 t0_0 t0_1 t0_2 t0_3 t0_4 t0_5 t0_6 t0_7 t0_8 t0_9 t1_0 t2_0 t3_0 t3_1 t4_0 p47 n lx58 lx59 lx60 lx61 lx62 lx63 lx64 lx65 lx66 lx67 lx68 lx69 lx70 lx71 lx72) = (c, lx61, lx62, w, lx63, lx64, bh, kp, dr, so, lx69, s', n', row) := by
  have e0 : (0 : Int32).toInt = 0 := rfl
  intro n
  induction n with
  | zero =>
    intro lx58 lx59 lx60 lx61 lx62 lx63 lx64 lx65 lx66 lx67 lx68 lx69 lx70 lx71 lx72 i M o f h0 h1 h2 h3
    omega
  | succ n ih =>
    intro lx58 lx59 lx60 lx61 lx62 lx63 lx64 lx65 lx66 lx67 lx68 lx69 lx70 lx71 lx72 i M o f h0 h1 h2 h3 h63 hR h58 h59 h65 hK
    have rle := yRn_le hR
    have fin : ySp (ySB t2_0) b e i o → ∃ (p M : Nat) (o : Option Nat) (f : Nat → Int) (c w bh kp dr so s' n' : Int32) (row : Nat → Int32), yRn (ySB t2_0) b s p M o f ∧ ySp (ySB t2_0) b e p o ∧ ((c = 0 ∧ M = 0) ∨ (c = 1 ∧ 0 < M)) ∧ w.toInt = (p : Int) ∧ bh.toInt = (M : Int) - ((o.getD M : Nat) : Int) ∧ yKp b most M f kp dr so s' n' row ∧ (if lx58 ≤ 0 then ((0 : Int32), lx61, lx62, lx60, lx63, lx64, lx65, lx66, lx67, lx68, lx69, lx70, lx71, lx72) else (1, lx61, lx62, lx60, lx63, lx64, lx65, lx66, lx67, lx68, lx69, lx70, lx71, lx72)) = (c, lx61, lx62, w, lx63, lx64, bh, kp, dr, so, lx69, s', n', row) := fun hsp => by
      by_cases z : lx58 ≤ 0
      · rw [if_pos z]
        have z := q_leI z
        exact ⟨i, M, o, f, 0, lx60, lx65, lx66, lx67, lx68, lx70, lx71, lx72, hR, hsp, Or.inl ⟨rfl, by omega⟩, h0, h65, hK, rfl⟩
      · rw [if_neg z]
        have z := q_nleI z
        exact ⟨i, M, o, f, 1, lx60, lx65, lx66, lx67, lx68, lx70, lx71, lx72, hR, hsp, Or.inr ⟨rfl, by omega⟩, h0, h65, hK, rfl⟩
    rw [F_Rea_takeFigures_L35.eq_2]
    by_cases c1 : lx63 ≤ lx60
    · rw [if_pos c1]
      have c1 := q_leI c1
      exact fin ⟨h2, Or.inl (by omega)⟩
    · rw [if_neg c1]
      have c1 := q_nleI c1
      have ie : i < e := by omega
      have ea : (lx60 + 1 : Int32).toInt = ((i + 1 : Nat) : Int) := by
        rw [q_addI (y := 1) h0 rfl (by omega) (by omega)]
        omega
      have hd := V_R_digit (t0_0 := lx61) (t0_1 := lx62) (t0_4 := lx64) (t0_5 := lx65) (t0_6 := lx66) (t0_7 := lx67) (t0_8 := lx68) (t0_9 := lx69) (t2_0 := t2_0) hs hL h63 he h0
      have hh := V_R_here (t0_0 := lx61) (t0_1 := lx62) (t0_4 := lx64) (t0_5 := lx65) (t0_6 := lx66) (t0_7 := lx67) (t0_8 := lx68) (t0_9 := lx69) (t2_0 := t2_0) hs hL h63 he h0
      rw [if_pos ie] at hd hh
      generalize F_Rea_digitHere lx61 lx62 lx60 lx63 lx64 lx65 lx66 lx67 lx68 lx69 t1_0 t2_0 = g at hd ⊢
      generalize F_Rea_here lx61 lx62 lx60 lx63 lx64 lx65 lx66 lx67 lx68 lx69 t1_0 t2_0 = c at hh ⊢
      by_cases c2 : x2 ≤ g
      · rw [if_pos c2]
        have c2 := q_leI c2
        by_cases c3 : c = 46
        · rw [if_pos c3]
          have hB : ySB t2_0 i = 46 := by
            rw [c3] at hh
            exact hh.symm
          rcases h59 with ⟨z1, z2⟩ | ⟨z1, z2⟩
          · rw [if_pos z1]
            subst z2
            exact ih _ _ _ _ _ _ _ _ _ _ _ _ _ _ _ (i + 1) M (some M) f ea (by omega) (by omega) (by omega) h63 (yRn_p hR hB) h58 (Or.inr ⟨rfl, by simp⟩) (by rw [h65]; rfl) hK
          · rw [if_neg (show ¬ lx59 = 0 by rw [z1]; decide)]
            exact fin ⟨h2, Or.inr ⟨by omega, fun _ => z2⟩⟩
        · rw [if_neg c3]
          exact fin ⟨h2, Or.inr ⟨by omega, fun h => absurd (Int32.toInt_inj.mp (by rw [hh, h]; rfl)) c3⟩⟩
      · rw [if_neg c2]
        have c2 := q_nleI c2
        have nn := yDv_nn (c := ySB t2_0 i)
        have hdg : g.toInt = (((yDv (ySB t2_0 i)).toNat : Nat) : Int) := by omega
        have uf : ∀ j, j < M → f j = (fun j => if j < M then f j else yDv (ySB t2_0 i)) j := fun j hj => by
          show f j = if j < M then f j else _
          rw [if_pos hj]
        have fM : (fun j => if j < M then f j else yDv (ySB t2_0 i)) M = (((yDv (ySB t2_0 i)).toNat : Nat) : Int) := by
          show (if M < M then f M else yDv (ySB t2_0 i)) = _
          rw [if_neg (Nat.lt_irrefl _)]
          omega
        obtain ⟨kp, dr, so, s', n', row, a1, a2⟩ := V_R_keep (t0_0 := lx61) (t0_1 := lx62) (t0_2 := lx60) (t0_3 := lx63) (t0_4 := lx64) (t0_5 := lx65) (t0_9 := lx69) (x2 := x2) (x3 := g) (x4 := x3) (dg := (yDv (ySB t2_0 i)).toNat) (yKp_c uf hK) hb hb2 hdg (by omega) hm hmm hbm (by omega) fM
        rw [a1]
        unfold F_Rea_takeFigures_c63
        have hR2 := yRn_d (g := fun j => if j < M then f j else yDv (ySB t2_0 i)) (d := yDv (ySB t2_0 i)) hR rfl (by omega) (fun j hj => (uf j hj).symm) (if_neg (Nat.lt_irrefl _))
        have e58 : (lx58 + 1 : Int32).toInt = ((M + 1 : Nat) : Int) := by
          rw [q_addI (y := 1) h58 rfl (by omega) (by omega)]
          omega
        rcases h59 with ⟨z1, z2⟩ | ⟨z1, z2⟩
        · rw [if_pos z1]
          subst z2
          refine ih _ _ _ _ _ _ _ _ _ _ _ _ _ _ _ (i + 1) (M + 1) none _ ea (by omega) (by omega) (by omega) h63 hR2 e58 (Or.inl ⟨z1, rfl⟩) ?_ a2
          have g0 : lx65.toInt = 0 := by
            rw [h65]
            show (M : Int) - ((M : Nat) : Int) = 0
            omega
          show (lx65 + 0 : Int32).toInt = ((M + 1 : Nat) : Int) - ((M + 1 : Nat) : Int)
          rw [q_addI (y := 0) g0 rfl (by omega) (by omega)]
          omega
        · rw [if_neg (show ¬ lx59 = 0 by rw [z1]; decide)]
          refine ih _ _ _ _ _ _ _ _ _ _ _ _ _ _ _ (i + 1) (M + 1) o _ ea (by omega) (by omega) (by omega) h63 hR2 e58 (Or.inr ⟨z1, z2⟩) ?_ a2
          cases o with
          | none => exact absurd rfl z2
          | some k =>
            have kM := yRn_k hR
            have g0 : lx65.toInt = (M : Int) - (k : Int) := h65
            have kM2 : k ≤ M := kM
            show (lx65 + 1 : Int32).toInt = ((M + 1 : Nat) : Int) - (k : Int)
            rw [q_addI (y := 1) g0 rfl (by omega) (by omega)]
            omega
/-- what takeFigures leaves -/
def QV_tf (B : Nat → Int) (b most e s : Nat) (a0 a1 : Int64) (a3 a4 : Int32) (a9 : Int64) (y : Int32 × Int64 × Int64 × Int32 × Int32 × Int32 × Int32 × Int32 × Int32 × Int32 × Int64 × Int32 × Int32 × (Nat → Int32)) : Prop := ∃ (p M : Nat) (o : Option Nat) (f : Nat → Int) (c w bh kp dr so s' n' : Int32) (row : Nat → Int32), yRn B b s p M o f ∧ ySp B b e p o ∧ ((c = 0 ∧ M = 0) ∨ (c = 1 ∧ 0 < M)) ∧ w.toInt = (p : Int) ∧ bh.toInt = (M : Int) - ((o.getD M : Nat) : Int) ∧ yKp b most M f kp dr so s' n' row ∧ y = (c, a0, a1, w, a3, a4, bh, kp, dr, so, a9, s', n', row)
theorem V_R_figs {x2 : Int32} {x3 : Int32} {t0_0 : Int64} {t0_1 : Int64} {t0_2 : Int32} {t0_3 : Int32} {t0_4 : Int32} {t0_5 : Int32} {t0_6 : Int32} {t0_7 : Int32} {t0_8 : Int32} {t0_9 : Int64} {t1_0 : Int32} {t2_0 : (Nat → Int64)} {t3_0 : Int32} {t3_1 : Int32} {t4_0 : (Nat → Int32)} {L e s b most : Nat} (hs : t1_0.toInt = (L : Int)) (hL : L ≤ 4100) (h3 : t0_3.toInt = (e : Int)) (he : e ≤ L) (h2 : t0_2.toInt = (s : Int)) (hse : s ≤ e) (hb : x2.toInt = (b : Int)) (hb2 : 2 ≤ b) (hb3 : b ≤ 99) (hm : x3.toInt = (most : Int)) (hmm : most ≤ 4100) (hbm : b ^ most ≤ 10 ^ 1000) : QV_tf (ySB t2_0) b most e s t0_0 t0_1 t0_3 t0_4 t0_9 (F_Rea_takeFigures x2 x3 t0_0 t0_1 t0_2 t0_3 t0_4 t0_5 t0_6 t0_7 t0_8 t0_9 t1_0 t2_0 t3_0 t3_1 t4_0) := by
  unfold F_Rea_takeFigures F_Rea_takeFigures_c32
  have e0 : (0 : Int32).toInt = 0 := rfl
  have w := W_clear (R := 220) (R2 := 220) (s := t3_0) (n := t3_1) (f := t4_0) (by decide) (by decide)
  have wn : (F_Big_clear 220 t3_0 t3_1).2 = 0 := by
    rcases w.sgn with h | h
    · exact h.1
    · have := h.2
      omega
  refine V_tfL (s := s) hs hL he hb hb2 hb3 hm hmm hbm _ _ _ _ _ _ _ _ _ _ _ _ _ _ _ _ s 0 none (fun _ => 0) h2 (Nat.le_refl _) hse (by omega) h3 yRn_0 rfl (Or.inl ⟨rfl, rfl⟩) rfl ?_
  exact ⟨0, 0, 0, 0, w, wn, rfl, Nat.zero_le _, by rw [Nat.pow_zero]; omega, Or.inl rfl, rfl, Nat.le_refl _, fun h => absurd h (by omega), rfl, by rw [Nat.pow_zero]; omega, Or.inl ⟨rfl, rfl⟩⟩
