/-! DecimalRows: says, read, put, told, compare -/
theorem g_at {x2 : Int32} {t0_0 : Int32} {t0_1 : Int32} {t0_2 : Int32} {t0_3 : Int64} {t0_4 : Int32} {t0_5 : Int32} {t0_6 : Int32} {t0_7 : Int32} {t0_8 : Int32} {t0_9 : Int32} {t0_10 : Int32} {t1_0 : (Nat → Int32)} (h : ¬ F_DR_at x2 t0_0 t0_1 t0_2 t0_3 t0_4 t0_5 t0_6 t0_7 t0_8 t0_9 t0_10 t1_0 = 0) : x2.toInt < t0_1.toInt := by
  unfold F_DR_at at h
  by_cases c : t0_1 ≤ x2
  · rw [if_pos c] at h
    exact absurd rfl h
  · exact q_nleI c
theorem g_at46 {x2 : Int32} {t0_0 : Int32} {t0_1 : Int32} {t0_2 : Int32} {t0_3 : Int64} {t0_4 : Int32} {t0_5 : Int32} {t0_6 : Int32} {t0_7 : Int32} {t0_8 : Int32} {t0_9 : Int32} {t0_10 : Int32} {t1_0 : (Nat → Int32)} (h : F_DR_at x2 t0_0 t0_1 t0_2 t0_3 t0_4 t0_5 t0_6 t0_7 t0_8 t0_9 t0_10 t1_0 = 46) : x2.toInt < t0_1.toInt := g_at (by rw [h]; decide)
theorem g_isd {c : Int32} (h : ¬ F_DR_isDigit c = 0) : 48 ≤ c.toInt ∧ c.toInt ≤ 57 := by
  have e1 : (48 : Int32).toInt = 48 := rfl
  have e2 : (57 : Int32).toInt = 57 := rfl
  unfold F_DR_isDigit at h
  by_cases h1 : c < 48
  · rw [if_pos h1] at h
    exact absurd rfl h
  · rw [if_neg h1] at h
    by_cases h2 : 57 < c
    · rw [if_pos h2] at h
      exact absurd rfl h
    · have a := q_nltI h1
      have b := q_nltI h2
      omega
theorem g_atd {x2 : Int32} {t0_0 : Int32} {t0_1 : Int32} {t0_2 : Int32} {t0_3 : Int64} {t0_4 : Int32} {t0_5 : Int32} {t0_6 : Int32} {t0_7 : Int32} {t0_8 : Int32} {t0_9 : Int32} {t0_10 : Int32} {t1_0 : (Nat → Int32)} (h : ¬ F_DR_isDigit (F_DR_at x2 t0_0 t0_1 t0_2 t0_3 t0_4 t0_5 t0_6 t0_7 t0_8 t0_9 t0_10 t1_0) = 0) : x2.toInt < t0_1.toInt := g_at (fun e => by have := g_isd h; rw [e] at this; exact absurd this (by decide))
theorem g_sayU {f : Nat → Int32} {k k1 c : Int32} (h : gO f k.toNatClampNeg) (hk : 0 ≤ k.toInt) (h1 : k1.toInt = k.toInt + 1) (hc : 48 ≤ c.toInt ∧ c.toInt ≤ 57) : gO (upd f k.toNatClampNeg (c - 48)) k1.toNatClampNeg := by
  have e : (c - 48 : Int32).toInt = c.toInt - 48 := q_subI (y := 48) rfl (by decide) (by omega) (by omega)
  have e1 := q_clI (i := k) rfl hk
  have e2 := q_clI (i := k1) h1 (by omega)
  have e3 : k1.toNatClampNeg = k.toNatClampNeg + 1 := by omega
  rw [e3]
  exact gO_push h (by rw [e]; omega)
theorem R_at {x2 : Int32} {t0_0 : Int32} {t0_1 : Int32} {t0_2 : Int32} {t0_3 : Int64} {t0_4 : Int32} {t0_5 : Int32} {t0_6 : Int32} {t0_7 : Int32} {t0_8 : Int32} {t0_9 : Int32} {t0_10 : Int32} {t1_0 : (Nat → Int32)} (h : 0 ≤ x2.toInt) : S_DR_at x2 t0_0 t0_1 t0_2 t0_3 t0_4 t0_5 t0_6 t0_7 t0_8 t0_9 t0_10 t1_0 ∧ True := by
  refine ⟨?_, trivial⟩
  unfold S_DR_at
  by_cases c : t0_1 ≤ x2
  · rw [if_pos c]; trivial
  · rw [if_neg c]; exact ⟨h, trivial⟩
def Q_DR_says (t0_10 : Int32) (p : Int32 × Int32 × Int32 × Int32 × Int64 × Int32 × Int32 × Int32 × Int32 × Int32 × Int32 × Int32 × (Nat → Int32)) : Prop := (0 ≤ p.2.2.2.1.toInt ∧ p.2.2.2.1.toInt ≤ 4100) ∧ gO p.2.2.2.2.2.2.2.2.2.2.2.2 p.2.2.2.1.toNatClampNeg ∧ p.2.2.2.2.2.2.2.2.2.2.2.1 = t0_10
theorem v_say1 {K_F_DR_says_L62 : Int32 → Int32 → Int32 → (Nat → Int32) → Int64 → (Int32 × Int32 × Int32 × Int32 × Int64 × Int32 × Int32 × Int32 × Int32 × Int32 × Int32 × Int32 × (Nat → Int32))} {t0_0 : Int32} {t0_1 : Int32} {t0_2 : Int32} {t0_3 : Int64} {t0_4 : Int32} {t0_5 : Int32} {t0_6 : Int32} {t0_7 : Int32} {t0_8 : Int32} {t0_9 : Int32} {t0_10 : Int32} {t1_0 : (Nat → Int32)} {t2_0 : (Nat → Int32)} {lx29 : Int32} {lx47 : Int32} {lx69 : Int32} {lx70 : Int32} {lx71 : Int32} {lx72 : (Nat → Int32)} {lx73 : Int64} {a222 : Int32} {lx230 : Int32} {lx242 : Int32} {K_S_DR_says_L62 : Int32 → Int32 → Int32 → (Nat → Int32) → Int64 → Prop} (hl : 0 ≤ t0_1.toInt ∧ t0_1.toInt ≤ 4100)(h71 : 0 ≤ lx71.toInt ∧ lx71.toInt ≤ 4100) (ho : gO lx72 lx71.toNatClampNeg) : ∀ (n : Nat) (lx255 : Int32) (lx256 : Int64) (lx257 : Int32), (0 ≤ lx255.toInt ∧ lx255.toInt ≤ 11) → (11 - lx255.toInt < (n : Int)) → (0 ≤ lx257.toInt ∧ lx257.toInt ≤ 5000 + lx255.toInt) → (S_DR_says_L247 K_S_DR_says_L62 t0_0 t0_1 t0_2 t0_3 t0_4 t0_5 t0_6 t0_7 t0_8 t0_9 t0_10 t1_0 t2_0 lx29 lx47 lx69 lx70 lx71 lx72 lx73 a222 lx230 lx242 n lx255 lx256 lx257) ∧ Q_DR_says t0_10 (F_DR_says_L247 K_F_DR_says_L62 t0_0 t0_1 t0_2 t0_3 t0_4 t0_5 t0_6 t0_7 t0_8 t0_9 t0_10 t1_0 t2_0 lx29 lx47 lx69 lx70 lx71 lx72 lx73 a222 lx230 lx242 n lx255 lx256 lx257) := by
  intro n
  induction n with
  | zero => intro lx255 lx256 lx257 h0 hm h1; exact absurd (show False by omega) id
  | succ n ih =>
    intro lx255 lx256 lx257 h0 hm h1
    have e0 : (0 : Int32).toInt = 0 := rfl
    have e11 : (11 : Int32).toInt = 11 := rfl
    rw [S_DR_says_L247.eq_2, F_DR_says_L247.eq_2]
    have h1 := R_at (x2 := lx257) (t0_0 := t0_0) (t0_1 := t0_1) (t0_2 := lx71) (t0_3 := lx73) (t0_4 := (0 : Int32)) (t0_5 := lx47) (t0_6 := t0_6) (t0_7 := t0_7) (t0_8 := t0_8) (t0_9 := t0_9) (t0_10 := t0_10) (t1_0 := t1_0) (by first | omega | decide)
    with_reducible refine v_owe h1.1 ?_
    by_cases g2 : ((F_DR_isDigit ((F_DR_at lx257 t0_0 t0_1 lx71 lx73 (0 : Int32) lx47 t0_6 t0_7 t0_8 t0_9 t0_10 t1_0) : Int32)) : Int32) = (0 : Int32)
    ·
      rw [if_pos g2, if_pos g2]
      unfold S_DR_says_J293 F_DR_says_J293
      by_cases g3 : lx255 < (1 : Int32)
      ·
        rw [if_pos g3, if_pos g3]
        have g3i : lx255.toInt < 1 := q_ltI g3
        refine ⟨trivial, ?_⟩
        (unfold Q_DR_says; dsimp only; exact ⟨⟨by omega, by omega⟩, ho, rfl⟩)
      ·
        rw [if_neg g3, if_neg g3]
        have g3i : 1 ≤ lx255.toInt := q_nltI g3
        by_cases g4 : lx255 ≤ (10 : Int32)
        ·
          rw [if_pos g4, if_pos g4]
          have g4i : lx255.toInt ≤ 10 := q_leI g4
          by_cases g5 : lx230 = (0 : Int32)
          ·
            rw [if_pos g5, if_pos g5]
            by_cases g6 : lx257 = t0_1
            ·
              rw [if_pos g6, if_pos g6]
              refine ⟨trivial, ?_⟩
              (unfold Q_DR_says; dsimp only; exact ⟨⟨by omega, by omega⟩, ho, rfl⟩)
            ·
              rw [if_neg g6, if_neg g6]
              refine ⟨trivial, ?_⟩
              (unfold Q_DR_says; dsimp only; exact ⟨⟨by omega, by omega⟩, ho, rfl⟩)
          ·
            rw [if_neg g5, if_neg g5]
            by_cases g7 : lx257 = t0_1
            ·
              rw [if_pos g7, if_pos g7]
              refine ⟨trivial, ?_⟩
              (unfold Q_DR_says; dsimp only; exact ⟨⟨by omega, by omega⟩, ho, rfl⟩)
            ·
              rw [if_neg g7, if_neg g7]
              refine ⟨trivial, ?_⟩
              (unfold Q_DR_says; dsimp only; exact ⟨⟨by omega, by omega⟩, ho, rfl⟩)
        ·
          rw [if_neg g4, if_neg g4]
          have g4i : 10 < lx255.toInt := q_nleI g4
          refine ⟨trivial, ?_⟩
          (unfold Q_DR_says; dsimp only; exact ⟨⟨by omega, by omega⟩, ho, rfl⟩)
    ·
      rw [if_neg g2, if_neg g2]
      have g2d := g_isd g2
      have g2p := g_atd g2
      by_cases g8 : (11 : Int32) ≤ lx255
      ·
        rw [if_pos g8, if_pos g8]
        have g8i : 11 ≤ lx255.toInt := q_leI g8
        unfold S_DR_says_J293 F_DR_says_J293
        by_cases g9 : lx255 < (1 : Int32)
        ·
          rw [if_pos g9, if_pos g9]
          have g9i : lx255.toInt < 1 := q_ltI g9
          refine ⟨trivial, ?_⟩
          (unfold Q_DR_says; dsimp only; exact ⟨⟨by omega, by omega⟩, ho, rfl⟩)
        ·
          rw [if_neg g9, if_neg g9]
          have g9i : 1 ≤ lx255.toInt := q_nltI g9
          by_cases g10 : lx255 ≤ (10 : Int32)
          ·
            rw [if_pos g10, if_pos g10]
            have g10i : lx255.toInt ≤ 10 := q_leI g10
            by_cases g11 : lx230 = (0 : Int32)
            ·
              rw [if_pos g11, if_pos g11]
              by_cases g12 : lx257 = t0_1
              ·
                rw [if_pos g12, if_pos g12]
                refine ⟨trivial, ?_⟩
                (unfold Q_DR_says; dsimp only; exact ⟨⟨by omega, by omega⟩, ho, rfl⟩)
              ·
                rw [if_neg g12, if_neg g12]
                refine ⟨trivial, ?_⟩
                (unfold Q_DR_says; dsimp only; exact ⟨⟨by omega, by omega⟩, ho, rfl⟩)
            ·
              rw [if_neg g11, if_neg g11]
              by_cases g13 : lx257 = t0_1
              ·
                rw [if_pos g13, if_pos g13]
                refine ⟨trivial, ?_⟩
                (unfold Q_DR_says; dsimp only; exact ⟨⟨by omega, by omega⟩, ho, rfl⟩)
              ·
                rw [if_neg g13, if_neg g13]
                refine ⟨trivial, ?_⟩
                (unfold Q_DR_says; dsimp only; exact ⟨⟨by omega, by omega⟩, ho, rfl⟩)
          ·
            rw [if_neg g10, if_neg g10]
            have g10i : 10 < lx255.toInt := q_nleI g10
            refine ⟨trivial, ?_⟩
            (unfold Q_DR_says; dsimp only; exact ⟨⟨by omega, by omega⟩, ho, rfl⟩)
      ·
        rw [if_neg g8, if_neg g8]
        have g8i : lx255.toInt < 11 := q_nleI g8
        with_reducible refine v_owe h1.1 ?_
        obtain ⟨a14, e15⟩ := q_nm (lx255 + 1 : Int32)
        rw [e15]
        have a14i : a14.toInt = lx255.toInt + 1 := by rw [← e15]; exact q_addI (x := lx255.toInt) (y := 1) rfl (by decide) (by omega) (by omega)
        obtain ⟨a16, e17⟩ := q_nm (lx257 + 1 : Int32)
        rw [e17]
        have a16i : a16.toInt = lx257.toInt + 1 := by rw [← e17]; exact q_addI (x := lx257.toInt) (y := 1) rfl (by decide) (by omega) (by omega)
        exact ih _ _ _ (by first | with_reducible assumption | omega | decide) (by first | with_reducible assumption | omega | decide) (by first | with_reducible assumption | omega | decide)
theorem v_say2 {t0_0 : Int32} {t0_1 : Int32} {t0_2 : Int32} {t0_3 : Int64} {t0_4 : Int32} {t0_5 : Int32} {t0_6 : Int32} {t0_7 : Int32} {t0_8 : Int32} {t0_9 : Int32} {t0_10 : Int32} {t1_0 : (Nat → Int32)} {t2_0 : (Nat → Int32)} {lx29 : Int32} {lx47 : Int32} (hl : 0 ≤ t0_1.toInt ∧ t0_1.toInt ≤ 4100) : ∀ (n : Nat) (lx69 : Int32) (lx70 : Int32) (lx71 : Int32) (lx72 : (Nat → Int32)) (lx73 : Int64), (0 ≤ lx70.toInt ∧ lx70.toInt ≤ 4101) → (4102 - lx70.toInt < (n : Int)) → (0 ≤ lx71.toInt ∧ lx71.toInt ≤ lx70.toInt ∧ lx71.toInt ≤ 4100) → (gO lx72 lx71.toNatClampNeg) → (S_DR_says_L62 t0_0 t0_1 t0_2 t0_3 t0_4 t0_5 t0_6 t0_7 t0_8 t0_9 t0_10 t1_0 t2_0 lx29 lx47 n lx69 lx70 lx71 lx72 lx73) ∧ Q_DR_says t0_10 (F_DR_says_L62 t0_0 t0_1 t0_2 t0_3 t0_4 t0_5 t0_6 t0_7 t0_8 t0_9 t0_10 t1_0 t2_0 lx29 lx47 n lx69 lx70 lx71 lx72 lx73) := by
  intro n
  induction n with
  | zero => intro lx69 lx70 lx71 lx72 lx73 h0 hm h1 ho; exact absurd (show False by omega) id
  | succ n ih =>
    intro lx69 lx70 lx71 lx72 lx73 h0 hm h1 ho
    have e0 : (0 : Int32).toInt = 0 := rfl
    have p1 : (lx70 + 1 : Int32).toInt = lx70.toInt + 1 := q_addI (y := 1) rfl (by decide) (by omega) (by omega)
    have p2 : (lx70 + 1 + 1 : Int32).toInt = (lx70.toInt + 1) + 1 := q_addI (y := 1) p1 (by decide) (by omega) (by omega)
    rw [S_DR_says_L62.eq_2, F_DR_says_L62.eq_2]
    have h1 := R_at (x2 := lx70) (t0_0 := t0_0) (t0_1 := t0_1) (t0_2 := lx71) (t0_3 := lx73) (t0_4 := (0 : Int32)) (t0_5 := lx47) (t0_6 := t0_6) (t0_7 := t0_7) (t0_8 := t0_8) (t0_9 := t0_9) (t0_10 := t0_10) (t1_0 := t1_0) (by first | omega | decide)
    with_reducible refine v_owe h1.1 ?_
    by_cases g2 : ((F_DR_isDigit ((F_DR_at lx70 t0_0 t0_1 lx71 lx73 (0 : Int32) lx47 t0_6 t0_7 t0_8 t0_9 t0_10 t1_0) : Int32)) : Int32) = (0 : Int32)
    ·
      rw [if_pos g2, if_pos g2]
      with_reducible refine v_owe h1.1 ?_
      by_cases g3 : ((F_DR_at lx70 t0_0 t0_1 lx71 lx73 (0 : Int32) lx47 t0_6 t0_7 t0_8 t0_9 t0_10 t1_0) : Int32) = (46 : Int32)
      ·
        rw [if_pos g3, if_pos g3]
        have g3p := g_at46 g3
        by_cases g4 : lx69 = (0 : Int32)
        ·
          rw [if_pos g4, if_pos g4]
          unfold S_DR_says_J87 F_DR_says_J87
          rw [if_pos g4, if_pos g4]
          with_reducible refine v_owe h1.1 ?_
          rw [if_pos g3, if_pos g3]
          unfold S_DR_says_J101 F_DR_says_J101
          unfold S_DR_says_J106 F_DR_says_J106
          with_reducible refine v_owe h1.1 ?_
          rw [if_pos g3, if_pos g3]
          obtain ⟨a5, e6⟩ := q_nm (lx70 + 1 : Int32)
          rw [e6]
          have a5i : a5.toInt = lx70.toInt + 1 := by rw [← e6]; exact q_addI (x := lx70.toInt) (y := 1) rfl (by decide) (by omega) (by omega)
          exact ih _ _ _ _ _ ⟨by omega, by omega⟩ (by omega) ⟨by omega, by omega, by omega⟩ ho
        ·
          rw [if_neg g4, if_neg g4]
          unfold S_DR_says_J171 F_DR_says_J171
          by_cases g7 : lx71 = (0 : Int32)
          ·
            rw [if_pos g7, if_pos g7]
            have g7i : lx71.toInt = 0 := q_eqI g7
            refine ⟨trivial, ?_⟩
            (unfold Q_DR_says; dsimp only; exact ⟨⟨by omega, by omega⟩, ho, rfl⟩)
          ·
            rw [if_neg g7, if_neg g7]
            have g7i : lx71.toInt ≠ 0 := q_neI g7
            with_reducible refine v_owe h1.1 ?_
            by_cases g8 : ((F_DR_at lx70 t0_0 t0_1 lx71 lx73 (0 : Int32) lx47 t0_6 t0_7 t0_8 t0_9 t0_10 t1_0) : Int32) = (101 : Int32)
            ·
              rw [if_pos g8, if_pos g8]
              unfold S_DR_says_J200 F_DR_says_J200
              have h9 := R_at (x2 := (lx70 + 1 : Int32)) (t0_0 := t0_0) (t0_1 := t0_1) (t0_2 := lx71) (t0_3 := lx73) (t0_4 := (0 : Int32)) (t0_5 := lx47) (t0_6 := t0_6) (t0_7 := t0_7) (t0_8 := t0_8) (t0_9 := t0_9) (t0_10 := t0_10) (t1_0 := t1_0) (by first | omega | decide)
              with_reducible refine v_owe h9.1 ?_
              by_cases g10 : ((F_DR_at (lx70 + 1 : Int32) t0_0 t0_1 lx71 lx73 (0 : Int32) lx47 t0_6 t0_7 t0_8 t0_9 t0_10 t1_0) : Int32) = (45 : Int32)
              ·
                rw [if_pos g10, if_pos g10]
                unfold S_DR_says_J218 F_DR_says_J218
                have g11 : ¬ ((1 : Int32) = (0 : Int32)) := (by decide)
                rw [if_neg g11, if_neg g11]
                unfold S_DR_says_J233 F_DR_says_J233
                unfold S_DR_says_J240 F_DR_says_J240
                exact v_say1 hl ⟨by omega, by omega⟩ ho _ _ _ _ (by decide) (by decide) ⟨by omega, by omega⟩
              ·
                rw [if_neg g10, if_neg g10]
                unfold S_DR_says_J218 F_DR_says_J218
                have g12 : ((0 : Int32) = (0 : Int32)) := (by decide)
                rw [if_pos g12, if_pos g12]
                with_reducible refine v_owe h9.1 ?_
                by_cases g13 : ((F_DR_at (lx70 + 1 : Int32) t0_0 t0_1 lx71 lx73 (0 : Int32) lx47 t0_6 t0_7 t0_8 t0_9 t0_10 t1_0) : Int32) = (43 : Int32)
                ·
                  rw [if_pos g13, if_pos g13]
                  unfold S_DR_says_J233 F_DR_says_J233
                  unfold S_DR_says_J240 F_DR_says_J240
                  exact v_say1 hl ⟨by omega, by omega⟩ ho _ _ _ _ (by decide) (by decide) ⟨by omega, by omega⟩
                ·
                  rw [if_neg g13, if_neg g13]
                  unfold S_DR_says_J240 F_DR_says_J240
                  exact v_say1 hl ⟨by omega, by omega⟩ ho _ _ _ _ (by decide) (by decide) ⟨by omega, by omega⟩
            ·
              rw [if_neg g8, if_neg g8]
              with_reducible refine v_owe h1.1 ?_
              by_cases g14 : ((F_DR_at lx70 t0_0 t0_1 lx71 lx73 (0 : Int32) lx47 t0_6 t0_7 t0_8 t0_9 t0_10 t1_0) : Int32) = (69 : Int32)
              ·
                rw [if_pos g14, if_pos g14]
                unfold S_DR_says_J200 F_DR_says_J200
                have h15 := R_at (x2 := (lx70 + 1 : Int32)) (t0_0 := t0_0) (t0_1 := t0_1) (t0_2 := lx71) (t0_3 := lx73) (t0_4 := (0 : Int32)) (t0_5 := lx47) (t0_6 := t0_6) (t0_7 := t0_7) (t0_8 := t0_8) (t0_9 := t0_9) (t0_10 := t0_10) (t1_0 := t1_0) (by first | omega | decide)
                with_reducible refine v_owe h15.1 ?_
                by_cases g16 : ((F_DR_at (lx70 + 1 : Int32) t0_0 t0_1 lx71 lx73 (0 : Int32) lx47 t0_6 t0_7 t0_8 t0_9 t0_10 t1_0) : Int32) = (45 : Int32)
                ·
                  rw [if_pos g16, if_pos g16]
                  unfold S_DR_says_J218 F_DR_says_J218
                  have g17 : ¬ ((1 : Int32) = (0 : Int32)) := (by decide)
                  rw [if_neg g17, if_neg g17]
                  unfold S_DR_says_J233 F_DR_says_J233
                  unfold S_DR_says_J240 F_DR_says_J240
                  exact v_say1 hl ⟨by omega, by omega⟩ ho _ _ _ _ (by decide) (by decide) ⟨by omega, by omega⟩
                ·
                  rw [if_neg g16, if_neg g16]
                  unfold S_DR_says_J218 F_DR_says_J218
                  have g18 : ((0 : Int32) = (0 : Int32)) := (by decide)
                  rw [if_pos g18, if_pos g18]
                  with_reducible refine v_owe h15.1 ?_
                  by_cases g19 : ((F_DR_at (lx70 + 1 : Int32) t0_0 t0_1 lx71 lx73 (0 : Int32) lx47 t0_6 t0_7 t0_8 t0_9 t0_10 t1_0) : Int32) = (43 : Int32)
                  ·
                    rw [if_pos g19, if_pos g19]
                    unfold S_DR_says_J233 F_DR_says_J233
                    unfold S_DR_says_J240 F_DR_says_J240
                    exact v_say1 hl ⟨by omega, by omega⟩ ho _ _ _ _ (by decide) (by decide) ⟨by omega, by omega⟩
                  ·
                    rw [if_neg g19, if_neg g19]
                    unfold S_DR_says_J240 F_DR_says_J240
                    exact v_say1 hl ⟨by omega, by omega⟩ ho _ _ _ _ (by decide) (by decide) ⟨by omega, by omega⟩
              ·
                rw [if_neg g14, if_neg g14]
                by_cases g20 : lx70 = t0_1
                ·
                  rw [if_pos g20, if_pos g20]
                  refine ⟨trivial, ?_⟩
                  (unfold Q_DR_says; dsimp only; exact ⟨⟨by omega, by omega⟩, ho, rfl⟩)
                ·
                  rw [if_neg g20, if_neg g20]
                  refine ⟨trivial, ?_⟩
                  (unfold Q_DR_says; dsimp only; exact ⟨⟨by omega, by omega⟩, ho, rfl⟩)
      ·
        rw [if_neg g3, if_neg g3]
        unfold S_DR_says_J171 F_DR_says_J171
        by_cases g21 : lx71 = (0 : Int32)
        ·
          rw [if_pos g21, if_pos g21]
          have g21i : lx71.toInt = 0 := q_eqI g21
          refine ⟨trivial, ?_⟩
          (unfold Q_DR_says; dsimp only; exact ⟨⟨by omega, by omega⟩, ho, rfl⟩)
        ·
          rw [if_neg g21, if_neg g21]
          have g21i : lx71.toInt ≠ 0 := q_neI g21
          with_reducible refine v_owe h1.1 ?_
          by_cases g22 : ((F_DR_at lx70 t0_0 t0_1 lx71 lx73 (0 : Int32) lx47 t0_6 t0_7 t0_8 t0_9 t0_10 t1_0) : Int32) = (101 : Int32)
          ·
            rw [if_pos g22, if_pos g22]
            unfold S_DR_says_J200 F_DR_says_J200
            have h23 := R_at (x2 := (lx70 + 1 : Int32)) (t0_0 := t0_0) (t0_1 := t0_1) (t0_2 := lx71) (t0_3 := lx73) (t0_4 := (0 : Int32)) (t0_5 := lx47) (t0_6 := t0_6) (t0_7 := t0_7) (t0_8 := t0_8) (t0_9 := t0_9) (t0_10 := t0_10) (t1_0 := t1_0) (by first | omega | decide)
            with_reducible refine v_owe h23.1 ?_
            by_cases g24 : ((F_DR_at (lx70 + 1 : Int32) t0_0 t0_1 lx71 lx73 (0 : Int32) lx47 t0_6 t0_7 t0_8 t0_9 t0_10 t1_0) : Int32) = (45 : Int32)
            ·
              rw [if_pos g24, if_pos g24]
              unfold S_DR_says_J218 F_DR_says_J218
              have g25 : ¬ ((1 : Int32) = (0 : Int32)) := (by decide)
              rw [if_neg g25, if_neg g25]
              unfold S_DR_says_J233 F_DR_says_J233
              unfold S_DR_says_J240 F_DR_says_J240
              exact v_say1 hl ⟨by omega, by omega⟩ ho _ _ _ _ (by decide) (by decide) ⟨by omega, by omega⟩
            ·
              rw [if_neg g24, if_neg g24]
              unfold S_DR_says_J218 F_DR_says_J218
              have g26 : ((0 : Int32) = (0 : Int32)) := (by decide)
              rw [if_pos g26, if_pos g26]
              with_reducible refine v_owe h23.1 ?_
              by_cases g27 : ((F_DR_at (lx70 + 1 : Int32) t0_0 t0_1 lx71 lx73 (0 : Int32) lx47 t0_6 t0_7 t0_8 t0_9 t0_10 t1_0) : Int32) = (43 : Int32)
              ·
                rw [if_pos g27, if_pos g27]
                unfold S_DR_says_J233 F_DR_says_J233
                unfold S_DR_says_J240 F_DR_says_J240
                exact v_say1 hl ⟨by omega, by omega⟩ ho _ _ _ _ (by decide) (by decide) ⟨by omega, by omega⟩
              ·
                rw [if_neg g27, if_neg g27]
                unfold S_DR_says_J240 F_DR_says_J240
                exact v_say1 hl ⟨by omega, by omega⟩ ho _ _ _ _ (by decide) (by decide) ⟨by omega, by omega⟩
          ·
            rw [if_neg g22, if_neg g22]
            with_reducible refine v_owe h1.1 ?_
            by_cases g28 : ((F_DR_at lx70 t0_0 t0_1 lx71 lx73 (0 : Int32) lx47 t0_6 t0_7 t0_8 t0_9 t0_10 t1_0) : Int32) = (69 : Int32)
            ·
              rw [if_pos g28, if_pos g28]
              unfold S_DR_says_J200 F_DR_says_J200
              have h29 := R_at (x2 := (lx70 + 1 : Int32)) (t0_0 := t0_0) (t0_1 := t0_1) (t0_2 := lx71) (t0_3 := lx73) (t0_4 := (0 : Int32)) (t0_5 := lx47) (t0_6 := t0_6) (t0_7 := t0_7) (t0_8 := t0_8) (t0_9 := t0_9) (t0_10 := t0_10) (t1_0 := t1_0) (by first | omega | decide)
              with_reducible refine v_owe h29.1 ?_
              by_cases g30 : ((F_DR_at (lx70 + 1 : Int32) t0_0 t0_1 lx71 lx73 (0 : Int32) lx47 t0_6 t0_7 t0_8 t0_9 t0_10 t1_0) : Int32) = (45 : Int32)
              ·
                rw [if_pos g30, if_pos g30]
                unfold S_DR_says_J218 F_DR_says_J218
                have g31 : ¬ ((1 : Int32) = (0 : Int32)) := (by decide)
                rw [if_neg g31, if_neg g31]
                unfold S_DR_says_J233 F_DR_says_J233
                unfold S_DR_says_J240 F_DR_says_J240
                exact v_say1 hl ⟨by omega, by omega⟩ ho _ _ _ _ (by decide) (by decide) ⟨by omega, by omega⟩
              ·
                rw [if_neg g30, if_neg g30]
                unfold S_DR_says_J218 F_DR_says_J218
                have g32 : ((0 : Int32) = (0 : Int32)) := (by decide)
                rw [if_pos g32, if_pos g32]
                with_reducible refine v_owe h29.1 ?_
                by_cases g33 : ((F_DR_at (lx70 + 1 : Int32) t0_0 t0_1 lx71 lx73 (0 : Int32) lx47 t0_6 t0_7 t0_8 t0_9 t0_10 t1_0) : Int32) = (43 : Int32)
                ·
                  rw [if_pos g33, if_pos g33]
                  unfold S_DR_says_J233 F_DR_says_J233
                  unfold S_DR_says_J240 F_DR_says_J240
                  exact v_say1 hl ⟨by omega, by omega⟩ ho _ _ _ _ (by decide) (by decide) ⟨by omega, by omega⟩
                ·
                  rw [if_neg g33, if_neg g33]
                  unfold S_DR_says_J240 F_DR_says_J240
                  exact v_say1 hl ⟨by omega, by omega⟩ ho _ _ _ _ (by decide) (by decide) ⟨by omega, by omega⟩
            ·
              rw [if_neg g28, if_neg g28]
              by_cases g34 : lx70 = t0_1
              ·
                rw [if_pos g34, if_pos g34]
                refine ⟨trivial, ?_⟩
                (unfold Q_DR_says; dsimp only; exact ⟨⟨by omega, by omega⟩, ho, rfl⟩)
              ·
                rw [if_neg g34, if_neg g34]
                refine ⟨trivial, ?_⟩
                (unfold Q_DR_says; dsimp only; exact ⟨⟨by omega, by omega⟩, ho, rfl⟩)
    ·
      rw [if_neg g2, if_neg g2]
      have g2d := g_isd g2
      have g2p := g_atd g2
      unfold S_DR_says_J87 F_DR_says_J87
      by_cases g35 : lx69 = (0 : Int32)
      ·
        rw [if_pos g35, if_pos g35]
        with_reducible refine v_owe h1.1 ?_
        by_cases g36 : ((F_DR_at lx70 t0_0 t0_1 lx71 lx73 (0 : Int32) lx47 t0_6 t0_7 t0_8 t0_9 t0_10 t1_0) : Int32) = (46 : Int32)
        ·
          rw [if_pos g36, if_pos g36]
          have g36p := g_at46 g36
          unfold S_DR_says_J101 F_DR_says_J101
          unfold S_DR_says_J106 F_DR_says_J106
          with_reducible refine v_owe h1.1 ?_
          rw [if_pos g36, if_pos g36]
          obtain ⟨a37, e38⟩ := q_nm (lx70 + 1 : Int32)
          rw [e38]
          have a37i : a37.toInt = lx70.toInt + 1 := by rw [← e38]; exact q_addI (x := lx70.toInt) (y := 1) rfl (by decide) (by omega) (by omega)
          exact ih _ _ _ _ _ ⟨by omega, by omega⟩ (by omega) ⟨by omega, by omega, by omega⟩ ho
        ·
          rw [if_neg g36, if_neg g36]
          unfold S_DR_says_J106 F_DR_says_J106
          with_reducible refine v_owe h1.1 ?_
          rw [if_neg g36, if_neg g36]
          with_reducible refine v_owe h1.1 ?_
          refine v_cons (by omega) ?_
          have g39 : ((0 : Int32) = (0 : Int32)) := (by decide)
          rw [if_pos g39, if_pos g39]
          obtain ⟨a40, e41⟩ := q_nm (lx70 + 1 : Int32)
          rw [e41]
          have a40i : a40.toInt = lx70.toInt + 1 := by rw [← e41]; exact q_addI (x := lx70.toInt) (y := 1) rfl (by decide) (by omega) (by omega)
          obtain ⟨a42, e43⟩ := q_nm (lx71 + 1 : Int32)
          rw [e43]
          have a42i : a42.toInt = lx71.toInt + 1 := by rw [← e43]; exact q_addI (x := lx71.toInt) (y := 1) rfl (by decide) (by omega) (by omega)
          exact ih _ _ _ _ _ ⟨by omega, by omega⟩ (by omega) ⟨by omega, by omega, by omega⟩ (g_sayU ho (by omega) a42i (by with_reducible assumption))
      ·
        rw [if_neg g35, if_neg g35]
        unfold S_DR_says_J101 F_DR_says_J101
        unfold S_DR_says_J106 F_DR_says_J106
        with_reducible refine v_owe h1.1 ?_
        by_cases g44 : ((F_DR_at lx70 t0_0 t0_1 lx71 lx73 (0 : Int32) lx47 t0_6 t0_7 t0_8 t0_9 t0_10 t1_0) : Int32) = (46 : Int32)
        ·
          rw [if_pos g44, if_pos g44]
          have g44p := g_at46 g44
          obtain ⟨a45, e46⟩ := q_nm (lx70 + 1 : Int32)
          rw [e46]
          have a45i : a45.toInt = lx70.toInt + 1 := by rw [← e46]; exact q_addI (x := lx70.toInt) (y := 1) rfl (by decide) (by omega) (by omega)
          exact ih _ _ _ _ _ ⟨by omega, by omega⟩ (by omega) ⟨by omega, by omega, by omega⟩ ho
        ·
          rw [if_neg g44, if_neg g44]
          with_reducible refine v_owe h1.1 ?_
          refine v_cons (by omega) ?_
          have g47 : ¬ ((1 : Int32) = (0 : Int32)) := (by decide)
          rw [if_neg g47, if_neg g47]
          obtain ⟨a48, e49⟩ := q_nm (lx70 + 1 : Int32)
          rw [e49]
          have a48i : a48.toInt = lx70.toInt + 1 := by rw [← e49]; exact q_addI (x := lx70.toInt) (y := 1) rfl (by decide) (by omega) (by omega)
          obtain ⟨a50, e51⟩ := q_nm (lx71 + 1 : Int32)
          rw [e51]
          have a50i : a50.toInt = lx71.toInt + 1 := by rw [← e51]; exact q_addI (x := lx71.toInt) (y := 1) rfl (by decide) (by omega) (by omega)
          exact ih _ _ _ _ _ ⟨by omega, by omega⟩ (by omega) ⟨by omega, by omega, by omega⟩ (g_sayU ho (by omega) a50i (by with_reducible assumption))
theorem T_DR_says {t0_0 : Int32} {t0_1 : Int32} {t0_2 : Int32} {t0_3 : Int64} {t0_4 : Int32} {t0_5 : Int32} {t0_6 : Int32} {t0_7 : Int32} {t0_8 : Int32} {t0_9 : Int32} {t0_10 : Int32} {t1_0 : (Nat → Int32)} {t2_0 : (Nat → Int32)} (hl : 0 ≤ t0_1.toInt ∧ t0_1.toInt ≤ 4100) : (S_DR_says t0_0 t0_1 t0_2 t0_3 t0_4 t0_5 t0_6 t0_7 t0_8 t0_9 t0_10 t1_0 t2_0) ∧ Q_DR_says t0_10 (F_DR_says t0_0 t0_1 t0_2 t0_3 t0_4 t0_5 t0_6 t0_7 t0_8 t0_9 t0_10 t1_0 t2_0) := by
  have e0 : (0 : Int32).toInt = 0 := rfl
  unfold S_DR_says F_DR_says
  have h1 := R_at (x2 := (0 : Int32)) (t0_0 := t0_0) (t0_1 := t0_1) (t0_2 := t0_2) (t0_3 := t0_3) (t0_4 := t0_4) (t0_5 := t0_5) (t0_6 := t0_6) (t0_7 := t0_7) (t0_8 := t0_8) (t0_9 := t0_9) (t0_10 := t0_10) (t1_0 := t1_0) (by first | omega | decide)
  with_reducible refine v_owe h1.1 ?_
  by_cases g2 : ((F_DR_at (0 : Int32) t0_0 t0_1 t0_2 t0_3 t0_4 t0_5 t0_6 t0_7 t0_8 t0_9 t0_10 t1_0) : Int32) = (43 : Int32)
  ·
    rw [if_pos g2, if_pos g2]
    unfold S_DR_says_J20 F_DR_says_J20
    unfold S_DR_says_J25 F_DR_says_J25
    with_reducible refine v_owe h1.1 ?_
    by_cases g3 : ((F_DR_at (0 : Int32) t0_0 t0_1 t0_2 t0_3 t0_4 t0_5 t0_6 t0_7 t0_8 t0_9 t0_10 t1_0) : Int32) = (45 : Int32)
    ·
      rw [if_pos g3, if_pos g3]
      unfold S_DR_says_J42 F_DR_says_J42
      exact v_say2 hl _ _ _ _ _ _ (by decide) (by decide) (by decide) (fun i hi => by have e : (0 : Int32).toNatClampNeg = 0 := rfl; omega)
    ·
      rw [if_neg g3, if_neg g3]
      unfold S_DR_says_J42 F_DR_says_J42
      exact v_say2 hl _ _ _ _ _ _ (by decide) (by decide) (by decide) (fun i hi => by have e : (0 : Int32).toNatClampNeg = 0 := rfl; omega)
  ·
    rw [if_neg g2, if_neg g2]
    with_reducible refine v_owe h1.1 ?_
    by_cases g4 : ((F_DR_at (0 : Int32) t0_0 t0_1 t0_2 t0_3 t0_4 t0_5 t0_6 t0_7 t0_8 t0_9 t0_10 t1_0) : Int32) = (45 : Int32)
    ·
      rw [if_pos g4, if_pos g4]
      unfold S_DR_says_J20 F_DR_says_J20
      unfold S_DR_says_J25 F_DR_says_J25
      with_reducible refine v_owe h1.1 ?_
      rw [if_pos g4, if_pos g4]
      unfold S_DR_says_J42 F_DR_says_J42
      exact v_say2 hl _ _ _ _ _ _ (by decide) (by decide) (by decide) (fun i hi => by have e : (0 : Int32).toNatClampNeg = 0 := rfl; omega)
    ·
      rw [if_neg g4, if_neg g4]
      unfold S_DR_says_J25 F_DR_says_J25
      with_reducible refine v_owe h1.1 ?_
      rw [if_neg g4, if_neg g4]
      unfold S_DR_says_J42 F_DR_says_J42
      exact v_say2 hl _ _ _ _ _ _ (by decide) (by decide) (by decide) (fun i hi => by have e : (0 : Int32).toNatClampNeg = 0 := rfl; omega)
def Q_DR_read (p : Int32 × Int32 × Int32 × Int64 × Int32 × Int32 × Int32 × Int32 × Int32 × Int32 × Int32 × (Nat → Int32) × (Nat → Int32) × (Nat → Int32) × (Nat → Int32) × (Nat → Int32)) : Prop := gR p.2.2.2.2.2.2.2.2.2.2.2.1 p.2.2.2.2.2.2.2.2.2.2.2.2.1 p.2.2.2.2.2.2.2.2.2.2.2.2.2.1 p.2.2.2.2.2.2.2.2.2.2.2.2.2.2.1
theorem T_DR_read {x2 : Int32} {t0_0 : Int32} {t0_1 : Int32} {t0_2 : Int32} {t0_3 : Int64} {t0_4 : Int32} {t0_5 : Int32} {t0_6 : Int32} {t0_7 : Int32} {t0_8 : Int32} {t0_9 : Int32} {t0_10 : Int32} {t1_0 : (Nat → Int32)} {t2_0 : (Nat → Int32)} {t3_0 : (Nat → Int32)} {t4_0 : (Nat → Int32)} {t5_0 : (Nat → Int32)} {t6_0 : (Nat → Int32)} (hR : gR t2_0 t3_0 t4_0 t5_0)(hl : 0 ≤ t0_1.toInt ∧ t0_1.toInt ≤ 4100) : (S_DR_read x2 t0_0 t0_1 t0_2 t0_3 t0_4 t0_5 t0_6 t0_7 t0_8 t0_9 t0_10 t1_0 t2_0 t3_0 t4_0 t5_0 t6_0) ∧ Q_DR_read (F_DR_read x2 t0_0 t0_1 t0_2 t0_3 t0_4 t0_5 t0_6 t0_7 t0_8 t0_9 t0_10 t1_0 t2_0 t3_0 t4_0 t5_0 t6_0) := by
  have e0 : (0 : Int32).toInt = 0 := rfl
  unfold S_DR_read F_DR_read
  by_cases g1 : ((F_DR_no x2) : Int32) = (0 : Int32)
  ·
    rw [if_pos g1, if_pos g1]
    have g1r := g_no g1
    have h2 := T_DR_says (t0_0 := t0_0) (t0_1 := t0_1) (t0_2 := t0_2) (t0_3 := t0_3) (t0_4 := t0_4) (t0_5 := t0_5) (t0_6 := t0_6) (t0_7 := t0_7) (t0_8 := t0_8) (t0_9 := t0_9) (t0_10 := t0_10) (t1_0 := t1_0) (t2_0 := t6_0) hl
    with_reducible refine v_owe h2.1 ?_
    replace h2 := h2.2
    generalize F_DR_says t0_0 t0_1 t0_2 t0_3 t0_4 t0_5 t0_6 t0_7 t0_8 t0_9 t0_10 t1_0 t6_0 = p219 at *
    unfold Q_DR_says at h2
    obtain ⟨h21, h2g, h22⟩ := h2
    unfold S_DR_read_c13 F_DR_read_c13
    by_cases g3 : (p219.1 : Int32) = (0 : Int32)
    ·
      rw [if_pos g3, if_pos g3]
      unfold S_DR_read_J24 F_DR_read_J24
      have g4 : ¬ ((2 : Int32) = (0 : Int32)) := (by decide)
      rw [if_neg g4, if_neg g4]
      refine ⟨trivial, ?_⟩
      (unfold Q_DR_read; dsimp only; with_reducible assumption)
    ·
      rw [if_neg g3, if_neg g3]
      unfold S_DR_read_J24 F_DR_read_J24
      have g5 : ((0 : Int32) = (0 : Int32)) := (by decide)
      rw [if_pos g5, if_pos g5]
      have h6 := T_DR_store (x2 := x2) (t0_0 := (0 : Int32)) (t0_1 := (p219.2.2.1 : Int32)) (t0_2 := (p219.2.2.2.1 : Int32)) (t0_3 := (p219.2.2.2.2.1 : Int64)) (t0_4 := (p219.2.2.2.2.2.1 : Int32)) (t0_5 := (p219.2.2.2.2.2.2.1 : Int32)) (t0_6 := (p219.2.2.2.2.2.2.2.1 : Int32)) (t0_7 := (p219.2.2.2.2.2.2.2.2.1 : Int32)) (t0_8 := (p219.2.2.2.2.2.2.2.2.2.1 : Int32)) (t0_9 := (p219.2.2.2.2.2.2.2.2.2.2.1 : Int32)) (t0_10 := (3 : Int32)) (t1_0 := t2_0) (t2_0 := t3_0) (t3_0 := t4_0) (t4_0 := t5_0) (t5_0 := (p219.2.2.2.2.2.2.2.2.2.2.2.2 : (Nat → Int32))) (by with_reducible assumption) (by with_reducible assumption) ⟨by first | omega | decide, by first | omega | decide⟩ (by first | with_reducible assumption | exact g_cl (by with_reducible assumption) (by omega) (by omega) | omega | decide)
      with_reducible refine v_owe h6.1 ?_
      replace h6 := h6.2
      generalize F_DR_store x2 (0 : Int32) (p219.2.2.1 : Int32) (p219.2.2.2.1 : Int32) (p219.2.2.2.2.1 : Int64) (p219.2.2.2.2.2.1 : Int32) (p219.2.2.2.2.2.2.1 : Int32) (p219.2.2.2.2.2.2.2.1 : Int32) (p219.2.2.2.2.2.2.2.2.1 : Int32) (p219.2.2.2.2.2.2.2.2.2.1 : Int32) (p219.2.2.2.2.2.2.2.2.2.2.1 : Int32) (3 : Int32) t2_0 t3_0 t4_0 t5_0 (p219.2.2.2.2.2.2.2.2.2.2.2.2 : (Nat → Int32)) = p145 at *
      unfold Q_DR_store at h6
      unfold S_DR_read_c41 F_DR_read_c41
      by_cases g7 : (p145.1 : Int32) = (0 : Int32)
      ·
        rw [if_pos g7, if_pos g7]
        refine ⟨trivial, ?_⟩
        (unfold Q_DR_read; dsimp only; with_reducible assumption)
      ·
        rw [if_neg g7, if_neg g7]
        refine ⟨trivial, ?_⟩
        (unfold Q_DR_read; dsimp only; with_reducible assumption)
  ·
    rw [if_neg g1, if_neg g1]
    unfold S_DR_read_J24 F_DR_read_J24
    have g8 : ¬ ((1 : Int32) = (0 : Int32)) := (by decide)
    rw [if_neg g8, if_neg g8]
    refine ⟨trivial, ?_⟩
    (unfold Q_DR_read; dsimp only; with_reducible assumption)
theorem g_r10 {x : Int64} : -9 ≤ (x - x / 10 * 10 : Int64).toInt ∧ (x - x / 10 * 10 : Int64).toInt ≤ 9 := by
  have d := n_divL (a := x) (b := 10) (n := 10) rfl (by decide)
  have l1 := Int64.le_toInt x
  have l2 := Int64.toInt_lt x
  have e1 : (x / 10 * 10 : Int64).toInt = (x / 10).toInt * 10 := q_mulL (y := 10) rfl (by decide) (by omega) (by omega)
  have e2 : (x - x / 10 * 10 : Int64).toInt = x.toInt - (x / 10).toInt * 10 := q_subL rfl e1 (by omega) (by omega)
  omega
theorem g_putA {x : Int64} (h : (0 : Int64).toInt ≤ (x - x / 10 * 10 : Int64).toInt) : 0 ≤ ((x - x / 10 * 10 : Int64).toInt32).toInt ∧ ((x - x / 10 * 10 : Int64).toInt32).toInt ≤ 9 := by
  have h1 := g_r10 (x := x)
  have e : (0 : Int64).toInt = 0 := rfl
  rw [s_l2i (by omega) (by omega)]
  omega
theorem g_putB {x : Int64} (h : (x - x / 10 * 10 : Int64).toInt < (0 : Int64).toInt) : 0 ≤ ((-(x - x / 10 * 10) : Int64).toInt32).toInt ∧ ((-(x - x / 10 * 10) : Int64).toInt32).toInt ≤ 9 := by
  have h1 := g_r10 (x := x)
  have e : (0 : Int64).toInt = 0 := rfl
  have e2 := w_negL (a := x - x / 10 * 10) rfl (by omega)
  rw [s_l2i (by omega) (by omega), e2]
  omega
theorem g_putU {f : Nat → Int32} {k k1 c : Int32} (hk : 0 ≤ k.toInt) (h1 : k1.toInt = k.toInt + (-1)) (h : ∀ i : Nat, k.toInt < i → i < 19 → 0 ≤ (f i).toInt ∧ (f i).toInt ≤ 9) (hc : 0 ≤ c.toInt ∧ c.toInt ≤ 9) : ∀ i : Nat, k1.toInt < i → i < 19 → 0 ≤ (upd f k.toNatClampNeg c i).toInt ∧ (upd f k.toNatClampNeg c i).toInt ≤ 9 := fun i hi hj => by
  have e1 := q_clI (i := k) rfl hk
  by_cases e : i = k.toNatClampNeg
  · rw [e, v_eq]; exact hc
  · rw [v_ne e]; exact h i (by omega) hj
def Q_DR_put (p : Int32 × Int32 × Int32 × Int64 × Int32 × Int32 × Int32 × Int32 × Int32 × Int32 × Int32 × (Nat → Int32) × (Nat → Int32) × (Nat → Int32) × (Nat → Int32) × (Nat → Int32)) : Prop := gR p.2.2.2.2.2.2.2.2.2.2.2.1 p.2.2.2.2.2.2.2.2.2.2.2.2.1 p.2.2.2.2.2.2.2.2.2.2.2.2.2.1 p.2.2.2.2.2.2.2.2.2.2.2.2.2.2.1
theorem v_put {x2 : Int32} {x3 : Int64} {x4 : Int32} {t0_0 : Int32} {t0_1 : Int32} {t0_2 : Int32} {t0_3 : Int64} {t0_4 : Int32} {t0_5 : Int32} {t0_6 : Int32} {t0_7 : Int32} {t0_8 : Int32} {t0_9 : Int32} {t0_10 : Int32} {t1_0 : (Nat → Int32)} {t2_0 : (Nat → Int32)} {t3_0 : (Nat → Int32)} {t4_0 : (Nat → Int32)} {t5_0 : (Nat → Int32)} {lx39 : Int32} {lx63 : Int32} {j82 : Int64} (hR : gR t1_0 t2_0 t3_0 t4_0)(hx : 0 ≤ x2.toInt ∧ x2.toInt ≤ 9) : ∀ (n : Nat) (lx91 : Int32) (lx92 : Int64) (lx93 : (Nat → Int32)), (-1 ≤ lx91.toInt ∧ lx91.toInt ≤ 18) → (lx91.toInt + 1 < (n : Int)) → (∀ i : Nat, lx91.toInt < i → i < 19 → 0 ≤ (lx93 i).toInt ∧ (lx93 i).toInt ≤ 9) → (S_DR_put_L69 x2 x3 x4 t0_0 t0_1 t0_2 t0_3 t0_4 t0_5 t0_6 t0_7 t0_8 t0_9 t0_10 t1_0 t2_0 t3_0 t4_0 t5_0 lx39 lx63 j82 n lx91 lx92 lx93) ∧ Q_DR_put (F_DR_put_L69 x2 x3 x4 t0_0 t0_1 t0_2 t0_3 t0_4 t0_5 t0_6 t0_7 t0_8 t0_9 t0_10 t1_0 t2_0 t3_0 t4_0 t5_0 lx39 lx63 j82 n lx91 lx92 lx93) := by
  intro n
  induction n with
  | zero => intro lx91 lx92 lx93 h0 hm ho; exact absurd (show False by omega) id
  | succ n ih =>
    intro lx91 lx92 lx93 h0 hm ho
    have e0 : (0 : Int32).toInt = 0 := rfl
    have eL0 : (0 : Int64).toInt = 0 := rfl
    have eL1 : (10000 : Int64).toInt = 10000 := rfl
    have eL2 : (-10000 : Int64).toInt = -10000 := rfl
    have eL3 : (1000 : Int64).toInt = 1000 := rfl
    have eL4 : (-1 : Int64).toInt = -1 := rfl
    have eI3 : (1000 : Int32).toInt = 1000 := rfl
    rw [S_DR_put_L69.eq_2, F_DR_put_L69.eq_2]
    by_cases g1 : lx91 < (0 : Int32)
    ·
      rw [if_pos g1, if_pos g1]
      have g1i : lx91.toInt < 0 := q_ltI g1
      have h2 := T_DR_store (x2 := x2) (t0_0 := lx39) (t0_1 := t0_1) (t0_2 := (19 : Int32)) (t0_3 := j82) (t0_4 := (0 : Int32)) (t0_5 := lx63) (t0_6 := t0_6) (t0_7 := t0_7) (t0_8 := t0_8) (t0_9 := t0_9) (t0_10 := (2 : Int32)) (t1_0 := t1_0) (t2_0 := t2_0) (t3_0 := t3_0) (t4_0 := t4_0) (t5_0 := lx93) (by with_reducible assumption) (by with_reducible assumption) (by decide) (fun i hi => ho i (by omega) hi)
      with_reducible refine v_owe h2.1 ?_
      replace h2 := h2.2
      generalize F_DR_store x2 lx39 t0_1 (19 : Int32) j82 (0 : Int32) lx63 t0_6 t0_7 t0_8 t0_9 (2 : Int32) t1_0 t2_0 t3_0 t4_0 lx93 = p160 at *
      unfold Q_DR_store at h2
      unfold S_DR_put_c121 F_DR_put_c121
      refine ⟨trivial, ?_⟩
      (unfold Q_DR_put; dsimp only; with_reducible assumption)
    ·
      rw [if_neg g1, if_neg g1]
      have g1i : 0 ≤ lx91.toInt := q_nltI g1
      by_cases g3 : (0 : Int32) ≤ (lg_cmp (lx92 - lx92 / 10 * 10 : Int64) 0 : Int32)
      ·
        rw [if_pos g3, if_pos g3]
        have g3l := g_lc5 g3
        obtain ⟨a4, e5⟩ := q_nm (lx91 + (-1) : Int32)
        rw [e5]
        have a4i : a4.toInt = lx91.toInt + (-1) := by rw [← e5]; exact q_addI (x := lx91.toInt) (y := (-1)) rfl (by decide) (by omega) (by omega)
        exact ih _ _ _ ⟨by omega, by omega⟩ (by omega) (g_putU (by omega) a4i ho (g_putA (by with_reducible assumption)))
      ·
        rw [if_neg g3, if_neg g3]
        have g3l := g_lc6 g3
        obtain ⟨a6, e7⟩ := q_nm (lx91 + (-1) : Int32)
        rw [e7]
        have a6i : a6.toInt = lx91.toInt + (-1) := by rw [← e7]; exact q_addI (x := lx91.toInt) (y := (-1)) rfl (by decide) (by omega) (by omega)
        exact ih _ _ _ ⟨by omega, by omega⟩ (by omega) (g_putU (by omega) a6i ho (g_putB (by with_reducible assumption)))
theorem T_DR_put {x2 : Int32} {x3 : Int64} {x4 : Int32} {t0_0 : Int32} {t0_1 : Int32} {t0_2 : Int32} {t0_3 : Int64} {t0_4 : Int32} {t0_5 : Int32} {t0_6 : Int32} {t0_7 : Int32} {t0_8 : Int32} {t0_9 : Int32} {t0_10 : Int32} {t1_0 : (Nat → Int32)} {t2_0 : (Nat → Int32)} {t3_0 : (Nat → Int32)} {t4_0 : (Nat → Int32)} {t5_0 : (Nat → Int32)} (hR : gR t1_0 t2_0 t3_0 t4_0) : (S_DR_put x2 x3 x4 t0_0 t0_1 t0_2 t0_3 t0_4 t0_5 t0_6 t0_7 t0_8 t0_9 t0_10 t1_0 t2_0 t3_0 t4_0 t5_0) ∧ Q_DR_put (F_DR_put x2 x3 x4 t0_0 t0_1 t0_2 t0_3 t0_4 t0_5 t0_6 t0_7 t0_8 t0_9 t0_10 t1_0 t2_0 t3_0 t4_0 t5_0) := by
  have e0 : (0 : Int32).toInt = 0 := rfl
  have eL0 : (0 : Int64).toInt = 0 := rfl
  have eL1 : (10000 : Int64).toInt = 10000 := rfl
  have eL2 : (-10000 : Int64).toInt = -10000 := rfl
  have eL3 : (1000 : Int64).toInt = 1000 := rfl
  have eL4 : (-1 : Int64).toInt = -1 := rfl
  have eI3 : (1000 : Int32).toInt = 1000 := rfl
  unfold S_DR_put F_DR_put
  by_cases g1 : ((F_DR_no x2) : Int32) = (0 : Int32)
  ·
    rw [if_pos g1, if_pos g1]
    have g1r := g_no g1
    unfold S_DR_put_J13 F_DR_put_J13
    have g2 : ((0 : Int32) ≤ (0 : Int32)) := (by decide)
    rw [if_pos g2, if_pos g2]
    by_cases g3 : (0 : Int32) ≤ (lg_cmp x3 0 : Int32)
    ·
      rw [if_pos g3, if_pos g3]
      have g3l := g_lc5 g3
      unfold S_DR_put_J41 F_DR_put_J41
      exact v_put hR (by with_reducible assumption) _ _ _ _ (by decide) (by decide) (fun i hi hj => by have e : (18 : Int32).toInt = 18 := rfl; omega)
    ·
      rw [if_neg g3, if_neg g3]
      have g3l := g_lc6 g3
      unfold S_DR_put_J41 F_DR_put_J41
      exact v_put hR (by with_reducible assumption) _ _ _ _ (by decide) (by decide) (fun i hi hj => by have e : (18 : Int32).toInt = 18 := rfl; omega)
  ·
    rw [if_neg g1, if_neg g1]
    unfold S_DR_put_J13 F_DR_put_J13
    have g4 : ¬ ((1 : Int32) ≤ (0 : Int32)) := (by decide)
    rw [if_neg g4, if_neg g4]
    refine ⟨trivial, ?_⟩
    (unfold Q_DR_put; dsimp only; with_reducible assumption)
theorem R_dz {x2 : Int32} {t0_0 : Int32} {t0_1 : Int32} {t0_2 : Int32} {t0_3 : Int64} {t0_4 : Int32} {t0_5 : Int32} {t0_6 : Int32} {t0_7 : Int32} {t0_8 : Int32} {t0_9 : Int32} {t0_10 : Int32} {t1_0 : (Nat → Int32)} (hx : 0 ≤ x2.toInt ∧ x2.toInt ≤ 9) : S_DR_isZero x2 t0_0 t0_1 t0_2 t0_3 t0_4 t0_5 t0_6 t0_7 t0_8 t0_9 t0_10 t1_0 ∧ (F_DR_isZero x2 t0_0 t0_1 t0_2 t0_3 t0_4 t0_5 t0_6 t0_7 t0_8 t0_9 t0_10 t1_0 = 0 → t1_0 (1000 * x2 : Int32).toNatClampNeg ≠ 0) := by
  have e := g_i0 hx
  unfold S_DR_isZero F_DR_isZero
  refine ⟨⟨by omega, by omega, ?_⟩, fun h hz => ?_⟩
  · split <;> trivial
  · rw [if_pos hz] at h; exact absurd h (by decide)
theorem g_tol {x2 x3 : Int32} (hx : 0 ≤ x2.toInt ∧ x2.toInt ≤ 9) (h : 3 ≤ x3.toInt ∧ x3.toInt ≤ 1002) : (((1000 * x2) + x3) - 3 : Int32).toInt = 1000 * x2.toInt + x3.toInt - 3 := by
  have e1 := g_i0 hx
  have e2 : ((1000 * x2) + x3 : Int32).toInt = 1000 * x2.toInt + x3.toInt := q_addI e1 rfl (by omega) (by omega)
  exact q_subI (y := 3) e2 (by decide) (by omega) (by omega)
theorem g_t3 {x : Int32} (h : 0 ≤ x.toInt) {m : Int32} (hm : m.toInt ≤ 1000) (hl : (x - 3 : Int32) < m) : x.toInt ≤ 1002 := by
  have e : (x - 3 : Int32).toInt = x.toInt - 3 := q_subI (y := 3) rfl (by decide) (by omega) (by have := Int32.toInt_lt x; omega)
  have := q_ltI hl
  omega
theorem T_DR_told {x2 : Int32} {x3 : Int32} {t0_0 : Int32} {t0_1 : Int32} {t0_2 : Int32} {t0_3 : Int64} {t0_4 : Int32} {t0_5 : Int32} {t0_6 : Int32} {t0_7 : Int32} {t0_8 : Int32} {t0_9 : Int32} {t0_10 : Int32} {t1_0 : (Nat → Int32)} {t2_0 : (Nat → Int32)} {t3_0 : (Nat → Int32)} {t4_0 : (Nat → Int32)} (hR : gR t1_0 t2_0 t3_0 t4_0) : (S_DR_told x2 x3 t0_0 t0_1 t0_2 t0_3 t0_4 t0_5 t0_6 t0_7 t0_8 t0_9 t0_10 t1_0 t2_0 t3_0 t4_0) := by
  have e0 : (0 : Int32).toInt = 0 := rfl
  have eL0 : (0 : Int64).toInt = 0 := rfl
  have eL1 : (10000 : Int64).toInt = 10000 := rfl
  have eL2 : (-10000 : Int64).toInt = -10000 := rfl
  have eL3 : (1000 : Int64).toInt = 1000 := rfl
  have eL4 : (-1 : Int64).toInt = -1 := rfl
  have eI3 : (1000 : Int32).toInt = 1000 := rfl
  have i1 : (1 : Int32).toInt = 1 := rfl
  have i2 : (2 : Int32).toInt = 2 := rfl
  unfold S_DR_told
  by_cases g1 : ((F_DR_no x2) : Int32) = (0 : Int32)
  ·
    rw [if_pos g1]
    have g1r := g_no g1
    by_cases g2 : x3 < (0 : Int32)
    ·
      rw [if_pos g2]
      have g2i : x3.toInt < 0 := q_ltI g2
      unfold S_DR_told_J28
      unfold S_DR_told_J33
      have g3 : ¬ ((2 : Int32) ≤ (0 : Int32)) := (by decide)
      rw [if_neg g3]
      exact trivial
    ·
      rw [if_neg g2]
      have g2i : 0 ≤ x3.toInt := q_nltI g2
      refine And.intro (by omega) ?_
      refine And.intro (by omega) ?_
      by_cases g4 : (x3 - 3 : Int32) < (t2_0 x2.toNatClampNeg : Int32)
      ·
        rw [if_pos g4]
        have g4t := g_t3 (by omega) (gR.at hR (by with_reducible assumption)).1.2 g4
        unfold S_DR_told_J33
        have g5 : ((0 : Int32) ≤ (0 : Int32)) := (by decide)
        rw [if_pos g5]
        by_cases g6 : x3 = (0 : Int32)
        ·
          rw [if_pos g6]
          have g6i : x3.toInt = 0 := q_eqI g6
          have h7 := R_dz (x2 := x2) (t0_0 := (0 : Int32)) (t0_1 := t0_1) (t0_2 := t0_2) (t0_3 := t0_3) (t0_4 := t0_4) (t0_5 := t0_5) (t0_6 := t0_6) (t0_7 := t0_7) (t0_8 := t0_8) (t0_9 := t0_9) (t0_10 := t0_10) (t1_0 := t1_0) (by with_reducible assumption)
          have h7z := h7.2
          with_reducible refine v_oweS h7.1 ?_
          by_cases g8 : ((F_DR_isZero x2 (0 : Int32) t0_1 t0_2 t0_3 t0_4 t0_5 t0_6 t0_7 t0_8 t0_9 t0_10 t1_0) : Int32) = (0 : Int32)
          ·
            rw [if_pos g8]
            refine And.intro (by omega) ?_
            refine And.intro (by omega) ?_
            by_cases g9 : (t3_0 x2.toNatClampNeg : Int32) = (0 : Int32)
            ·
              rw [if_pos g9]
              exact trivial
            ·
              rw [if_neg g9]
              exact trivial
          ·
            rw [if_neg g8]
            exact trivial
        ·
          rw [if_neg g6]
          have g6i : x3.toInt ≠ 0 := q_neI g6
          by_cases g10 : x3 = (1 : Int32)
          ·
            rw [if_pos g10]
            have g10i : x3.toInt = 1 := q_eqI g10
            refine And.intro (by omega) ?_
            refine And.intro (by omega) ?_
            exact trivial
          ·
            rw [if_neg g10]
            have g10i : x3.toInt ≠ 1 := q_neI g10
            by_cases g11 : x3 = (2 : Int32)
            ·
              rw [if_pos g11]
              have g11i : x3.toInt = 2 := q_eqI g11
              refine And.intro (by omega) ?_
              refine And.intro (by omega) ?_
              exact trivial
            ·
              rw [if_neg g11]
              have g11i : x3.toInt ≠ 2 := q_neI g11
              refine And.intro (by have := g_tol (x2 := x2) (x3 := x3) (by with_reducible assumption) ⟨by omega, by omega⟩; omega) ?_
              refine And.intro (by have := g_tol (x2 := x2) (x3 := x3) (by with_reducible assumption) ⟨by omega, by omega⟩; omega) ?_
              exact trivial
      ·
        rw [if_neg g4]
        unfold S_DR_told_J28
        unfold S_DR_told_J33
        have g12 : ¬ ((2 : Int32) ≤ (0 : Int32)) := (by decide)
        rw [if_neg g12]
        exact trivial
  ·
    rw [if_neg g1]
    unfold S_DR_told_J33
    have g13 : ¬ ((1 : Int32) ≤ (0 : Int32)) := (by decide)
    rw [if_neg g13]
    exact trivial
theorem v_cs {x2 : Int32} {x3 : Int32} {t0_0 : Int32} {t0_1 : Int32} {t0_2 : Int32} {t0_3 : Int64} {t0_4 : Int32} {t0_5 : Int32} {t0_6 : Int32} {t0_7 : Int32} {t0_8 : Int32} {t0_9 : Int32} {t0_10 : Int32} {t1_0 : (Nat → Int32)} {t2_0 : (Nat → Int32)} {t3_0 : (Nat → Int32)} (hR : ∀ i : Nat, i < 10 → (1 ≤ (t2_0 i).toInt ∧ (t2_0 i).toInt ≤ 1000))(hx2 : 0 ≤ x2.toInt ∧ x2.toInt ≤ 9)(hx3 : 0 ≤ x3.toInt ∧ x3.toInt ≤ 9) : ∀ (n : Nat) (lx62 : Int32), (0 ≤ lx62.toInt ∧ lx62.toInt ≤ 1000) → (1001 - lx62.toInt < (n : Int)) → (S_DR_compareSizes_L56 x2 x3 t0_0 t0_1 t0_2 t0_3 t0_4 t0_5 t0_6 t0_7 t0_8 t0_9 t0_10 t1_0 t2_0 t3_0 n lx62) := by
  intro n
  induction n with
  | zero => intro lx62 h0 hm; exact absurd (show False by omega) id
  | succ n ih =>
    intro lx62 h0 hm
    have m2 := hR x2.toNatClampNeg (by have := q_clI (i := x2) rfl hx2.1; omega)
    have m3 := hR x3.toNatClampNeg (by have := q_clI (i := x3) rfl hx3.1; omega)
    rw [S_DR_compareSizes_L56.eq_2]
    by_cases g1 : lx62 < (t2_0 x2.toNatClampNeg : Int32)
    ·
      rw [if_pos g1]
      have g1i := q_ltI g1
      unfold S_DR_compareSizes_J78
      by_cases g2 : (t2_0 x2.toNatClampNeg : Int32) ≤ lx62
      ·
        rw [if_pos g2]
        have g2i := q_leI g2
        unfold S_DR_compareSizes_J106
        by_cases g3 : (t2_0 x3.toNatClampNeg : Int32) ≤ lx62
        ·
          rw [if_pos g3]
          have g3i := q_leI g3
          unfold S_DR_compareSizes_J136
          have g4 : ((0 : Int32) = (0 : Int32)) := (by decide)
          rw [if_pos g4]
          obtain ⟨a5, e6⟩ := q_nm (lx62 + 1 : Int32)
          rw [e6]
          have a5i : a5.toInt = lx62.toInt + 1 := by rw [← e6]; exact q_addI (x := lx62.toInt) (y := 1) rfl (by decide) (by omega) (by omega)
          exact ih _ (by first | with_reducible assumption | omega | decide) (by first | with_reducible assumption | omega | decide)
        ·
          rw [if_neg g3]
          have g3i := q_nleI g3
          refine And.intro (by have := (g_ix (x := x3) (k := lx62) (by with_reducible assumption) ⟨by omega, by omega⟩).1; omega) ?_
          refine And.intro (by have := (g_ix (x := x3) (k := lx62) (by with_reducible assumption) ⟨by omega, by omega⟩).1; omega) ?_
          unfold S_DR_compareSizes_J136
          by_cases g7 : (0 : Int32) = (t1_0 ((1000 * x3 : Int32) + lx62 : Int32).toNatClampNeg : Int32)
          ·
            rw [if_pos g7]
            obtain ⟨a8, e9⟩ := q_nm (lx62 + 1 : Int32)
            rw [e9]
            have a8i : a8.toInt = lx62.toInt + 1 := by rw [← e9]; exact q_addI (x := lx62.toInt) (y := 1) rfl (by decide) (by omega) (by omega)
            exact ih _ (by first | with_reducible assumption | omega | decide) (by first | with_reducible assumption | omega | decide)
          ·
            rw [if_neg g7]
            by_cases g10 : (t1_0 ((1000 * x3 : Int32) + lx62 : Int32).toNatClampNeg : Int32) ≤ (0 : Int32)
            ·
              rw [if_pos g10]
              exact trivial
            ·
              rw [if_neg g10]
              exact trivial
      ·
        rw [if_neg g2]
        have g2i := q_nleI g2
        refine And.intro (by have := (g_ix (x := x2) (k := lx62) (by with_reducible assumption) ⟨by omega, by omega⟩).1; omega) ?_
        refine And.intro (by have := (g_ix (x := x2) (k := lx62) (by with_reducible assumption) ⟨by omega, by omega⟩).1; omega) ?_
        unfold S_DR_compareSizes_J106
        by_cases g11 : (t2_0 x3.toNatClampNeg : Int32) ≤ lx62
        ·
          rw [if_pos g11]
          have g11i := q_leI g11
          unfold S_DR_compareSizes_J136
          by_cases g12 : (t1_0 ((1000 * x2 : Int32) + lx62 : Int32).toNatClampNeg : Int32) = (0 : Int32)
          ·
            rw [if_pos g12]
            obtain ⟨a13, e14⟩ := q_nm (lx62 + 1 : Int32)
            rw [e14]
            have a13i : a13.toInt = lx62.toInt + 1 := by rw [← e14]; exact q_addI (x := lx62.toInt) (y := 1) rfl (by decide) (by omega) (by omega)
            exact ih _ (by first | with_reducible assumption | omega | decide) (by first | with_reducible assumption | omega | decide)
          ·
            rw [if_neg g12]
            by_cases g15 : (0 : Int32) ≤ (t1_0 ((1000 * x2 : Int32) + lx62 : Int32).toNatClampNeg : Int32)
            ·
              rw [if_pos g15]
              exact trivial
            ·
              rw [if_neg g15]
              exact trivial
        ·
          rw [if_neg g11]
          have g11i := q_nleI g11
          refine And.intro (by have := (g_ix (x := x3) (k := lx62) (by with_reducible assumption) ⟨by omega, by omega⟩).1; omega) ?_
          refine And.intro (by have := (g_ix (x := x3) (k := lx62) (by with_reducible assumption) ⟨by omega, by omega⟩).1; omega) ?_
          unfold S_DR_compareSizes_J136
          by_cases g16 : (t1_0 ((1000 * x2 : Int32) + lx62 : Int32).toNatClampNeg : Int32) = (t1_0 ((1000 * x3 : Int32) + lx62 : Int32).toNatClampNeg : Int32)
          ·
            rw [if_pos g16]
            obtain ⟨a17, e18⟩ := q_nm (lx62 + 1 : Int32)
            rw [e18]
            have a17i : a17.toInt = lx62.toInt + 1 := by rw [← e18]; exact q_addI (x := lx62.toInt) (y := 1) rfl (by decide) (by omega) (by omega)
            exact ih _ (by first | with_reducible assumption | omega | decide) (by first | with_reducible assumption | omega | decide)
          ·
            rw [if_neg g16]
            by_cases g19 : (t1_0 ((1000 * x3 : Int32) + lx62 : Int32).toNatClampNeg : Int32) ≤ (t1_0 ((1000 * x2 : Int32) + lx62 : Int32).toNatClampNeg : Int32)
            ·
              rw [if_pos g19]
              exact trivial
            ·
              rw [if_neg g19]
              exact trivial
    ·
      rw [if_neg g1]
      have g1i := q_nltI g1
      by_cases g20 : (t2_0 x3.toNatClampNeg : Int32) ≤ lx62
      ·
        rw [if_pos g20]
        have g20i := q_leI g20
        exact trivial
      ·
        rw [if_neg g20]
        have g20i := q_nleI g20
        unfold S_DR_compareSizes_J78
        by_cases g21 : (t2_0 x2.toNatClampNeg : Int32) ≤ lx62
        ·
          rw [if_pos g21]
          have g21i := q_leI g21
          unfold S_DR_compareSizes_J106
          rw [if_neg g20]
          refine And.intro (by have := (g_ix (x := x3) (k := lx62) (by with_reducible assumption) ⟨by omega, by omega⟩).1; omega) ?_
          refine And.intro (by have := (g_ix (x := x3) (k := lx62) (by with_reducible assumption) ⟨by omega, by omega⟩).1; omega) ?_
          unfold S_DR_compareSizes_J136
          by_cases g22 : (0 : Int32) = (t1_0 ((1000 * x3 : Int32) + lx62 : Int32).toNatClampNeg : Int32)
          ·
            rw [if_pos g22]
            obtain ⟨a23, e24⟩ := q_nm (lx62 + 1 : Int32)
            rw [e24]
            have a23i : a23.toInt = lx62.toInt + 1 := by rw [← e24]; exact q_addI (x := lx62.toInt) (y := 1) rfl (by decide) (by omega) (by omega)
            exact ih _ (by first | with_reducible assumption | omega | decide) (by first | with_reducible assumption | omega | decide)
          ·
            rw [if_neg g22]
            by_cases g25 : (t1_0 ((1000 * x3 : Int32) + lx62 : Int32).toNatClampNeg : Int32) ≤ (0 : Int32)
            ·
              rw [if_pos g25]
              exact trivial
            ·
              rw [if_neg g25]
              exact trivial
        ·
          rw [if_neg g21]
          have g21i := q_nleI g21
          refine And.intro (by have := (g_ix (x := x2) (k := lx62) (by with_reducible assumption) ⟨by omega, by omega⟩).1; omega) ?_
          refine And.intro (by have := (g_ix (x := x2) (k := lx62) (by with_reducible assumption) ⟨by omega, by omega⟩).1; omega) ?_
          unfold S_DR_compareSizes_J106
          rw [if_neg g20]
          refine And.intro (by have := (g_ix (x := x3) (k := lx62) (by with_reducible assumption) ⟨by omega, by omega⟩).1; omega) ?_
          refine And.intro (by have := (g_ix (x := x3) (k := lx62) (by with_reducible assumption) ⟨by omega, by omega⟩).1; omega) ?_
          unfold S_DR_compareSizes_J136
          by_cases g26 : (t1_0 ((1000 * x2 : Int32) + lx62 : Int32).toNatClampNeg : Int32) = (t1_0 ((1000 * x3 : Int32) + lx62 : Int32).toNatClampNeg : Int32)
          ·
            rw [if_pos g26]
            obtain ⟨a27, e28⟩ := q_nm (lx62 + 1 : Int32)
            rw [e28]
            have a27i : a27.toInt = lx62.toInt + 1 := by rw [← e28]; exact q_addI (x := lx62.toInt) (y := 1) rfl (by decide) (by omega) (by omega)
            exact ih _ (by first | with_reducible assumption | omega | decide) (by first | with_reducible assumption | omega | decide)
          ·
            rw [if_neg g26]
            by_cases g29 : (t1_0 ((1000 * x3 : Int32) + lx62 : Int32).toNatClampNeg : Int32) ≤ (t1_0 ((1000 * x2 : Int32) + lx62 : Int32).toNatClampNeg : Int32)
            ·
              rw [if_pos g29]
              exact trivial
            ·
              rw [if_neg g29]
              exact trivial
theorem T_DR_compareSizes {x2 : Int32} {x3 : Int32} {t0_0 : Int32} {t0_1 : Int32} {t0_2 : Int32} {t0_3 : Int64} {t0_4 : Int32} {t0_5 : Int32} {t0_6 : Int32} {t0_7 : Int32} {t0_8 : Int32} {t0_9 : Int32} {t0_10 : Int32} {t1_0 : (Nat → Int32)} {t2_0 : (Nat → Int32)} {t3_0 : (Nat → Int32)} (hR : ∀ i : Nat, i < 10 → (1 ≤ (t2_0 i).toInt ∧ (t2_0 i).toInt ≤ 1000))(hx2 : 0 ≤ x2.toInt ∧ x2.toInt ≤ 9)(hx3 : 0 ≤ x3.toInt ∧ x3.toInt ≤ 9) : (S_DR_compareSizes x2 x3 t0_0 t0_1 t0_2 t0_3 t0_4 t0_5 t0_6 t0_7 t0_8 t0_9 t0_10 t1_0 t2_0 t3_0) := by
  have e0 : (0 : Int32).toInt = 0 := rfl
  have eL0 : (0 : Int64).toInt = 0 := rfl
  have eL1 : (10000 : Int64).toInt = 10000 := rfl
  have eL2 : (-10000 : Int64).toInt = -10000 := rfl
  have eL3 : (1000 : Int64).toInt = 1000 := rfl
  have eL4 : (-1 : Int64).toInt = -1 := rfl
  have eI3 : (1000 : Int32).toInt = 1000 := rfl
  unfold S_DR_compareSizes
  refine And.intro (by omega) ?_
  refine And.intro (by omega) ?_
  refine And.intro (by omega) ?_
  refine And.intro (by omega) ?_
  by_cases g1 : (lg_cmp (((t2_0 x2.toNatClampNeg : Int32).toInt64 : Int64) - ((t3_0 x2.toNatClampNeg : Int32).toInt64 : Int64) : Int64) (((t2_0 x3.toNatClampNeg : Int32).toInt64 : Int64) - ((t3_0 x3.toNatClampNeg : Int32).toInt64 : Int64) : Int64) : Int32) = (0 : Int32)
  ·
    rw [if_pos g1]
    exact v_cs hR hx2 hx3 _ _ (by decide) (by decide)
  ·
    rw [if_neg g1]
    by_cases g2 : (0 : Int32) ≤ (lg_cmp (((t2_0 x2.toNatClampNeg : Int32).toInt64 : Int64) - ((t3_0 x2.toNatClampNeg : Int32).toInt64 : Int64) : Int64) (((t2_0 x3.toNatClampNeg : Int32).toInt64 : Int64) - ((t3_0 x3.toNatClampNeg : Int32).toInt64 : Int64) : Int64) : Int32)
    ·
      rw [if_pos g2]
      exact trivial
    ·
      rw [if_neg g2]
      exact trivial
theorem T_DR_compare {x2 : Int32} {x3 : Int32} {t0_0 : Int32} {t0_1 : Int32} {t0_2 : Int32} {t0_3 : Int64} {t0_4 : Int32} {t0_5 : Int32} {t0_6 : Int32} {t0_7 : Int32} {t0_8 : Int32} {t0_9 : Int32} {t0_10 : Int32} {t1_0 : (Nat → Int32)} {t2_0 : (Nat → Int32)} {t3_0 : (Nat → Int32)} {t4_0 : (Nat → Int32)} (hR : gR t1_0 t2_0 t3_0 t4_0) : (S_DR_compare x2 x3 t0_0 t0_1 t0_2 t0_3 t0_4 t0_5 t0_6 t0_7 t0_8 t0_9 t0_10 t1_0 t2_0 t3_0 t4_0) := by
  have e0 : (0 : Int32).toInt = 0 := rfl
  have eL0 : (0 : Int64).toInt = 0 := rfl
  have eL1 : (10000 : Int64).toInt = 10000 := rfl
  have eL2 : (-10000 : Int64).toInt = -10000 := rfl
  have eL3 : (1000 : Int64).toInt = 1000 := rfl
  have eL4 : (-1 : Int64).toInt = -1 := rfl
  have eI3 : (1000 : Int32).toInt = 1000 := rfl
  unfold S_DR_compare
  by_cases g1 : ((F_DR_no x2) : Int32) = (0 : Int32)
  ·
    rw [if_pos g1]
    have g1r := g_no g1
    by_cases g2 : ((F_DR_no x3) : Int32) = (0 : Int32)
    ·
      rw [if_pos g2]
      have g2r := g_no g2
      unfold S_DR_compare_J20
      have g3 : ((0 : Int32) ≤ (0 : Int32)) := (by decide)
      rw [if_pos g3]
      have h4 := R_dz (x2 := x2) (t0_0 := (0 : Int32)) (t0_1 := t0_1) (t0_2 := t0_2) (t0_3 := t0_3) (t0_4 := t0_4) (t0_5 := t0_5) (t0_6 := t0_6) (t0_7 := t0_7) (t0_8 := t0_8) (t0_9 := t0_9) (t0_10 := t0_10) (t1_0 := t1_0) (by with_reducible assumption)
      have h4z := h4.2
      with_reducible refine v_oweS h4.1 ?_
      by_cases g5 : ((F_DR_isZero x2 (0 : Int32) t0_1 t0_2 t0_3 t0_4 t0_5 t0_6 t0_7 t0_8 t0_9 t0_10 t1_0) : Int32) = (0 : Int32)
      ·
        rw [if_pos g5]
        refine And.intro (by omega) ?_
        refine And.intro (by omega) ?_
        by_cases g6 : (t3_0 x2.toNatClampNeg : Int32) = (0 : Int32)
        ·
          rw [if_pos g6]
          unfold S_DR_compare_J58
          have h7 := R_dz (x2 := x3) (t0_0 := (0 : Int32)) (t0_1 := t0_1) (t0_2 := t0_2) (t0_3 := t0_3) (t0_4 := t0_4) (t0_5 := t0_5) (t0_6 := t0_6) (t0_7 := t0_7) (t0_8 := t0_8) (t0_9 := t0_9) (t0_10 := t0_10) (t1_0 := t1_0) (by with_reducible assumption)
          have h7z := h7.2
          with_reducible refine v_oweS h7.1 ?_
          by_cases g8 : ((F_DR_isZero x3 (0 : Int32) t0_1 t0_2 t0_3 t0_4 t0_5 t0_6 t0_7 t0_8 t0_9 t0_10 t1_0) : Int32) = (0 : Int32)
          ·
            rw [if_pos g8]
            refine And.intro (by omega) ?_
            refine And.intro (by omega) ?_
            by_cases g9 : (t3_0 x3.toNatClampNeg : Int32) = (0 : Int32)
            ·
              rw [if_pos g9]
              unfold S_DR_compare_J85
              have g10 : ((1 : Int32) = (1 : Int32)) := (by decide)
              rw [if_pos g10]
              have g11 : ¬ ((1 : Int32) = (0 : Int32)) := (by decide)
              rw [if_neg g11]
              have h12 := T_DR_compareSizes (x2 := x2) (x3 := x3) (t0_0 := (0 : Int32)) (t0_1 := t0_1) (t0_2 := t0_2) (t0_3 := t0_3) (t0_4 := t0_4) (t0_5 := t0_5) (t0_6 := t0_6) (t0_7 := t0_7) (t0_8 := t0_8) (t0_9 := t0_9) (t0_10 := t0_10) (t1_0 := t1_0) (t2_0 := t2_0) (t3_0 := t4_0) (fun i hi => (hR.2 i hi).1) (by with_reducible assumption) (by with_reducible assumption)
              with_reducible refine v_oweS h12 ?_
              exact trivial
            ·
              rw [if_neg g9]
              unfold S_DR_compare_J85
              have g13 : ¬ ((1 : Int32) = (-1 : Int32)) := (by decide)
              rw [if_neg g13]
              unfold S_DR_compare_J97
              have g14 : ((-1 : Int32) ≤ (1 : Int32)) := (by decide)
              rw [if_pos g14]
              have g15 : ¬ ((1 : Int32) ≤ (-1 : Int32)) := (by decide)
              rw [if_neg g15]
              exact trivial
          ·
            rw [if_neg g8]
            unfold S_DR_compare_J85
            have g16 : ¬ ((1 : Int32) = (0 : Int32)) := (by decide)
            rw [if_neg g16]
            unfold S_DR_compare_J97
            have g17 : ((0 : Int32) ≤ (1 : Int32)) := (by decide)
            rw [if_pos g17]
            have g18 : ¬ ((1 : Int32) ≤ (0 : Int32)) := (by decide)
            rw [if_neg g18]
            exact trivial
        ·
          rw [if_neg g6]
          unfold S_DR_compare_J58
          have h19 := R_dz (x2 := x3) (t0_0 := (0 : Int32)) (t0_1 := t0_1) (t0_2 := t0_2) (t0_3 := t0_3) (t0_4 := t0_4) (t0_5 := t0_5) (t0_6 := t0_6) (t0_7 := t0_7) (t0_8 := t0_8) (t0_9 := t0_9) (t0_10 := t0_10) (t1_0 := t1_0) (by with_reducible assumption)
          have h19z := h19.2
          with_reducible refine v_oweS h19.1 ?_
          by_cases g20 : ((F_DR_isZero x3 (0 : Int32) t0_1 t0_2 t0_3 t0_4 t0_5 t0_6 t0_7 t0_8 t0_9 t0_10 t1_0) : Int32) = (0 : Int32)
          ·
            rw [if_pos g20]
            refine And.intro (by omega) ?_
            refine And.intro (by omega) ?_
            by_cases g21 : (t3_0 x3.toNatClampNeg : Int32) = (0 : Int32)
            ·
              rw [if_pos g21]
              unfold S_DR_compare_J85
              have g22 : ¬ ((-1 : Int32) = (1 : Int32)) := (by decide)
              rw [if_neg g22]
              unfold S_DR_compare_J97
              have g23 : ¬ ((1 : Int32) ≤ (-1 : Int32)) := (by decide)
              rw [if_neg g23]
              exact trivial
            ·
              rw [if_neg g21]
              unfold S_DR_compare_J85
              have g24 : ((-1 : Int32) = (-1 : Int32)) := (by decide)
              rw [if_pos g24]
              have g25 : ¬ ((-1 : Int32) = (0 : Int32)) := (by decide)
              rw [if_neg g25]
              have h26 := T_DR_compareSizes (x2 := x2) (x3 := x3) (t0_0 := (0 : Int32)) (t0_1 := t0_1) (t0_2 := t0_2) (t0_3 := t0_3) (t0_4 := t0_4) (t0_5 := t0_5) (t0_6 := t0_6) (t0_7 := t0_7) (t0_8 := t0_8) (t0_9 := t0_9) (t0_10 := t0_10) (t1_0 := t1_0) (t2_0 := t2_0) (t3_0 := t4_0) (fun i hi => (hR.2 i hi).1) (by with_reducible assumption) (by with_reducible assumption)
              with_reducible refine v_oweS h26 ?_
              exact trivial
          ·
            rw [if_neg g20]
            unfold S_DR_compare_J85
            have g27 : ¬ ((-1 : Int32) = (0 : Int32)) := (by decide)
            rw [if_neg g27]
            unfold S_DR_compare_J97
            have g28 : ¬ ((0 : Int32) ≤ (-1 : Int32)) := (by decide)
            rw [if_neg g28]
            exact trivial
      ·
        rw [if_neg g5]
        unfold S_DR_compare_J58
        have h29 := R_dz (x2 := x3) (t0_0 := (0 : Int32)) (t0_1 := t0_1) (t0_2 := t0_2) (t0_3 := t0_3) (t0_4 := t0_4) (t0_5 := t0_5) (t0_6 := t0_6) (t0_7 := t0_7) (t0_8 := t0_8) (t0_9 := t0_9) (t0_10 := t0_10) (t1_0 := t1_0) (by with_reducible assumption)
        have h29z := h29.2
        with_reducible refine v_oweS h29.1 ?_
        by_cases g30 : ((F_DR_isZero x3 (0 : Int32) t0_1 t0_2 t0_3 t0_4 t0_5 t0_6 t0_7 t0_8 t0_9 t0_10 t1_0) : Int32) = (0 : Int32)
        ·
          rw [if_pos g30]
          refine And.intro (by omega) ?_
          refine And.intro (by omega) ?_
          by_cases g31 : (t3_0 x3.toNatClampNeg : Int32) = (0 : Int32)
          ·
            rw [if_pos g31]
            unfold S_DR_compare_J85
            have g32 : ¬ ((0 : Int32) = (1 : Int32)) := (by decide)
            rw [if_neg g32]
            unfold S_DR_compare_J97
            have g33 : ¬ ((1 : Int32) ≤ (0 : Int32)) := (by decide)
            rw [if_neg g33]
            exact trivial
          ·
            rw [if_neg g31]
            unfold S_DR_compare_J85
            have g34 : ¬ ((0 : Int32) = (-1 : Int32)) := (by decide)
            rw [if_neg g34]
            unfold S_DR_compare_J97
            have g35 : ((-1 : Int32) ≤ (0 : Int32)) := (by decide)
            rw [if_pos g35]
            have g36 : ¬ ((0 : Int32) ≤ (-1 : Int32)) := (by decide)
            rw [if_neg g36]
            exact trivial
        ·
          rw [if_neg g30]
          unfold S_DR_compare_J85
          have g37 : ((0 : Int32) = (0 : Int32)) := (by decide)
          rw [if_pos g37]
          have g38 : ((0 : Int32) = (0 : Int32)) := (by decide)
          rw [if_pos g38]
          unfold S_DR_compare_J97
          have g39 : ((0 : Int32) ≤ (0 : Int32)) := (by decide)
          rw [if_pos g39]
          have g40 : ((0 : Int32) ≤ (0 : Int32)) := (by decide)
          rw [if_pos g40]
          exact trivial
    ·
      rw [if_neg g2]
      unfold S_DR_compare_J15
      unfold S_DR_compare_J20
      have g41 : ¬ ((1 : Int32) ≤ (0 : Int32)) := (by decide)
      rw [if_neg g41]
      exact trivial
  ·
    rw [if_neg g1]
    unfold S_DR_compare_J15
    unfold S_DR_compare_J20
    have g42 : ¬ ((1 : Int32) ≤ (0 : Int32)) := (by decide)
    rw [if_neg g42]
    exact trivial
