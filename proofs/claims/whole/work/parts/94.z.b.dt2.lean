/-! DecimalRows: isMore, grows, cut, lengthen, needed -/
theorem v_ism {x2 : Int32} {t0_0 : Int32} {t0_1 : Int32} {t0_2 : Int32} {t0_3 : Int64} {t0_4 : Int32} {t0_5 : Int32} {t0_6 : Int32} {t0_7 : Int32} {t0_8 : Int32} {t0_9 : Int32} {t0_10 : Int32} {t1_0 : (Nat → Int32)} {lx20 : Int32} (h2 : 0 ≤ t0_2.toInt ∧ t0_2.toInt ≤ 4400) : ∀ (n : Nat) (lx33 : Int32) (lx34 : Int32), (0 ≤ lx33.toInt) → (t0_2.toInt - lx33.toInt < (n : Int)) → ((1 : Int) ≤ n ∨ lx33.toInt ≤ t0_2.toInt) → (S_DR_isMore_L15 x2 t0_0 t0_1 t0_2 t0_3 t0_4 t0_5 t0_6 t0_7 t0_8 t0_9 t0_10 t1_0 lx20 n lx33 lx34) := by
  intro n
  induction n with
  | zero => intro lx33 lx34 h0 hm hn; exact absurd (show False by omega) id
  | succ n ih =>
    intro lx33 lx34 h0 hm hn
    rw [S_DR_isMore_L15.eq_2]
    by_cases g1 : t0_2 ≤ lx33
    ·
      rw [if_pos g1]
      have g1i : t0_2.toInt ≤ lx33.toInt := q_leI g1
      exact trivial
    ·
      rw [if_neg g1]
      have g1i : lx33.toInt < t0_2.toInt := q_nleI g1
      by_cases g2 : lx34 = (0 : Int32)
      ·
        rw [if_pos g2]
        refine And.intro (by omega) ?_
        by_cases g3 : (t1_0 lx33.toNatClampNeg : Int32) = (0 : Int32)
        ·
          rw [if_pos g3]
          obtain ⟨a4, e5⟩ := q_nm (lx33 + 1 : Int32)
          rw [e5]
          have a4i : a4.toInt = lx33.toInt + 1 := by rw [← e5]; exact q_addI (x := lx33.toInt) (y := 1) rfl (by decide) (by omega) (by omega)
          exact ih _ _ (by first | with_reducible assumption | omega | decide) (by first | with_reducible assumption | omega | decide) (by first | with_reducible assumption | omega | decide)
        ·
          rw [if_neg g3]
          obtain ⟨a6, e7⟩ := q_nm (lx33 + 1 : Int32)
          rw [e7]
          have a6i : a6.toInt = lx33.toInt + 1 := by rw [← e7]; exact q_addI (x := lx33.toInt) (y := 1) rfl (by decide) (by omega) (by omega)
          exact ih _ _ (by first | with_reducible assumption | omega | decide) (by first | with_reducible assumption | omega | decide) (by first | with_reducible assumption | omega | decide)
      ·
        rw [if_neg g2]
        obtain ⟨a8, e9⟩ := q_nm (lx33 + 1 : Int32)
        rw [e9]
        have a8i : a8.toInt = lx33.toInt + 1 := by rw [← e9]; exact q_addI (x := lx33.toInt) (y := 1) rfl (by decide) (by omega) (by omega)
        exact ih _ _ (by first | with_reducible assumption | omega | decide) (by first | with_reducible assumption | omega | decide) (by first | with_reducible assumption | omega | decide)
theorem T_DR_isMore {x2 : Int32} {t0_0 : Int32} {t0_1 : Int32} {t0_2 : Int32} {t0_3 : Int64} {t0_4 : Int32} {t0_5 : Int32} {t0_6 : Int32} {t0_7 : Int32} {t0_8 : Int32} {t0_9 : Int32} {t0_10 : Int32} {t1_0 : (Nat → Int32)} (h2 : 0 ≤ t0_2.toInt ∧ t0_2.toInt ≤ 4400) : (S_DR_isMore x2 t0_0 t0_1 t0_2 t0_3 t0_4 t0_5 t0_6 t0_7 t0_8 t0_9 t0_10 t1_0) := by
  have e0 : (0 : Int32).toInt = 0 := rfl
  unfold S_DR_isMore
  by_cases g1 : (0 : Int32) ≤ x2
  ·
    rw [if_pos g1]
    have g1i : 0 ≤ x2.toInt := q_leI g1
    unfold S_DR_isMore_J14
    exact v_ism h2 _ _ _ (by omega) (by omega) (by omega)
  ·
    rw [if_neg g1]
    have g1i : x2.toInt < 0 := q_nleI g1
    unfold S_DR_isMore_J14
    exact v_ism h2 _ _ _ (by omega) (by omega) (by omega)
def Q_DR_grows (p : Int32) : Prop := 0 ≤ p.toInt ∧ p.toInt ≤ 2
theorem v_gr92 {x2 : Int32} {x3 : Int32} {t0_0 : Int32} {t0_1 : Int32} {t0_2 : Int32} {t0_3 : Int64} {t0_4 : Int32} {t0_5 : Int32} {t0_6 : Int32} {t0_7 : Int32} {t0_8 : Int32} {t0_9 : Int32} {t0_10 : Int32} {t1_0 : (Nat → Int32)} {lx20 : Int32} {lx39 : Int32} {lx50 : Int32} {lx61 : Int32}  : (S_DR_grows_J92 x2 x3 t0_0 t0_1 t0_2 t0_3 t0_4 t0_5 t0_6 t0_7 t0_8 t0_9 t0_10 t1_0 lx20 lx39 lx50 lx61) ∧ Q_DR_grows (F_DR_grows_J92 x2 x3 t0_0 t0_1 t0_2 t0_3 t0_4 t0_5 t0_6 t0_7 t0_8 t0_9 t0_10 t1_0 lx20 lx39 lx50 lx61) := by
  unfold S_DR_grows_J92 F_DR_grows_J92
  by_cases g1 : x3 = (0 : Int32)
  ·
    rw [if_pos g1, if_pos g1]
    by_cases g2 : lx50 = (0 : Int32)
    ·
      rw [if_pos g2, if_pos g2]
      refine ⟨trivial, ?_⟩
      (unfold Q_DR_grows; decide)
    ·
      rw [if_neg g2, if_neg g2]
      refine ⟨trivial, ?_⟩
      (unfold Q_DR_grows; decide)
  ·
    rw [if_neg g1, if_neg g1]
    by_cases g3 : x3 = (1 : Int32)
    ·
      rw [if_pos g3, if_pos g3]
      refine ⟨trivial, ?_⟩
      (unfold Q_DR_grows; decide)
    ·
      rw [if_neg g3, if_neg g3]
      by_cases g4 : x3 = (2 : Int32)
      ·
        rw [if_pos g4, if_pos g4]
        by_cases g5 : lx50 = (0 : Int32)
        ·
          rw [if_pos g5, if_pos g5]
          by_cases g6 : t0_5 = (0 : Int32)
          ·
            rw [if_pos g6, if_pos g6]
            refine ⟨trivial, ?_⟩
            (unfold Q_DR_grows; decide)
          ·
            rw [if_neg g6, if_neg g6]
            refine ⟨trivial, ?_⟩
            (unfold Q_DR_grows; decide)
        ·
          rw [if_neg g5, if_neg g5]
          refine ⟨trivial, ?_⟩
          (unfold Q_DR_grows; decide)
      ·
        rw [if_neg g4, if_neg g4]
        by_cases g7 : x3 = (3 : Int32)
        ·
          rw [if_pos g7, if_pos g7]
          by_cases g8 : lx50 = (0 : Int32)
          ·
            rw [if_pos g8, if_pos g8]
            by_cases g9 : t0_5 = (0 : Int32)
            ·
              rw [if_pos g9, if_pos g9]
              refine ⟨trivial, ?_⟩
              (unfold Q_DR_grows; decide)
            ·
              rw [if_neg g9, if_neg g9]
              refine ⟨trivial, ?_⟩
              (unfold Q_DR_grows; decide)
          ·
            rw [if_neg g8, if_neg g8]
            refine ⟨trivial, ?_⟩
            (unfold Q_DR_grows; decide)
        ·
          rw [if_neg g7, if_neg g7]
          by_cases g10 : x3 = (4 : Int32)
          ·
            rw [if_pos g10, if_pos g10]
            by_cases g11 : lx20 < (5 : Int32)
            ·
              rw [if_pos g11, if_pos g11]
              refine ⟨trivial, ?_⟩
              (unfold Q_DR_grows; decide)
            ·
              rw [if_neg g11, if_neg g11]
              refine ⟨trivial, ?_⟩
              (unfold Q_DR_grows; decide)
          ·
            rw [if_neg g10, if_neg g10]
            by_cases g12 : x3 = (5 : Int32)
            ·
              rw [if_pos g12, if_pos g12]
              by_cases g13 : (5 : Int32) < lx20
              ·
                rw [if_pos g13, if_pos g13]
                refine ⟨trivial, ?_⟩
                (unfold Q_DR_grows; decide)
              ·
                rw [if_neg g13, if_neg g13]
                by_cases g14 : lx20 = (5 : Int32)
                ·
                  rw [if_pos g14, if_pos g14]
                  by_cases g15 : lx39 = (0 : Int32)
                  ·
                    rw [if_pos g15, if_pos g15]
                    refine ⟨trivial, ?_⟩
                    (unfold Q_DR_grows; decide)
                  ·
                    rw [if_neg g15, if_neg g15]
                    refine ⟨trivial, ?_⟩
                    (unfold Q_DR_grows; decide)
                ·
                  rw [if_neg g14, if_neg g14]
                  refine ⟨trivial, ?_⟩
                  (unfold Q_DR_grows; decide)
            ·
              rw [if_neg g12, if_neg g12]
              by_cases g16 : x3 = (6 : Int32)
              ·
                rw [if_pos g16, if_pos g16]
                by_cases g17 : (5 : Int32) < lx20
                ·
                  rw [if_pos g17, if_pos g17]
                  refine ⟨trivial, ?_⟩
                  (unfold Q_DR_grows; decide)
                ·
                  rw [if_neg g17, if_neg g17]
                  by_cases g18 : lx20 = (5 : Int32)
                  ·
                    rw [if_pos g18, if_pos g18]
                    by_cases g19 : lx39 = (0 : Int32)
                    ·
                      rw [if_pos g19, if_pos g19]
                      by_cases g20 : (lx61 - lx61 / 2 * 2 : Int32) = (1 : Int32)
                      ·
                        rw [if_pos g20, if_pos g20]
                        refine ⟨trivial, ?_⟩
                        (unfold Q_DR_grows; decide)
                      ·
                        rw [if_neg g20, if_neg g20]
                        refine ⟨trivial, ?_⟩
                        (unfold Q_DR_grows; decide)
                    ·
                      rw [if_neg g19, if_neg g19]
                      refine ⟨trivial, ?_⟩
                      (unfold Q_DR_grows; decide)
                  ·
                    rw [if_neg g18, if_neg g18]
                    refine ⟨trivial, ?_⟩
                    (unfold Q_DR_grows; decide)
              ·
                rw [if_neg g16, if_neg g16]
                by_cases g21 : lx50 = (0 : Int32)
                ·
                  rw [if_pos g21, if_pos g21]
                  refine ⟨trivial, ?_⟩
                  (unfold Q_DR_grows; decide)
                ·
                  rw [if_neg g21, if_neg g21]
                  refine ⟨trivial, ?_⟩
                  (unfold Q_DR_grows; decide)
theorem T_DR_grows {x2 : Int32} {x3 : Int32} {t0_0 : Int32} {t0_1 : Int32} {t0_2 : Int32} {t0_3 : Int64} {t0_4 : Int32} {t0_5 : Int32} {t0_6 : Int32} {t0_7 : Int32} {t0_8 : Int32} {t0_9 : Int32} {t0_10 : Int32} {t1_0 : (Nat → Int32)} (h2 : 0 ≤ t0_2.toInt ∧ t0_2.toInt ≤ 4400)(hx : -1 ≤ x2.toInt ∧ x2.toInt ≤ t0_2.toInt) : (S_DR_grows x2 x3 t0_0 t0_1 t0_2 t0_3 t0_4 t0_5 t0_6 t0_7 t0_8 t0_9 t0_10 t1_0) ∧ Q_DR_grows (F_DR_grows x2 x3 t0_0 t0_1 t0_2 t0_3 t0_4 t0_5 t0_6 t0_7 t0_8 t0_9 t0_10 t1_0) := by
  have e0 : (0 : Int32).toInt = 0 := rfl
  unfold S_DR_grows F_DR_grows
  by_cases g1 : x2 < (0 : Int32)
  ·
    rw [if_pos g1, if_pos g1]
    have g1i : x2.toInt < 0 := q_ltI g1
    unfold S_DR_grows_J21 F_DR_grows_J21
    unfold S_DR_grows_J22 F_DR_grows_J22
    have h2 := T_DR_isMore (x2 := (x2 + 1 : Int32)) (t0_0 := t0_0) (t0_1 := t0_1) (t0_2 := t0_2) (t0_3 := t0_3) (t0_4 := t0_4) (t0_5 := t0_5) (t0_6 := t0_6) (t0_7 := t0_7) (t0_8 := t0_8) (t0_9 := t0_9) (t0_10 := t0_10) (t1_0 := t1_0) (by first | with_reducible assumption | omega | decide)
    with_reducible refine v_owe h2 ?_
    by_cases g3 : ((F_DR_isMore (x2 + 1 : Int32) t0_0 t0_1 t0_2 t0_3 t0_4 t0_5 t0_6 t0_7 t0_8 t0_9 t0_10 t1_0) : Int32) = (0 : Int32)
    ·
      rw [if_pos g3, if_pos g3]
      by_cases g4 : (0 : Int32) ≤ x2
      ·
        rw [if_pos g4, if_pos g4]
        have g4i : 0 ≤ x2.toInt := q_leI g4
        unfold S_DR_grows_J49 F_DR_grows_J49
        unfold S_DR_grows_J50 F_DR_grows_J50
        have g5 : ((0 : Int32) = (0 : Int32)) := (by decide)
        rw [if_pos g5, if_pos g5]
        have g6 : ((0 : Int32) = (0 : Int32)) := (by decide)
        rw [if_pos g6, if_pos g6]
        unfold S_DR_grows_J66 F_DR_grows_J66
        by_cases g7 : x2 ≤ (0 : Int32)
        ·
          rw [if_pos g7, if_pos g7]
          have g7i : x2.toInt ≤ 0 := q_leI g7
          unfold S_DR_grows_J91 F_DR_grows_J91
          exact v_gr92
        ·
          rw [if_neg g7, if_neg g7]
          have g7i : 0 < x2.toInt := q_nleI g7
          by_cases g8 : t0_2 < x2
          ·
            rw [if_pos g8, if_pos g8]
            have g8i : t0_2.toInt < x2.toInt := q_ltI g8
            unfold S_DR_grows_J91 F_DR_grows_J91
            exact v_gr92
          ·
            rw [if_neg g8, if_neg g8]
            have g8i : x2.toInt ≤ t0_2.toInt := q_nltI g8
            obtain ⟨a9, e10⟩ := q_nm (x2 - 1 : Int32)
            rw [e10]
            have a9i : a9.toInt = x2.toInt - 1 := by rw [← e10]; exact q_subI (x := x2.toInt) (y := 1) rfl (by decide) (by omega) (by omega)
            refine v_cons (by omega) ?_
            exact v_gr92
      ·
        rw [if_neg g4, if_neg g4]
        have g4i : x2.toInt < 0 := q_nleI g4
        have h11 := T_DR_isMore (x2 := (0 : Int32)) (t0_0 := t0_0) (t0_1 := t0_1) (t0_2 := t0_2) (t0_3 := t0_3) (t0_4 := t0_4) (t0_5 := t0_5) (t0_6 := t0_6) (t0_7 := t0_7) (t0_8 := t0_8) (t0_9 := t0_9) (t0_10 := t0_10) (t1_0 := t1_0) (by first | with_reducible assumption | omega | decide)
        with_reducible refine v_owe h11 ?_
        by_cases g12 : ((F_DR_isMore (0 : Int32) t0_0 t0_1 t0_2 t0_3 t0_4 t0_5 t0_6 t0_7 t0_8 t0_9 t0_10 t1_0) : Int32) = (0 : Int32)
        ·
          rw [if_pos g12, if_pos g12]
          unfold S_DR_grows_J49 F_DR_grows_J49
          unfold S_DR_grows_J50 F_DR_grows_J50
          have g13 : ((0 : Int32) = (0 : Int32)) := (by decide)
          rw [if_pos g13, if_pos g13]
          have g14 : ((0 : Int32) = (0 : Int32)) := (by decide)
          rw [if_pos g14, if_pos g14]
          unfold S_DR_grows_J66 F_DR_grows_J66
          by_cases g15 : x2 ≤ (0 : Int32)
          ·
            rw [if_pos g15, if_pos g15]
            have g15i : x2.toInt ≤ 0 := q_leI g15
            unfold S_DR_grows_J91 F_DR_grows_J91
            exact v_gr92
          ·
            rw [if_neg g15, if_neg g15]
            have g15i : 0 < x2.toInt := q_nleI g15
            by_cases g16 : t0_2 < x2
            ·
              rw [if_pos g16, if_pos g16]
              have g16i : t0_2.toInt < x2.toInt := q_ltI g16
              unfold S_DR_grows_J91 F_DR_grows_J91
              exact v_gr92
            ·
              rw [if_neg g16, if_neg g16]
              have g16i : x2.toInt ≤ t0_2.toInt := q_nltI g16
              obtain ⟨a17, e18⟩ := q_nm (x2 - 1 : Int32)
              rw [e18]
              have a17i : a17.toInt = x2.toInt - 1 := by rw [← e18]; exact q_subI (x := x2.toInt) (y := 1) rfl (by decide) (by omega) (by omega)
              refine v_cons (by omega) ?_
              exact v_gr92
        ·
          rw [if_neg g12, if_neg g12]
          unfold S_DR_grows_J45 F_DR_grows_J45
          unfold S_DR_grows_J50 F_DR_grows_J50
          have g19 : ((0 : Int32) = (0 : Int32)) := (by decide)
          rw [if_pos g19, if_pos g19]
          have g20 : ¬ ((1 : Int32) = (0 : Int32)) := (by decide)
          rw [if_neg g20, if_neg g20]
          unfold S_DR_grows_J65 F_DR_grows_J65
          unfold S_DR_grows_J66 F_DR_grows_J66
          by_cases g21 : x2 ≤ (0 : Int32)
          ·
            rw [if_pos g21, if_pos g21]
            have g21i : x2.toInt ≤ 0 := q_leI g21
            unfold S_DR_grows_J91 F_DR_grows_J91
            exact v_gr92
          ·
            rw [if_neg g21, if_neg g21]
            have g21i : 0 < x2.toInt := q_nleI g21
            by_cases g22 : t0_2 < x2
            ·
              rw [if_pos g22, if_pos g22]
              have g22i : t0_2.toInt < x2.toInt := q_ltI g22
              unfold S_DR_grows_J91 F_DR_grows_J91
              exact v_gr92
            ·
              rw [if_neg g22, if_neg g22]
              have g22i : x2.toInt ≤ t0_2.toInt := q_nltI g22
              obtain ⟨a23, e24⟩ := q_nm (x2 - 1 : Int32)
              rw [e24]
              have a23i : a23.toInt = x2.toInt - 1 := by rw [← e24]; exact q_subI (x := x2.toInt) (y := 1) rfl (by decide) (by omega) (by omega)
              refine v_cons (by omega) ?_
              exact v_gr92
    ·
      rw [if_neg g3, if_neg g3]
      unfold S_DR_grows_J45 F_DR_grows_J45
      unfold S_DR_grows_J50 F_DR_grows_J50
      have g25 : ((0 : Int32) = (0 : Int32)) := (by decide)
      rw [if_pos g25, if_pos g25]
      have g26 : ¬ ((1 : Int32) = (0 : Int32)) := (by decide)
      rw [if_neg g26, if_neg g26]
      unfold S_DR_grows_J65 F_DR_grows_J65
      unfold S_DR_grows_J66 F_DR_grows_J66
      by_cases g27 : x2 ≤ (0 : Int32)
      ·
        rw [if_pos g27, if_pos g27]
        have g27i : x2.toInt ≤ 0 := q_leI g27
        unfold S_DR_grows_J91 F_DR_grows_J91
        exact v_gr92
      ·
        rw [if_neg g27, if_neg g27]
        have g27i : 0 < x2.toInt := q_nleI g27
        by_cases g28 : t0_2 < x2
        ·
          rw [if_pos g28, if_pos g28]
          have g28i : t0_2.toInt < x2.toInt := q_ltI g28
          unfold S_DR_grows_J91 F_DR_grows_J91
          exact v_gr92
        ·
          rw [if_neg g28, if_neg g28]
          have g28i : x2.toInt ≤ t0_2.toInt := q_nltI g28
          obtain ⟨a29, e30⟩ := q_nm (x2 - 1 : Int32)
          rw [e30]
          have a29i : a29.toInt = x2.toInt - 1 := by rw [← e30]; exact q_subI (x := x2.toInt) (y := 1) rfl (by decide) (by omega) (by omega)
          refine v_cons (by omega) ?_
          exact v_gr92
  ·
    rw [if_neg g1, if_neg g1]
    have g1i : 0 ≤ x2.toInt := q_nltI g1
    by_cases g31 : t0_2 ≤ x2
    ·
      rw [if_pos g31, if_pos g31]
      have g31i : t0_2.toInt ≤ x2.toInt := q_leI g31
      unfold S_DR_grows_J21 F_DR_grows_J21
      unfold S_DR_grows_J22 F_DR_grows_J22
      have h32 := T_DR_isMore (x2 := (x2 + 1 : Int32)) (t0_0 := t0_0) (t0_1 := t0_1) (t0_2 := t0_2) (t0_3 := t0_3) (t0_4 := t0_4) (t0_5 := t0_5) (t0_6 := t0_6) (t0_7 := t0_7) (t0_8 := t0_8) (t0_9 := t0_9) (t0_10 := t0_10) (t1_0 := t1_0) (by first | with_reducible assumption | omega | decide)
      with_reducible refine v_owe h32 ?_
      by_cases g33 : ((F_DR_isMore (x2 + 1 : Int32) t0_0 t0_1 t0_2 t0_3 t0_4 t0_5 t0_6 t0_7 t0_8 t0_9 t0_10 t1_0) : Int32) = (0 : Int32)
      ·
        rw [if_pos g33, if_pos g33]
        by_cases g34 : (0 : Int32) ≤ x2
        ·
          rw [if_pos g34, if_pos g34]
          have g34i : 0 ≤ x2.toInt := q_leI g34
          unfold S_DR_grows_J49 F_DR_grows_J49
          unfold S_DR_grows_J50 F_DR_grows_J50
          have g35 : ((0 : Int32) = (0 : Int32)) := (by decide)
          rw [if_pos g35, if_pos g35]
          have g36 : ((0 : Int32) = (0 : Int32)) := (by decide)
          rw [if_pos g36, if_pos g36]
          unfold S_DR_grows_J66 F_DR_grows_J66
          by_cases g37 : x2 ≤ (0 : Int32)
          ·
            rw [if_pos g37, if_pos g37]
            have g37i : x2.toInt ≤ 0 := q_leI g37
            unfold S_DR_grows_J91 F_DR_grows_J91
            exact v_gr92
          ·
            rw [if_neg g37, if_neg g37]
            have g37i : 0 < x2.toInt := q_nleI g37
            by_cases g38 : t0_2 < x2
            ·
              rw [if_pos g38, if_pos g38]
              have g38i : t0_2.toInt < x2.toInt := q_ltI g38
              unfold S_DR_grows_J91 F_DR_grows_J91
              exact v_gr92
            ·
              rw [if_neg g38, if_neg g38]
              have g38i : x2.toInt ≤ t0_2.toInt := q_nltI g38
              obtain ⟨a39, e40⟩ := q_nm (x2 - 1 : Int32)
              rw [e40]
              have a39i : a39.toInt = x2.toInt - 1 := by rw [← e40]; exact q_subI (x := x2.toInt) (y := 1) rfl (by decide) (by omega) (by omega)
              refine v_cons (by omega) ?_
              exact v_gr92
        ·
          rw [if_neg g34, if_neg g34]
          have g34i : x2.toInt < 0 := q_nleI g34
          have h41 := T_DR_isMore (x2 := (0 : Int32)) (t0_0 := t0_0) (t0_1 := t0_1) (t0_2 := t0_2) (t0_3 := t0_3) (t0_4 := t0_4) (t0_5 := t0_5) (t0_6 := t0_6) (t0_7 := t0_7) (t0_8 := t0_8) (t0_9 := t0_9) (t0_10 := t0_10) (t1_0 := t1_0) (by first | with_reducible assumption | omega | decide)
          with_reducible refine v_owe h41 ?_
          by_cases g42 : ((F_DR_isMore (0 : Int32) t0_0 t0_1 t0_2 t0_3 t0_4 t0_5 t0_6 t0_7 t0_8 t0_9 t0_10 t1_0) : Int32) = (0 : Int32)
          ·
            rw [if_pos g42, if_pos g42]
            unfold S_DR_grows_J49 F_DR_grows_J49
            unfold S_DR_grows_J50 F_DR_grows_J50
            have g43 : ((0 : Int32) = (0 : Int32)) := (by decide)
            rw [if_pos g43, if_pos g43]
            have g44 : ((0 : Int32) = (0 : Int32)) := (by decide)
            rw [if_pos g44, if_pos g44]
            unfold S_DR_grows_J66 F_DR_grows_J66
            by_cases g45 : x2 ≤ (0 : Int32)
            ·
              rw [if_pos g45, if_pos g45]
              have g45i : x2.toInt ≤ 0 := q_leI g45
              unfold S_DR_grows_J91 F_DR_grows_J91
              exact v_gr92
            ·
              rw [if_neg g45, if_neg g45]
              have g45i : 0 < x2.toInt := q_nleI g45
              by_cases g46 : t0_2 < x2
              ·
                rw [if_pos g46, if_pos g46]
                have g46i : t0_2.toInt < x2.toInt := q_ltI g46
                unfold S_DR_grows_J91 F_DR_grows_J91
                exact v_gr92
              ·
                rw [if_neg g46, if_neg g46]
                have g46i : x2.toInt ≤ t0_2.toInt := q_nltI g46
                obtain ⟨a47, e48⟩ := q_nm (x2 - 1 : Int32)
                rw [e48]
                have a47i : a47.toInt = x2.toInt - 1 := by rw [← e48]; exact q_subI (x := x2.toInt) (y := 1) rfl (by decide) (by omega) (by omega)
                refine v_cons (by omega) ?_
                exact v_gr92
          ·
            rw [if_neg g42, if_neg g42]
            unfold S_DR_grows_J45 F_DR_grows_J45
            unfold S_DR_grows_J50 F_DR_grows_J50
            have g49 : ((0 : Int32) = (0 : Int32)) := (by decide)
            rw [if_pos g49, if_pos g49]
            have g50 : ¬ ((1 : Int32) = (0 : Int32)) := (by decide)
            rw [if_neg g50, if_neg g50]
            unfold S_DR_grows_J65 F_DR_grows_J65
            unfold S_DR_grows_J66 F_DR_grows_J66
            by_cases g51 : x2 ≤ (0 : Int32)
            ·
              rw [if_pos g51, if_pos g51]
              have g51i : x2.toInt ≤ 0 := q_leI g51
              unfold S_DR_grows_J91 F_DR_grows_J91
              exact v_gr92
            ·
              rw [if_neg g51, if_neg g51]
              have g51i : 0 < x2.toInt := q_nleI g51
              by_cases g52 : t0_2 < x2
              ·
                rw [if_pos g52, if_pos g52]
                have g52i : t0_2.toInt < x2.toInt := q_ltI g52
                unfold S_DR_grows_J91 F_DR_grows_J91
                exact v_gr92
              ·
                rw [if_neg g52, if_neg g52]
                have g52i : x2.toInt ≤ t0_2.toInt := q_nltI g52
                obtain ⟨a53, e54⟩ := q_nm (x2 - 1 : Int32)
                rw [e54]
                have a53i : a53.toInt = x2.toInt - 1 := by rw [← e54]; exact q_subI (x := x2.toInt) (y := 1) rfl (by decide) (by omega) (by omega)
                refine v_cons (by omega) ?_
                exact v_gr92
      ·
        rw [if_neg g33, if_neg g33]
        unfold S_DR_grows_J45 F_DR_grows_J45
        unfold S_DR_grows_J50 F_DR_grows_J50
        have g55 : ((0 : Int32) = (0 : Int32)) := (by decide)
        rw [if_pos g55, if_pos g55]
        have g56 : ¬ ((1 : Int32) = (0 : Int32)) := (by decide)
        rw [if_neg g56, if_neg g56]
        unfold S_DR_grows_J65 F_DR_grows_J65
        unfold S_DR_grows_J66 F_DR_grows_J66
        by_cases g57 : x2 ≤ (0 : Int32)
        ·
          rw [if_pos g57, if_pos g57]
          have g57i : x2.toInt ≤ 0 := q_leI g57
          unfold S_DR_grows_J91 F_DR_grows_J91
          exact v_gr92
        ·
          rw [if_neg g57, if_neg g57]
          have g57i : 0 < x2.toInt := q_nleI g57
          by_cases g58 : t0_2 < x2
          ·
            rw [if_pos g58, if_pos g58]
            have g58i : t0_2.toInt < x2.toInt := q_ltI g58
            unfold S_DR_grows_J91 F_DR_grows_J91
            exact v_gr92
          ·
            rw [if_neg g58, if_neg g58]
            have g58i : x2.toInt ≤ t0_2.toInt := q_nltI g58
            obtain ⟨a59, e60⟩ := q_nm (x2 - 1 : Int32)
            rw [e60]
            have a59i : a59.toInt = x2.toInt - 1 := by rw [← e60]; exact q_subI (x := x2.toInt) (y := 1) rfl (by decide) (by omega) (by omega)
            refine v_cons (by omega) ?_
            exact v_gr92
    ·
      rw [if_neg g31, if_neg g31]
      have g31i : x2.toInt < t0_2.toInt := q_nleI g31
      refine v_cons (by omega) ?_
      unfold S_DR_grows_J22 F_DR_grows_J22
      have h61 := T_DR_isMore (x2 := (x2 + 1 : Int32)) (t0_0 := t0_0) (t0_1 := t0_1) (t0_2 := t0_2) (t0_3 := t0_3) (t0_4 := t0_4) (t0_5 := t0_5) (t0_6 := t0_6) (t0_7 := t0_7) (t0_8 := t0_8) (t0_9 := t0_9) (t0_10 := t0_10) (t1_0 := t1_0) (by first | with_reducible assumption | omega | decide)
      with_reducible refine v_owe h61 ?_
      by_cases g62 : ((F_DR_isMore (x2 + 1 : Int32) t0_0 t0_1 t0_2 t0_3 t0_4 t0_5 t0_6 t0_7 t0_8 t0_9 t0_10 t1_0) : Int32) = (0 : Int32)
      ·
        rw [if_pos g62, if_pos g62]
        by_cases g63 : (0 : Int32) ≤ x2
        ·
          rw [if_pos g63, if_pos g63]
          have g63i : 0 ≤ x2.toInt := q_leI g63
          unfold S_DR_grows_J49 F_DR_grows_J49
          unfold S_DR_grows_J50 F_DR_grows_J50
          by_cases g64 : (t1_0 x2.toNatClampNeg : Int32) = (0 : Int32)
          ·
            rw [if_pos g64, if_pos g64]
            have g65 : ((0 : Int32) = (0 : Int32)) := (by decide)
            rw [if_pos g65, if_pos g65]
            unfold S_DR_grows_J66 F_DR_grows_J66
            by_cases g66 : x2 ≤ (0 : Int32)
            ·
              rw [if_pos g66, if_pos g66]
              have g66i : x2.toInt ≤ 0 := q_leI g66
              unfold S_DR_grows_J91 F_DR_grows_J91
              exact v_gr92
            ·
              rw [if_neg g66, if_neg g66]
              have g66i : 0 < x2.toInt := q_nleI g66
              by_cases g67 : t0_2 < x2
              ·
                rw [if_pos g67, if_pos g67]
                have g67i : t0_2.toInt < x2.toInt := q_ltI g67
                unfold S_DR_grows_J91 F_DR_grows_J91
                exact v_gr92
              ·
                rw [if_neg g67, if_neg g67]
                have g67i : x2.toInt ≤ t0_2.toInt := q_nltI g67
                obtain ⟨a68, e69⟩ := q_nm (x2 - 1 : Int32)
                rw [e69]
                have a68i : a68.toInt = x2.toInt - 1 := by rw [← e69]; exact q_subI (x := x2.toInt) (y := 1) rfl (by decide) (by omega) (by omega)
                refine v_cons (by omega) ?_
                exact v_gr92
          ·
            rw [if_neg g64, if_neg g64]
            unfold S_DR_grows_J65 F_DR_grows_J65
            unfold S_DR_grows_J66 F_DR_grows_J66
            by_cases g70 : x2 ≤ (0 : Int32)
            ·
              rw [if_pos g70, if_pos g70]
              have g70i : x2.toInt ≤ 0 := q_leI g70
              unfold S_DR_grows_J91 F_DR_grows_J91
              exact v_gr92
            ·
              rw [if_neg g70, if_neg g70]
              have g70i : 0 < x2.toInt := q_nleI g70
              by_cases g71 : t0_2 < x2
              ·
                rw [if_pos g71, if_pos g71]
                have g71i : t0_2.toInt < x2.toInt := q_ltI g71
                unfold S_DR_grows_J91 F_DR_grows_J91
                exact v_gr92
              ·
                rw [if_neg g71, if_neg g71]
                have g71i : x2.toInt ≤ t0_2.toInt := q_nltI g71
                obtain ⟨a72, e73⟩ := q_nm (x2 - 1 : Int32)
                rw [e73]
                have a72i : a72.toInt = x2.toInt - 1 := by rw [← e73]; exact q_subI (x := x2.toInt) (y := 1) rfl (by decide) (by omega) (by omega)
                refine v_cons (by omega) ?_
                exact v_gr92
        ·
          rw [if_neg g63, if_neg g63]
          have g63i : x2.toInt < 0 := q_nleI g63
          have h74 := T_DR_isMore (x2 := (0 : Int32)) (t0_0 := t0_0) (t0_1 := t0_1) (t0_2 := t0_2) (t0_3 := t0_3) (t0_4 := t0_4) (t0_5 := t0_5) (t0_6 := t0_6) (t0_7 := t0_7) (t0_8 := t0_8) (t0_9 := t0_9) (t0_10 := t0_10) (t1_0 := t1_0) (by first | with_reducible assumption | omega | decide)
          with_reducible refine v_owe h74 ?_
          by_cases g75 : ((F_DR_isMore (0 : Int32) t0_0 t0_1 t0_2 t0_3 t0_4 t0_5 t0_6 t0_7 t0_8 t0_9 t0_10 t1_0) : Int32) = (0 : Int32)
          ·
            rw [if_pos g75, if_pos g75]
            unfold S_DR_grows_J49 F_DR_grows_J49
            unfold S_DR_grows_J50 F_DR_grows_J50
            by_cases g76 : (t1_0 x2.toNatClampNeg : Int32) = (0 : Int32)
            ·
              rw [if_pos g76, if_pos g76]
              have g77 : ((0 : Int32) = (0 : Int32)) := (by decide)
              rw [if_pos g77, if_pos g77]
              unfold S_DR_grows_J66 F_DR_grows_J66
              by_cases g78 : x2 ≤ (0 : Int32)
              ·
                rw [if_pos g78, if_pos g78]
                have g78i : x2.toInt ≤ 0 := q_leI g78
                unfold S_DR_grows_J91 F_DR_grows_J91
                exact v_gr92
              ·
                rw [if_neg g78, if_neg g78]
                have g78i : 0 < x2.toInt := q_nleI g78
                by_cases g79 : t0_2 < x2
                ·
                  rw [if_pos g79, if_pos g79]
                  have g79i : t0_2.toInt < x2.toInt := q_ltI g79
                  unfold S_DR_grows_J91 F_DR_grows_J91
                  exact v_gr92
                ·
                  rw [if_neg g79, if_neg g79]
                  have g79i : x2.toInt ≤ t0_2.toInt := q_nltI g79
                  obtain ⟨a80, e81⟩ := q_nm (x2 - 1 : Int32)
                  rw [e81]
                  have a80i : a80.toInt = x2.toInt - 1 := by rw [← e81]; exact q_subI (x := x2.toInt) (y := 1) rfl (by decide) (by omega) (by omega)
                  refine v_cons (by omega) ?_
                  exact v_gr92
            ·
              rw [if_neg g76, if_neg g76]
              unfold S_DR_grows_J65 F_DR_grows_J65
              unfold S_DR_grows_J66 F_DR_grows_J66
              by_cases g82 : x2 ≤ (0 : Int32)
              ·
                rw [if_pos g82, if_pos g82]
                have g82i : x2.toInt ≤ 0 := q_leI g82
                unfold S_DR_grows_J91 F_DR_grows_J91
                exact v_gr92
              ·
                rw [if_neg g82, if_neg g82]
                have g82i : 0 < x2.toInt := q_nleI g82
                by_cases g83 : t0_2 < x2
                ·
                  rw [if_pos g83, if_pos g83]
                  have g83i : t0_2.toInt < x2.toInt := q_ltI g83
                  unfold S_DR_grows_J91 F_DR_grows_J91
                  exact v_gr92
                ·
                  rw [if_neg g83, if_neg g83]
                  have g83i : x2.toInt ≤ t0_2.toInt := q_nltI g83
                  obtain ⟨a84, e85⟩ := q_nm (x2 - 1 : Int32)
                  rw [e85]
                  have a84i : a84.toInt = x2.toInt - 1 := by rw [← e85]; exact q_subI (x := x2.toInt) (y := 1) rfl (by decide) (by omega) (by omega)
                  refine v_cons (by omega) ?_
                  exact v_gr92
          ·
            rw [if_neg g75, if_neg g75]
            unfold S_DR_grows_J45 F_DR_grows_J45
            unfold S_DR_grows_J50 F_DR_grows_J50
            by_cases g86 : (t1_0 x2.toNatClampNeg : Int32) = (0 : Int32)
            ·
              rw [if_pos g86, if_pos g86]
              have g87 : ¬ ((1 : Int32) = (0 : Int32)) := (by decide)
              rw [if_neg g87, if_neg g87]
              unfold S_DR_grows_J65 F_DR_grows_J65
              unfold S_DR_grows_J66 F_DR_grows_J66
              by_cases g88 : x2 ≤ (0 : Int32)
              ·
                rw [if_pos g88, if_pos g88]
                have g88i : x2.toInt ≤ 0 := q_leI g88
                unfold S_DR_grows_J91 F_DR_grows_J91
                exact v_gr92
              ·
                rw [if_neg g88, if_neg g88]
                have g88i : 0 < x2.toInt := q_nleI g88
                by_cases g89 : t0_2 < x2
                ·
                  rw [if_pos g89, if_pos g89]
                  have g89i : t0_2.toInt < x2.toInt := q_ltI g89
                  unfold S_DR_grows_J91 F_DR_grows_J91
                  exact v_gr92
                ·
                  rw [if_neg g89, if_neg g89]
                  have g89i : x2.toInt ≤ t0_2.toInt := q_nltI g89
                  obtain ⟨a90, e91⟩ := q_nm (x2 - 1 : Int32)
                  rw [e91]
                  have a90i : a90.toInt = x2.toInt - 1 := by rw [← e91]; exact q_subI (x := x2.toInt) (y := 1) rfl (by decide) (by omega) (by omega)
                  refine v_cons (by omega) ?_
                  exact v_gr92
            ·
              rw [if_neg g86, if_neg g86]
              unfold S_DR_grows_J65 F_DR_grows_J65
              unfold S_DR_grows_J66 F_DR_grows_J66
              by_cases g92 : x2 ≤ (0 : Int32)
              ·
                rw [if_pos g92, if_pos g92]
                have g92i : x2.toInt ≤ 0 := q_leI g92
                unfold S_DR_grows_J91 F_DR_grows_J91
                exact v_gr92
              ·
                rw [if_neg g92, if_neg g92]
                have g92i : 0 < x2.toInt := q_nleI g92
                by_cases g93 : t0_2 < x2
                ·
                  rw [if_pos g93, if_pos g93]
                  have g93i : t0_2.toInt < x2.toInt := q_ltI g93
                  unfold S_DR_grows_J91 F_DR_grows_J91
                  exact v_gr92
                ·
                  rw [if_neg g93, if_neg g93]
                  have g93i : x2.toInt ≤ t0_2.toInt := q_nltI g93
                  obtain ⟨a94, e95⟩ := q_nm (x2 - 1 : Int32)
                  rw [e95]
                  have a94i : a94.toInt = x2.toInt - 1 := by rw [← e95]; exact q_subI (x := x2.toInt) (y := 1) rfl (by decide) (by omega) (by omega)
                  refine v_cons (by omega) ?_
                  exact v_gr92
      ·
        rw [if_neg g62, if_neg g62]
        unfold S_DR_grows_J45 F_DR_grows_J45
        unfold S_DR_grows_J50 F_DR_grows_J50
        by_cases g96 : (t1_0 x2.toNatClampNeg : Int32) = (0 : Int32)
        ·
          rw [if_pos g96, if_pos g96]
          have g97 : ¬ ((1 : Int32) = (0 : Int32)) := (by decide)
          rw [if_neg g97, if_neg g97]
          unfold S_DR_grows_J65 F_DR_grows_J65
          unfold S_DR_grows_J66 F_DR_grows_J66
          by_cases g98 : x2 ≤ (0 : Int32)
          ·
            rw [if_pos g98, if_pos g98]
            have g98i : x2.toInt ≤ 0 := q_leI g98
            unfold S_DR_grows_J91 F_DR_grows_J91
            exact v_gr92
          ·
            rw [if_neg g98, if_neg g98]
            have g98i : 0 < x2.toInt := q_nleI g98
            by_cases g99 : t0_2 < x2
            ·
              rw [if_pos g99, if_pos g99]
              have g99i : t0_2.toInt < x2.toInt := q_ltI g99
              unfold S_DR_grows_J91 F_DR_grows_J91
              exact v_gr92
            ·
              rw [if_neg g99, if_neg g99]
              have g99i : x2.toInt ≤ t0_2.toInt := q_nltI g99
              obtain ⟨a100, e101⟩ := q_nm (x2 - 1 : Int32)
              rw [e101]
              have a100i : a100.toInt = x2.toInt - 1 := by rw [← e101]; exact q_subI (x := x2.toInt) (y := 1) rfl (by decide) (by omega) (by omega)
              refine v_cons (by omega) ?_
              exact v_gr92
        ·
          rw [if_neg g96, if_neg g96]
          unfold S_DR_grows_J65 F_DR_grows_J65
          unfold S_DR_grows_J66 F_DR_grows_J66
          by_cases g102 : x2 ≤ (0 : Int32)
          ·
            rw [if_pos g102, if_pos g102]
            have g102i : x2.toInt ≤ 0 := q_leI g102
            unfold S_DR_grows_J91 F_DR_grows_J91
            exact v_gr92
          ·
            rw [if_neg g102, if_neg g102]
            have g102i : 0 < x2.toInt := q_nleI g102
            by_cases g103 : t0_2 < x2
            ·
              rw [if_pos g103, if_pos g103]
              have g103i : t0_2.toInt < x2.toInt := q_ltI g103
              unfold S_DR_grows_J91 F_DR_grows_J91
              exact v_gr92
            ·
              rw [if_neg g103, if_neg g103]
              have g103i : x2.toInt ≤ t0_2.toInt := q_nltI g103
              obtain ⟨a104, e105⟩ := q_nm (x2 - 1 : Int32)
              rw [e105]
              have a104i : a104.toInt = x2.toInt - 1 := by rw [← e105]; exact q_subI (x := x2.toInt) (y := 1) rfl (by decide) (by omega) (by omega)
              refine v_cons (by omega) ?_
              exact v_gr92
theorem g_cutA {f : Nat → Int32} {m i : Int32} (h : gO f m.toNatClampNeg) (hi : 0 ≤ i.toInt) (hm : i.toInt < m.toInt) (h9 : ¬ f i.toNatClampNeg = 9) : gO (upd f i.toNatClampNeg (f i.toNatClampNeg + 1)) m.toNatClampNeg := by
  have e1 := q_clI (i := i) rfl hi
  have e2 := q_clI (i := m) rfl (by omega)
  have h1 := h i.toNatClampNeg (by omega)
  have h2 : (f i.toNatClampNeg).toInt ≠ 9 := fun e => h9 (Int32.toInt_inj.mp (by rw [e]; rfl))
  have e3 : (f i.toNatClampNeg + 1 : Int32).toInt = (f i.toNatClampNeg).toInt + 1 := q_addI (y := 1) rfl (by decide) (by omega) (by omega)
  exact gO_upd h (by rw [e3]; omega)
theorem g_cutZ {f : Nat → Int32} {n i : Nat} (h : gO f n) : gO (upd f i 0) n := gO_upd h ⟨by decide, by decide⟩
theorem g_cutM {f : Nat → Int32} {n i j : Nat} (h : gO f n) (hj : j < n) : gO (upd f i (f j)) n := gO_upd h (h j hj)
def Q_DR_cut (t0_5 : Int32) (p : Int32 × Int32 × Int32 × Int32 × Int64 × Int32 × Int32 × Int32 × Int32 × Int32 × Int32 × Int32 × (Nat → Int32)) : Prop := (0 ≤ p.2.2.2.1.toInt ∧ p.2.2.2.1.toInt ≤ 4400) ∧ gO p.2.2.2.2.2.2.2.2.2.2.2.2 p.2.2.2.1.toNatClampNeg ∧ p.2.2.2.2.2.2.1 = t0_5
theorem g_sh1 {f g : Nat → Int32} {m k : Int32} (hm : 0 ≤ m.toInt ∧ m.toInt ≤ 4399) (hk : 0 ≤ k.toInt) (hf : gO f m.toNatClampNeg) (h1 : ∀ i : Nat, (i : Int) < k.toInt → g i = f i) (h2 : ∀ i : Nat, k.toInt < i → (i : Int) ≤ m.toInt → 0 ≤ (g i).toInt ∧ (g i).toInt ≤ 9) (hk0 : k.toInt ≤ 0) : gO (upd g (0 : Int32).toNatClampNeg 1) (m + 1 : Int32).toNatClampNeg ∧ (m + 1 : Int32).toInt = m.toInt + 1 := by
  have e : (m + 1 : Int32).toInt = m.toInt + 1 := q_addI (y := 1) rfl (by decide) (by omega) (by omega)
  have e1 := q_clI (i := m + 1) e (by omega)
  refine ⟨fun i hi => ?_, e⟩
  have z : (0 : Int32).toNatClampNeg = 0 := rfl
  rw [z]
  by_cases c : i = 0
  · rw [c, v_eq]; exact ⟨by decide, by decide⟩
  · rw [v_ne c]; exact h2 i (by omega) (by omega)
theorem g_sh2 {f g : Nat → Int32} {m k k1 : Int32} (e : k1.toInt = k.toInt - 1) (hm : 0 ≤ m.toInt ∧ m.toInt ≤ 4399) (hk : 0 < k.toInt ∧ k.toInt ≤ m.toInt) (hf : gO f m.toNatClampNeg) (h1 : ∀ i : Nat, (i : Int) < k.toInt → g i = f i) (h2 : ∀ i : Nat, k.toInt < i → (i : Int) ≤ m.toInt → 0 ≤ (g i).toInt ∧ (g i).toInt ≤ 9) : ∀ i : Nat, k.toInt - 1 < i → (i : Int) ≤ m.toInt → 0 ≤ (upd g k.toNatClampNeg (g k1.toNatClampNeg) i).toInt ∧ (upd g k.toNatClampNeg (g k1.toNatClampNeg) i).toInt ≤ 9 := fun i hi hj => by
  have e1 := q_clI (i := k1) e (by omega)
  have e2 := q_clI (i := k) rfl (by omega)
  have e3 := q_clI (i := m) rfl (by omega)
  by_cases c : i = k.toNatClampNeg
  · rw [c, v_eq, h1 _ (by omega)]; exact hf _ (by omega)
  · rw [v_ne c]; exact h2 i (by omega) hj
theorem v_cut1 {K_F_DR_cut_L64 : Int32 → Int32 → (Nat → Int32) → (Int32 × Int32 × Int32 × Int32 × Int64 × Int32 × Int32 × Int32 × Int32 × Int32 × Int32 × Int32 × (Nat → Int32))} {x2 : Int32} {x3 : Int32} {t0_0 : Int32} {t0_1 : Int32} {t0_2 : Int32} {t0_3 : Int64} {t0_4 : Int32} {t0_5 : Int32} {t0_6 : Int32} {t0_7 : Int32} {t0_8 : Int32} {t0_9 : Int32} {t0_10 : Int32} {t1_0 : (Nat → Int32)} {a23 : Int32} {j35 : Int64} {lx39 : Int32} {lx59 : Int32} {lx60 : Int32} {lx61 : (Nat → Int32)} {K_S_DR_cut_L64 : Int32 → Int32 → (Nat → Int32) → Prop} (h39 : 0 ≤ lx39.toInt ∧ lx39.toInt ≤ 4399)(hg : gO lx61 lx39.toNatClampNeg) : ∀ (n : Nat) (lx88 : Int32) (lx89 : (Nat → Int32)), (0 ≤ lx88.toInt ∧ lx88.toInt ≤ lx39.toInt) → (lx88.toInt < (n : Int)) → (∀ i : Nat, (i : Int) < lx88.toInt → lx89 i = lx61 i) → (∀ i : Nat, lx88.toInt < i → (i : Int) ≤ lx39.toInt → 0 ≤ (lx89 i).toInt ∧ (lx89 i).toInt ≤ 9) → (S_DR_cut_L141 K_S_DR_cut_L64 x2 x3 t0_0 t0_1 t0_2 t0_3 t0_4 t0_5 t0_6 t0_7 t0_8 t0_9 t0_10 t1_0 a23 j35 lx39 lx59 lx60 lx61 n lx88 lx89) ∧ Q_DR_cut t0_5 (F_DR_cut_L141 K_F_DR_cut_L64 x2 x3 t0_0 t0_1 t0_2 t0_3 t0_4 t0_5 t0_6 t0_7 t0_8 t0_9 t0_10 t1_0 a23 j35 lx39 lx59 lx60 lx61 n lx88 lx89) := by
  intro n
  induction n with
  | zero => intro lx88 lx89 h0 hm ha hb; exact absurd (show False by omega) id
  | succ n ih =>
    intro lx88 lx89 h0 hm ha hb
    have e0 : (0 : Int32).toInt = 0 := rfl
    rw [S_DR_cut_L141.eq_2, F_DR_cut_L141.eq_2]
    by_cases g1 : lx88 ≤ (0 : Int32)
    ·
      rw [if_pos g1, if_pos g1]
      have g1i : lx88.toInt ≤ 0 := q_leI g1
      refine ⟨trivial, ?_⟩
      (unfold Q_DR_cut; dsimp only; have hh := g_sh1 h39 h0.1 hg ha hb (by omega); exact ⟨by omega, hh.1, rfl⟩)
    ·
      rw [if_neg g1, if_neg g1]
      have g1i : 0 < lx88.toInt := q_nleI g1
      obtain ⟨a2, e3⟩ := q_nm (lx88 - 1 : Int32)
      rw [e3]
      have a2i : a2.toInt = lx88.toInt - 1 := by rw [← e3]; exact q_subI (x := lx88.toInt) (y := 1) rfl (by decide) (by omega) (by omega)
      refine v_cons (by omega) ?_
      refine v_cons (by omega) ?_
      obtain ⟨a4, e5⟩ := q_nm (lx88 + (-1) : Int32)
      rw [e5]
      have a4i : a4.toInt = lx88.toInt + (-1) := by rw [← e5]; exact q_addI (x := lx88.toInt) (y := (-1)) rfl (by decide) (by omega) (by omega)
      exact ih _ _ ⟨by omega, by omega⟩ (by omega) (fun i hi => by rw [v_ne (by have := q_clI (i := lx88) rfl (by omega); omega)]; exact ha i (by omega)) (fun i hi hj => g_sh2 a2i h39 ⟨by omega, by omega⟩ hg ha hb i (by omega) hj)
theorem v_cut2 {x2 : Int32} {x3 : Int32} {t0_0 : Int32} {t0_1 : Int32} {t0_2 : Int32} {t0_3 : Int64} {t0_4 : Int32} {t0_5 : Int32} {t0_6 : Int32} {t0_7 : Int32} {t0_8 : Int32} {t0_9 : Int32} {t0_10 : Int32} {t1_0 : (Nat → Int32)} {a23 : Int32} {j35 : Int64} {lx39 : Int32} (h39 : 0 ≤ lx39.toInt ∧ lx39.toInt ≤ 4399) : ∀ (n : Nat) (lx59 : Int32) (lx60 : Int32) (lx61 : (Nat → Int32)), (-1 ≤ lx59.toInt ∧ lx59.toInt < lx39.toInt) → (lx59.toInt + 1 < (n : Int)) → (gO lx61 lx39.toNatClampNeg) → (S_DR_cut_L64 x2 x3 t0_0 t0_1 t0_2 t0_3 t0_4 t0_5 t0_6 t0_7 t0_8 t0_9 t0_10 t1_0 a23 j35 lx39 n lx59 lx60 lx61) ∧ Q_DR_cut t0_5 (F_DR_cut_L64 x2 x3 t0_0 t0_1 t0_2 t0_3 t0_4 t0_5 t0_6 t0_7 t0_8 t0_9 t0_10 t1_0 a23 j35 lx39 n lx59 lx60 lx61) := by
  intro n
  induction n with
  | zero => intro lx59 lx60 lx61 h0 hm ho; exact absurd (show False by omega) id
  | succ n ih =>
    intro lx59 lx60 lx61 h0 hm ho
    have e0 : (0 : Int32).toInt = 0 := rfl
    rw [S_DR_cut_L64.eq_2, F_DR_cut_L64.eq_2]
    by_cases g1 : lx60 = (1 : Int32)
    ·
      rw [if_pos g1, if_pos g1]
      by_cases g2 : lx59 < (0 : Int32)
      ·
        rw [if_pos g2, if_pos g2]
        have g2i : lx59.toInt < 0 := q_ltI g2
        unfold S_DR_cut_J130 F_DR_cut_J130
        rw [if_pos g1, if_pos g1]
        exact v_cut1 h39 ho _ _ _ (by omega) (by omega) (fun i _ => rfl) (fun i hi hj => by omega)
      ·
        rw [if_neg g2, if_neg g2]
        have g2i : 0 ≤ lx59.toInt := q_nltI g2
        refine v_cons (by omega) ?_
        by_cases g3 : (lx61 lx59.toNatClampNeg : Int32) = (9 : Int32)
        ·
          rw [if_pos g3, if_pos g3]
          unfold S_DR_cut_J91 F_DR_cut_J91
          rw [if_pos g3, if_pos g3]
          obtain ⟨a4, e5⟩ := q_nm (lx59 + (-1) : Int32)
          rw [e5]
          have a4i : a4.toInt = lx59.toInt + (-1) := by rw [← e5]; exact q_addI (x := lx59.toInt) (y := (-1)) rfl (by decide) (by omega) (by omega)
          exact ih _ _ _ ⟨by omega, by omega⟩ (by omega) (by first | exact g_cutZ ho | exact g_cutA ho (by omega) (by omega) (by assumption))
        ·
          rw [if_neg g3, if_neg g3]
          unfold S_DR_cut_J91 F_DR_cut_J91
          rw [if_neg g3, if_neg g3]
          obtain ⟨a6, e7⟩ := q_nm (lx59 + (-1) : Int32)
          rw [e7]
          have a6i : a6.toInt = lx59.toInt + (-1) := by rw [← e7]; exact q_addI (x := lx59.toInt) (y := (-1)) rfl (by decide) (by omega) (by omega)
          exact ih _ _ _ ⟨by omega, by omega⟩ (by omega) (by first | exact g_cutZ ho | exact g_cutA ho (by omega) (by omega) (by assumption))
    ·
      rw [if_neg g1, if_neg g1]
      unfold S_DR_cut_J130 F_DR_cut_J130
      rw [if_neg g1, if_neg g1]
      refine ⟨trivial, ?_⟩
      (unfold Q_DR_cut; dsimp only; exact ⟨by omega, ho, rfl⟩)
theorem T_DR_cut {x2 : Int32} {x3 : Int32} {t0_0 : Int32} {t0_1 : Int32} {t0_2 : Int32} {t0_3 : Int64} {t0_4 : Int32} {t0_5 : Int32} {t0_6 : Int32} {t0_7 : Int32} {t0_8 : Int32} {t0_9 : Int32} {t0_10 : Int32} {t1_0 : (Nat → Int32)} (h2 : 0 ≤ t0_2.toInt ∧ t0_2.toInt ≤ 4400) (h29 : t0_2.toInt ≤ 4399)(hx : -1 ≤ x2.toInt ∧ x2.toInt ≤ t0_2.toInt)(hg : gO t1_0 t0_2.toNatClampNeg) : (S_DR_cut x2 x3 t0_0 t0_1 t0_2 t0_3 t0_4 t0_5 t0_6 t0_7 t0_8 t0_9 t0_10 t1_0) ∧ Q_DR_cut t0_5 (F_DR_cut x2 x3 t0_0 t0_1 t0_2 t0_3 t0_4 t0_5 t0_6 t0_7 t0_8 t0_9 t0_10 t1_0) := by
  have e0 : (0 : Int32).toInt = 0 := rfl
  unfold S_DR_cut F_DR_cut
  have h1 := T_DR_grows (x2 := x2) (x3 := x3) (t0_0 := t0_0) (t0_1 := t0_1) (t0_2 := t0_2) (t0_3 := t0_3) (t0_4 := t0_4) (t0_5 := t0_5) (t0_6 := t0_6) (t0_7 := t0_7) (t0_8 := t0_8) (t0_9 := t0_9) (t0_10 := t0_10) (t1_0 := t1_0) h2 hx
  with_reducible refine v_owe h1.1 ?_
  by_cases g2 : ((F_DR_grows x2 x3 t0_0 t0_1 t0_2 t0_3 t0_4 t0_5 t0_6 t0_7 t0_8 t0_9 t0_10 t1_0) : Int32) = (2 : Int32)
  ·
    rw [if_pos g2, if_pos g2]
    refine ⟨trivial, ?_⟩
    (unfold Q_DR_cut; dsimp only; exact ⟨by omega, hg, rfl⟩)
  ·
    rw [if_neg g2, if_neg g2]
    by_cases g3 : (0 : Int32) ≤ x2
    ·
      rw [if_pos g3, if_pos g3]
      have g3i : 0 ≤ x2.toInt := q_leI g3
      unfold S_DR_cut_J48 F_DR_cut_J48
      have ez : (x2 - 1 : Int32).toInt = x2.toInt - 1 := q_subI (y := 1) rfl (by decide) (by omega) (by omega); exact v_cut2 ⟨by omega, by omega⟩ _ _ _ _ ⟨by omega, by omega⟩ (by omega) (g_cl hg (by omega) (by omega))
    ·
      rw [if_neg g3, if_neg g3]
      have g3i : x2.toInt < 0 := q_nleI g3
      unfold S_DR_cut_J48 F_DR_cut_J48
      have ez : ((0 : Int32) - 1 : Int32).toInt = (0 : Int32).toInt - 1 := q_subI (y := 1) rfl (by decide) (by omega) (by omega); exact v_cut2 ⟨by omega, by omega⟩ _ _ _ _ ⟨by omega, by omega⟩ (by omega) (g_cl hg (by omega) (by omega))
def Q_DR_lengthen (p : Int32 × Int32 × Int32 × Int64 × Int32 × Int32 × Int32 × Int32 × Int32 × Int32 × Int32 × (Nat → Int32)) : Prop := (0 ≤ p.2.2.1.toInt ∧ p.2.2.1.toInt ≤ 4400) ∧ gO p.2.2.2.2.2.2.2.2.2.2.2 p.2.2.1.toNatClampNeg
theorem v_len {x2 : Int64} {t0_0 : Int32} {t0_1 : Int32} {t0_2 : Int32} {t0_3 : Int64} {t0_4 : Int32} {t0_5 : Int32} {t0_6 : Int32} {t0_7 : Int32} {t0_8 : Int32} {t0_9 : Int32} {t0_10 : Int32} {t1_0 : (Nat → Int32)} (h2 : 0 ≤ t0_2.toInt ∧ t0_2.toInt ≤ 4400) (hx : x2.toInt ≤ 4400) (hs : t0_2.toInt + x2.toInt ≤ 4400) : ∀ (n : Nat) (lx21 : Int64) (lx22 : Int32) (lx23 : (Nat → Int32)), (0 ≤ lx21.toInt ∧ lx22.toInt = t0_2.toInt + lx21.toInt) → (x2.toInt - lx21.toInt < (n : Int)) → ((1 : Int) ≤ n ∨ lx21.toInt ≤ x2.toInt) → (lx21.toInt ≤ x2.toInt ∨ lx21.toInt = 0) → (gO lx23 lx22.toNatClampNeg) → (S_DR_lengthen_L2 x2 t0_0 t0_1 t0_2 t0_3 t0_4 t0_5 t0_6 t0_7 t0_8 t0_9 t0_10 t1_0 n lx21 lx22 lx23) ∧ Q_DR_lengthen (F_DR_lengthen_L2 x2 t0_0 t0_1 t0_2 t0_3 t0_4 t0_5 t0_6 t0_7 t0_8 t0_9 t0_10 t1_0 n lx21 lx22 lx23) := by
  intro n
  induction n with
  | zero => intro lx21 lx22 lx23 h0 hm hn hl ho; exact absurd (show False by omega) id
  | succ n ih =>
    intro lx21 lx22 lx23 h0 hm hn hl ho
    have e0 : (0 : Int32).toInt = 0 := rfl
    rw [S_DR_lengthen_L2.eq_2, F_DR_lengthen_L2.eq_2]
    by_cases g1 : (0 : Int32) ≤ (lg_cmp lx21 x2 : Int32)
    ·
      rw [if_pos g1, if_pos g1]
      have g1l := g_lc5 g1
      refine ⟨trivial, ?_⟩
      (unfold Q_DR_lengthen; dsimp only; exact ⟨by omega, ho⟩)
    ·
      rw [if_neg g1, if_neg g1]
      have g1l := g_lc6 g1
      refine v_cons (by omega) ?_
      refine v_cons (by omega) ?_
      obtain ⟨a2, e3⟩ := q_nm (lx22 + 1 : Int32)
      rw [e3]
      have a2i : a2.toInt = lx22.toInt + 1 := by rw [← e3]; exact q_addI (x := lx22.toInt) (y := 1) rfl (by decide) (by omega) (by omega)
      have e9 : (lx21 + 1 : Int64).toInt = lx21.toInt + 1 := q_addL (y := 1) rfl (by decide) (by omega) (by omega); exact ih _ _ _ ⟨by omega, by omega⟩ (by omega) (by omega) (by omega) (by rw [show a2.toNatClampNeg = lx22.toNatClampNeg + 1 by (have e7 := q_clI (i := lx22) rfl (by omega); have e8 := q_clI (i := a2) a2i (by omega); omega)]; exact gO_push ho ⟨by decide, by decide⟩)
theorem T_DR_lengthen {x2 : Int64} {t0_0 : Int32} {t0_1 : Int32} {t0_2 : Int32} {t0_3 : Int64} {t0_4 : Int32} {t0_5 : Int32} {t0_6 : Int32} {t0_7 : Int32} {t0_8 : Int32} {t0_9 : Int32} {t0_10 : Int32} {t1_0 : (Nat → Int32)} (h2 : 0 ≤ t0_2.toInt ∧ t0_2.toInt ≤ 4400) (hx : x2.toInt ≤ 4400) (hs : t0_2.toInt + x2.toInt ≤ 4400)(hg : gO t1_0 t0_2.toNatClampNeg) : (S_DR_lengthen x2 t0_0 t0_1 t0_2 t0_3 t0_4 t0_5 t0_6 t0_7 t0_8 t0_9 t0_10 t1_0) ∧ Q_DR_lengthen (F_DR_lengthen x2 t0_0 t0_1 t0_2 t0_3 t0_4 t0_5 t0_6 t0_7 t0_8 t0_9 t0_10 t1_0) := by
  have e0 : (0 : Int32).toInt = 0 := rfl
  have eL0 : (0 : Int64).toInt = 0 := rfl
  unfold S_DR_lengthen F_DR_lengthen
  exact v_len h2 hx hs _ _ _ _ ⟨by omega, by omega⟩ (by omega) (by omega) (by omega) hg
def Q_DR_needed (t0_2 : Int32) (p : Int32) : Prop := 1 ≤ p.toInt ∧ p.toInt ≤ t0_2.toInt
theorem v_nee {t0_0 : Int32} {t0_1 : Int32} {t0_2 : Int32} {t0_3 : Int64} {t0_4 : Int32} {t0_5 : Int32} {t0_6 : Int32} {t0_7 : Int32} {t0_8 : Int32} {t0_9 : Int32} {t0_10 : Int32} {t1_0 : (Nat → Int32)} (h2 : 1 ≤ t0_2.toInt ∧ t0_2.toInt ≤ 4400) : ∀ (n : Nat) (lx21 : Int32), (1 ≤ lx21.toInt ∧ lx21.toInt ≤ t0_2.toInt) → (lx21.toInt < (n : Int)) → (S_DR_needed_L5 t0_0 t0_1 t0_2 t0_3 t0_4 t0_5 t0_6 t0_7 t0_8 t0_9 t0_10 t1_0 n lx21) ∧ Q_DR_needed t0_2 (F_DR_needed_L5 t0_0 t0_1 t0_2 t0_3 t0_4 t0_5 t0_6 t0_7 t0_8 t0_9 t0_10 t1_0 n lx21) := by
  intro n
  induction n with
  | zero => intro lx21 h0 hm; exact absurd (show False by omega) id
  | succ n ih =>
    intro lx21 h0 hm
    have e0 : (0 : Int32).toInt = 0 := rfl
    have e1 : (1 : Int32).toInt = 1 := rfl
    rw [S_DR_needed_L5.eq_2, F_DR_needed_L5.eq_2]
    by_cases g1 : lx21 ≤ (1 : Int32)
    ·
      rw [if_pos g1, if_pos g1]
      have g1i : lx21.toInt ≤ 1 := q_leI g1
      refine ⟨trivial, ?_⟩
      (unfold Q_DR_needed; omega)
    ·
      rw [if_neg g1, if_neg g1]
      have g1i : 1 < lx21.toInt := q_nleI g1
      obtain ⟨a2, e3⟩ := q_nm (lx21 - 1 : Int32)
      rw [e3]
      have a2i : a2.toInt = lx21.toInt - 1 := by rw [← e3]; exact q_subI (x := lx21.toInt) (y := 1) rfl (by decide) (by omega) (by omega)
      refine v_cons (by omega) ?_
      by_cases g4 : (t1_0 a2.toNatClampNeg : Int32) = (0 : Int32)
      ·
        rw [if_pos g4, if_pos g4]
        obtain ⟨a5, e6⟩ := q_nm (lx21 + (-1) : Int32)
        rw [e6]
        have a5i : a5.toInt = lx21.toInt + (-1) := by rw [← e6]; exact q_addI (x := lx21.toInt) (y := (-1)) rfl (by decide) (by omega) (by omega)
        exact ih _ (by first | with_reducible assumption | omega | decide) (by first | with_reducible assumption | omega | decide)
      ·
        rw [if_neg g4, if_neg g4]
        refine ⟨trivial, ?_⟩
        (unfold Q_DR_needed; omega)
theorem T_DR_needed {t0_0 : Int32} {t0_1 : Int32} {t0_2 : Int32} {t0_3 : Int64} {t0_4 : Int32} {t0_5 : Int32} {t0_6 : Int32} {t0_7 : Int32} {t0_8 : Int32} {t0_9 : Int32} {t0_10 : Int32} {t1_0 : (Nat → Int32)} (h2 : 1 ≤ t0_2.toInt ∧ t0_2.toInt ≤ 4400) : (S_DR_needed t0_0 t0_1 t0_2 t0_3 t0_4 t0_5 t0_6 t0_7 t0_8 t0_9 t0_10 t1_0) ∧ Q_DR_needed t0_2 (F_DR_needed t0_0 t0_1 t0_2 t0_3 t0_4 t0_5 t0_6 t0_7 t0_8 t0_9 t0_10 t1_0) := by
  unfold S_DR_needed F_DR_needed
  exact v_nee h2 _ _ (by omega) (by omega)
