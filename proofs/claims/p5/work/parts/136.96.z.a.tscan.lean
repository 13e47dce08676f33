/-! TextRows: here, spells, digits, power, number, blanks, scan -/
theorem T_TR_here {t0_0 : Int32} {t0_1 : Int32} {t0_2 : Int32} {t0_3 : Int32} {t0_4 : Int32} {t0_5 : Int32} {t0_6 : Int32} {t0_7 : Int64} {t0_8 : Int32} {t0_9 : Int32} {t0_10 : Int64} {t0_11 : Int64} {t0_12 : Int32} {t0_13 : Int32} {t1_0 : (Nat → Int32)} (h3 : 0 ≤ t0_3.toInt) : (S_TR_here t0_0 t0_1 t0_2 t0_3 t0_4 t0_5 t0_6 t0_7 t0_8 t0_9 t0_10 t0_11 t0_12 t0_13 t1_0) := by
  have e0 : (0 : Int32).toInt = 0 := rfl
  have e1 : (1 : Int32).toInt = 1 := rfl
  have eL0 : (0 : Int64).toInt = 0 := rfl
  unfold S_TR_here
  by_cases g1 : t0_1 ≤ t0_3
  ·
    rw [if_pos g1]
    have g1i : t0_1.toInt ≤ t0_3.toInt := q_leI g1
    exact trivial
  ·
    rw [if_neg g1]
    have g1i : t0_3.toInt < t0_1.toInt := q_nleI g1
    refine And.intro (by first | omega | decide) ?_
    exact trivial
theorem T_TR_isAt {x2 : Int32} {x3 : Int32} {t0_0 : Int32} {t0_1 : Int32} {t0_2 : Int32} {t0_3 : Int32} {t0_4 : Int32} {t0_5 : Int32} {t0_6 : Int32} {t0_7 : Int64} {t0_8 : Int32} {t0_9 : Int32} {t0_10 : Int64} {t0_11 : Int64} {t0_12 : Int32} {t0_13 : Int32} {t1_0 : (Nat → Int32)} (h3 : 0 ≤ t0_3.toInt) : (S_TR_isAt x2 x3 t0_0 t0_1 t0_2 t0_3 t0_4 t0_5 t0_6 t0_7 t0_8 t0_9 t0_10 t0_11 t0_12 t0_13 t1_0) := by
  have e0 : (0 : Int32).toInt = 0 := rfl
  have e1 : (1 : Int32).toInt = 1 := rfl
  have eL0 : (0 : Int64).toInt = 0 := rfl
  unfold S_TR_isAt
  have h1 := T_TR_here (t0_0 := t0_0) (t0_1 := t0_1) (t0_2 := t0_2) (t0_3 := t0_3) (t0_4 := t0_4) (t0_5 := t0_5) (t0_6 := t0_6) (t0_7 := t0_7) (t0_8 := t0_8) (t0_9 := t0_9) (t0_10 := t0_10) (t0_11 := t0_11) (t0_12 := t0_12) (t0_13 := t0_13) (t1_0 := t1_0) (by first | omega | decide)
  with_reducible refine v_oweS h1 ?_
  by_cases g2 : ((F_TR_here t0_0 t0_1 t0_2 t0_3 t0_4 t0_5 t0_6 t0_7 t0_8 t0_9 t0_10 t0_11 t0_12 t0_13 t1_0) : Int32) = x2
  ·
    rw [if_pos g2]
    exact trivial
  ·
    rw [if_neg g2]
    with_reducible refine v_oweS h1 ?_
    by_cases g3 : ((F_TR_here t0_0 t0_1 t0_2 t0_3 t0_4 t0_5 t0_6 t0_7 t0_8 t0_9 t0_10 t0_11 t0_12 t0_13 t1_0) : Int32) = x3
    ·
      rw [if_pos g3]
      exact trivial
    ·
      rw [if_neg g3]
      exact trivial
theorem tr_h {t0_0 t0_1 t0_2 t0_3 t0_4 t0_5 t0_6 : Int32} {t0_7 : Int64} {t0_8 t0_9 : Int32} {t0_10 t0_11 : Int64} {t0_12 t0_13 : Int32} {t1_0 : Nat → Int32} {c : Int32} (g : F_TR_here t0_0 t0_1 t0_2 t0_3 t0_4 t0_5 t0_6 t0_7 t0_8 t0_9 t0_10 t0_11 t0_12 t0_13 t1_0 = c) (hc : c ≠ 0) : t0_3.toInt < t0_1.toInt := by
  unfold F_TR_here at g
  by_cases y : t0_1 ≤ t0_3
  · rw [if_pos y] at g; exact absurd g.symm hc
  · exact q_nleI y
theorem tr_dg {x : Int32} (g : ¬ F_TR_isDigit x = 0) : 48 ≤ x.toInt ∧ x.toInt ≤ 57 := by
  unfold F_TR_isDigit at g
  have e1 : (48 : Int32).toInt = 48 := rfl
  have e2 : (57 : Int32).toInt = 57 := rfl
  by_cases y : x < 48
  · rw [if_pos y] at g; exact absurd rfl g
  · rw [if_neg y] at g
    by_cases z : (57 : Int32) < x
    · rw [if_pos z] at g; exact absurd rfl g
    · have a := q_nltI y
      have b := q_nltI z
      omega
theorem tr_d {t0_0 t0_1 t0_2 t0_3 t0_4 t0_5 t0_6 : Int32} {t0_7 : Int64} {t0_8 t0_9 : Int32} {t0_10 t0_11 : Int64} {t0_12 t0_13 : Int32} {t1_0 : Nat → Int32} (g : ¬ F_TR_isDigit (F_TR_here t0_0 t0_1 t0_2 t0_3 t0_4 t0_5 t0_6 t0_7 t0_8 t0_9 t0_10 t0_11 t0_12 t0_13 t1_0) = 0) : t0_3.toInt < t0_1.toInt ∧ 48 ≤ (F_TR_here t0_0 t0_1 t0_2 t0_3 t0_4 t0_5 t0_6 t0_7 t0_8 t0_9 t0_10 t0_11 t0_12 t0_13 t1_0).toInt ∧ (F_TR_here t0_0 t0_1 t0_2 t0_3 t0_4 t0_5 t0_6 t0_7 t0_8 t0_9 t0_10 t0_11 t0_12 t0_13 t1_0).toInt ≤ 57 := by
  have a := tr_dg g
  exact ⟨tr_h rfl (fun h => by rw [h] at a; have e : (0 : Int32).toInt = 0 := rfl; omega), a⟩
theorem tr_a {t0_0 t0_1 t0_2 t0_3 t0_4 t0_5 t0_6 : Int32} {t0_7 : Int64} {t0_8 t0_9 : Int32} {t0_10 t0_11 : Int64} {t0_12 t0_13 : Int32} {t1_0 : Nat → Int32} {x y : Int32} (g : ¬ F_TR_isAt x y t0_0 t0_1 t0_2 t0_3 t0_4 t0_5 t0_6 t0_7 t0_8 t0_9 t0_10 t0_11 t0_12 t0_13 t1_0 = 0) (hx : x ≠ 0) (hy : y ≠ 0) : t0_3.toInt < t0_1.toInt := by
  unfold F_TR_isAt at g
  by_cases c : F_TR_here t0_0 t0_1 t0_2 t0_3 t0_4 t0_5 t0_6 t0_7 t0_8 t0_9 t0_10 t0_11 t0_12 t0_13 t1_0 = x
  · exact tr_h c hx
  · rw [if_neg c] at g
    by_cases d : F_TR_here t0_0 t0_1 t0_2 t0_3 t0_4 t0_5 t0_6 t0_7 t0_8 t0_9 t0_10 t0_11 t0_12 t0_13 t1_0 = y
    · exact tr_h d hy
    · rw [if_neg d] at g; exact absurd rfl g
theorem tr_hx {x : Int32} : (-1 ≤ (F_TR_hex x).toInt ∧ (F_TR_hex x).toInt ≤ 15) ∧ (0 ≤ (F_TR_hex x).toInt → x.toInt ≠ 0) := by
  have e48 : (48 : Int32).toInt = 48 := rfl
  have e97 : (97 : Int32).toInt = 97 := rfl
  have e102 : (102 : Int32).toInt = 102 := rfl
  have e65 : (65 : Int32).toInt = 65 := rfl
  have e70 : (70 : Int32).toInt = 70 := rfl
  have em : (-1 : Int32).toInt = -1 := rfl
  have J : (-1 ≤ (F_TR_hex_J36 x).toInt ∧ (F_TR_hex_J36 x).toInt ≤ 15) ∧ (0 ≤ (F_TR_hex_J36 x).toInt → x.toInt ≠ 0) := by
    unfold F_TR_hex_J36
    by_cases c : x < 65
    · rw [if_pos c]; exact ⟨by decide, fun h => absurd h (by decide)⟩
    · rw [if_neg c]
      by_cases d : (70 : Int32) < x
      · rw [if_pos d]; exact ⟨by decide, fun h => absurd h (by decide)⟩
      · rw [if_neg d]
        have a := q_nltI c
        have b := q_nltI d
        have e : ((x - 65 : Int32) + 10 : Int32).toInt = (x.toInt - 65) + 10 := q_addI (y := 10) (q_subI (y := 65) rfl (by decide) (by omega) (by omega)) (by decide) (by omega) (by omega)
        rw [e]; exact ⟨by omega, fun _ => by omega⟩
  unfold F_TR_hex
  by_cases c : F_TR_isDigit x = 0
  · rw [if_pos c]
    by_cases d : x < 97
    · rw [if_pos d]; exact J
    · rw [if_neg d]
      by_cases f : (102 : Int32) < x
      · rw [if_pos f]; exact J
      · rw [if_neg f]
        have a := q_nltI d
        have b := q_nltI f
        have e : ((x - 97 : Int32) + 10 : Int32).toInt = (x.toInt - 97) + 10 := q_addI (y := 10) (q_subI (y := 97) rfl (by decide) (by omega) (by omega)) (by decide) (by omega) (by omega)
        rw [e]; exact ⟨by omega, fun _ => by omega⟩
  · rw [if_neg c]
    have a := tr_dg c
    have e : (x - 48 : Int32).toInt = x.toInt - 48 := q_subI (y := 48) rfl (by decide) (by omega) (by omega)
    rw [e]; exact ⟨by omega, fun _ => by omega⟩
/-- the text's characters -/
def trT (_ : Nat → Int32) : Prop := True
/-- the figures that were read -/
def trF (k many : Int32) (f : Nat → Int32) : Prop := ∀ i : Nat, (i : Int) < many.toInt → (0 ≤ (f i).toInt ∧ (f i).toInt ≤ 15) ∧ (k.toInt = 0 → (f i).toInt ≤ 9)
theorem trF.put {k m m1 v : Int32} {f : Nat → Int32} (h : trF k m f) (h0 : 0 ≤ m.toInt) (e : m1.toInt = m.toInt + 1) (hv : (0 ≤ v.toInt ∧ v.toInt ≤ 15) ∧ (k.toInt = 0 → v.toInt ≤ 9)) : trF k m1 (upd f m.toNatClampNeg v) := fun i hi => by
  have c := q_clI (i := m) rfl h0
  by_cases d : i = m.toNatClampNeg
  · rw [d, v_eq]; exact hv
  · rw [v_ne d]; exact h i (by omega)
theorem tr_sub48 {x : Int32} (h : 48 ≤ x.toInt ∧ x.toInt ≤ 57) : (x - 48 : Int32).toInt = x.toInt - 48 := q_subI (y := 48) rfl (by decide) (by omega) (by omega)
def Q_TR_digits (x2 t0_0 t0_1 t0_2 t0_4 : Int32) (t0_7 : Int64) (p : Int32 × Int32 × Int32 × Int32 × Int32 × Int32 × Int32 × Int32 × Int64 × Int32 × Int32 × Int64 × Int64 × Int32 × Int32 × (Nat → Int32)) : Prop := p.2.1 = t0_0 ∧ p.2.2.1 = t0_1 ∧ p.2.2.2.1 = t0_2 ∧ p.2.2.2.2.2.1 = t0_4 ∧ p.2.2.2.2.2.2.2.2.1 = t0_7 ∧ (0 ≤ p.2.2.2.2.1.toInt ∧ p.2.2.2.2.1.toInt ≤ 4110) ∧ (0 ≤ p.2.2.2.2.2.2.1.toInt ∧ p.2.2.2.2.2.2.1.toInt ≤ 4100) ∧ (0 ≤ p.2.2.2.2.2.2.2.1.toInt ∧ p.2.2.2.2.2.2.2.1.toInt ≤ p.2.2.2.2.2.2.1.toInt) ∧ trF x2 p.2.2.2.2.2.2.1 p.2.2.2.2.2.2.2.2.2.2.2.2.2.2.2 ∧ (p.1 ≠ 0 → 1 ≤ p.2.2.2.2.2.2.1.toInt)
theorem vt_dg {x2 : Int32} {t0_0 : Int32} {t0_1 : Int32} {t0_2 : Int32} {t0_3 : Int32} {t0_4 : Int32} {t0_5 : Int32} {t0_6 : Int32} {t0_7 : Int64} {t0_8 : Int32} {t0_9 : Int32} {t0_10 : Int64} {t0_11 : Int64} {t0_12 : Int32} {t0_13 : Int32} {t1_0 : (Nat → Int32)} {t2_0 : (Nat → Int32)} (ht : trT t1_0) (hl1 : t0_1.toInt ≤ 4100) : ∀ (n : Nat) (lx29 : Int32) (lx30 : Int32) (lx31 : Int32) (lx32 : (Nat → Int32)), (0 ≤ lx29.toInt ∧ lx29.toInt ≤ 4110) → (0 ≤ lx31.toInt ∧ lx31.toInt ≤ lx29.toInt ∧ lx31.toInt ≤ 4100) → (-1 ≤ lx30.toInt ∧ lx30.toInt ≤ lx31.toInt) → (4111 - lx29.toInt < (n : Int)) → (trF x2 lx31 lx32) → (S_TR_digits_L10 x2 t0_0 t0_1 t0_2 t0_3 t0_4 t0_5 t0_6 t0_7 t0_8 t0_9 t0_10 t0_11 t0_12 t0_13 t1_0 t2_0 n lx29 lx30 lx31 lx32) ∧ Q_TR_digits x2 t0_0 t0_1 t0_2 t0_4 t0_7 (F_TR_digits_L10 x2 t0_0 t0_1 t0_2 t0_3 t0_4 t0_5 t0_6 t0_7 t0_8 t0_9 t0_10 t0_11 t0_12 t0_13 t1_0 t2_0 n lx29 lx30 lx31 lx32) := by
  intro n
  induction n with
  | zero => intro lx29 lx30 lx31 lx32 h0 h2 h3 hm ho; exact absurd (show False by omega) id
  | succ n ih =>
    intro lx29 lx30 lx31 lx32 h0 h2 h3 hm ho
    have e0 : (0 : Int32).toInt = 0 := rfl
    have e1 : (1 : Int32).toInt = 1 := rfl
    have eL0 : (0 : Int64).toInt = 0 := rfl
    have em : (-1 : Int32).toInt = -1 := rfl
    rw [S_TR_digits_L10.eq_2, F_TR_digits_L10.eq_2]
    by_cases g1 : x2 = (0 : Int32)
    ·
      rw [if_pos g1, if_pos g1]
      have g1i := q_eqI g1
      have h2 := T_TR_here (t0_0 := t0_0) (t0_1 := t0_1) (t0_2 := t0_2) (t0_3 := lx29) (t0_4 := t0_4) (t0_5 := lx31) (t0_6 := lx30) (t0_7 := t0_7) (t0_8 := t0_8) (t0_9 := t0_9) (t0_10 := t0_10) (t0_11 := t0_11) (t0_12 := t0_12) (t0_13 := t0_13) (t1_0 := t1_0) (by first | omega | decide)
      with_reducible refine v_owe h2 ?_
      by_cases g3 : ((F_TR_isDigit ((F_TR_here t0_0 t0_1 t0_2 lx29 t0_4 lx31 lx30 t0_7 t0_8 t0_9 t0_10 t0_11 t0_12 t0_13 t1_0) : Int32)) : Int32) = (0 : Int32)
      ·
        rw [if_pos g3, if_pos g3]
        obtain ⟨lx47, e4⟩ := q_nm ((-1) : Int32)
        rw [e4]
        have lx47q : (lx47.toInt ≤ 15 ∧ (x2.toInt = 0 → lx47.toInt ≤ 9)) ∧ (0 ≤ lx47.toInt → lx29.toInt < t0_1.toInt) := by rw [← e4]; exact ⟨⟨by decide, fun _ => by decide⟩, fun h => absurd h (by decide)⟩
        unfold S_TR_digits_J45 F_TR_digits_J45
        by_cases g5 : lx47 < (0 : Int32)
        ·
          rw [if_pos g5, if_pos g5]
          have g5i : lx47.toInt < 0 := q_ltI g5
          with_reducible refine v_owe h2 ?_
          by_cases g6 : ((F_TR_here t0_0 t0_1 t0_2 lx29 t0_4 lx31 lx30 t0_7 t0_8 t0_9 t0_10 t0_11 t0_12 t0_13 t1_0) : Int32) = (46 : Int32)
          ·
            rw [if_pos g6, if_pos g6]
            have g6i := tr_h g6 (by decide)
            by_cases g7 : (0 : Int32) ≤ lx30
            ·
              rw [if_pos g7, if_pos g7]
              have g7i : 0 ≤ lx30.toInt := q_leI g7
              unfold S_TR_digits_J100 F_TR_digits_J100
              rw [if_pos g7, if_pos g7]
              by_cases g8 : lx31 ≤ (0 : Int32)
              ·
                rw [if_pos g8, if_pos g8]
                have g8i : lx31.toInt ≤ 0 := q_leI g8
                refine ⟨trivial, ?_⟩
                (unfold Q_TR_digits; dsimp only; exact ⟨rfl, rfl, rfl, rfl, rfl, ⟨by omega, by omega⟩, ⟨by omega, by omega⟩, ⟨by omega, by omega⟩, ho, fun h => by first | omega | exact absurd rfl h⟩)
              ·
                rw [if_neg g8, if_neg g8]
                have g8i : 0 < lx31.toInt := q_nleI g8
                refine ⟨trivial, ?_⟩
                (unfold Q_TR_digits; dsimp only; exact ⟨rfl, rfl, rfl, rfl, rfl, ⟨by omega, by omega⟩, ⟨by omega, by omega⟩, ⟨by omega, by omega⟩, ho, fun h => by first | omega | exact absurd rfl h⟩)
            ·
              rw [if_neg g7, if_neg g7]
              have g7i : lx30.toInt < 0 := q_nleI g7
              obtain ⟨a9, e10⟩ := q_nm (lx29 + 1 : Int32)
              rw [e10]
              have a9i : a9.toInt = lx29.toInt + 1 := by rw [← e10]; exact q_addI (x := lx29.toInt) (y := 1) rfl (by decide) (by omega) (by omega)
              exact ih _ _ _ _ ⟨by omega, by omega⟩ ⟨by omega, by omega, by omega⟩ ⟨by omega, by omega⟩ (by omega) ho
          ·
            rw [if_neg g6, if_neg g6]
            unfold S_TR_digits_J100 F_TR_digits_J100
            by_cases g11 : (0 : Int32) ≤ lx30
            ·
              rw [if_pos g11, if_pos g11]
              have g11i : 0 ≤ lx30.toInt := q_leI g11
              by_cases g12 : lx31 ≤ (0 : Int32)
              ·
                rw [if_pos g12, if_pos g12]
                have g12i : lx31.toInt ≤ 0 := q_leI g12
                refine ⟨trivial, ?_⟩
                (unfold Q_TR_digits; dsimp only; exact ⟨rfl, rfl, rfl, rfl, rfl, ⟨by omega, by omega⟩, ⟨by omega, by omega⟩, ⟨by omega, by omega⟩, ho, fun h => by first | omega | exact absurd rfl h⟩)
              ·
                rw [if_neg g12, if_neg g12]
                have g12i : 0 < lx31.toInt := q_nleI g12
                refine ⟨trivial, ?_⟩
                (unfold Q_TR_digits; dsimp only; exact ⟨rfl, rfl, rfl, rfl, rfl, ⟨by omega, by omega⟩, ⟨by omega, by omega⟩, ⟨by omega, by omega⟩, ho, fun h => by first | omega | exact absurd rfl h⟩)
            ·
              rw [if_neg g11, if_neg g11]
              have g11i : lx30.toInt < 0 := q_nleI g11
              by_cases g13 : lx31 ≤ (0 : Int32)
              ·
                rw [if_pos g13, if_pos g13]
                have g13i : lx31.toInt ≤ 0 := q_leI g13
                refine ⟨trivial, ?_⟩
                (unfold Q_TR_digits; dsimp only; exact ⟨rfl, rfl, rfl, rfl, rfl, ⟨by omega, by omega⟩, ⟨by omega, by omega⟩, ⟨by omega, by omega⟩, ho, fun h => by first | omega | exact absurd rfl h⟩)
              ·
                rw [if_neg g13, if_neg g13]
                have g13i : 0 < lx31.toInt := q_nleI g13
                refine ⟨trivial, ?_⟩
                (unfold Q_TR_digits; dsimp only; exact ⟨rfl, rfl, rfl, rfl, rfl, ⟨by omega, by omega⟩, ⟨by omega, by omega⟩, ⟨by omega, by omega⟩, ho, fun h => by first | omega | exact absurd rfl h⟩)
        ·
          rw [if_neg g5, if_neg g5]
          have g5i : 0 ≤ lx47.toInt := q_nltI g5
          refine v_cons (by have pl := lx47q.2 (by omega); omega) ?_
          obtain ⟨a14, e15⟩ := q_nm (lx29 + 1 : Int32)
          rw [e15]
          have a14i : a14.toInt = lx29.toInt + 1 := by rw [← e15]; exact q_addI (x := lx29.toInt) (y := 1) rfl (by decide) (by omega) (by omega)
          obtain ⟨a16, e17⟩ := q_nm (lx31 + 1 : Int32)
          rw [e17]
          have a16i : a16.toInt = lx31.toInt + 1 := by rw [← e17]; exact q_addI (x := lx31.toInt) (y := 1) rfl (by decide) (by omega) (by omega)
          have pl := lx47q.2 (by omega); exact ih _ _ _ _ ⟨by omega, by omega⟩ ⟨by omega, by omega, by omega⟩ ⟨by omega, by omega⟩ (by omega) (trF.put ho (by omega) (by omega) ⟨⟨by omega, lx47q.1.1⟩, lx47q.1.2⟩)
      ·
        rw [if_neg g3, if_neg g3]
        have dgi := tr_d g3
        with_reducible refine v_owe h2 ?_
        obtain ⟨lx47, e18⟩ := q_nm ((((F_TR_here t0_0 t0_1 t0_2 lx29 t0_4 lx31 lx30 t0_7 t0_8 t0_9 t0_10 t0_11 t0_12 t0_13 t1_0) : Int32) - 48 : Int32) : Int32)
        rw [e18]
        have lx47q : (lx47.toInt ≤ 15 ∧ (x2.toInt = 0 → lx47.toInt ≤ 9)) ∧ (0 ≤ lx47.toInt → lx29.toInt < t0_1.toInt) := by rw [← e18, tr_sub48 dgi.2]; exact ⟨⟨by omega, fun _ => by omega⟩, fun _ => dgi.1⟩
        unfold S_TR_digits_J45 F_TR_digits_J45
        by_cases g19 : lx47 < (0 : Int32)
        ·
          rw [if_pos g19, if_pos g19]
          have g19i : lx47.toInt < 0 := q_ltI g19
          with_reducible refine v_owe h2 ?_
          by_cases g20 : ((F_TR_here t0_0 t0_1 t0_2 lx29 t0_4 lx31 lx30 t0_7 t0_8 t0_9 t0_10 t0_11 t0_12 t0_13 t1_0) : Int32) = (46 : Int32)
          ·
            rw [if_pos g20, if_pos g20]
            have g20i := tr_h g20 (by decide)
            by_cases g21 : (0 : Int32) ≤ lx30
            ·
              rw [if_pos g21, if_pos g21]
              have g21i : 0 ≤ lx30.toInt := q_leI g21
              unfold S_TR_digits_J100 F_TR_digits_J100
              rw [if_pos g21, if_pos g21]
              by_cases g22 : lx31 ≤ (0 : Int32)
              ·
                rw [if_pos g22, if_pos g22]
                have g22i : lx31.toInt ≤ 0 := q_leI g22
                refine ⟨trivial, ?_⟩
                (unfold Q_TR_digits; dsimp only; exact ⟨rfl, rfl, rfl, rfl, rfl, ⟨by omega, by omega⟩, ⟨by omega, by omega⟩, ⟨by omega, by omega⟩, ho, fun h => by first | omega | exact absurd rfl h⟩)
              ·
                rw [if_neg g22, if_neg g22]
                have g22i : 0 < lx31.toInt := q_nleI g22
                refine ⟨trivial, ?_⟩
                (unfold Q_TR_digits; dsimp only; exact ⟨rfl, rfl, rfl, rfl, rfl, ⟨by omega, by omega⟩, ⟨by omega, by omega⟩, ⟨by omega, by omega⟩, ho, fun h => by first | omega | exact absurd rfl h⟩)
            ·
              rw [if_neg g21, if_neg g21]
              have g21i : lx30.toInt < 0 := q_nleI g21
              obtain ⟨a23, e24⟩ := q_nm (lx29 + 1 : Int32)
              rw [e24]
              have a23i : a23.toInt = lx29.toInt + 1 := by rw [← e24]; exact q_addI (x := lx29.toInt) (y := 1) rfl (by decide) (by omega) (by omega)
              exact ih _ _ _ _ ⟨by omega, by omega⟩ ⟨by omega, by omega, by omega⟩ ⟨by omega, by omega⟩ (by omega) ho
          ·
            rw [if_neg g20, if_neg g20]
            unfold S_TR_digits_J100 F_TR_digits_J100
            by_cases g25 : (0 : Int32) ≤ lx30
            ·
              rw [if_pos g25, if_pos g25]
              have g25i : 0 ≤ lx30.toInt := q_leI g25
              by_cases g26 : lx31 ≤ (0 : Int32)
              ·
                rw [if_pos g26, if_pos g26]
                have g26i : lx31.toInt ≤ 0 := q_leI g26
                refine ⟨trivial, ?_⟩
                (unfold Q_TR_digits; dsimp only; exact ⟨rfl, rfl, rfl, rfl, rfl, ⟨by omega, by omega⟩, ⟨by omega, by omega⟩, ⟨by omega, by omega⟩, ho, fun h => by first | omega | exact absurd rfl h⟩)
              ·
                rw [if_neg g26, if_neg g26]
                have g26i : 0 < lx31.toInt := q_nleI g26
                refine ⟨trivial, ?_⟩
                (unfold Q_TR_digits; dsimp only; exact ⟨rfl, rfl, rfl, rfl, rfl, ⟨by omega, by omega⟩, ⟨by omega, by omega⟩, ⟨by omega, by omega⟩, ho, fun h => by first | omega | exact absurd rfl h⟩)
            ·
              rw [if_neg g25, if_neg g25]
              have g25i : lx30.toInt < 0 := q_nleI g25
              by_cases g27 : lx31 ≤ (0 : Int32)
              ·
                rw [if_pos g27, if_pos g27]
                have g27i : lx31.toInt ≤ 0 := q_leI g27
                refine ⟨trivial, ?_⟩
                (unfold Q_TR_digits; dsimp only; exact ⟨rfl, rfl, rfl, rfl, rfl, ⟨by omega, by omega⟩, ⟨by omega, by omega⟩, ⟨by omega, by omega⟩, ho, fun h => by first | omega | exact absurd rfl h⟩)
              ·
                rw [if_neg g27, if_neg g27]
                have g27i : 0 < lx31.toInt := q_nleI g27
                refine ⟨trivial, ?_⟩
                (unfold Q_TR_digits; dsimp only; exact ⟨rfl, rfl, rfl, rfl, rfl, ⟨by omega, by omega⟩, ⟨by omega, by omega⟩, ⟨by omega, by omega⟩, ho, fun h => by first | omega | exact absurd rfl h⟩)
        ·
          rw [if_neg g19, if_neg g19]
          have g19i : 0 ≤ lx47.toInt := q_nltI g19
          refine v_cons (by have pl := lx47q.2 (by omega); omega) ?_
          obtain ⟨a28, e29⟩ := q_nm (lx29 + 1 : Int32)
          rw [e29]
          have a28i : a28.toInt = lx29.toInt + 1 := by rw [← e29]; exact q_addI (x := lx29.toInt) (y := 1) rfl (by decide) (by omega) (by omega)
          obtain ⟨a30, e31⟩ := q_nm (lx31 + 1 : Int32)
          rw [e31]
          have a30i : a30.toInt = lx31.toInt + 1 := by rw [← e31]; exact q_addI (x := lx31.toInt) (y := 1) rfl (by decide) (by omega) (by omega)
          have pl := lx47q.2 (by omega); exact ih _ _ _ _ ⟨by omega, by omega⟩ ⟨by omega, by omega, by omega⟩ ⟨by omega, by omega⟩ (by omega) (trF.put ho (by omega) (by omega) ⟨⟨by omega, lx47q.1.1⟩, lx47q.1.2⟩)
    ·
      rw [if_neg g1, if_neg g1]
      have g1i := q_neI g1
      have h32 := T_TR_here (t0_0 := t0_0) (t0_1 := t0_1) (t0_2 := t0_2) (t0_3 := lx29) (t0_4 := t0_4) (t0_5 := lx31) (t0_6 := lx30) (t0_7 := t0_7) (t0_8 := t0_8) (t0_9 := t0_9) (t0_10 := t0_10) (t0_11 := t0_11) (t0_12 := t0_12) (t0_13 := t0_13) (t1_0 := t1_0) (by first | omega | decide)
      with_reducible refine v_owe h32 ?_
      obtain ⟨lx47, e33⟩ := q_nm (((F_TR_hex ((F_TR_here t0_0 t0_1 t0_2 lx29 t0_4 lx31 lx30 t0_7 t0_8 t0_9 t0_10 t0_11 t0_12 t0_13 t1_0) : Int32)) : Int32) : Int32)
      rw [e33]
      have lx47h := tr_hx (x := (F_TR_here t0_0 t0_1 t0_2 lx29 t0_4 lx31 lx30 t0_7 t0_8 t0_9 t0_10 t0_11 t0_12 t0_13 t1_0))
      rw [e33] at lx47h
      have lx47q : (lx47.toInt ≤ 15 ∧ (x2.toInt = 0 → lx47.toInt ≤ 9)) ∧ (0 ≤ lx47.toInt → lx29.toInt < t0_1.toInt) := ⟨⟨lx47h.1.2, fun h => by omega⟩, fun h => tr_h rfl (fun e => lx47h.2 h (by rw [e]; rfl))⟩
      unfold S_TR_digits_J45 F_TR_digits_J45
      by_cases g34 : lx47 < (0 : Int32)
      ·
        rw [if_pos g34, if_pos g34]
        have g34i : lx47.toInt < 0 := q_ltI g34
        with_reducible refine v_owe h32 ?_
        by_cases g35 : ((F_TR_here t0_0 t0_1 t0_2 lx29 t0_4 lx31 lx30 t0_7 t0_8 t0_9 t0_10 t0_11 t0_12 t0_13 t1_0) : Int32) = (46 : Int32)
        ·
          rw [if_pos g35, if_pos g35]
          have g35i := tr_h g35 (by decide)
          by_cases g36 : (0 : Int32) ≤ lx30
          ·
            rw [if_pos g36, if_pos g36]
            have g36i : 0 ≤ lx30.toInt := q_leI g36
            unfold S_TR_digits_J100 F_TR_digits_J100
            rw [if_pos g36, if_pos g36]
            by_cases g37 : lx31 ≤ (0 : Int32)
            ·
              rw [if_pos g37, if_pos g37]
              have g37i : lx31.toInt ≤ 0 := q_leI g37
              refine ⟨trivial, ?_⟩
              (unfold Q_TR_digits; dsimp only; exact ⟨rfl, rfl, rfl, rfl, rfl, ⟨by omega, by omega⟩, ⟨by omega, by omega⟩, ⟨by omega, by omega⟩, ho, fun h => by first | omega | exact absurd rfl h⟩)
            ·
              rw [if_neg g37, if_neg g37]
              have g37i : 0 < lx31.toInt := q_nleI g37
              refine ⟨trivial, ?_⟩
              (unfold Q_TR_digits; dsimp only; exact ⟨rfl, rfl, rfl, rfl, rfl, ⟨by omega, by omega⟩, ⟨by omega, by omega⟩, ⟨by omega, by omega⟩, ho, fun h => by first | omega | exact absurd rfl h⟩)
          ·
            rw [if_neg g36, if_neg g36]
            have g36i : lx30.toInt < 0 := q_nleI g36
            obtain ⟨a38, e39⟩ := q_nm (lx29 + 1 : Int32)
            rw [e39]
            have a38i : a38.toInt = lx29.toInt + 1 := by rw [← e39]; exact q_addI (x := lx29.toInt) (y := 1) rfl (by decide) (by omega) (by omega)
            exact ih _ _ _ _ ⟨by omega, by omega⟩ ⟨by omega, by omega, by omega⟩ ⟨by omega, by omega⟩ (by omega) ho
        ·
          rw [if_neg g35, if_neg g35]
          unfold S_TR_digits_J100 F_TR_digits_J100
          by_cases g40 : (0 : Int32) ≤ lx30
          ·
            rw [if_pos g40, if_pos g40]
            have g40i : 0 ≤ lx30.toInt := q_leI g40
            by_cases g41 : lx31 ≤ (0 : Int32)
            ·
              rw [if_pos g41, if_pos g41]
              have g41i : lx31.toInt ≤ 0 := q_leI g41
              refine ⟨trivial, ?_⟩
              (unfold Q_TR_digits; dsimp only; exact ⟨rfl, rfl, rfl, rfl, rfl, ⟨by omega, by omega⟩, ⟨by omega, by omega⟩, ⟨by omega, by omega⟩, ho, fun h => by first | omega | exact absurd rfl h⟩)
            ·
              rw [if_neg g41, if_neg g41]
              have g41i : 0 < lx31.toInt := q_nleI g41
              refine ⟨trivial, ?_⟩
              (unfold Q_TR_digits; dsimp only; exact ⟨rfl, rfl, rfl, rfl, rfl, ⟨by omega, by omega⟩, ⟨by omega, by omega⟩, ⟨by omega, by omega⟩, ho, fun h => by first | omega | exact absurd rfl h⟩)
          ·
            rw [if_neg g40, if_neg g40]
            have g40i : lx30.toInt < 0 := q_nleI g40
            by_cases g42 : lx31 ≤ (0 : Int32)
            ·
              rw [if_pos g42, if_pos g42]
              have g42i : lx31.toInt ≤ 0 := q_leI g42
              refine ⟨trivial, ?_⟩
              (unfold Q_TR_digits; dsimp only; exact ⟨rfl, rfl, rfl, rfl, rfl, ⟨by omega, by omega⟩, ⟨by omega, by omega⟩, ⟨by omega, by omega⟩, ho, fun h => by first | omega | exact absurd rfl h⟩)
            ·
              rw [if_neg g42, if_neg g42]
              have g42i : 0 < lx31.toInt := q_nleI g42
              refine ⟨trivial, ?_⟩
              (unfold Q_TR_digits; dsimp only; exact ⟨rfl, rfl, rfl, rfl, rfl, ⟨by omega, by omega⟩, ⟨by omega, by omega⟩, ⟨by omega, by omega⟩, ho, fun h => by first | omega | exact absurd rfl h⟩)
      ·
        rw [if_neg g34, if_neg g34]
        have g34i : 0 ≤ lx47.toInt := q_nltI g34
        refine v_cons (by have pl := lx47q.2 (by omega); omega) ?_
        obtain ⟨a43, e44⟩ := q_nm (lx29 + 1 : Int32)
        rw [e44]
        have a43i : a43.toInt = lx29.toInt + 1 := by rw [← e44]; exact q_addI (x := lx29.toInt) (y := 1) rfl (by decide) (by omega) (by omega)
        obtain ⟨a45, e46⟩ := q_nm (lx31 + 1 : Int32)
        rw [e46]
        have a45i : a45.toInt = lx31.toInt + 1 := by rw [← e46]; exact q_addI (x := lx31.toInt) (y := 1) rfl (by decide) (by omega) (by omega)
        have pl := lx47q.2 (by omega); exact ih _ _ _ _ ⟨by omega, by omega⟩ ⟨by omega, by omega, by omega⟩ ⟨by omega, by omega⟩ (by omega) (trF.put ho (by omega) (by omega) ⟨⟨by omega, lx47q.1.1⟩, lx47q.1.2⟩)
theorem T_TR_digits {x2 : Int32} {t0_0 : Int32} {t0_1 : Int32} {t0_2 : Int32} {t0_3 : Int32} {t0_4 : Int32} {t0_5 : Int32} {t0_6 : Int32} {t0_7 : Int64} {t0_8 : Int32} {t0_9 : Int32} {t0_10 : Int64} {t0_11 : Int64} {t0_12 : Int32} {t0_13 : Int32} {t1_0 : (Nat → Int32)} {t2_0 : (Nat → Int32)} (ht : trT t1_0) (hl1 : t0_1.toInt ≤ 4100)(h3 : 0 ≤ t0_3.toInt ∧ t0_3.toInt ≤ 4110) : (S_TR_digits x2 t0_0 t0_1 t0_2 t0_3 t0_4 t0_5 t0_6 t0_7 t0_8 t0_9 t0_10 t0_11 t0_12 t0_13 t1_0 t2_0) ∧ Q_TR_digits x2 t0_0 t0_1 t0_2 t0_4 t0_7 (F_TR_digits x2 t0_0 t0_1 t0_2 t0_3 t0_4 t0_5 t0_6 t0_7 t0_8 t0_9 t0_10 t0_11 t0_12 t0_13 t1_0 t2_0) := by
  have e0 : (0 : Int32).toInt = 0 := rfl
  have e1 : (1 : Int32).toInt = 1 := rfl
  have eL0 : (0 : Int64).toInt = 0 := rfl
  unfold S_TR_digits F_TR_digits
  exact vt_dg ht hl1 1000000 _ _ _ _ ⟨by omega, by omega⟩ ⟨by decide, by omega, by decide⟩ (by decide) (by omega) (fun i hi => by omega)
def Q_TR_power (t0_0 t0_1 t0_2 t0_4 t0_5 t0_6 : Int32) (p : Int32 × Int32 × Int32 × Int32 × Int32 × Int32 × Int32 × Int32 × Int64 × Int32 × Int32 × Int64 × Int64 × Int32 × Int32) : Prop := p.2.1 = t0_0 ∧ p.2.2.1 = t0_1 ∧ p.2.2.2.1 = t0_2 ∧ p.2.2.2.2.2.1 = t0_4 ∧ p.2.2.2.2.2.2.1 = t0_5 ∧ p.2.2.2.2.2.2.2.1 = t0_6 ∧ (0 ≤ p.2.2.2.2.1.toInt ∧ p.2.2.2.2.1.toInt ≤ 4110) ∧ (-20000000000 ≤ p.2.2.2.2.2.2.2.2.1.toInt ∧ p.2.2.2.2.2.2.2.2.1.toInt ≤ 20000000000)
theorem tr_neg {x : Int64} (h : 0 ≤ x.toInt ∧ x.toInt ≤ 20000000000) : -20000000000 ≤ (-x : Int64).toInt ∧ (-x : Int64).toInt ≤ 20000000000 := by
  have e : (-x : Int64) = 0 - x := by rw [Int64.zero_sub]
  have e2 : (0 - x : Int64).toInt = 0 - x.toInt := q_subL (x := 0) (by decide) rfl (by omega) (by omega)
  rw [e, e2]; omega
theorem tr_ten {x : Int64} {h : Int32} (hx : 0 ≤ x.toInt ∧ x.toInt < 1000000000) (hh : 48 ≤ h.toInt ∧ h.toInt ≤ 57) : 0 ≤ ((10 * x + h.toInt64) - 48 : Int64).toInt ∧ ((10 * x + h.toInt64) - 48 : Int64).toInt ≤ 20000000000 := by
  have a : (10 * x : Int64).toInt = 10 * x.toInt := q_mulL (x := 10) (by decide) rfl (by omega) (by omega)
  have b : (10 * x + h.toInt64 : Int64).toInt = 10 * x.toInt + h.toInt := q_addL a (q_i2l rfl) (by omega) (by omega)
  have c : ((10 * x + h.toInt64) - 48 : Int64).toInt = (10 * x.toInt + h.toInt) - 48 := q_subL b (by decide) (by omega) (by omega)
  rw [c]; omega
theorem vt_pw {t0_0 : Int32} {t0_1 : Int32} {t0_2 : Int32} {t0_3 : Int32} {t0_4 : Int32} {t0_5 : Int32} {t0_6 : Int32} {t0_7 : Int64} {t0_8 : Int32} {t0_9 : Int32} {t0_10 : Int64} {t0_11 : Int64} {t0_12 : Int32} {t0_13 : Int32} {t1_0 : (Nat → Int32)} {lx28 : Int32} {lx39 : Int32} (ht : trT t1_0) (hl1 : t0_1.toInt ≤ 4100) : ∀ (n : Nat) (lx64 : Int32) (lx65 : Int64), (0 ≤ lx64.toInt ∧ lx64.toInt ≤ 4110) → (0 ≤ lx65.toInt ∧ lx65.toInt ≤ 20000000000) → (4111 - lx64.toInt < (n : Int)) → (S_TR_power_L50 t0_0 t0_1 t0_2 t0_3 t0_4 t0_5 t0_6 t0_7 t0_8 t0_9 t0_10 t0_11 t0_12 t0_13 t1_0 lx28 lx39 n lx64 lx65) ∧ Q_TR_power t0_0 t0_1 t0_2 t0_4 t0_5 t0_6 (F_TR_power_L50 t0_0 t0_1 t0_2 t0_3 t0_4 t0_5 t0_6 t0_7 t0_8 t0_9 t0_10 t0_11 t0_12 t0_13 t1_0 lx28 lx39 n lx64 lx65) := by
  intro n
  induction n with
  | zero => intro lx64 lx65 h0 hE hm; exact absurd (show False by omega) id
  | succ n ih =>
    intro lx64 lx65 h0 hE hm
    have e0 : (0 : Int32).toInt = 0 := rfl
    have e1 : (1 : Int32).toInt = 1 := rfl
    have eL0 : (0 : Int64).toInt = 0 := rfl
    have e9 : (1000000000 : Int64).toInt = 1000000000 := rfl
    rw [S_TR_power_L50.eq_2, F_TR_power_L50.eq_2]
    have h1 := T_TR_here (t0_0 := t0_0) (t0_1 := t0_1) (t0_2 := t0_2) (t0_3 := lx64) (t0_4 := t0_4) (t0_5 := t0_5) (t0_6 := t0_6) (t0_7 := lx65) (t0_8 := t0_8) (t0_9 := t0_9) (t0_10 := t0_10) (t0_11 := t0_11) (t0_12 := t0_12) (t0_13 := t0_13) (t1_0 := t1_0) (by first | omega | decide)
    with_reducible refine v_owe h1 ?_
    by_cases g2 : ((F_TR_isDigit ((F_TR_here t0_0 t0_1 t0_2 lx64 t0_4 t0_5 t0_6 lx65 t0_8 t0_9 t0_10 t0_11 t0_12 t0_13 t1_0) : Int32)) : Int32) = (0 : Int32)
    ·
      rw [if_pos g2, if_pos g2]
      by_cases g3 : lx28 = (0 : Int32)
      ·
        rw [if_pos g3, if_pos g3]
        refine ⟨trivial, ?_⟩
        (unfold Q_TR_power; dsimp only; first | exact ⟨rfl, rfl, rfl, rfl, rfl, rfl, ⟨by omega, by omega⟩, ⟨by omega, by omega⟩⟩ | exact ⟨rfl, rfl, rfl, rfl, rfl, rfl, ⟨by omega, by omega⟩, tr_neg hE⟩)
      ·
        rw [if_neg g3, if_neg g3]
        refine ⟨trivial, ?_⟩
        (unfold Q_TR_power; dsimp only; first | exact ⟨rfl, rfl, rfl, rfl, rfl, rfl, ⟨by omega, by omega⟩, ⟨by omega, by omega⟩⟩ | exact ⟨rfl, rfl, rfl, rfl, rfl, rfl, ⟨by omega, by omega⟩, tr_neg hE⟩)
    ·
      rw [if_neg g2, if_neg g2]
      have dgi := tr_d g2
      by_cases g4 : (0 : Int32) ≤ (lg_cmp lx65 1000000000 : Int32)
      ·
        rw [if_pos g4, if_pos g4]
        have g4l := g_lc5 g4
        obtain ⟨a5, e6⟩ := q_nm (lx64 + 1 : Int32)
        rw [e6]
        have a5i : a5.toInt = lx64.toInt + 1 := by rw [← e6]; exact q_addI (x := lx64.toInt) (y := 1) rfl (by decide) (by omega) (by omega)
        exact ih _ _ ⟨by omega, by omega⟩ hE (by omega)
      ·
        rw [if_neg g4, if_neg g4]
        have g4l := g_lc6 g4
        with_reducible refine v_owe h1 ?_
        obtain ⟨a7, e8⟩ := q_nm (lx64 + 1 : Int32)
        rw [e8]
        have a7i : a7.toInt = lx64.toInt + 1 := by rw [← e8]; exact q_addI (x := lx64.toInt) (y := 1) rfl (by decide) (by omega) (by omega)
        exact ih _ _ ⟨by omega, by omega⟩ (tr_ten ⟨by omega, by omega⟩ dgi.2) (by omega)
theorem T_TR_power {t0_0 : Int32} {t0_1 : Int32} {t0_2 : Int32} {t0_3 : Int32} {t0_4 : Int32} {t0_5 : Int32} {t0_6 : Int32} {t0_7 : Int64} {t0_8 : Int32} {t0_9 : Int32} {t0_10 : Int64} {t0_11 : Int64} {t0_12 : Int32} {t0_13 : Int32} {t1_0 : (Nat → Int32)} (ht : trT t1_0) (hl1 : t0_1.toInt ≤ 4100)(h3 : 0 ≤ t0_3.toInt ∧ t0_3.toInt ≤ 4109) (h7 : t0_7.toInt = 0) : (S_TR_power t0_0 t0_1 t0_2 t0_3 t0_4 t0_5 t0_6 t0_7 t0_8 t0_9 t0_10 t0_11 t0_12 t0_13 t1_0) ∧ Q_TR_power t0_0 t0_1 t0_2 t0_4 t0_5 t0_6 (F_TR_power t0_0 t0_1 t0_2 t0_3 t0_4 t0_5 t0_6 t0_7 t0_8 t0_9 t0_10 t0_11 t0_12 t0_13 t1_0) := by
  have e0 : (0 : Int32).toInt = 0 := rfl
  have e1 : (1 : Int32).toInt = 1 := rfl
  have eL0 : (0 : Int64).toInt = 0 := rfl
  unfold S_TR_power F_TR_power
  have h1 := T_TR_here (t0_0 := t0_0) (t0_1 := t0_1) (t0_2 := t0_2) (t0_3 := t0_3) (t0_4 := t0_4) (t0_5 := t0_5) (t0_6 := t0_6) (t0_7 := t0_7) (t0_8 := t0_8) (t0_9 := t0_9) (t0_10 := t0_10) (t0_11 := t0_11) (t0_12 := t0_12) (t0_13 := t0_13) (t1_0 := t1_0) (by first | omega | decide)
  with_reducible refine v_owe h1 ?_
  by_cases g2 : ((F_TR_here t0_0 t0_1 t0_2 t0_3 t0_4 t0_5 t0_6 t0_7 t0_8 t0_9 t0_10 t0_11 t0_12 t0_13 t1_0) : Int32) = (45 : Int32)
  ·
    rw [if_pos g2, if_pos g2]
    have g2i := tr_h g2 (by decide)
    unfold S_TR_power_J14 F_TR_power_J14
    have g3 : ¬ ((1 : Int32) = (0 : Int32)) := (by decide)
    rw [if_neg g3, if_neg g3]
    unfold S_TR_power_J28 F_TR_power_J28
    obtain ⟨lx39, e4⟩ := q_nm ((t0_3 + 1 : Int32) : Int32)
    rw [e4]
    have lx39i : lx39.toInt = t0_3.toInt + 1 := by rw [← e4]; exact q_addI (y := 1) rfl (by decide) (by omega) (by omega)
    unfold S_TR_power_J38 F_TR_power_J38
    have h5 := T_TR_here (t0_0 := t0_0) (t0_1 := t0_1) (t0_2 := t0_2) (t0_3 := lx39) (t0_4 := t0_4) (t0_5 := t0_5) (t0_6 := t0_6) (t0_7 := t0_7) (t0_8 := t0_8) (t0_9 := t0_9) (t0_10 := t0_10) (t0_11 := t0_11) (t0_12 := t0_12) (t0_13 := t0_13) (t1_0 := t1_0) (by first | omega | decide)
    with_reducible refine v_owe h5 ?_
    by_cases g6 : ((F_TR_isDigit ((F_TR_here t0_0 t0_1 t0_2 lx39 t0_4 t0_5 t0_6 t0_7 t0_8 t0_9 t0_10 t0_11 t0_12 t0_13 t1_0) : Int32)) : Int32) = (0 : Int32)
    ·
      rw [if_pos g6, if_pos g6]
      refine ⟨trivial, ?_⟩
      (unfold Q_TR_power; dsimp only; first | exact ⟨rfl, rfl, rfl, rfl, rfl, rfl, ⟨by omega, by omega⟩, ⟨by omega, by omega⟩⟩ | exact ⟨rfl, rfl, rfl, rfl, rfl, rfl, ⟨by omega, by omega⟩, tr_neg hE⟩)
    ·
      rw [if_neg g6, if_neg g6]
      have g6i := tr_d g6
      exact vt_pw ht hl1 1000000 _ _ ⟨by omega, by omega⟩ ⟨by omega, by omega⟩ (by omega)
  ·
    rw [if_neg g2, if_neg g2]
    unfold S_TR_power_J14 F_TR_power_J14
    have g7 : ((0 : Int32) = (0 : Int32)) := (by decide)
    rw [if_pos g7, if_pos g7]
    with_reducible refine v_owe h1 ?_
    by_cases g8 : ((F_TR_here t0_0 t0_1 t0_2 t0_3 t0_4 t0_5 t0_6 t0_7 t0_8 t0_9 t0_10 t0_11 t0_12 t0_13 t1_0) : Int32) = (43 : Int32)
    ·
      rw [if_pos g8, if_pos g8]
      have g8i := tr_h g8 (by decide)
      unfold S_TR_power_J28 F_TR_power_J28
      obtain ⟨lx39, e9⟩ := q_nm ((t0_3 + 1 : Int32) : Int32)
      rw [e9]
      have lx39i : lx39.toInt = t0_3.toInt + 1 := by rw [← e9]; exact q_addI (y := 1) rfl (by decide) (by omega) (by omega)
      unfold S_TR_power_J38 F_TR_power_J38
      have h10 := T_TR_here (t0_0 := t0_0) (t0_1 := t0_1) (t0_2 := t0_2) (t0_3 := lx39) (t0_4 := t0_4) (t0_5 := t0_5) (t0_6 := t0_6) (t0_7 := t0_7) (t0_8 := t0_8) (t0_9 := t0_9) (t0_10 := t0_10) (t0_11 := t0_11) (t0_12 := t0_12) (t0_13 := t0_13) (t1_0 := t1_0) (by first | omega | decide)
      with_reducible refine v_owe h10 ?_
      by_cases g11 : ((F_TR_isDigit ((F_TR_here t0_0 t0_1 t0_2 lx39 t0_4 t0_5 t0_6 t0_7 t0_8 t0_9 t0_10 t0_11 t0_12 t0_13 t1_0) : Int32)) : Int32) = (0 : Int32)
      ·
        rw [if_pos g11, if_pos g11]
        refine ⟨trivial, ?_⟩
        (unfold Q_TR_power; dsimp only; first | exact ⟨rfl, rfl, rfl, rfl, rfl, rfl, ⟨by omega, by omega⟩, ⟨by omega, by omega⟩⟩ | exact ⟨rfl, rfl, rfl, rfl, rfl, rfl, ⟨by omega, by omega⟩, tr_neg hE⟩)
      ·
        rw [if_neg g11, if_neg g11]
        have g11i := tr_d g11
        exact vt_pw ht hl1 1000000 _ _ ⟨by omega, by omega⟩ ⟨by omega, by omega⟩ (by omega)
    ·
      rw [if_neg g8, if_neg g8]
      unfold S_TR_power_J38 F_TR_power_J38
      with_reducible refine v_owe h1 ?_
      by_cases g12 : ((F_TR_isDigit ((F_TR_here t0_0 t0_1 t0_2 t0_3 t0_4 t0_5 t0_6 t0_7 t0_8 t0_9 t0_10 t0_11 t0_12 t0_13 t1_0) : Int32)) : Int32) = (0 : Int32)
      ·
        rw [if_pos g12, if_pos g12]
        refine ⟨trivial, ?_⟩
        (unfold Q_TR_power; dsimp only; first | exact ⟨rfl, rfl, rfl, rfl, rfl, rfl, ⟨by omega, by omega⟩, ⟨by omega, by omega⟩⟩ | exact ⟨rfl, rfl, rfl, rfl, rfl, rfl, ⟨by omega, by omega⟩, tr_neg hE⟩)
      ·
        rw [if_neg g12, if_neg g12]
        have g12i := tr_d g12
        exact vt_pw ht hl1 1000000 _ _ ⟨by omega, by omega⟩ ⟨by omega, by omega⟩ (by omega)
/-- a number that was read: kind, figures, point, exponent -/
def trS (k m p : Int32) (e : Int64) (f : Nat → Int32) : Prop := (k.toInt = 0 ∨ k.toInt = 1) ∧ (1 ≤ m.toInt ∧ m.toInt ≤ 4100) ∧ (0 ≤ p.toInt ∧ p.toInt ≤ m.toInt) ∧ (-20000000000 ≤ e.toInt ∧ e.toInt ≤ 20000000000) ∧ trF k m f
theorem trF.k {a b m m1 : Int32} {f : Nat → Int32} (h : trF a m f) (e : b.toInt = a.toInt) (e1 : m1.toInt = m.toInt) : trF b m1 f := fun i hi => ⟨(h i (by omega)).1, fun z => (h i (by omega)).2 (by omega)⟩
theorem tr_shr8 {x : Int64} : (x >>> ((8 : Int32).toInt64 &&& 63)).toInt = x.toInt / 256 := by
  have hc : ((8 : Int32).toInt64 &&& 63).toBitVec.smod 64 = BitVec.ofNat 64 8 := by decide
  show (x >>> ((8 : Int32).toInt64 &&& 63)).toBitVec.toInt = _
  rw [Int64.toBitVec_shiftRight, hc, BitVec.sshiftRight_eq', BitVec.toInt_sshiftRight, Int.shiftRight_eq_div_pow]
  rfl
theorem tr_lt8 {x : Int64} : x.toInt < 256 ^ 8 := by
  have a : x.toInt < 9223372036854775808 := Int64.toInt_lt x
  have e : (256 : Int) ^ 8 = 18446744073709551616 := by decide
  omega
theorem tr_256 {v : Int} {m : Nat} (b : v < 256 ^ m) (h : 0 < v) : 1 ≤ m ∧ v / 256 < 256 ^ (m - 1) := by
  have m2 : 1 ≤ m := by
    by_cases c : m = 0
    · rw [c, Int.pow_zero] at b; omega
    · omega
  refine ⟨m2, ?_⟩
  have p : (256 : Int) ^ m = 256 ^ (m - 1) * 256 := by rw [← fl_pw, show m - 1 + 1 = m by omega]
  rw [p] at b
  generalize (256 : Int) ^ (m - 1) = P at *
  omega
def Q_TR_number (t0_1 t0_4 : Int32) (p : Int32 × Int32 × Int32 × Int32 × Int32 × Int32 × Int32 × Int32 × Int64 × Int32 × Int32 × Int64 × Int64 × Int32 × Int32 × (Nat → Int32)) : Prop := p.2.2.1.toInt = t0_1.toInt ∧ p.2.2.2.2.2.1.toInt = t0_4.toInt ∧ (0 ≤ p.2.2.2.2.1.toInt ∧ p.2.2.2.2.1.toInt ≤ 4120) ∧ (p.1 ≠ 0 → trS p.2.2.2.1 p.2.2.2.2.2.2.1 p.2.2.2.2.2.2.2.1 p.2.2.2.2.2.2.2.2.1 p.2.2.2.2.2.2.2.2.2.2.2.2.2.2.2)
theorem tr_nuA {t b a1 a2 a3 a4 a5 a6 a7 : Int32} {a8 : Int64} {a9 a10 : Int32} {a11 a12 : Int64} {a13 a14 : Int32} {f : Nat → Int32} (h2 : a2.toInt = t.toInt) (h5 : a5.toInt = b.toInt) (h4 : 0 ≤ a4.toInt ∧ a4.toInt ≤ 4120) (hs : trS a3 a6 a7 a8 f) : Q_TR_number t b (1, a1, a2, a3, a4, a5, a6, a7, a8, a9, a10, a11, a12, a13, a14, f) := ⟨h2, h5, h4, fun _ => hs⟩
theorem tr_nuB {t b a1 a2 a3 a4 a5 a6 a7 : Int32} {a8 : Int64} {a9 a10 : Int32} {a11 a12 : Int64} {a13 a14 : Int32} {f : Nat → Int32} (h2 : a2.toInt = t.toInt) (h5 : a5.toInt = b.toInt) (h4 : 0 ≤ a4.toInt ∧ a4.toInt ≤ 4120) : Q_TR_number t b (0, a1, a2, a3, a4, a5, a6, a7, a8, a9, a10, a11, a12, a13, a14, f) := ⟨h2, h5, h4, fun h => absurd rfl h⟩
theorem T_TR_nuA {t0_0 : Int32} {t0_1 : Int32} {t0_2 : Int32} {t0_3 : Int32} {t0_4 : Int32} {t0_5 : Int32} {t0_6 : Int32} {t0_7 : Int64} {t0_8 : Int32} {t0_9 : Int32} {t0_10 : Int64} {t0_11 : Int64} {t0_12 : Int32} {t0_13 : Int32} {t1_0 : (Nat → Int32)} {t2_0 : (Nat → Int32)} (ht : trT t1_0) (hl1 : t0_1.toInt ≤ 4100)(h3 : 0 ≤ t0_3.toInt ∧ t0_3.toInt ≤ 4105) : (S_TR_number_J114 t0_0 t0_1 t0_2 t0_3 t0_4 t0_5 t0_6 t0_7 t0_8 t0_9 t0_10 t0_11 t0_12 t0_13 t1_0 t2_0) ∧ Q_TR_number t0_1 t0_4 (F_TR_number_J114 t0_0 t0_1 t0_2 t0_3 t0_4 t0_5 t0_6 t0_7 t0_8 t0_9 t0_10 t0_11 t0_12 t0_13 t1_0 t2_0) := by
  have e0 : (0 : Int32).toInt = 0 := rfl
  have e1 : (1 : Int32).toInt = 1 := rfl
  have eL0 : (0 : Int64).toInt = 0 := rfl
  unfold S_TR_number_J114 F_TR_number_J114
  have h1 := T_TR_digits (x2 := (0 : Int32)) (t0_0 := t0_0) (t0_1 := t0_1) (t0_2 := (0 : Int32)) (t0_3 := t0_3) (t0_4 := t0_4) (t0_5 := t0_5) (t0_6 := t0_6) (t0_7 := (0 : Int64)) (t0_8 := t0_8) (t0_9 := t0_9) (t0_10 := t0_10) (t0_11 := t0_11) (t0_12 := t0_12) (t0_13 := t0_13) (t1_0 := t1_0) (t2_0 := t2_0) ht (by omega) ⟨by omega, by omega⟩
  with_reducible refine v_owe h1.1 ?_
  replace h1 := h1.2
  generalize F_TR_digits (0 : Int32) t0_0 t0_1 (0 : Int32) t0_3 t0_4 t0_5 t0_6 (0 : Int64) t0_8 t0_9 t0_10 t0_11 t0_12 t0_13 t1_0 t2_0 = p174 at *
  unfold Q_TR_digits at h1
  obtain ⟨h1a, h1b, h1c, h1d, h1e, h14, h16, h17, h1F, h10⟩ := h1
  have dgF := h1F
  have dgb := congrArg Int32.toInt h1b
  have dgc := congrArg Int32.toInt h1c
  have dge := congrArg Int64.toInt h1e
  have dgd := congrArg Int32.toInt h1d
  have dg0 := h10
  unfold S_TR_number_c121 F_TR_number_c121
  by_cases g2 : (p174.1 : Int32) = (0 : Int32)
  ·
    rw [if_pos g2, if_pos g2]
    refine ⟨trivial, ?_⟩
    exact tr_nuB (by omega) (by omega) ⟨by omega, by omega⟩
  ·
    rw [if_neg g2, if_neg g2]
    have dgn := dg0 g2
    have h3 := T_TR_isAt (x2 := (101 : Int32)) (x3 := (69 : Int32)) (t0_0 := (p174.2.1 : Int32)) (t0_1 := (p174.2.2.1 : Int32)) (t0_2 := (p174.2.2.2.1 : Int32)) (t0_3 := (p174.2.2.2.2.1 : Int32)) (t0_4 := (p174.2.2.2.2.2.1 : Int32)) (t0_5 := (p174.2.2.2.2.2.2.1 : Int32)) (t0_6 := (p174.2.2.2.2.2.2.2.1 : Int32)) (t0_7 := (p174.2.2.2.2.2.2.2.2.1 : Int64)) (t0_8 := (p174.2.2.2.2.2.2.2.2.2.1 : Int32)) (t0_9 := (p174.2.2.2.2.2.2.2.2.2.2.1 : Int32)) (t0_10 := (p174.2.2.2.2.2.2.2.2.2.2.2.1 : Int64)) (t0_11 := (p174.2.2.2.2.2.2.2.2.2.2.2.2.1 : Int64)) (t0_12 := (p174.2.2.2.2.2.2.2.2.2.2.2.2.2.1 : Int32)) (t0_13 := (p174.2.2.2.2.2.2.2.2.2.2.2.2.2.2.1 : Int32)) (t1_0 := t1_0) (by first | omega | decide)
    with_reducible refine v_owe h3 ?_
    by_cases g4 : ((F_TR_isAt (101 : Int32) (69 : Int32) (p174.2.1 : Int32) (p174.2.2.1 : Int32) (p174.2.2.2.1 : Int32) (p174.2.2.2.2.1 : Int32) (p174.2.2.2.2.2.1 : Int32) (p174.2.2.2.2.2.2.1 : Int32) (p174.2.2.2.2.2.2.2.1 : Int32) (p174.2.2.2.2.2.2.2.2.1 : Int64) (p174.2.2.2.2.2.2.2.2.2.1 : Int32) (p174.2.2.2.2.2.2.2.2.2.2.1 : Int32) (p174.2.2.2.2.2.2.2.2.2.2.2.1 : Int64) (p174.2.2.2.2.2.2.2.2.2.2.2.2.1 : Int64) (p174.2.2.2.2.2.2.2.2.2.2.2.2.2.1 : Int32) (p174.2.2.2.2.2.2.2.2.2.2.2.2.2.2.1 : Int32) t1_0) : Int32) = (0 : Int32)
    ·
      rw [if_pos g4, if_pos g4]
      unfold S_TR_number_J159 F_TR_number_J159
      have h5 := T_TR_isAt (x2 := (100 : Int32)) (x3 := (68 : Int32)) (t0_0 := (p174.2.1 : Int32)) (t0_1 := (p174.2.2.1 : Int32)) (t0_2 := (p174.2.2.2.1 : Int32)) (t0_3 := (p174.2.2.2.2.1 : Int32)) (t0_4 := (p174.2.2.2.2.2.1 : Int32)) (t0_5 := (p174.2.2.2.2.2.2.1 : Int32)) (t0_6 := (p174.2.2.2.2.2.2.2.1 : Int32)) (t0_7 := (p174.2.2.2.2.2.2.2.2.1 : Int64)) (t0_8 := (p174.2.2.2.2.2.2.2.2.2.1 : Int32)) (t0_9 := (p174.2.2.2.2.2.2.2.2.2.2.1 : Int32)) (t0_10 := (p174.2.2.2.2.2.2.2.2.2.2.2.1 : Int64)) (t0_11 := (p174.2.2.2.2.2.2.2.2.2.2.2.2.1 : Int64)) (t0_12 := (p174.2.2.2.2.2.2.2.2.2.2.2.2.2.1 : Int32)) (t0_13 := (p174.2.2.2.2.2.2.2.2.2.2.2.2.2.2.1 : Int32)) (t1_0 := t1_0) (by first | omega | decide)
      with_reducible refine v_owe h5 ?_
      by_cases g6 : ((F_TR_isAt (100 : Int32) (68 : Int32) (p174.2.1 : Int32) (p174.2.2.1 : Int32) (p174.2.2.2.1 : Int32) (p174.2.2.2.2.1 : Int32) (p174.2.2.2.2.2.1 : Int32) (p174.2.2.2.2.2.2.1 : Int32) (p174.2.2.2.2.2.2.2.1 : Int32) (p174.2.2.2.2.2.2.2.2.1 : Int64) (p174.2.2.2.2.2.2.2.2.2.1 : Int32) (p174.2.2.2.2.2.2.2.2.2.2.1 : Int32) (p174.2.2.2.2.2.2.2.2.2.2.2.1 : Int64) (p174.2.2.2.2.2.2.2.2.2.2.2.2.1 : Int64) (p174.2.2.2.2.2.2.2.2.2.2.2.2.2.1 : Int32) (p174.2.2.2.2.2.2.2.2.2.2.2.2.2.2.1 : Int32) t1_0) : Int32) = (0 : Int32)
      ·
        rw [if_pos g6, if_pos g6]
        have h7 := T_TR_isAt (x2 := (102 : Int32)) (x3 := (70 : Int32)) (t0_0 := (p174.2.1 : Int32)) (t0_1 := (p174.2.2.1 : Int32)) (t0_2 := (p174.2.2.2.1 : Int32)) (t0_3 := (p174.2.2.2.2.1 : Int32)) (t0_4 := (p174.2.2.2.2.2.1 : Int32)) (t0_5 := (p174.2.2.2.2.2.2.1 : Int32)) (t0_6 := (p174.2.2.2.2.2.2.2.1 : Int32)) (t0_7 := (p174.2.2.2.2.2.2.2.2.1 : Int64)) (t0_8 := (p174.2.2.2.2.2.2.2.2.2.1 : Int32)) (t0_9 := (p174.2.2.2.2.2.2.2.2.2.2.1 : Int32)) (t0_10 := (p174.2.2.2.2.2.2.2.2.2.2.2.1 : Int64)) (t0_11 := (p174.2.2.2.2.2.2.2.2.2.2.2.2.1 : Int64)) (t0_12 := (p174.2.2.2.2.2.2.2.2.2.2.2.2.2.1 : Int32)) (t0_13 := (p174.2.2.2.2.2.2.2.2.2.2.2.2.2.2.1 : Int32)) (t1_0 := t1_0) (by first | omega | decide)
        with_reducible refine v_owe h7 ?_
        by_cases g8 : ((F_TR_isAt (102 : Int32) (70 : Int32) (p174.2.1 : Int32) (p174.2.2.1 : Int32) (p174.2.2.2.1 : Int32) (p174.2.2.2.2.1 : Int32) (p174.2.2.2.2.2.1 : Int32) (p174.2.2.2.2.2.2.1 : Int32) (p174.2.2.2.2.2.2.2.1 : Int32) (p174.2.2.2.2.2.2.2.2.1 : Int64) (p174.2.2.2.2.2.2.2.2.2.1 : Int32) (p174.2.2.2.2.2.2.2.2.2.2.1 : Int32) (p174.2.2.2.2.2.2.2.2.2.2.2.1 : Int64) (p174.2.2.2.2.2.2.2.2.2.2.2.2.1 : Int64) (p174.2.2.2.2.2.2.2.2.2.2.2.2.2.1 : Int32) (p174.2.2.2.2.2.2.2.2.2.2.2.2.2.2.1 : Int32) t1_0) : Int32) = (0 : Int32)
        ·
          rw [if_pos g8, if_pos g8]
          refine ⟨trivial, ?_⟩
          exact tr_nuA (by omega) (by omega) ⟨by omega, by omega⟩ ⟨by omega, ⟨by omega, by omega⟩, ⟨by omega, by omega⟩, ⟨by omega, by omega⟩, dgF.k (by omega) (by omega)⟩
        ·
          rw [if_neg g8, if_neg g8]
          have g8i := tr_a g8 (by decide) (by decide)
          refine ⟨trivial, ?_⟩
          obtain ⟨a9, e10⟩ := q_nm ((p174.2.2.2.2.1 : Int32) + 1 : Int32)
          rw [e10]
          have a9i : a9.toInt = (p174.2.2.2.2.1 : Int32).toInt + 1 := by rw [← e10]; exact q_addI (x := (p174.2.2.2.2.1 : Int32).toInt) (y := 1) rfl (by decide) (by omega) (by omega)
          exact tr_nuA (by omega) (by omega) ⟨by omega, by omega⟩ ⟨by omega, ⟨by omega, by omega⟩, ⟨by omega, by omega⟩, ⟨by omega, by omega⟩, dgF.k (by omega) (by omega)⟩
      ·
        rw [if_neg g6, if_neg g6]
        have g6i := tr_a g6 (by decide) (by decide)
        refine ⟨trivial, ?_⟩
        obtain ⟨a11, e12⟩ := q_nm ((p174.2.2.2.2.1 : Int32) + 1 : Int32)
        rw [e12]
        have a11i : a11.toInt = (p174.2.2.2.2.1 : Int32).toInt + 1 := by rw [← e12]; exact q_addI (x := (p174.2.2.2.2.1 : Int32).toInt) (y := 1) rfl (by decide) (by omega) (by omega)
        exact tr_nuA (by omega) (by omega) ⟨by omega, by omega⟩ ⟨by omega, ⟨by omega, by omega⟩, ⟨by omega, by omega⟩, ⟨by omega, by omega⟩, dgF.k (by omega) (by omega)⟩
    ·
      rw [if_neg g4, if_neg g4]
      have g4i := tr_a g4 (by decide) (by decide)
      obtain ⟨a13, e14⟩ := q_nm ((p174.2.2.2.2.1 : Int32) + 1 : Int32)
      rw [e14]
      have a13i : a13.toInt = (p174.2.2.2.2.1 : Int32).toInt + 1 := by rw [← e14]; exact q_addI (x := (p174.2.2.2.2.1 : Int32).toInt) (y := 1) rfl (by decide) (by omega) (by omega)
      have h15 := T_TR_power (t0_0 := (p174.2.1 : Int32)) (t0_1 := (p174.2.2.1 : Int32)) (t0_2 := (p174.2.2.2.1 : Int32)) (t0_3 := a13) (t0_4 := (p174.2.2.2.2.2.1 : Int32)) (t0_5 := (p174.2.2.2.2.2.2.1 : Int32)) (t0_6 := (p174.2.2.2.2.2.2.2.1 : Int32)) (t0_7 := (p174.2.2.2.2.2.2.2.2.1 : Int64)) (t0_8 := (p174.2.2.2.2.2.2.2.2.2.1 : Int32)) (t0_9 := (p174.2.2.2.2.2.2.2.2.2.2.1 : Int32)) (t0_10 := (p174.2.2.2.2.2.2.2.2.2.2.2.1 : Int64)) (t0_11 := (p174.2.2.2.2.2.2.2.2.2.2.2.2.1 : Int64)) (t0_12 := (p174.2.2.2.2.2.2.2.2.2.2.2.2.2.1 : Int32)) (t0_13 := (p174.2.2.2.2.2.2.2.2.2.2.2.2.2.2.1 : Int32)) (t1_0 := t1_0) ht (by omega) ⟨by omega, by omega⟩ (by omega)
      with_reducible refine v_owe h15.1 ?_
      replace h15 := h15.2
      generalize F_TR_power (p174.2.1 : Int32) (p174.2.2.1 : Int32) (p174.2.2.2.1 : Int32) a13 (p174.2.2.2.2.2.1 : Int32) (p174.2.2.2.2.2.2.1 : Int32) (p174.2.2.2.2.2.2.2.1 : Int32) (p174.2.2.2.2.2.2.2.2.1 : Int64) (p174.2.2.2.2.2.2.2.2.2.1 : Int32) (p174.2.2.2.2.2.2.2.2.2.2.1 : Int32) (p174.2.2.2.2.2.2.2.2.2.2.2.1 : Int64) (p174.2.2.2.2.2.2.2.2.2.2.2.2.1 : Int64) (p174.2.2.2.2.2.2.2.2.2.2.2.2.2.1 : Int32) (p174.2.2.2.2.2.2.2.2.2.2.2.2.2.2.1 : Int32) t1_0 = p261 at *
      unfold Q_TR_power at h15
      obtain ⟨h15a, h15b, h15c, h15d, h15e, h15f, h154, h158⟩ := h15
      have pwb := congrArg Int32.toInt h15b
      have pwc := congrArg Int32.toInt h15c
      have pwe := congrArg Int32.toInt h15e
      have pwf := congrArg Int32.toInt h15f
      have pwE := h15e
      have pwC := h15c
      have pwd := congrArg Int32.toInt h15d
      unfold S_TR_number_c151 F_TR_number_c151
      by_cases g16 : (p261.1 : Int32) = (0 : Int32)
      ·
        rw [if_pos g16, if_pos g16]
        refine ⟨trivial, ?_⟩
        exact tr_nuB (by omega) (by omega) ⟨by omega, by omega⟩
      ·
        rw [if_neg g16, if_neg g16]
        unfold S_TR_number_J159 F_TR_number_J159
        have h17 := T_TR_isAt (x2 := (100 : Int32)) (x3 := (68 : Int32)) (t0_0 := (p261.2.1 : Int32)) (t0_1 := (p261.2.2.1 : Int32)) (t0_2 := (p261.2.2.2.1 : Int32)) (t0_3 := (p261.2.2.2.2.1 : Int32)) (t0_4 := (p261.2.2.2.2.2.1 : Int32)) (t0_5 := (p261.2.2.2.2.2.2.1 : Int32)) (t0_6 := (p261.2.2.2.2.2.2.2.1 : Int32)) (t0_7 := (p261.2.2.2.2.2.2.2.2.1 : Int64)) (t0_8 := (p261.2.2.2.2.2.2.2.2.2.1 : Int32)) (t0_9 := (p261.2.2.2.2.2.2.2.2.2.2.1 : Int32)) (t0_10 := (p261.2.2.2.2.2.2.2.2.2.2.2.1 : Int64)) (t0_11 := (p261.2.2.2.2.2.2.2.2.2.2.2.2.1 : Int64)) (t0_12 := (p261.2.2.2.2.2.2.2.2.2.2.2.2.2.1 : Int32)) (t0_13 := (p261.2.2.2.2.2.2.2.2.2.2.2.2.2.2 : Int32)) (t1_0 := t1_0) (by first | omega | decide)
        with_reducible refine v_owe h17 ?_
        by_cases g18 : ((F_TR_isAt (100 : Int32) (68 : Int32) (p261.2.1 : Int32) (p261.2.2.1 : Int32) (p261.2.2.2.1 : Int32) (p261.2.2.2.2.1 : Int32) (p261.2.2.2.2.2.1 : Int32) (p261.2.2.2.2.2.2.1 : Int32) (p261.2.2.2.2.2.2.2.1 : Int32) (p261.2.2.2.2.2.2.2.2.1 : Int64) (p261.2.2.2.2.2.2.2.2.2.1 : Int32) (p261.2.2.2.2.2.2.2.2.2.2.1 : Int32) (p261.2.2.2.2.2.2.2.2.2.2.2.1 : Int64) (p261.2.2.2.2.2.2.2.2.2.2.2.2.1 : Int64) (p261.2.2.2.2.2.2.2.2.2.2.2.2.2.1 : Int32) (p261.2.2.2.2.2.2.2.2.2.2.2.2.2.2 : Int32) t1_0) : Int32) = (0 : Int32)
        ·
          rw [if_pos g18, if_pos g18]
          have h19 := T_TR_isAt (x2 := (102 : Int32)) (x3 := (70 : Int32)) (t0_0 := (p261.2.1 : Int32)) (t0_1 := (p261.2.2.1 : Int32)) (t0_2 := (p261.2.2.2.1 : Int32)) (t0_3 := (p261.2.2.2.2.1 : Int32)) (t0_4 := (p261.2.2.2.2.2.1 : Int32)) (t0_5 := (p261.2.2.2.2.2.2.1 : Int32)) (t0_6 := (p261.2.2.2.2.2.2.2.1 : Int32)) (t0_7 := (p261.2.2.2.2.2.2.2.2.1 : Int64)) (t0_8 := (p261.2.2.2.2.2.2.2.2.2.1 : Int32)) (t0_9 := (p261.2.2.2.2.2.2.2.2.2.2.1 : Int32)) (t0_10 := (p261.2.2.2.2.2.2.2.2.2.2.2.1 : Int64)) (t0_11 := (p261.2.2.2.2.2.2.2.2.2.2.2.2.1 : Int64)) (t0_12 := (p261.2.2.2.2.2.2.2.2.2.2.2.2.2.1 : Int32)) (t0_13 := (p261.2.2.2.2.2.2.2.2.2.2.2.2.2.2 : Int32)) (t1_0 := t1_0) (by first | omega | decide)
          with_reducible refine v_owe h19 ?_
          by_cases g20 : ((F_TR_isAt (102 : Int32) (70 : Int32) (p261.2.1 : Int32) (p261.2.2.1 : Int32) (p261.2.2.2.1 : Int32) (p261.2.2.2.2.1 : Int32) (p261.2.2.2.2.2.1 : Int32) (p261.2.2.2.2.2.2.1 : Int32) (p261.2.2.2.2.2.2.2.1 : Int32) (p261.2.2.2.2.2.2.2.2.1 : Int64) (p261.2.2.2.2.2.2.2.2.2.1 : Int32) (p261.2.2.2.2.2.2.2.2.2.2.1 : Int32) (p261.2.2.2.2.2.2.2.2.2.2.2.1 : Int64) (p261.2.2.2.2.2.2.2.2.2.2.2.2.1 : Int64) (p261.2.2.2.2.2.2.2.2.2.2.2.2.2.1 : Int32) (p261.2.2.2.2.2.2.2.2.2.2.2.2.2.2 : Int32) t1_0) : Int32) = (0 : Int32)
          ·
            rw [if_pos g20, if_pos g20]
            refine ⟨trivial, ?_⟩
            exact tr_nuA (by omega) (by omega) ⟨by omega, by omega⟩ ⟨by omega, ⟨by omega, by omega⟩, ⟨by omega, by omega⟩, ⟨by omega, by omega⟩, dgF.k (by omega) (by omega)⟩
          ·
            rw [if_neg g20, if_neg g20]
            have g20i := tr_a g20 (by decide) (by decide)
            refine ⟨trivial, ?_⟩
            obtain ⟨a21, e22⟩ := q_nm ((p261.2.2.2.2.1 : Int32) + 1 : Int32)
            rw [e22]
            have a21i : a21.toInt = (p261.2.2.2.2.1 : Int32).toInt + 1 := by rw [← e22]; exact q_addI (x := (p261.2.2.2.2.1 : Int32).toInt) (y := 1) rfl (by decide) (by omega) (by omega)
            exact tr_nuA (by omega) (by omega) ⟨by omega, by omega⟩ ⟨by omega, ⟨by omega, by omega⟩, ⟨by omega, by omega⟩, ⟨by omega, by omega⟩, dgF.k (by omega) (by omega)⟩
        ·
          rw [if_neg g18, if_neg g18]
          have g18i := tr_a g18 (by decide) (by decide)
          refine ⟨trivial, ?_⟩
          obtain ⟨a23, e24⟩ := q_nm ((p261.2.2.2.2.1 : Int32) + 1 : Int32)
          rw [e24]
          have a23i : a23.toInt = (p261.2.2.2.2.1 : Int32).toInt + 1 := by rw [← e24]; exact q_addI (x := (p261.2.2.2.2.1 : Int32).toInt) (y := 1) rfl (by decide) (by omega) (by omega)
          exact tr_nuA (by omega) (by omega) ⟨by omega, by omega⟩ ⟨by omega, ⟨by omega, by omega⟩, ⟨by omega, by omega⟩, ⟨by omega, by omega⟩, dgF.k (by omega) (by omega)⟩
theorem T_TR_nuB {t0_0 : Int32} {t0_1 : Int32} {t0_2 : Int32} {t0_3 : Int32} {t0_4 : Int32} {t0_5 : Int32} {t0_6 : Int32} {t0_7 : Int64} {t0_8 : Int32} {t0_9 : Int32} {t0_10 : Int64} {t0_11 : Int64} {t0_12 : Int32} {t0_13 : Int32} {t1_0 : (Nat → Int32)} {t2_0 : (Nat → Int32)} (ht : trT t1_0) (hl1 : t0_1.toInt ≤ 4100)(h3 : 0 ≤ t0_3.toInt ∧ t0_3.toInt ≤ 4105) : (S_TR_number_J59 t0_0 t0_1 t0_2 t0_3 t0_4 t0_5 t0_6 t0_7 t0_8 t0_9 t0_10 t0_11 t0_12 t0_13 t1_0 t2_0) ∧ Q_TR_number t0_1 t0_4 (F_TR_number_J59 t0_0 t0_1 t0_2 t0_3 t0_4 t0_5 t0_6 t0_7 t0_8 t0_9 t0_10 t0_11 t0_12 t0_13 t1_0 t2_0) := by
  have e0 : (0 : Int32).toInt = 0 := rfl
  have e1 : (1 : Int32).toInt = 1 := rfl
  have eL0 : (0 : Int64).toInt = 0 := rfl
  unfold S_TR_number_J59 F_TR_number_J59
  obtain ⟨a1, e2⟩ := q_nm (t0_3 + 2 : Int32)
  rw [e2]
  have a1i : a1.toInt = t0_3.toInt + 2 := by rw [← e2]; exact q_addI (x := t0_3.toInt) (y := 2) rfl (by decide) (by omega) (by omega)
  have h3 := T_TR_digits (x2 := (1 : Int32)) (t0_0 := t0_0) (t0_1 := t0_1) (t0_2 := (1 : Int32)) (t0_3 := a1) (t0_4 := t0_4) (t0_5 := t0_5) (t0_6 := t0_6) (t0_7 := (0 : Int64)) (t0_8 := t0_8) (t0_9 := t0_9) (t0_10 := t0_10) (t0_11 := t0_11) (t0_12 := t0_12) (t0_13 := t0_13) (t1_0 := t1_0) (t2_0 := t2_0) ht (by omega) ⟨by omega, by omega⟩
  with_reducible refine v_owe h3.1 ?_
  replace h3 := h3.2
  generalize F_TR_digits (1 : Int32) t0_0 t0_1 (1 : Int32) a1 t0_4 t0_5 t0_6 (0 : Int64) t0_8 t0_9 t0_10 t0_11 t0_12 t0_13 t1_0 t2_0 = p367 at *
  unfold Q_TR_digits at h3
  obtain ⟨h3a, h3b, h3c, h3d, h3e, h34, h36, h37, h3F, h30⟩ := h3
  have dgF := h3F
  have dgb := congrArg Int32.toInt h3b
  have dgc := congrArg Int32.toInt h3c
  have dge := congrArg Int64.toInt h3e
  have dgd := congrArg Int32.toInt h3d
  have dg0 := h30
  unfold S_TR_number_c76 F_TR_number_c76
  by_cases g4 : (p367.1 : Int32) = (0 : Int32)
  ·
    rw [if_pos g4, if_pos g4]
    refine ⟨trivial, ?_⟩
    exact tr_nuB (by omega) (by omega) ⟨by omega, by omega⟩
  ·
    rw [if_neg g4, if_neg g4]
    have dgn := dg0 g4
    have h5 := T_TR_isAt (x2 := (112 : Int32)) (x3 := (80 : Int32)) (t0_0 := (p367.2.1 : Int32)) (t0_1 := (p367.2.2.1 : Int32)) (t0_2 := (p367.2.2.2.1 : Int32)) (t0_3 := (p367.2.2.2.2.1 : Int32)) (t0_4 := (p367.2.2.2.2.2.1 : Int32)) (t0_5 := (p367.2.2.2.2.2.2.1 : Int32)) (t0_6 := (p367.2.2.2.2.2.2.2.1 : Int32)) (t0_7 := (p367.2.2.2.2.2.2.2.2.1 : Int64)) (t0_8 := (p367.2.2.2.2.2.2.2.2.2.1 : Int32)) (t0_9 := (p367.2.2.2.2.2.2.2.2.2.2.1 : Int32)) (t0_10 := (p367.2.2.2.2.2.2.2.2.2.2.2.1 : Int64)) (t0_11 := (p367.2.2.2.2.2.2.2.2.2.2.2.2.1 : Int64)) (t0_12 := (p367.2.2.2.2.2.2.2.2.2.2.2.2.2.1 : Int32)) (t0_13 := (p367.2.2.2.2.2.2.2.2.2.2.2.2.2.2.1 : Int32)) (t1_0 := t1_0) (by first | omega | decide)
    with_reducible refine v_owe h5 ?_
    by_cases g6 : ((F_TR_isAt (112 : Int32) (80 : Int32) (p367.2.1 : Int32) (p367.2.2.1 : Int32) (p367.2.2.2.1 : Int32) (p367.2.2.2.2.1 : Int32) (p367.2.2.2.2.2.1 : Int32) (p367.2.2.2.2.2.2.1 : Int32) (p367.2.2.2.2.2.2.2.1 : Int32) (p367.2.2.2.2.2.2.2.2.1 : Int64) (p367.2.2.2.2.2.2.2.2.2.1 : Int32) (p367.2.2.2.2.2.2.2.2.2.2.1 : Int32) (p367.2.2.2.2.2.2.2.2.2.2.2.1 : Int64) (p367.2.2.2.2.2.2.2.2.2.2.2.2.1 : Int64) (p367.2.2.2.2.2.2.2.2.2.2.2.2.2.1 : Int32) (p367.2.2.2.2.2.2.2.2.2.2.2.2.2.2.1 : Int32) t1_0) : Int32) = (0 : Int32)
    ·
      rw [if_pos g6, if_pos g6]
      refine ⟨trivial, ?_⟩
      exact tr_nuB (by omega) (by omega) ⟨by omega, by omega⟩
    ·
      rw [if_neg g6, if_neg g6]
      have g6i := tr_a g6 (by decide) (by decide)
      obtain ⟨a7, e8⟩ := q_nm ((p367.2.2.2.2.1 : Int32) + 1 : Int32)
      rw [e8]
      have a7i : a7.toInt = (p367.2.2.2.2.1 : Int32).toInt + 1 := by rw [← e8]; exact q_addI (x := (p367.2.2.2.2.1 : Int32).toInt) (y := 1) rfl (by decide) (by omega) (by omega)
      have h9 := T_TR_power (t0_0 := (p367.2.1 : Int32)) (t0_1 := (p367.2.2.1 : Int32)) (t0_2 := (p367.2.2.2.1 : Int32)) (t0_3 := a7) (t0_4 := (p367.2.2.2.2.2.1 : Int32)) (t0_5 := (p367.2.2.2.2.2.2.1 : Int32)) (t0_6 := (p367.2.2.2.2.2.2.2.1 : Int32)) (t0_7 := (p367.2.2.2.2.2.2.2.2.1 : Int64)) (t0_8 := (p367.2.2.2.2.2.2.2.2.2.1 : Int32)) (t0_9 := (p367.2.2.2.2.2.2.2.2.2.2.1 : Int32)) (t0_10 := (p367.2.2.2.2.2.2.2.2.2.2.2.1 : Int64)) (t0_11 := (p367.2.2.2.2.2.2.2.2.2.2.2.2.1 : Int64)) (t0_12 := (p367.2.2.2.2.2.2.2.2.2.2.2.2.2.1 : Int32)) (t0_13 := (p367.2.2.2.2.2.2.2.2.2.2.2.2.2.2.1 : Int32)) (t1_0 := t1_0) ht (by omega) ⟨by omega, by omega⟩ (by omega)
      with_reducible refine v_owe h9.1 ?_
      replace h9 := h9.2
      generalize F_TR_power (p367.2.1 : Int32) (p367.2.2.1 : Int32) (p367.2.2.2.1 : Int32) a7 (p367.2.2.2.2.2.1 : Int32) (p367.2.2.2.2.2.2.1 : Int32) (p367.2.2.2.2.2.2.2.1 : Int32) (p367.2.2.2.2.2.2.2.2.1 : Int64) (p367.2.2.2.2.2.2.2.2.2.1 : Int32) (p367.2.2.2.2.2.2.2.2.2.2.1 : Int32) (p367.2.2.2.2.2.2.2.2.2.2.2.1 : Int64) (p367.2.2.2.2.2.2.2.2.2.2.2.2.1 : Int64) (p367.2.2.2.2.2.2.2.2.2.2.2.2.2.1 : Int32) (p367.2.2.2.2.2.2.2.2.2.2.2.2.2.2.1 : Int32) t1_0 = p454 at *
      unfold Q_TR_power at h9
      obtain ⟨h9a, h9b, h9c, h9d, h9e, h9f, h94, h98⟩ := h9
      have pwb := congrArg Int32.toInt h9b
      have pwc := congrArg Int32.toInt h9c
      have pwe := congrArg Int32.toInt h9e
      have pwf := congrArg Int32.toInt h9f
      have pwE := h9e
      have pwC := h9c
      have pwd := congrArg Int32.toInt h9d
      unfold S_TR_number_c106 F_TR_number_c106
      by_cases g10 : (p454.1 : Int32) = (0 : Int32)
      ·
        rw [if_pos g10, if_pos g10]
        refine ⟨trivial, ?_⟩
        exact tr_nuB (by omega) (by omega) ⟨by omega, by omega⟩
      ·
        rw [if_neg g10, if_neg g10]
        unfold S_TR_number_J159 F_TR_number_J159
        have h11 := T_TR_isAt (x2 := (100 : Int32)) (x3 := (68 : Int32)) (t0_0 := (p454.2.1 : Int32)) (t0_1 := (p454.2.2.1 : Int32)) (t0_2 := (p454.2.2.2.1 : Int32)) (t0_3 := (p454.2.2.2.2.1 : Int32)) (t0_4 := (p454.2.2.2.2.2.1 : Int32)) (t0_5 := (p454.2.2.2.2.2.2.1 : Int32)) (t0_6 := (p454.2.2.2.2.2.2.2.1 : Int32)) (t0_7 := (p454.2.2.2.2.2.2.2.2.1 : Int64)) (t0_8 := (p454.2.2.2.2.2.2.2.2.2.1 : Int32)) (t0_9 := (p454.2.2.2.2.2.2.2.2.2.2.1 : Int32)) (t0_10 := (p454.2.2.2.2.2.2.2.2.2.2.2.1 : Int64)) (t0_11 := (p454.2.2.2.2.2.2.2.2.2.2.2.2.1 : Int64)) (t0_12 := (p454.2.2.2.2.2.2.2.2.2.2.2.2.2.1 : Int32)) (t0_13 := (p454.2.2.2.2.2.2.2.2.2.2.2.2.2.2 : Int32)) (t1_0 := t1_0) (by first | omega | decide)
        with_reducible refine v_owe h11 ?_
        by_cases g12 : ((F_TR_isAt (100 : Int32) (68 : Int32) (p454.2.1 : Int32) (p454.2.2.1 : Int32) (p454.2.2.2.1 : Int32) (p454.2.2.2.2.1 : Int32) (p454.2.2.2.2.2.1 : Int32) (p454.2.2.2.2.2.2.1 : Int32) (p454.2.2.2.2.2.2.2.1 : Int32) (p454.2.2.2.2.2.2.2.2.1 : Int64) (p454.2.2.2.2.2.2.2.2.2.1 : Int32) (p454.2.2.2.2.2.2.2.2.2.2.1 : Int32) (p454.2.2.2.2.2.2.2.2.2.2.2.1 : Int64) (p454.2.2.2.2.2.2.2.2.2.2.2.2.1 : Int64) (p454.2.2.2.2.2.2.2.2.2.2.2.2.2.1 : Int32) (p454.2.2.2.2.2.2.2.2.2.2.2.2.2.2 : Int32) t1_0) : Int32) = (0 : Int32)
        ·
          rw [if_pos g12, if_pos g12]
          have h13 := T_TR_isAt (x2 := (102 : Int32)) (x3 := (70 : Int32)) (t0_0 := (p454.2.1 : Int32)) (t0_1 := (p454.2.2.1 : Int32)) (t0_2 := (p454.2.2.2.1 : Int32)) (t0_3 := (p454.2.2.2.2.1 : Int32)) (t0_4 := (p454.2.2.2.2.2.1 : Int32)) (t0_5 := (p454.2.2.2.2.2.2.1 : Int32)) (t0_6 := (p454.2.2.2.2.2.2.2.1 : Int32)) (t0_7 := (p454.2.2.2.2.2.2.2.2.1 : Int64)) (t0_8 := (p454.2.2.2.2.2.2.2.2.2.1 : Int32)) (t0_9 := (p454.2.2.2.2.2.2.2.2.2.2.1 : Int32)) (t0_10 := (p454.2.2.2.2.2.2.2.2.2.2.2.1 : Int64)) (t0_11 := (p454.2.2.2.2.2.2.2.2.2.2.2.2.1 : Int64)) (t0_12 := (p454.2.2.2.2.2.2.2.2.2.2.2.2.2.1 : Int32)) (t0_13 := (p454.2.2.2.2.2.2.2.2.2.2.2.2.2.2 : Int32)) (t1_0 := t1_0) (by first | omega | decide)
          with_reducible refine v_owe h13 ?_
          by_cases g14 : ((F_TR_isAt (102 : Int32) (70 : Int32) (p454.2.1 : Int32) (p454.2.2.1 : Int32) (p454.2.2.2.1 : Int32) (p454.2.2.2.2.1 : Int32) (p454.2.2.2.2.2.1 : Int32) (p454.2.2.2.2.2.2.1 : Int32) (p454.2.2.2.2.2.2.2.1 : Int32) (p454.2.2.2.2.2.2.2.2.1 : Int64) (p454.2.2.2.2.2.2.2.2.2.1 : Int32) (p454.2.2.2.2.2.2.2.2.2.2.1 : Int32) (p454.2.2.2.2.2.2.2.2.2.2.2.1 : Int64) (p454.2.2.2.2.2.2.2.2.2.2.2.2.1 : Int64) (p454.2.2.2.2.2.2.2.2.2.2.2.2.2.1 : Int32) (p454.2.2.2.2.2.2.2.2.2.2.2.2.2.2 : Int32) t1_0) : Int32) = (0 : Int32)
          ·
            rw [if_pos g14, if_pos g14]
            refine ⟨trivial, ?_⟩
            exact tr_nuA (by omega) (by omega) ⟨by omega, by omega⟩ ⟨by omega, ⟨by omega, by omega⟩, ⟨by omega, by omega⟩, ⟨by omega, by omega⟩, dgF.k (by omega) (by omega)⟩
          ·
            rw [if_neg g14, if_neg g14]
            have g14i := tr_a g14 (by decide) (by decide)
            refine ⟨trivial, ?_⟩
            obtain ⟨a15, e16⟩ := q_nm ((p454.2.2.2.2.1 : Int32) + 1 : Int32)
            rw [e16]
            have a15i : a15.toInt = (p454.2.2.2.2.1 : Int32).toInt + 1 := by rw [← e16]; exact q_addI (x := (p454.2.2.2.2.1 : Int32).toInt) (y := 1) rfl (by decide) (by omega) (by omega)
            exact tr_nuA (by omega) (by omega) ⟨by omega, by omega⟩ ⟨by omega, ⟨by omega, by omega⟩, ⟨by omega, by omega⟩, ⟨by omega, by omega⟩, dgF.k (by omega) (by omega)⟩
        ·
          rw [if_neg g12, if_neg g12]
          have g12i := tr_a g12 (by decide) (by decide)
          refine ⟨trivial, ?_⟩
          obtain ⟨a17, e18⟩ := q_nm ((p454.2.2.2.2.1 : Int32) + 1 : Int32)
          rw [e18]
          have a17i : a17.toInt = (p454.2.2.2.2.1 : Int32).toInt + 1 := by rw [← e18]; exact q_addI (x := (p454.2.2.2.2.1 : Int32).toInt) (y := 1) rfl (by decide) (by omega) (by omega)
          exact tr_nuA (by omega) (by omega) ⟨by omega, by omega⟩ ⟨by omega, ⟨by omega, by omega⟩, ⟨by omega, by omega⟩, ⟨by omega, by omega⟩, dgF.k (by omega) (by omega)⟩
theorem T_TR_number {t0_0 : Int32} {t0_1 : Int32} {t0_2 : Int32} {t0_3 : Int32} {t0_4 : Int32} {t0_5 : Int32} {t0_6 : Int32} {t0_7 : Int64} {t0_8 : Int32} {t0_9 : Int32} {t0_10 : Int64} {t0_11 : Int64} {t0_12 : Int32} {t0_13 : Int32} {t1_0 : (Nat → Int32)} {t2_0 : (Nat → Int32)} (ht : trT t1_0) (hl1 : t0_1.toInt ≤ 4100)(h3 : 0 ≤ t0_3.toInt ∧ t0_3.toInt ≤ 4105) : (S_TR_number t0_0 t0_1 t0_2 t0_3 t0_4 t0_5 t0_6 t0_7 t0_8 t0_9 t0_10 t0_11 t0_12 t0_13 t1_0 t2_0) ∧ Q_TR_number t0_1 t0_4 (F_TR_number t0_0 t0_1 t0_2 t0_3 t0_4 t0_5 t0_6 t0_7 t0_8 t0_9 t0_10 t0_11 t0_12 t0_13 t1_0 t2_0) := by
  have e0 : (0 : Int32).toInt = 0 := rfl
  have e1 : (1 : Int32).toInt = 1 := rfl
  have eL0 : (0 : Int64).toInt = 0 := rfl
  unfold S_TR_number F_TR_number
  have h1 := T_TR_here (t0_0 := t0_0) (t0_1 := t0_1) (t0_2 := t0_2) (t0_3 := t0_3) (t0_4 := t0_4) (t0_5 := t0_5) (t0_6 := t0_6) (t0_7 := (0 : Int64)) (t0_8 := t0_8) (t0_9 := t0_9) (t0_10 := t0_10) (t0_11 := t0_11) (t0_12 := t0_12) (t0_13 := t0_13) (t1_0 := t1_0) (by first | omega | decide)
  with_reducible refine v_owe h1 ?_
  by_cases g2 : ((F_TR_here t0_0 t0_1 t0_2 t0_3 t0_4 t0_5 t0_6 (0 : Int64) t0_8 t0_9 t0_10 t0_11 t0_12 t0_13 t1_0) : Int32) = (48 : Int32)
  ·
    rw [if_pos g2, if_pos g2]
    have g2i := tr_h g2 (by decide)
    obtain ⟨a3, e4⟩ := q_nm (t0_3 + 1 : Int32)
    rw [e4]
    have a3i : a3.toInt = t0_3.toInt + 1 := by rw [← e4]; exact q_addI (x := t0_3.toInt) (y := 1) rfl (by decide) (by omega) (by omega)
    by_cases g5 : t0_1 ≤ a3
    ·
      rw [if_pos g5, if_pos g5]
      have g5i : t0_1.toInt ≤ a3.toInt := q_leI g5
      exact T_TR_nuA ht hl1 h3
    ·
      rw [if_neg g5, if_neg g5]
      have g5i : a3.toInt < t0_1.toInt := q_nleI g5
      refine v_cons (by first | omega | decide) ?_
      refine v_cons (by first | omega | decide) ?_
      by_cases g6 : (t1_0 a3.toNatClampNeg : Int32) = (120 : Int32)
      ·
        rw [if_pos g6, if_pos g6]
        exact T_TR_nuB ht hl1 h3
      ·
        rw [if_neg g6, if_neg g6]
        refine v_cons (by first | omega | decide) ?_
        refine v_cons (by first | omega | decide) ?_
        by_cases g7 : (t1_0 a3.toNatClampNeg : Int32) = (88 : Int32)
        ·
          rw [if_pos g7, if_pos g7]
          exact T_TR_nuB ht hl1 h3
        ·
          rw [if_neg g7, if_neg g7]
          exact T_TR_nuA ht hl1 h3
  ·
    rw [if_neg g2, if_neg g2]
    exact T_TR_nuA ht hl1 h3
def Q_TR_blanks (t0_1 t0_2 t0_3 t0_4 t0_5 t0_6 : Int32) (t0_7 : Int64) (p : Int32 × Int32 × Int32 × Int32 × Int32 × Int32 × Int32 × Int64 × Int32 × Int32 × Int64 × Int64 × Int32 × Int32) : Prop := p.2.1 = t0_1 ∧ p.2.2.1 = t0_2 ∧ p.2.2.2.2.1 = t0_4 ∧ (0 ≤ p.2.2.2.1.toInt ∧ (p.2.2.2.1.toInt ≤ t0_3.toInt ∨ p.2.2.2.1.toInt ≤ 4100)) ∧ (∀ f, trS t0_2 t0_5 t0_6 t0_7 f → trS p.2.2.1 p.2.2.2.2.2.1 p.2.2.2.2.2.2.1 p.2.2.2.2.2.2.2.1 f)
theorem vt_bl {t0_0 : Int32} {t0_1 : Int32} {t0_2 : Int32} {t0_3 : Int32} {t0_4 : Int32} {t0_5 : Int32} {t0_6 : Int32} {t0_7 : Int64} {t0_8 : Int32} {t0_9 : Int32} {t0_10 : Int64} {t0_11 : Int64} {t0_12 : Int32} {t0_13 : Int32} {t1_0 : (Nat → Int32)} (hl1 : t0_1.toInt ≤ 4100) : ∀ (n : Nat) (lx22 : Int32), (0 ≤ lx22.toInt ∧ lx22.toInt ≤ 4150 ∧ (lx22.toInt ≤ t0_3.toInt ∨ lx22.toInt ≤ 4100)) → (4100 - lx22.toInt < (n : Int) ∧ 0 < (n : Int)) → (S_TR_blanks_L0 t0_0 t0_1 t0_2 t0_3 t0_4 t0_5 t0_6 t0_7 t0_8 t0_9 t0_10 t0_11 t0_12 t0_13 t1_0 n lx22) ∧ Q_TR_blanks t0_1 t0_2 t0_3 t0_4 t0_5 t0_6 t0_7 (F_TR_blanks_L0 t0_0 t0_1 t0_2 t0_3 t0_4 t0_5 t0_6 t0_7 t0_8 t0_9 t0_10 t0_11 t0_12 t0_13 t1_0 n lx22) := by
  intro n
  induction n with
  | zero => intro lx22 h0 hm; exact absurd (show False by omega) id
  | succ n ih =>
    intro lx22 h0 hm
    have e0 : (0 : Int32).toInt = 0 := rfl
    have e1 : (1 : Int32).toInt = 1 := rfl
    have eL0 : (0 : Int64).toInt = 0 := rfl
    rw [S_TR_blanks_L0.eq_2, F_TR_blanks_L0.eq_2]
    by_cases g1 : t0_1 ≤ lx22
    ·
      rw [if_pos g1, if_pos g1]
      have g1i : t0_1.toInt ≤ lx22.toInt := q_leI g1
      refine ⟨trivial, ?_⟩
      (unfold Q_TR_blanks; dsimp only; exact ⟨rfl, rfl, rfl, ⟨by omega, by omega⟩, fun f h => h⟩)
    ·
      rw [if_neg g1, if_neg g1]
      have g1i : lx22.toInt < t0_1.toInt := q_nleI g1
      refine v_cons (by first | omega | decide) ?_
      by_cases g2 : (32 : Int32) < (t1_0 lx22.toNatClampNeg : Int32)
      ·
        rw [if_pos g2, if_pos g2]
        refine ⟨trivial, ?_⟩
        (unfold Q_TR_blanks; dsimp only; exact ⟨rfl, rfl, rfl, ⟨by omega, by omega⟩, fun f h => h⟩)
      ·
        rw [if_neg g2, if_neg g2]
        obtain ⟨a3, e4⟩ := q_nm (lx22 + 1 : Int32)
        rw [e4]
        have a3i : a3.toInt = lx22.toInt + 1 := by rw [← e4]; exact q_addI (x := lx22.toInt) (y := 1) rfl (by decide) (by omega) (by omega)
        exact ih _ ⟨by omega, by omega, by omega⟩ ⟨by omega, by omega⟩
theorem T_TR_blanks {t0_0 : Int32} {t0_1 : Int32} {t0_2 : Int32} {t0_3 : Int32} {t0_4 : Int32} {t0_5 : Int32} {t0_6 : Int32} {t0_7 : Int64} {t0_8 : Int32} {t0_9 : Int32} {t0_10 : Int64} {t0_11 : Int64} {t0_12 : Int32} {t0_13 : Int32} {t1_0 : (Nat → Int32)} (hl1 : t0_1.toInt ≤ 4100) (h3 : 0 ≤ t0_3.toInt ∧ t0_3.toInt ≤ 4150) : (S_TR_blanks t0_0 t0_1 t0_2 t0_3 t0_4 t0_5 t0_6 t0_7 t0_8 t0_9 t0_10 t0_11 t0_12 t0_13 t1_0) ∧ Q_TR_blanks t0_1 t0_2 t0_3 t0_4 t0_5 t0_6 t0_7 (F_TR_blanks t0_0 t0_1 t0_2 t0_3 t0_4 t0_5 t0_6 t0_7 t0_8 t0_9 t0_10 t0_11 t0_12 t0_13 t1_0) := by
  have e0 : (0 : Int32).toInt = 0 := rfl
  have e1 : (1 : Int32).toInt = 1 := rfl
  have eL0 : (0 : Int64).toInt = 0 := rfl
  unfold S_TR_blanks F_TR_blanks
  exact vt_bl hl1 _ _ ⟨by omega, by omega, by omega⟩ ⟨by omega, by omega⟩
def Q_TR_spells (t0_1 t0_2 t0_4 : Int32) (p : Int32 × Int32 × Int32 × Int32 × Int32 × Int32 × Int32 × Int32 × Int64 × Int32 × Int32 × Int64 × Int64 × Int32 × Int32) : Prop := p.2.2.1 = t0_1 ∧ p.2.2.2.1 = t0_2 ∧ p.2.2.2.2.2.1 = t0_4 ∧ (0 ≤ p.2.2.2.2.1.toInt ∧ p.2.2.2.2.1.toInt ≤ 4130)
theorem vt_sp {x2 : Int64} {t0_0 : Int32} {t0_1 : Int32} {t0_2 : Int32} {t0_3 : Int32} {t0_4 : Int32} {t0_5 : Int32} {t0_6 : Int32} {t0_7 : Int64} {t0_8 : Int32} {t0_9 : Int32} {t0_10 : Int64} {t0_11 : Int64} {t0_12 : Int32} {t0_13 : Int32} {t1_0 : (Nat → Int32)} (h3 : 0 ≤ t0_3.toInt ∧ t0_3.toInt ≤ 4110) : ∀ (n : Nat) (lx23 : Int64) (lx24 : Int32), (0 ≤ lx23.toInt) → (∃ j : Nat, lx23.toInt < 256 ^ j ∧ j < n ∧ lx24.toInt + (j : Int) ≤ t0_3.toInt + 8) → (0 ≤ lx24.toInt) → (S_TR_spells_L2 x2 t0_0 t0_1 t0_2 t0_3 t0_4 t0_5 t0_6 t0_7 t0_8 t0_9 t0_10 t0_11 t0_12 t0_13 t1_0 n lx23 lx24) ∧ Q_TR_spells t0_1 t0_2 t0_4 (F_TR_spells_L2 x2 t0_0 t0_1 t0_2 t0_3 t0_4 t0_5 t0_6 t0_7 t0_8 t0_9 t0_10 t0_11 t0_12 t0_13 t1_0 n lx23 lx24) := by
  intro n
  induction n with
  | zero => intro lx23 lx24 hx hj h0; obtain ⟨j, -, a, -⟩ := hj; omega
  | succ n ih =>
    intro lx23 lx24 hx hj h0
    have e0 : (0 : Int32).toInt = 0 := rfl
    have e1 : (1 : Int32).toInt = 1 := rfl
    have eL0 : (0 : Int64).toInt = 0 := rfl
    have h8 : lx24.toInt ≤ t0_3.toInt + 8 := by obtain ⟨j, a, b, c⟩ := hj; omega
    rw [S_TR_spells_L2.eq_2, F_TR_spells_L2.eq_2]
    by_cases g1 : (lg_cmp lx23 0 : Int32) = (0 : Int32)
    ·
      rw [if_pos g1, if_pos g1]
      refine ⟨trivial, ?_⟩
      (unfold Q_TR_spells; dsimp only; exact ⟨rfl, rfl, rfl, ⟨by omega, by omega⟩⟩)
    ·
      rw [if_neg g1, if_neg g1]
      have nz := fl_lnz g1
      have h2 := T_TR_here (t0_0 := t0_0) (t0_1 := t0_1) (t0_2 := t0_2) (t0_3 := lx24) (t0_4 := t0_4) (t0_5 := t0_5) (t0_6 := t0_6) (t0_7 := t0_7) (t0_8 := t0_8) (t0_9 := t0_9) (t0_10 := t0_10) (t0_11 := t0_11) (t0_12 := t0_12) (t0_13 := t0_13) (t1_0 := t1_0) (by first | omega | decide)
      with_reducible refine v_owe h2 ?_
      by_cases g3 : (lg_cmp (((F_TR_here t0_0 t0_1 t0_2 lx24 t0_4 t0_5 t0_6 t0_7 t0_8 t0_9 t0_10 t0_11 t0_12 t0_13 t1_0) : Int32).toInt64 : Int64) (lx23 &&& 255 : Int64) : Int32) = (0 : Int32)
      ·
        rw [if_pos g3, if_pos g3]
        obtain ⟨a4, e5⟩ := q_nm (lx24 + 1 : Int32)
        rw [e5]
        have a4i : a4.toInt = lx24.toInt + 1 := by rw [← e5]; exact q_addI (x := lx24.toInt) (y := 1) rfl (by decide) (by omega) (by omega)
        obtain ⟨j, a, b, c⟩ := hj; have q := tr_256 a (by omega); exact ih _ _ (by rw [tr_shr8]; omega) ⟨j - 1, by rw [tr_shr8]; exact q.2, by omega, by omega⟩ (by omega)
      ·
        rw [if_neg g3, if_neg g3]
        refine ⟨trivial, ?_⟩
        (unfold Q_TR_spells; dsimp only; exact ⟨rfl, rfl, rfl, ⟨by omega, by omega⟩⟩)
theorem T_TR_spells {x2 : Int64} {t0_0 : Int32} {t0_1 : Int32} {t0_2 : Int32} {t0_3 : Int32} {t0_4 : Int32} {t0_5 : Int32} {t0_6 : Int32} {t0_7 : Int64} {t0_8 : Int32} {t0_9 : Int32} {t0_10 : Int64} {t0_11 : Int64} {t0_12 : Int32} {t0_13 : Int32} {t1_0 : (Nat → Int32)} (h3 : 0 ≤ t0_3.toInt ∧ t0_3.toInt ≤ 4110) (hx : 0 ≤ x2.toInt) : (S_TR_spells x2 t0_0 t0_1 t0_2 t0_3 t0_4 t0_5 t0_6 t0_7 t0_8 t0_9 t0_10 t0_11 t0_12 t0_13 t1_0) ∧ Q_TR_spells t0_1 t0_2 t0_4 (F_TR_spells x2 t0_0 t0_1 t0_2 t0_3 t0_4 t0_5 t0_6 t0_7 t0_8 t0_9 t0_10 t0_11 t0_12 t0_13 t1_0) := by
  have e0 : (0 : Int32).toInt = 0 := rfl
  have e1 : (1 : Int32).toInt = 1 := rfl
  have eL0 : (0 : Int64).toInt = 0 := rfl
  unfold S_TR_spells F_TR_spells
  exact vt_sp h3 1000000 _ _ hx ⟨8, tr_lt8, by decide, by omega⟩ h3.1
def Q_TR_scan (t0_1 : Int32) (p : Int32 × Int32 × Int32 × Int32 × Int32 × Int32 × Int32 × Int32 × Int64 × Int32 × Int32 × Int64 × Int64 × Int32 × Int32 × (Nat → Int32)) : Prop := p.2.2.1.toInt = t0_1.toInt ∧ (0 ≤ p.2.2.2.2.2.1.toInt ∧ p.2.2.2.2.2.1.toInt ≤ 1) ∧ (0 ≤ p.2.2.2.2.1.toInt ∧ p.2.2.2.2.1.toInt ≤ 4150) ∧ (p.1 ≠ 0 → (2 ≤ p.2.2.2.1.toInt ∧ p.2.2.2.1.toInt ≤ 3) ∨ trS p.2.2.2.1 p.2.2.2.2.2.2.1 p.2.2.2.2.2.2.2.1 p.2.2.2.2.2.2.2.2.1 p.2.2.2.2.2.2.2.2.2.2.2.2.2.2.2)
theorem T_TR_scan {t0_0 : Int32} {t0_1 : Int32} {t0_2 : Int32} {t0_3 : Int32} {t0_4 : Int32} {t0_5 : Int32} {t0_6 : Int32} {t0_7 : Int64} {t0_8 : Int32} {t0_9 : Int32} {t0_10 : Int64} {t0_11 : Int64} {t0_12 : Int32} {t0_13 : Int32} {t1_0 : (Nat → Int32)} {t2_0 : (Nat → Int32)} (ht : trT t1_0) (hl1 : t0_1.toInt ≤ 4100) : (S_TR_scan t0_0 t0_1 t0_2 t0_3 t0_4 t0_5 t0_6 t0_7 t0_8 t0_9 t0_10 t0_11 t0_12 t0_13 t1_0 t2_0) ∧ Q_TR_scan t0_1 (F_TR_scan t0_0 t0_1 t0_2 t0_3 t0_4 t0_5 t0_6 t0_7 t0_8 t0_9 t0_10 t0_11 t0_12 t0_13 t1_0 t2_0) := by
  have e0 : (0 : Int32).toInt = 0 := rfl
  have e1 : (1 : Int32).toInt = 1 := rfl
  have eL0 : (0 : Int64).toInt = 0 := rfl
  have e3 : (3 : Int32).toInt = 3 := rfl
  have e2 : (2 : Int32).toInt = 2 := rfl
  unfold S_TR_scan F_TR_scan
  have h1 := T_TR_blanks (t0_0 := t0_0) (t0_1 := t0_1) (t0_2 := t0_2) (t0_3 := (0 : Int32)) (t0_4 := t0_4) (t0_5 := t0_5) (t0_6 := t0_6) (t0_7 := t0_7) (t0_8 := t0_8) (t0_9 := t0_9) (t0_10 := t0_10) (t0_11 := t0_11) (t0_12 := t0_12) (t0_13 := t0_13) (t1_0 := t1_0) (by omega) ⟨by first | omega | decide, by first | omega | decide⟩
  with_reducible refine v_owe h1.1 ?_
  replace h1 := h1.2
  generalize F_TR_blanks t0_0 t0_1 t0_2 (0 : Int32) t0_4 t0_5 t0_6 t0_7 t0_8 t0_9 t0_10 t0_11 t0_12 t0_13 t1_0 = p75 at *
  unfold Q_TR_blanks at h1
  obtain ⟨h1b, h1c, h1d, h13, h1s⟩ := h1
  have blp75d := congrArg Int32.toInt h1d
  have blp75b := congrArg Int32.toInt h1b
  have blp75c := congrArg Int32.toInt h1c
  have blp75s := h1s
  unfold S_TR_scan_c6 F_TR_scan_c6
  have h2 := T_TR_here (t0_0 := (p75.1 : Int32)) (t0_1 := (p75.2.1 : Int32)) (t0_2 := (p75.2.2.1 : Int32)) (t0_3 := (p75.2.2.2.1 : Int32)) (t0_4 := (p75.2.2.2.2.1 : Int32)) (t0_5 := (p75.2.2.2.2.2.1 : Int32)) (t0_6 := (p75.2.2.2.2.2.2.1 : Int32)) (t0_7 := (p75.2.2.2.2.2.2.2.1 : Int64)) (t0_8 := (p75.2.2.2.2.2.2.2.2.1 : Int32)) (t0_9 := (p75.2.2.2.2.2.2.2.2.2.1 : Int32)) (t0_10 := (p75.2.2.2.2.2.2.2.2.2.2.1 : Int64)) (t0_11 := (p75.2.2.2.2.2.2.2.2.2.2.2.1 : Int64)) (t0_12 := (p75.2.2.2.2.2.2.2.2.2.2.2.2.1 : Int32)) (t0_13 := (p75.2.2.2.2.2.2.2.2.2.2.2.2.2 : Int32)) (t1_0 := t1_0) (by first | omega | decide)
  with_reducible refine v_owe h2 ?_
  by_cases g3 : ((F_TR_here (p75.1 : Int32) (p75.2.1 : Int32) (p75.2.2.1 : Int32) (p75.2.2.2.1 : Int32) (p75.2.2.2.2.1 : Int32) (p75.2.2.2.2.2.1 : Int32) (p75.2.2.2.2.2.2.1 : Int32) (p75.2.2.2.2.2.2.2.1 : Int64) (p75.2.2.2.2.2.2.2.2.1 : Int32) (p75.2.2.2.2.2.2.2.2.2.1 : Int32) (p75.2.2.2.2.2.2.2.2.2.2.1 : Int64) (p75.2.2.2.2.2.2.2.2.2.2.2.1 : Int64) (p75.2.2.2.2.2.2.2.2.2.2.2.2.1 : Int32) (p75.2.2.2.2.2.2.2.2.2.2.2.2.2 : Int32) t1_0) : Int32) = (45 : Int32)
  ·
    rw [if_pos g3, if_pos g3]
    have g3i := tr_h g3 (by decide)
    unfold S_TR_scan_J24 F_TR_scan_J24
    have g4 : ¬ ((1 : Int32) = (0 : Int32)) := (by decide)
    rw [if_neg g4, if_neg g4]
    unfold S_TR_scan_J43 F_TR_scan_J43
    obtain ⟨lx116, e5⟩ := q_nm (((p75.2.2.2.1 : Int32) + 1 : Int32) : Int32)
    rw [e5]
    have lx116i : lx116.toInt = p75.2.2.2.1.toInt + 1 := by rw [← e5]; exact q_addI (y := 1) rfl (by decide) (by omega) (by omega)
    unfold S_TR_scan_J53 F_TR_scan_J53
    have h6 := T_TR_here (t0_0 := (p75.1 : Int32)) (t0_1 := (p75.2.1 : Int32)) (t0_2 := (p75.2.2.1 : Int32)) (t0_3 := lx116) (t0_4 := (1 : Int32)) (t0_5 := (p75.2.2.2.2.2.1 : Int32)) (t0_6 := (p75.2.2.2.2.2.2.1 : Int32)) (t0_7 := (p75.2.2.2.2.2.2.2.1 : Int64)) (t0_8 := (p75.2.2.2.2.2.2.2.2.1 : Int32)) (t0_9 := (p75.2.2.2.2.2.2.2.2.2.1 : Int32)) (t0_10 := (p75.2.2.2.2.2.2.2.2.2.2.1 : Int64)) (t0_11 := (p75.2.2.2.2.2.2.2.2.2.2.2.1 : Int64)) (t0_12 := (p75.2.2.2.2.2.2.2.2.2.2.2.2.1 : Int32)) (t0_13 := (p75.2.2.2.2.2.2.2.2.2.2.2.2.2 : Int32)) (t1_0 := t1_0) (by first | omega | decide)
    with_reducible refine v_owe h6 ?_
    by_cases g7 : ((F_TR_here (p75.1 : Int32) (p75.2.1 : Int32) (p75.2.2.1 : Int32) lx116 (1 : Int32) (p75.2.2.2.2.2.1 : Int32) (p75.2.2.2.2.2.2.1 : Int32) (p75.2.2.2.2.2.2.2.1 : Int64) (p75.2.2.2.2.2.2.2.2.1 : Int32) (p75.2.2.2.2.2.2.2.2.2.1 : Int32) (p75.2.2.2.2.2.2.2.2.2.2.1 : Int64) (p75.2.2.2.2.2.2.2.2.2.2.2.1 : Int64) (p75.2.2.2.2.2.2.2.2.2.2.2.2.1 : Int32) (p75.2.2.2.2.2.2.2.2.2.2.2.2.2 : Int32) t1_0) : Int32) = (78 : Int32)
    ·
      rw [if_pos g7, if_pos g7]
      have g7i := tr_h g7 (by decide)
      have h8 := T_TR_spells (x2 := (5136718 : Int64)) (t0_0 := (p75.1 : Int32)) (t0_1 := (p75.2.1 : Int32)) (t0_2 := (3 : Int32)) (t0_3 := lx116) (t0_4 := (1 : Int32)) (t0_5 := (p75.2.2.2.2.2.1 : Int32)) (t0_6 := (p75.2.2.2.2.2.2.1 : Int32)) (t0_7 := (p75.2.2.2.2.2.2.2.1 : Int64)) (t0_8 := (p75.2.2.2.2.2.2.2.2.1 : Int32)) (t0_9 := (p75.2.2.2.2.2.2.2.2.2.1 : Int32)) (t0_10 := (p75.2.2.2.2.2.2.2.2.2.2.1 : Int64)) (t0_11 := (p75.2.2.2.2.2.2.2.2.2.2.2.1 : Int64)) (t0_12 := (p75.2.2.2.2.2.2.2.2.2.2.2.2.1 : Int32)) (t0_13 := (p75.2.2.2.2.2.2.2.2.2.2.2.2.2 : Int32)) (t1_0 := t1_0) ⟨by omega, by omega⟩ (by decide)
      with_reducible refine v_owe h8.1 ?_
      replace h8 := h8.2
      generalize F_TR_spells (5136718 : Int64) (p75.1 : Int32) (p75.2.1 : Int32) (3 : Int32) lx116 (1 : Int32) (p75.2.2.2.2.2.1 : Int32) (p75.2.2.2.2.2.2.1 : Int32) (p75.2.2.2.2.2.2.2.1 : Int64) (p75.2.2.2.2.2.2.2.2.1 : Int32) (p75.2.2.2.2.2.2.2.2.2.1 : Int32) (p75.2.2.2.2.2.2.2.2.2.2.1 : Int64) (p75.2.2.2.2.2.2.2.2.2.2.2.1 : Int64) (p75.2.2.2.2.2.2.2.2.2.2.2.2.1 : Int32) (p75.2.2.2.2.2.2.2.2.2.2.2.2.2 : Int32) t1_0 = p518 at *
      unfold Q_TR_spells at h8
      obtain ⟨h8b, h8c, h8d, h84⟩ := h8
      have spp518d := congrArg Int32.toInt h8d
      have spp518b := congrArg Int32.toInt h8b
      have spp518c := congrArg Int32.toInt h8c
      unfold S_TR_scan_c71 F_TR_scan_c71
      unfold S_TR_scan_J108 F_TR_scan_J108
      by_cases g9 : (p518.1 : Int32) = (0 : Int32)
      ·
        rw [if_pos g9, if_pos g9]
        unfold S_TR_scan_J116 F_TR_scan_J116
        rw [if_pos g9, if_pos g9]
        refine ⟨trivial, ?_⟩
        (unfold Q_TR_scan; dsimp only; exact ⟨by omega, ⟨by omega, by omega⟩, ⟨by omega, by omega⟩, fun h => absurd rfl h⟩)
      ·
        rw [if_neg g9, if_neg g9]
        have h10 := T_TR_blanks (t0_0 := (p518.2.1 : Int32)) (t0_1 := (p518.2.2.1 : Int32)) (t0_2 := (p518.2.2.2.1 : Int32)) (t0_3 := (p518.2.2.2.2.1 : Int32)) (t0_4 := (p518.2.2.2.2.2.1 : Int32)) (t0_5 := (p518.2.2.2.2.2.2.1 : Int32)) (t0_6 := (p518.2.2.2.2.2.2.2.1 : Int32)) (t0_7 := (p518.2.2.2.2.2.2.2.2.1 : Int64)) (t0_8 := (p518.2.2.2.2.2.2.2.2.2.1 : Int32)) (t0_9 := (p518.2.2.2.2.2.2.2.2.2.2.1 : Int32)) (t0_10 := (p518.2.2.2.2.2.2.2.2.2.2.2.1 : Int64)) (t0_11 := (p518.2.2.2.2.2.2.2.2.2.2.2.2.1 : Int64)) (t0_12 := (p518.2.2.2.2.2.2.2.2.2.2.2.2.2.1 : Int32)) (t0_13 := (p518.2.2.2.2.2.2.2.2.2.2.2.2.2.2 : Int32)) (t1_0 := t1_0) (by omega) ⟨by first | omega | decide, by first | omega | decide⟩
        with_reducible refine v_owe h10.1 ?_
        replace h10 := h10.2
        generalize F_TR_blanks (p518.2.1 : Int32) (p518.2.2.1 : Int32) (p518.2.2.2.1 : Int32) (p518.2.2.2.2.1 : Int32) (p518.2.2.2.2.2.1 : Int32) (p518.2.2.2.2.2.2.1 : Int32) (p518.2.2.2.2.2.2.2.1 : Int32) (p518.2.2.2.2.2.2.2.2.1 : Int64) (p518.2.2.2.2.2.2.2.2.2.1 : Int32) (p518.2.2.2.2.2.2.2.2.2.2.1 : Int32) (p518.2.2.2.2.2.2.2.2.2.2.2.1 : Int64) (p518.2.2.2.2.2.2.2.2.2.2.2.2.1 : Int64) (p518.2.2.2.2.2.2.2.2.2.2.2.2.2.1 : Int32) (p518.2.2.2.2.2.2.2.2.2.2.2.2.2.2 : Int32) t1_0 = p289 at *
        unfold Q_TR_blanks at h10
        obtain ⟨h10b, h10c, h10d, h103, h10s⟩ := h10
        have blp289d := congrArg Int32.toInt h10d
        have blp289b := congrArg Int32.toInt h10b
        have blp289c := congrArg Int32.toInt h10c
        have blp289s := h10s
        unfold S_TR_scan_c113 F_TR_scan_c113
        unfold S_TR_scan_J116 F_TR_scan_J116
        rw [if_neg g9, if_neg g9]
        by_cases g11 : (p289.2.2.2.1 : Int32) = (p289.2.1 : Int32)
        ·
          rw [if_pos g11, if_pos g11]
          refine ⟨trivial, ?_⟩
          (unfold Q_TR_scan; dsimp only; exact ⟨by omega, ⟨by omega, by omega⟩, ⟨by omega, by omega⟩, fun _ => Or.inl ⟨by omega, by omega⟩⟩)
        ·
          rw [if_neg g11, if_neg g11]
          refine ⟨trivial, ?_⟩
          (unfold Q_TR_scan; dsimp only; exact ⟨by omega, ⟨by omega, by omega⟩, ⟨by omega, by omega⟩, fun h => absurd rfl h⟩)
    ·
      rw [if_neg g7, if_neg g7]
      with_reducible refine v_owe h6 ?_
      by_cases g12 : ((F_TR_here (p75.1 : Int32) (p75.2.1 : Int32) (p75.2.2.1 : Int32) lx116 (1 : Int32) (p75.2.2.2.2.2.1 : Int32) (p75.2.2.2.2.2.2.1 : Int32) (p75.2.2.2.2.2.2.2.1 : Int64) (p75.2.2.2.2.2.2.2.2.1 : Int32) (p75.2.2.2.2.2.2.2.2.2.1 : Int32) (p75.2.2.2.2.2.2.2.2.2.2.1 : Int64) (p75.2.2.2.2.2.2.2.2.2.2.2.1 : Int64) (p75.2.2.2.2.2.2.2.2.2.2.2.2.1 : Int32) (p75.2.2.2.2.2.2.2.2.2.2.2.2.2 : Int32) t1_0) : Int32) = (73 : Int32)
      ·
        rw [if_pos g12, if_pos g12]
        have g12i := tr_h g12 (by decide)
        have h13 := T_TR_spells (x2 := (8751735898823355977 : Int64)) (t0_0 := (p75.1 : Int32)) (t0_1 := (p75.2.1 : Int32)) (t0_2 := (2 : Int32)) (t0_3 := lx116) (t0_4 := (1 : Int32)) (t0_5 := (p75.2.2.2.2.2.1 : Int32)) (t0_6 := (p75.2.2.2.2.2.2.1 : Int32)) (t0_7 := (p75.2.2.2.2.2.2.2.1 : Int64)) (t0_8 := (p75.2.2.2.2.2.2.2.2.1 : Int32)) (t0_9 := (p75.2.2.2.2.2.2.2.2.2.1 : Int32)) (t0_10 := (p75.2.2.2.2.2.2.2.2.2.2.1 : Int64)) (t0_11 := (p75.2.2.2.2.2.2.2.2.2.2.2.1 : Int64)) (t0_12 := (p75.2.2.2.2.2.2.2.2.2.2.2.2.1 : Int32)) (t0_13 := (p75.2.2.2.2.2.2.2.2.2.2.2.2.2 : Int32)) (t1_0 := t1_0) ⟨by omega, by omega⟩ (by decide)
        with_reducible refine v_owe h13.1 ?_
        replace h13 := h13.2
        generalize F_TR_spells (8751735898823355977 : Int64) (p75.1 : Int32) (p75.2.1 : Int32) (2 : Int32) lx116 (1 : Int32) (p75.2.2.2.2.2.1 : Int32) (p75.2.2.2.2.2.2.1 : Int32) (p75.2.2.2.2.2.2.2.1 : Int64) (p75.2.2.2.2.2.2.2.2.1 : Int32) (p75.2.2.2.2.2.2.2.2.2.1 : Int32) (p75.2.2.2.2.2.2.2.2.2.2.1 : Int64) (p75.2.2.2.2.2.2.2.2.2.2.2.1 : Int64) (p75.2.2.2.2.2.2.2.2.2.2.2.2.1 : Int32) (p75.2.2.2.2.2.2.2.2.2.2.2.2.2 : Int32) t1_0 = p444 at *
        unfold Q_TR_spells at h13
        obtain ⟨h13b, h13c, h13d, h134⟩ := h13
        have spp444d := congrArg Int32.toInt h13d
        have spp444b := congrArg Int32.toInt h13b
        have spp444c := congrArg Int32.toInt h13c
        unfold S_TR_scan_c96 F_TR_scan_c96
        unfold S_TR_scan_J108 F_TR_scan_J108
        by_cases g14 : (p444.1 : Int32) = (0 : Int32)
        ·
          rw [if_pos g14, if_pos g14]
          unfold S_TR_scan_J116 F_TR_scan_J116
          rw [if_pos g14, if_pos g14]
          refine ⟨trivial, ?_⟩
          (unfold Q_TR_scan; dsimp only; exact ⟨by omega, ⟨by omega, by omega⟩, ⟨by omega, by omega⟩, fun h => absurd rfl h⟩)
        ·
          rw [if_neg g14, if_neg g14]
          have h15 := T_TR_blanks (t0_0 := (p444.2.1 : Int32)) (t0_1 := (p444.2.2.1 : Int32)) (t0_2 := (p444.2.2.2.1 : Int32)) (t0_3 := (p444.2.2.2.2.1 : Int32)) (t0_4 := (p444.2.2.2.2.2.1 : Int32)) (t0_5 := (p444.2.2.2.2.2.2.1 : Int32)) (t0_6 := (p444.2.2.2.2.2.2.2.1 : Int32)) (t0_7 := (p444.2.2.2.2.2.2.2.2.1 : Int64)) (t0_8 := (p444.2.2.2.2.2.2.2.2.2.1 : Int32)) (t0_9 := (p444.2.2.2.2.2.2.2.2.2.2.1 : Int32)) (t0_10 := (p444.2.2.2.2.2.2.2.2.2.2.2.1 : Int64)) (t0_11 := (p444.2.2.2.2.2.2.2.2.2.2.2.2.1 : Int64)) (t0_12 := (p444.2.2.2.2.2.2.2.2.2.2.2.2.2.1 : Int32)) (t0_13 := (p444.2.2.2.2.2.2.2.2.2.2.2.2.2.2 : Int32)) (t1_0 := t1_0) (by omega) ⟨by first | omega | decide, by first | omega | decide⟩
          with_reducible refine v_owe h15.1 ?_
          replace h15 := h15.2
          generalize F_TR_blanks (p444.2.1 : Int32) (p444.2.2.1 : Int32) (p444.2.2.2.1 : Int32) (p444.2.2.2.2.1 : Int32) (p444.2.2.2.2.2.1 : Int32) (p444.2.2.2.2.2.2.1 : Int32) (p444.2.2.2.2.2.2.2.1 : Int32) (p444.2.2.2.2.2.2.2.2.1 : Int64) (p444.2.2.2.2.2.2.2.2.2.1 : Int32) (p444.2.2.2.2.2.2.2.2.2.2.1 : Int32) (p444.2.2.2.2.2.2.2.2.2.2.2.1 : Int64) (p444.2.2.2.2.2.2.2.2.2.2.2.2.1 : Int64) (p444.2.2.2.2.2.2.2.2.2.2.2.2.2.1 : Int32) (p444.2.2.2.2.2.2.2.2.2.2.2.2.2.2 : Int32) t1_0 = p289 at *
          unfold Q_TR_blanks at h15
          obtain ⟨h15b, h15c, h15d, h153, h15s⟩ := h15
          have blp289d := congrArg Int32.toInt h15d
          have blp289b := congrArg Int32.toInt h15b
          have blp289c := congrArg Int32.toInt h15c
          have blp289s := h15s
          unfold S_TR_scan_c113 F_TR_scan_c113
          unfold S_TR_scan_J116 F_TR_scan_J116
          rw [if_neg g14, if_neg g14]
          by_cases g16 : (p289.2.2.2.1 : Int32) = (p289.2.1 : Int32)
          ·
            rw [if_pos g16, if_pos g16]
            refine ⟨trivial, ?_⟩
            (unfold Q_TR_scan; dsimp only; exact ⟨by omega, ⟨by omega, by omega⟩, ⟨by omega, by omega⟩, fun _ => Or.inl ⟨by omega, by omega⟩⟩)
          ·
            rw [if_neg g16, if_neg g16]
            refine ⟨trivial, ?_⟩
            (unfold Q_TR_scan; dsimp only; exact ⟨by omega, ⟨by omega, by omega⟩, ⟨by omega, by omega⟩, fun h => absurd rfl h⟩)
      ·
        rw [if_neg g12, if_neg g12]
        have h17 := T_TR_number (t0_0 := (p75.1 : Int32)) (t0_1 := (p75.2.1 : Int32)) (t0_2 := (p75.2.2.1 : Int32)) (t0_3 := lx116) (t0_4 := (1 : Int32)) (t0_5 := (p75.2.2.2.2.2.1 : Int32)) (t0_6 := (p75.2.2.2.2.2.2.1 : Int32)) (t0_7 := (p75.2.2.2.2.2.2.2.1 : Int64)) (t0_8 := (p75.2.2.2.2.2.2.2.2.1 : Int32)) (t0_9 := (p75.2.2.2.2.2.2.2.2.2.1 : Int32)) (t0_10 := (p75.2.2.2.2.2.2.2.2.2.2.1 : Int64)) (t0_11 := (p75.2.2.2.2.2.2.2.2.2.2.2.1 : Int64)) (t0_12 := (p75.2.2.2.2.2.2.2.2.2.2.2.2.1 : Int32)) (t0_13 := (p75.2.2.2.2.2.2.2.2.2.2.2.2.2 : Int32)) (t1_0 := t1_0) (t2_0 := t2_0) ht (by omega) ⟨by omega, by omega⟩
        with_reducible refine v_owe h17.1 ?_
        replace h17 := h17.2
        generalize F_TR_number (p75.1 : Int32) (p75.2.1 : Int32) (p75.2.2.1 : Int32) lx116 (1 : Int32) (p75.2.2.2.2.2.1 : Int32) (p75.2.2.2.2.2.2.1 : Int32) (p75.2.2.2.2.2.2.2.1 : Int64) (p75.2.2.2.2.2.2.2.2.1 : Int32) (p75.2.2.2.2.2.2.2.2.2.1 : Int32) (p75.2.2.2.2.2.2.2.2.2.2.1 : Int64) (p75.2.2.2.2.2.2.2.2.2.2.2.1 : Int64) (p75.2.2.2.2.2.2.2.2.2.2.2.2.1 : Int32) (p75.2.2.2.2.2.2.2.2.2.2.2.2.2 : Int32) t1_0 t2_0 = p369 at *
        unfold Q_TR_number at h17
        obtain ⟨nub, nud, nu4, nuS⟩ := h17
        unfold S_TR_scan_c104 F_TR_scan_c104
        unfold S_TR_scan_J108 F_TR_scan_J108
        by_cases g18 : (p369.1 : Int32) = (0 : Int32)
        ·
          rw [if_pos g18, if_pos g18]
          unfold S_TR_scan_J116 F_TR_scan_J116
          rw [if_pos g18, if_pos g18]
          refine ⟨trivial, ?_⟩
          (unfold Q_TR_scan; dsimp only; exact ⟨by omega, ⟨by omega, by omega⟩, ⟨by omega, by omega⟩, fun h => absurd rfl h⟩)
        ·
          rw [if_neg g18, if_neg g18]
          have h19 := T_TR_blanks (t0_0 := (p369.2.1 : Int32)) (t0_1 := (p369.2.2.1 : Int32)) (t0_2 := (p369.2.2.2.1 : Int32)) (t0_3 := (p369.2.2.2.2.1 : Int32)) (t0_4 := (p369.2.2.2.2.2.1 : Int32)) (t0_5 := (p369.2.2.2.2.2.2.1 : Int32)) (t0_6 := (p369.2.2.2.2.2.2.2.1 : Int32)) (t0_7 := (p369.2.2.2.2.2.2.2.2.1 : Int64)) (t0_8 := (p369.2.2.2.2.2.2.2.2.2.1 : Int32)) (t0_9 := (p369.2.2.2.2.2.2.2.2.2.2.1 : Int32)) (t0_10 := (p369.2.2.2.2.2.2.2.2.2.2.2.1 : Int64)) (t0_11 := (p369.2.2.2.2.2.2.2.2.2.2.2.2.1 : Int64)) (t0_12 := (p369.2.2.2.2.2.2.2.2.2.2.2.2.2.1 : Int32)) (t0_13 := (p369.2.2.2.2.2.2.2.2.2.2.2.2.2.2.1 : Int32)) (t1_0 := t1_0) (by omega) ⟨by first | omega | decide, by first | omega | decide⟩
          with_reducible refine v_owe h19.1 ?_
          replace h19 := h19.2
          generalize F_TR_blanks (p369.2.1 : Int32) (p369.2.2.1 : Int32) (p369.2.2.2.1 : Int32) (p369.2.2.2.2.1 : Int32) (p369.2.2.2.2.2.1 : Int32) (p369.2.2.2.2.2.2.1 : Int32) (p369.2.2.2.2.2.2.2.1 : Int32) (p369.2.2.2.2.2.2.2.2.1 : Int64) (p369.2.2.2.2.2.2.2.2.2.1 : Int32) (p369.2.2.2.2.2.2.2.2.2.2.1 : Int32) (p369.2.2.2.2.2.2.2.2.2.2.2.1 : Int64) (p369.2.2.2.2.2.2.2.2.2.2.2.2.1 : Int64) (p369.2.2.2.2.2.2.2.2.2.2.2.2.2.1 : Int32) (p369.2.2.2.2.2.2.2.2.2.2.2.2.2.2.1 : Int32) t1_0 = p289 at *
          unfold Q_TR_blanks at h19
          obtain ⟨h19b, h19c, h19d, h193, h19s⟩ := h19
          have blp289d := congrArg Int32.toInt h19d
          have blp289b := congrArg Int32.toInt h19b
          have blp289c := congrArg Int32.toInt h19c
          have blp289s := h19s
          unfold S_TR_scan_c113 F_TR_scan_c113
          unfold S_TR_scan_J116 F_TR_scan_J116
          rw [if_neg g18, if_neg g18]
          by_cases g20 : (p289.2.2.2.1 : Int32) = (p289.2.1 : Int32)
          ·
            rw [if_pos g20, if_pos g20]
            refine ⟨trivial, ?_⟩
            (unfold Q_TR_scan; dsimp only; exact ⟨by omega, ⟨by omega, by omega⟩, ⟨by omega, by omega⟩, fun _ => Or.inr (blp289s _ (nuS g18))⟩)
          ·
            rw [if_neg g20, if_neg g20]
            refine ⟨trivial, ?_⟩
            (unfold Q_TR_scan; dsimp only; exact ⟨by omega, ⟨by omega, by omega⟩, ⟨by omega, by omega⟩, fun h => absurd rfl h⟩)
  ·
    rw [if_neg g3, if_neg g3]
    unfold S_TR_scan_J24 F_TR_scan_J24
    have g21 : ((0 : Int32) = (0 : Int32)) := (by decide)
    rw [if_pos g21, if_pos g21]
    have h22 := T_TR_here (t0_0 := (p75.1 : Int32)) (t0_1 := (p75.2.1 : Int32)) (t0_2 := (p75.2.2.1 : Int32)) (t0_3 := (p75.2.2.2.1 : Int32)) (t0_4 := (0 : Int32)) (t0_5 := (p75.2.2.2.2.2.1 : Int32)) (t0_6 := (p75.2.2.2.2.2.2.1 : Int32)) (t0_7 := (p75.2.2.2.2.2.2.2.1 : Int64)) (t0_8 := (p75.2.2.2.2.2.2.2.2.1 : Int32)) (t0_9 := (p75.2.2.2.2.2.2.2.2.2.1 : Int32)) (t0_10 := (p75.2.2.2.2.2.2.2.2.2.2.1 : Int64)) (t0_11 := (p75.2.2.2.2.2.2.2.2.2.2.2.1 : Int64)) (t0_12 := (p75.2.2.2.2.2.2.2.2.2.2.2.2.1 : Int32)) (t0_13 := (p75.2.2.2.2.2.2.2.2.2.2.2.2.2 : Int32)) (t1_0 := t1_0) (by first | omega | decide)
    with_reducible refine v_owe h22 ?_
    by_cases g23 : ((F_TR_here (p75.1 : Int32) (p75.2.1 : Int32) (p75.2.2.1 : Int32) (p75.2.2.2.1 : Int32) (0 : Int32) (p75.2.2.2.2.2.1 : Int32) (p75.2.2.2.2.2.2.1 : Int32) (p75.2.2.2.2.2.2.2.1 : Int64) (p75.2.2.2.2.2.2.2.2.1 : Int32) (p75.2.2.2.2.2.2.2.2.2.1 : Int32) (p75.2.2.2.2.2.2.2.2.2.2.1 : Int64) (p75.2.2.2.2.2.2.2.2.2.2.2.1 : Int64) (p75.2.2.2.2.2.2.2.2.2.2.2.2.1 : Int32) (p75.2.2.2.2.2.2.2.2.2.2.2.2.2 : Int32) t1_0) : Int32) = (43 : Int32)
    ·
      rw [if_pos g23, if_pos g23]
      have g23i := tr_h g23 (by decide)
      unfold S_TR_scan_J43 F_TR_scan_J43
      obtain ⟨lx116, e24⟩ := q_nm (((p75.2.2.2.1 : Int32) + 1 : Int32) : Int32)
      rw [e24]
      have lx116i : lx116.toInt = p75.2.2.2.1.toInt + 1 := by rw [← e24]; exact q_addI (y := 1) rfl (by decide) (by omega) (by omega)
      unfold S_TR_scan_J53 F_TR_scan_J53
      have h25 := T_TR_here (t0_0 := (p75.1 : Int32)) (t0_1 := (p75.2.1 : Int32)) (t0_2 := (p75.2.2.1 : Int32)) (t0_3 := lx116) (t0_4 := (0 : Int32)) (t0_5 := (p75.2.2.2.2.2.1 : Int32)) (t0_6 := (p75.2.2.2.2.2.2.1 : Int32)) (t0_7 := (p75.2.2.2.2.2.2.2.1 : Int64)) (t0_8 := (p75.2.2.2.2.2.2.2.2.1 : Int32)) (t0_9 := (p75.2.2.2.2.2.2.2.2.2.1 : Int32)) (t0_10 := (p75.2.2.2.2.2.2.2.2.2.2.1 : Int64)) (t0_11 := (p75.2.2.2.2.2.2.2.2.2.2.2.1 : Int64)) (t0_12 := (p75.2.2.2.2.2.2.2.2.2.2.2.2.1 : Int32)) (t0_13 := (p75.2.2.2.2.2.2.2.2.2.2.2.2.2 : Int32)) (t1_0 := t1_0) (by first | omega | decide)
      with_reducible refine v_owe h25 ?_
      by_cases g26 : ((F_TR_here (p75.1 : Int32) (p75.2.1 : Int32) (p75.2.2.1 : Int32) lx116 (0 : Int32) (p75.2.2.2.2.2.1 : Int32) (p75.2.2.2.2.2.2.1 : Int32) (p75.2.2.2.2.2.2.2.1 : Int64) (p75.2.2.2.2.2.2.2.2.1 : Int32) (p75.2.2.2.2.2.2.2.2.2.1 : Int32) (p75.2.2.2.2.2.2.2.2.2.2.1 : Int64) (p75.2.2.2.2.2.2.2.2.2.2.2.1 : Int64) (p75.2.2.2.2.2.2.2.2.2.2.2.2.1 : Int32) (p75.2.2.2.2.2.2.2.2.2.2.2.2.2 : Int32) t1_0) : Int32) = (78 : Int32)
      ·
        rw [if_pos g26, if_pos g26]
        have g26i := tr_h g26 (by decide)
        have h27 := T_TR_spells (x2 := (5136718 : Int64)) (t0_0 := (p75.1 : Int32)) (t0_1 := (p75.2.1 : Int32)) (t0_2 := (3 : Int32)) (t0_3 := lx116) (t0_4 := (0 : Int32)) (t0_5 := (p75.2.2.2.2.2.1 : Int32)) (t0_6 := (p75.2.2.2.2.2.2.1 : Int32)) (t0_7 := (p75.2.2.2.2.2.2.2.1 : Int64)) (t0_8 := (p75.2.2.2.2.2.2.2.2.1 : Int32)) (t0_9 := (p75.2.2.2.2.2.2.2.2.2.1 : Int32)) (t0_10 := (p75.2.2.2.2.2.2.2.2.2.2.1 : Int64)) (t0_11 := (p75.2.2.2.2.2.2.2.2.2.2.2.1 : Int64)) (t0_12 := (p75.2.2.2.2.2.2.2.2.2.2.2.2.1 : Int32)) (t0_13 := (p75.2.2.2.2.2.2.2.2.2.2.2.2.2 : Int32)) (t1_0 := t1_0) ⟨by omega, by omega⟩ (by decide)
        with_reducible refine v_owe h27.1 ?_
        replace h27 := h27.2
        generalize F_TR_spells (5136718 : Int64) (p75.1 : Int32) (p75.2.1 : Int32) (3 : Int32) lx116 (0 : Int32) (p75.2.2.2.2.2.1 : Int32) (p75.2.2.2.2.2.2.1 : Int32) (p75.2.2.2.2.2.2.2.1 : Int64) (p75.2.2.2.2.2.2.2.2.1 : Int32) (p75.2.2.2.2.2.2.2.2.2.1 : Int32) (p75.2.2.2.2.2.2.2.2.2.2.1 : Int64) (p75.2.2.2.2.2.2.2.2.2.2.2.1 : Int64) (p75.2.2.2.2.2.2.2.2.2.2.2.2.1 : Int32) (p75.2.2.2.2.2.2.2.2.2.2.2.2.2 : Int32) t1_0 = p518 at *
        unfold Q_TR_spells at h27
        obtain ⟨h27b, h27c, h27d, h274⟩ := h27
        have spp518d := congrArg Int32.toInt h27d
        have spp518b := congrArg Int32.toInt h27b
        have spp518c := congrArg Int32.toInt h27c
        unfold S_TR_scan_c71 F_TR_scan_c71
        unfold S_TR_scan_J108 F_TR_scan_J108
        by_cases g28 : (p518.1 : Int32) = (0 : Int32)
        ·
          rw [if_pos g28, if_pos g28]
          unfold S_TR_scan_J116 F_TR_scan_J116
          rw [if_pos g28, if_pos g28]
          refine ⟨trivial, ?_⟩
          (unfold Q_TR_scan; dsimp only; exact ⟨by omega, ⟨by omega, by omega⟩, ⟨by omega, by omega⟩, fun h => absurd rfl h⟩)
        ·
          rw [if_neg g28, if_neg g28]
          have h29 := T_TR_blanks (t0_0 := (p518.2.1 : Int32)) (t0_1 := (p518.2.2.1 : Int32)) (t0_2 := (p518.2.2.2.1 : Int32)) (t0_3 := (p518.2.2.2.2.1 : Int32)) (t0_4 := (p518.2.2.2.2.2.1 : Int32)) (t0_5 := (p518.2.2.2.2.2.2.1 : Int32)) (t0_6 := (p518.2.2.2.2.2.2.2.1 : Int32)) (t0_7 := (p518.2.2.2.2.2.2.2.2.1 : Int64)) (t0_8 := (p518.2.2.2.2.2.2.2.2.2.1 : Int32)) (t0_9 := (p518.2.2.2.2.2.2.2.2.2.2.1 : Int32)) (t0_10 := (p518.2.2.2.2.2.2.2.2.2.2.2.1 : Int64)) (t0_11 := (p518.2.2.2.2.2.2.2.2.2.2.2.2.1 : Int64)) (t0_12 := (p518.2.2.2.2.2.2.2.2.2.2.2.2.2.1 : Int32)) (t0_13 := (p518.2.2.2.2.2.2.2.2.2.2.2.2.2.2 : Int32)) (t1_0 := t1_0) (by omega) ⟨by first | omega | decide, by first | omega | decide⟩
          with_reducible refine v_owe h29.1 ?_
          replace h29 := h29.2
          generalize F_TR_blanks (p518.2.1 : Int32) (p518.2.2.1 : Int32) (p518.2.2.2.1 : Int32) (p518.2.2.2.2.1 : Int32) (p518.2.2.2.2.2.1 : Int32) (p518.2.2.2.2.2.2.1 : Int32) (p518.2.2.2.2.2.2.2.1 : Int32) (p518.2.2.2.2.2.2.2.2.1 : Int64) (p518.2.2.2.2.2.2.2.2.2.1 : Int32) (p518.2.2.2.2.2.2.2.2.2.2.1 : Int32) (p518.2.2.2.2.2.2.2.2.2.2.2.1 : Int64) (p518.2.2.2.2.2.2.2.2.2.2.2.2.1 : Int64) (p518.2.2.2.2.2.2.2.2.2.2.2.2.2.1 : Int32) (p518.2.2.2.2.2.2.2.2.2.2.2.2.2.2 : Int32) t1_0 = p289 at *
          unfold Q_TR_blanks at h29
          obtain ⟨h29b, h29c, h29d, h293, h29s⟩ := h29
          have blp289d := congrArg Int32.toInt h29d
          have blp289b := congrArg Int32.toInt h29b
          have blp289c := congrArg Int32.toInt h29c
          have blp289s := h29s
          unfold S_TR_scan_c113 F_TR_scan_c113
          unfold S_TR_scan_J116 F_TR_scan_J116
          rw [if_neg g28, if_neg g28]
          by_cases g30 : (p289.2.2.2.1 : Int32) = (p289.2.1 : Int32)
          ·
            rw [if_pos g30, if_pos g30]
            refine ⟨trivial, ?_⟩
            (unfold Q_TR_scan; dsimp only; exact ⟨by omega, ⟨by omega, by omega⟩, ⟨by omega, by omega⟩, fun _ => Or.inl ⟨by omega, by omega⟩⟩)
          ·
            rw [if_neg g30, if_neg g30]
            refine ⟨trivial, ?_⟩
            (unfold Q_TR_scan; dsimp only; exact ⟨by omega, ⟨by omega, by omega⟩, ⟨by omega, by omega⟩, fun h => absurd rfl h⟩)
      ·
        rw [if_neg g26, if_neg g26]
        with_reducible refine v_owe h25 ?_
        by_cases g31 : ((F_TR_here (p75.1 : Int32) (p75.2.1 : Int32) (p75.2.2.1 : Int32) lx116 (0 : Int32) (p75.2.2.2.2.2.1 : Int32) (p75.2.2.2.2.2.2.1 : Int32) (p75.2.2.2.2.2.2.2.1 : Int64) (p75.2.2.2.2.2.2.2.2.1 : Int32) (p75.2.2.2.2.2.2.2.2.2.1 : Int32) (p75.2.2.2.2.2.2.2.2.2.2.1 : Int64) (p75.2.2.2.2.2.2.2.2.2.2.2.1 : Int64) (p75.2.2.2.2.2.2.2.2.2.2.2.2.1 : Int32) (p75.2.2.2.2.2.2.2.2.2.2.2.2.2 : Int32) t1_0) : Int32) = (73 : Int32)
        ·
          rw [if_pos g31, if_pos g31]
          have g31i := tr_h g31 (by decide)
          have h32 := T_TR_spells (x2 := (8751735898823355977 : Int64)) (t0_0 := (p75.1 : Int32)) (t0_1 := (p75.2.1 : Int32)) (t0_2 := (2 : Int32)) (t0_3 := lx116) (t0_4 := (0 : Int32)) (t0_5 := (p75.2.2.2.2.2.1 : Int32)) (t0_6 := (p75.2.2.2.2.2.2.1 : Int32)) (t0_7 := (p75.2.2.2.2.2.2.2.1 : Int64)) (t0_8 := (p75.2.2.2.2.2.2.2.2.1 : Int32)) (t0_9 := (p75.2.2.2.2.2.2.2.2.2.1 : Int32)) (t0_10 := (p75.2.2.2.2.2.2.2.2.2.2.1 : Int64)) (t0_11 := (p75.2.2.2.2.2.2.2.2.2.2.2.1 : Int64)) (t0_12 := (p75.2.2.2.2.2.2.2.2.2.2.2.2.1 : Int32)) (t0_13 := (p75.2.2.2.2.2.2.2.2.2.2.2.2.2 : Int32)) (t1_0 := t1_0) ⟨by omega, by omega⟩ (by decide)
          with_reducible refine v_owe h32.1 ?_
          replace h32 := h32.2
          generalize F_TR_spells (8751735898823355977 : Int64) (p75.1 : Int32) (p75.2.1 : Int32) (2 : Int32) lx116 (0 : Int32) (p75.2.2.2.2.2.1 : Int32) (p75.2.2.2.2.2.2.1 : Int32) (p75.2.2.2.2.2.2.2.1 : Int64) (p75.2.2.2.2.2.2.2.2.1 : Int32) (p75.2.2.2.2.2.2.2.2.2.1 : Int32) (p75.2.2.2.2.2.2.2.2.2.2.1 : Int64) (p75.2.2.2.2.2.2.2.2.2.2.2.1 : Int64) (p75.2.2.2.2.2.2.2.2.2.2.2.2.1 : Int32) (p75.2.2.2.2.2.2.2.2.2.2.2.2.2 : Int32) t1_0 = p444 at *
          unfold Q_TR_spells at h32
          obtain ⟨h32b, h32c, h32d, h324⟩ := h32
          have spp444d := congrArg Int32.toInt h32d
          have spp444b := congrArg Int32.toInt h32b
          have spp444c := congrArg Int32.toInt h32c
          unfold S_TR_scan_c96 F_TR_scan_c96
          unfold S_TR_scan_J108 F_TR_scan_J108
          by_cases g33 : (p444.1 : Int32) = (0 : Int32)
          ·
            rw [if_pos g33, if_pos g33]
            unfold S_TR_scan_J116 F_TR_scan_J116
            rw [if_pos g33, if_pos g33]
            refine ⟨trivial, ?_⟩
            (unfold Q_TR_scan; dsimp only; exact ⟨by omega, ⟨by omega, by omega⟩, ⟨by omega, by omega⟩, fun h => absurd rfl h⟩)
          ·
            rw [if_neg g33, if_neg g33]
            have h34 := T_TR_blanks (t0_0 := (p444.2.1 : Int32)) (t0_1 := (p444.2.2.1 : Int32)) (t0_2 := (p444.2.2.2.1 : Int32)) (t0_3 := (p444.2.2.2.2.1 : Int32)) (t0_4 := (p444.2.2.2.2.2.1 : Int32)) (t0_5 := (p444.2.2.2.2.2.2.1 : Int32)) (t0_6 := (p444.2.2.2.2.2.2.2.1 : Int32)) (t0_7 := (p444.2.2.2.2.2.2.2.2.1 : Int64)) (t0_8 := (p444.2.2.2.2.2.2.2.2.2.1 : Int32)) (t0_9 := (p444.2.2.2.2.2.2.2.2.2.2.1 : Int32)) (t0_10 := (p444.2.2.2.2.2.2.2.2.2.2.2.1 : Int64)) (t0_11 := (p444.2.2.2.2.2.2.2.2.2.2.2.2.1 : Int64)) (t0_12 := (p444.2.2.2.2.2.2.2.2.2.2.2.2.2.1 : Int32)) (t0_13 := (p444.2.2.2.2.2.2.2.2.2.2.2.2.2.2 : Int32)) (t1_0 := t1_0) (by omega) ⟨by first | omega | decide, by first | omega | decide⟩
            with_reducible refine v_owe h34.1 ?_
            replace h34 := h34.2
            generalize F_TR_blanks (p444.2.1 : Int32) (p444.2.2.1 : Int32) (p444.2.2.2.1 : Int32) (p444.2.2.2.2.1 : Int32) (p444.2.2.2.2.2.1 : Int32) (p444.2.2.2.2.2.2.1 : Int32) (p444.2.2.2.2.2.2.2.1 : Int32) (p444.2.2.2.2.2.2.2.2.1 : Int64) (p444.2.2.2.2.2.2.2.2.2.1 : Int32) (p444.2.2.2.2.2.2.2.2.2.2.1 : Int32) (p444.2.2.2.2.2.2.2.2.2.2.2.1 : Int64) (p444.2.2.2.2.2.2.2.2.2.2.2.2.1 : Int64) (p444.2.2.2.2.2.2.2.2.2.2.2.2.2.1 : Int32) (p444.2.2.2.2.2.2.2.2.2.2.2.2.2.2 : Int32) t1_0 = p289 at *
            unfold Q_TR_blanks at h34
            obtain ⟨h34b, h34c, h34d, h343, h34s⟩ := h34
            have blp289d := congrArg Int32.toInt h34d
            have blp289b := congrArg Int32.toInt h34b
            have blp289c := congrArg Int32.toInt h34c
            have blp289s := h34s
            unfold S_TR_scan_c113 F_TR_scan_c113
            unfold S_TR_scan_J116 F_TR_scan_J116
            rw [if_neg g33, if_neg g33]
            by_cases g35 : (p289.2.2.2.1 : Int32) = (p289.2.1 : Int32)
            ·
              rw [if_pos g35, if_pos g35]
              refine ⟨trivial, ?_⟩
              (unfold Q_TR_scan; dsimp only; exact ⟨by omega, ⟨by omega, by omega⟩, ⟨by omega, by omega⟩, fun _ => Or.inl ⟨by omega, by omega⟩⟩)
            ·
              rw [if_neg g35, if_neg g35]
              refine ⟨trivial, ?_⟩
              (unfold Q_TR_scan; dsimp only; exact ⟨by omega, ⟨by omega, by omega⟩, ⟨by omega, by omega⟩, fun h => absurd rfl h⟩)
        ·
          rw [if_neg g31, if_neg g31]
          have h36 := T_TR_number (t0_0 := (p75.1 : Int32)) (t0_1 := (p75.2.1 : Int32)) (t0_2 := (p75.2.2.1 : Int32)) (t0_3 := lx116) (t0_4 := (0 : Int32)) (t0_5 := (p75.2.2.2.2.2.1 : Int32)) (t0_6 := (p75.2.2.2.2.2.2.1 : Int32)) (t0_7 := (p75.2.2.2.2.2.2.2.1 : Int64)) (t0_8 := (p75.2.2.2.2.2.2.2.2.1 : Int32)) (t0_9 := (p75.2.2.2.2.2.2.2.2.2.1 : Int32)) (t0_10 := (p75.2.2.2.2.2.2.2.2.2.2.1 : Int64)) (t0_11 := (p75.2.2.2.2.2.2.2.2.2.2.2.1 : Int64)) (t0_12 := (p75.2.2.2.2.2.2.2.2.2.2.2.2.1 : Int32)) (t0_13 := (p75.2.2.2.2.2.2.2.2.2.2.2.2.2 : Int32)) (t1_0 := t1_0) (t2_0 := t2_0) ht (by omega) ⟨by omega, by omega⟩
          with_reducible refine v_owe h36.1 ?_
          replace h36 := h36.2
          generalize F_TR_number (p75.1 : Int32) (p75.2.1 : Int32) (p75.2.2.1 : Int32) lx116 (0 : Int32) (p75.2.2.2.2.2.1 : Int32) (p75.2.2.2.2.2.2.1 : Int32) (p75.2.2.2.2.2.2.2.1 : Int64) (p75.2.2.2.2.2.2.2.2.1 : Int32) (p75.2.2.2.2.2.2.2.2.2.1 : Int32) (p75.2.2.2.2.2.2.2.2.2.2.1 : Int64) (p75.2.2.2.2.2.2.2.2.2.2.2.1 : Int64) (p75.2.2.2.2.2.2.2.2.2.2.2.2.1 : Int32) (p75.2.2.2.2.2.2.2.2.2.2.2.2.2 : Int32) t1_0 t2_0 = p369 at *
          unfold Q_TR_number at h36
          obtain ⟨nub, nud, nu4, nuS⟩ := h36
          unfold S_TR_scan_c104 F_TR_scan_c104
          unfold S_TR_scan_J108 F_TR_scan_J108
          by_cases g37 : (p369.1 : Int32) = (0 : Int32)
          ·
            rw [if_pos g37, if_pos g37]
            unfold S_TR_scan_J116 F_TR_scan_J116
            rw [if_pos g37, if_pos g37]
            refine ⟨trivial, ?_⟩
            (unfold Q_TR_scan; dsimp only; exact ⟨by omega, ⟨by omega, by omega⟩, ⟨by omega, by omega⟩, fun h => absurd rfl h⟩)
          ·
            rw [if_neg g37, if_neg g37]
            have h38 := T_TR_blanks (t0_0 := (p369.2.1 : Int32)) (t0_1 := (p369.2.2.1 : Int32)) (t0_2 := (p369.2.2.2.1 : Int32)) (t0_3 := (p369.2.2.2.2.1 : Int32)) (t0_4 := (p369.2.2.2.2.2.1 : Int32)) (t0_5 := (p369.2.2.2.2.2.2.1 : Int32)) (t0_6 := (p369.2.2.2.2.2.2.2.1 : Int32)) (t0_7 := (p369.2.2.2.2.2.2.2.2.1 : Int64)) (t0_8 := (p369.2.2.2.2.2.2.2.2.2.1 : Int32)) (t0_9 := (p369.2.2.2.2.2.2.2.2.2.2.1 : Int32)) (t0_10 := (p369.2.2.2.2.2.2.2.2.2.2.2.1 : Int64)) (t0_11 := (p369.2.2.2.2.2.2.2.2.2.2.2.2.1 : Int64)) (t0_12 := (p369.2.2.2.2.2.2.2.2.2.2.2.2.2.1 : Int32)) (t0_13 := (p369.2.2.2.2.2.2.2.2.2.2.2.2.2.2.1 : Int32)) (t1_0 := t1_0) (by omega) ⟨by first | omega | decide, by first | omega | decide⟩
            with_reducible refine v_owe h38.1 ?_
            replace h38 := h38.2
            generalize F_TR_blanks (p369.2.1 : Int32) (p369.2.2.1 : Int32) (p369.2.2.2.1 : Int32) (p369.2.2.2.2.1 : Int32) (p369.2.2.2.2.2.1 : Int32) (p369.2.2.2.2.2.2.1 : Int32) (p369.2.2.2.2.2.2.2.1 : Int32) (p369.2.2.2.2.2.2.2.2.1 : Int64) (p369.2.2.2.2.2.2.2.2.2.1 : Int32) (p369.2.2.2.2.2.2.2.2.2.2.1 : Int32) (p369.2.2.2.2.2.2.2.2.2.2.2.1 : Int64) (p369.2.2.2.2.2.2.2.2.2.2.2.2.1 : Int64) (p369.2.2.2.2.2.2.2.2.2.2.2.2.2.1 : Int32) (p369.2.2.2.2.2.2.2.2.2.2.2.2.2.2.1 : Int32) t1_0 = p289 at *
            unfold Q_TR_blanks at h38
            obtain ⟨h38b, h38c, h38d, h383, h38s⟩ := h38
            have blp289d := congrArg Int32.toInt h38d
            have blp289b := congrArg Int32.toInt h38b
            have blp289c := congrArg Int32.toInt h38c
            have blp289s := h38s
            unfold S_TR_scan_c113 F_TR_scan_c113
            unfold S_TR_scan_J116 F_TR_scan_J116
            rw [if_neg g37, if_neg g37]
            by_cases g39 : (p289.2.2.2.1 : Int32) = (p289.2.1 : Int32)
            ·
              rw [if_pos g39, if_pos g39]
              refine ⟨trivial, ?_⟩
              (unfold Q_TR_scan; dsimp only; exact ⟨by omega, ⟨by omega, by omega⟩, ⟨by omega, by omega⟩, fun _ => Or.inr (blp289s _ (nuS g37))⟩)
            ·
              rw [if_neg g39, if_neg g39]
              refine ⟨trivial, ?_⟩
              (unfold Q_TR_scan; dsimp only; exact ⟨by omega, ⟨by omega, by omega⟩, ⟨by omega, by omega⟩, fun h => absurd rfl h⟩)
    ·
      rw [if_neg g23, if_neg g23]
      unfold S_TR_scan_J53 F_TR_scan_J53
      with_reducible refine v_owe h22 ?_
      by_cases g40 : ((F_TR_here (p75.1 : Int32) (p75.2.1 : Int32) (p75.2.2.1 : Int32) (p75.2.2.2.1 : Int32) (0 : Int32) (p75.2.2.2.2.2.1 : Int32) (p75.2.2.2.2.2.2.1 : Int32) (p75.2.2.2.2.2.2.2.1 : Int64) (p75.2.2.2.2.2.2.2.2.1 : Int32) (p75.2.2.2.2.2.2.2.2.2.1 : Int32) (p75.2.2.2.2.2.2.2.2.2.2.1 : Int64) (p75.2.2.2.2.2.2.2.2.2.2.2.1 : Int64) (p75.2.2.2.2.2.2.2.2.2.2.2.2.1 : Int32) (p75.2.2.2.2.2.2.2.2.2.2.2.2.2 : Int32) t1_0) : Int32) = (78 : Int32)
      ·
        rw [if_pos g40, if_pos g40]
        have g40i := tr_h g40 (by decide)
        have h41 := T_TR_spells (x2 := (5136718 : Int64)) (t0_0 := (p75.1 : Int32)) (t0_1 := (p75.2.1 : Int32)) (t0_2 := (3 : Int32)) (t0_3 := (p75.2.2.2.1 : Int32)) (t0_4 := (0 : Int32)) (t0_5 := (p75.2.2.2.2.2.1 : Int32)) (t0_6 := (p75.2.2.2.2.2.2.1 : Int32)) (t0_7 := (p75.2.2.2.2.2.2.2.1 : Int64)) (t0_8 := (p75.2.2.2.2.2.2.2.2.1 : Int32)) (t0_9 := (p75.2.2.2.2.2.2.2.2.2.1 : Int32)) (t0_10 := (p75.2.2.2.2.2.2.2.2.2.2.1 : Int64)) (t0_11 := (p75.2.2.2.2.2.2.2.2.2.2.2.1 : Int64)) (t0_12 := (p75.2.2.2.2.2.2.2.2.2.2.2.2.1 : Int32)) (t0_13 := (p75.2.2.2.2.2.2.2.2.2.2.2.2.2 : Int32)) (t1_0 := t1_0) ⟨by omega, by omega⟩ (by decide)
        with_reducible refine v_owe h41.1 ?_
        replace h41 := h41.2
        generalize F_TR_spells (5136718 : Int64) (p75.1 : Int32) (p75.2.1 : Int32) (3 : Int32) (p75.2.2.2.1 : Int32) (0 : Int32) (p75.2.2.2.2.2.1 : Int32) (p75.2.2.2.2.2.2.1 : Int32) (p75.2.2.2.2.2.2.2.1 : Int64) (p75.2.2.2.2.2.2.2.2.1 : Int32) (p75.2.2.2.2.2.2.2.2.2.1 : Int32) (p75.2.2.2.2.2.2.2.2.2.2.1 : Int64) (p75.2.2.2.2.2.2.2.2.2.2.2.1 : Int64) (p75.2.2.2.2.2.2.2.2.2.2.2.2.1 : Int32) (p75.2.2.2.2.2.2.2.2.2.2.2.2.2 : Int32) t1_0 = p518 at *
        unfold Q_TR_spells at h41
        obtain ⟨h41b, h41c, h41d, h414⟩ := h41
        have spp518d := congrArg Int32.toInt h41d
        have spp518b := congrArg Int32.toInt h41b
        have spp518c := congrArg Int32.toInt h41c
        unfold S_TR_scan_c71 F_TR_scan_c71
        unfold S_TR_scan_J108 F_TR_scan_J108
        by_cases g42 : (p518.1 : Int32) = (0 : Int32)
        ·
          rw [if_pos g42, if_pos g42]
          unfold S_TR_scan_J116 F_TR_scan_J116
          rw [if_pos g42, if_pos g42]
          refine ⟨trivial, ?_⟩
          (unfold Q_TR_scan; dsimp only; exact ⟨by omega, ⟨by omega, by omega⟩, ⟨by omega, by omega⟩, fun h => absurd rfl h⟩)
        ·
          rw [if_neg g42, if_neg g42]
          have h43 := T_TR_blanks (t0_0 := (p518.2.1 : Int32)) (t0_1 := (p518.2.2.1 : Int32)) (t0_2 := (p518.2.2.2.1 : Int32)) (t0_3 := (p518.2.2.2.2.1 : Int32)) (t0_4 := (p518.2.2.2.2.2.1 : Int32)) (t0_5 := (p518.2.2.2.2.2.2.1 : Int32)) (t0_6 := (p518.2.2.2.2.2.2.2.1 : Int32)) (t0_7 := (p518.2.2.2.2.2.2.2.2.1 : Int64)) (t0_8 := (p518.2.2.2.2.2.2.2.2.2.1 : Int32)) (t0_9 := (p518.2.2.2.2.2.2.2.2.2.2.1 : Int32)) (t0_10 := (p518.2.2.2.2.2.2.2.2.2.2.2.1 : Int64)) (t0_11 := (p518.2.2.2.2.2.2.2.2.2.2.2.2.1 : Int64)) (t0_12 := (p518.2.2.2.2.2.2.2.2.2.2.2.2.2.1 : Int32)) (t0_13 := (p518.2.2.2.2.2.2.2.2.2.2.2.2.2.2 : Int32)) (t1_0 := t1_0) (by omega) ⟨by first | omega | decide, by first | omega | decide⟩
          with_reducible refine v_owe h43.1 ?_
          replace h43 := h43.2
          generalize F_TR_blanks (p518.2.1 : Int32) (p518.2.2.1 : Int32) (p518.2.2.2.1 : Int32) (p518.2.2.2.2.1 : Int32) (p518.2.2.2.2.2.1 : Int32) (p518.2.2.2.2.2.2.1 : Int32) (p518.2.2.2.2.2.2.2.1 : Int32) (p518.2.2.2.2.2.2.2.2.1 : Int64) (p518.2.2.2.2.2.2.2.2.2.1 : Int32) (p518.2.2.2.2.2.2.2.2.2.2.1 : Int32) (p518.2.2.2.2.2.2.2.2.2.2.2.1 : Int64) (p518.2.2.2.2.2.2.2.2.2.2.2.2.1 : Int64) (p518.2.2.2.2.2.2.2.2.2.2.2.2.2.1 : Int32) (p518.2.2.2.2.2.2.2.2.2.2.2.2.2.2 : Int32) t1_0 = p289 at *
          unfold Q_TR_blanks at h43
          obtain ⟨h43b, h43c, h43d, h433, h43s⟩ := h43
          have blp289d := congrArg Int32.toInt h43d
          have blp289b := congrArg Int32.toInt h43b
          have blp289c := congrArg Int32.toInt h43c
          have blp289s := h43s
          unfold S_TR_scan_c113 F_TR_scan_c113
          unfold S_TR_scan_J116 F_TR_scan_J116
          rw [if_neg g42, if_neg g42]
          by_cases g44 : (p289.2.2.2.1 : Int32) = (p289.2.1 : Int32)
          ·
            rw [if_pos g44, if_pos g44]
            refine ⟨trivial, ?_⟩
            (unfold Q_TR_scan; dsimp only; exact ⟨by omega, ⟨by omega, by omega⟩, ⟨by omega, by omega⟩, fun _ => Or.inl ⟨by omega, by omega⟩⟩)
          ·
            rw [if_neg g44, if_neg g44]
            refine ⟨trivial, ?_⟩
            (unfold Q_TR_scan; dsimp only; exact ⟨by omega, ⟨by omega, by omega⟩, ⟨by omega, by omega⟩, fun h => absurd rfl h⟩)
      ·
        rw [if_neg g40, if_neg g40]
        with_reducible refine v_owe h22 ?_
        by_cases g45 : ((F_TR_here (p75.1 : Int32) (p75.2.1 : Int32) (p75.2.2.1 : Int32) (p75.2.2.2.1 : Int32) (0 : Int32) (p75.2.2.2.2.2.1 : Int32) (p75.2.2.2.2.2.2.1 : Int32) (p75.2.2.2.2.2.2.2.1 : Int64) (p75.2.2.2.2.2.2.2.2.1 : Int32) (p75.2.2.2.2.2.2.2.2.2.1 : Int32) (p75.2.2.2.2.2.2.2.2.2.2.1 : Int64) (p75.2.2.2.2.2.2.2.2.2.2.2.1 : Int64) (p75.2.2.2.2.2.2.2.2.2.2.2.2.1 : Int32) (p75.2.2.2.2.2.2.2.2.2.2.2.2.2 : Int32) t1_0) : Int32) = (73 : Int32)
        ·
          rw [if_pos g45, if_pos g45]
          have g45i := tr_h g45 (by decide)
          have h46 := T_TR_spells (x2 := (8751735898823355977 : Int64)) (t0_0 := (p75.1 : Int32)) (t0_1 := (p75.2.1 : Int32)) (t0_2 := (2 : Int32)) (t0_3 := (p75.2.2.2.1 : Int32)) (t0_4 := (0 : Int32)) (t0_5 := (p75.2.2.2.2.2.1 : Int32)) (t0_6 := (p75.2.2.2.2.2.2.1 : Int32)) (t0_7 := (p75.2.2.2.2.2.2.2.1 : Int64)) (t0_8 := (p75.2.2.2.2.2.2.2.2.1 : Int32)) (t0_9 := (p75.2.2.2.2.2.2.2.2.2.1 : Int32)) (t0_10 := (p75.2.2.2.2.2.2.2.2.2.2.1 : Int64)) (t0_11 := (p75.2.2.2.2.2.2.2.2.2.2.2.1 : Int64)) (t0_12 := (p75.2.2.2.2.2.2.2.2.2.2.2.2.1 : Int32)) (t0_13 := (p75.2.2.2.2.2.2.2.2.2.2.2.2.2 : Int32)) (t1_0 := t1_0) ⟨by omega, by omega⟩ (by decide)
          with_reducible refine v_owe h46.1 ?_
          replace h46 := h46.2
          generalize F_TR_spells (8751735898823355977 : Int64) (p75.1 : Int32) (p75.2.1 : Int32) (2 : Int32) (p75.2.2.2.1 : Int32) (0 : Int32) (p75.2.2.2.2.2.1 : Int32) (p75.2.2.2.2.2.2.1 : Int32) (p75.2.2.2.2.2.2.2.1 : Int64) (p75.2.2.2.2.2.2.2.2.1 : Int32) (p75.2.2.2.2.2.2.2.2.2.1 : Int32) (p75.2.2.2.2.2.2.2.2.2.2.1 : Int64) (p75.2.2.2.2.2.2.2.2.2.2.2.1 : Int64) (p75.2.2.2.2.2.2.2.2.2.2.2.2.1 : Int32) (p75.2.2.2.2.2.2.2.2.2.2.2.2.2 : Int32) t1_0 = p444 at *
          unfold Q_TR_spells at h46
          obtain ⟨h46b, h46c, h46d, h464⟩ := h46
          have spp444d := congrArg Int32.toInt h46d
          have spp444b := congrArg Int32.toInt h46b
          have spp444c := congrArg Int32.toInt h46c
          unfold S_TR_scan_c96 F_TR_scan_c96
          unfold S_TR_scan_J108 F_TR_scan_J108
          by_cases g47 : (p444.1 : Int32) = (0 : Int32)
          ·
            rw [if_pos g47, if_pos g47]
            unfold S_TR_scan_J116 F_TR_scan_J116
            rw [if_pos g47, if_pos g47]
            refine ⟨trivial, ?_⟩
            (unfold Q_TR_scan; dsimp only; exact ⟨by omega, ⟨by omega, by omega⟩, ⟨by omega, by omega⟩, fun h => absurd rfl h⟩)
          ·
            rw [if_neg g47, if_neg g47]
            have h48 := T_TR_blanks (t0_0 := (p444.2.1 : Int32)) (t0_1 := (p444.2.2.1 : Int32)) (t0_2 := (p444.2.2.2.1 : Int32)) (t0_3 := (p444.2.2.2.2.1 : Int32)) (t0_4 := (p444.2.2.2.2.2.1 : Int32)) (t0_5 := (p444.2.2.2.2.2.2.1 : Int32)) (t0_6 := (p444.2.2.2.2.2.2.2.1 : Int32)) (t0_7 := (p444.2.2.2.2.2.2.2.2.1 : Int64)) (t0_8 := (p444.2.2.2.2.2.2.2.2.2.1 : Int32)) (t0_9 := (p444.2.2.2.2.2.2.2.2.2.2.1 : Int32)) (t0_10 := (p444.2.2.2.2.2.2.2.2.2.2.2.1 : Int64)) (t0_11 := (p444.2.2.2.2.2.2.2.2.2.2.2.2.1 : Int64)) (t0_12 := (p444.2.2.2.2.2.2.2.2.2.2.2.2.2.1 : Int32)) (t0_13 := (p444.2.2.2.2.2.2.2.2.2.2.2.2.2.2 : Int32)) (t1_0 := t1_0) (by omega) ⟨by first | omega | decide, by first | omega | decide⟩
            with_reducible refine v_owe h48.1 ?_
            replace h48 := h48.2
            generalize F_TR_blanks (p444.2.1 : Int32) (p444.2.2.1 : Int32) (p444.2.2.2.1 : Int32) (p444.2.2.2.2.1 : Int32) (p444.2.2.2.2.2.1 : Int32) (p444.2.2.2.2.2.2.1 : Int32) (p444.2.2.2.2.2.2.2.1 : Int32) (p444.2.2.2.2.2.2.2.2.1 : Int64) (p444.2.2.2.2.2.2.2.2.2.1 : Int32) (p444.2.2.2.2.2.2.2.2.2.2.1 : Int32) (p444.2.2.2.2.2.2.2.2.2.2.2.1 : Int64) (p444.2.2.2.2.2.2.2.2.2.2.2.2.1 : Int64) (p444.2.2.2.2.2.2.2.2.2.2.2.2.2.1 : Int32) (p444.2.2.2.2.2.2.2.2.2.2.2.2.2.2 : Int32) t1_0 = p289 at *
            unfold Q_TR_blanks at h48
            obtain ⟨h48b, h48c, h48d, h483, h48s⟩ := h48
            have blp289d := congrArg Int32.toInt h48d
            have blp289b := congrArg Int32.toInt h48b
            have blp289c := congrArg Int32.toInt h48c
            have blp289s := h48s
            unfold S_TR_scan_c113 F_TR_scan_c113
            unfold S_TR_scan_J116 F_TR_scan_J116
            rw [if_neg g47, if_neg g47]
            by_cases g49 : (p289.2.2.2.1 : Int32) = (p289.2.1 : Int32)
            ·
              rw [if_pos g49, if_pos g49]
              refine ⟨trivial, ?_⟩
              (unfold Q_TR_scan; dsimp only; exact ⟨by omega, ⟨by omega, by omega⟩, ⟨by omega, by omega⟩, fun _ => Or.inl ⟨by omega, by omega⟩⟩)
            ·
              rw [if_neg g49, if_neg g49]
              refine ⟨trivial, ?_⟩
              (unfold Q_TR_scan; dsimp only; exact ⟨by omega, ⟨by omega, by omega⟩, ⟨by omega, by omega⟩, fun h => absurd rfl h⟩)
        ·
          rw [if_neg g45, if_neg g45]
          have h50 := T_TR_number (t0_0 := (p75.1 : Int32)) (t0_1 := (p75.2.1 : Int32)) (t0_2 := (p75.2.2.1 : Int32)) (t0_3 := (p75.2.2.2.1 : Int32)) (t0_4 := (0 : Int32)) (t0_5 := (p75.2.2.2.2.2.1 : Int32)) (t0_6 := (p75.2.2.2.2.2.2.1 : Int32)) (t0_7 := (p75.2.2.2.2.2.2.2.1 : Int64)) (t0_8 := (p75.2.2.2.2.2.2.2.2.1 : Int32)) (t0_9 := (p75.2.2.2.2.2.2.2.2.2.1 : Int32)) (t0_10 := (p75.2.2.2.2.2.2.2.2.2.2.1 : Int64)) (t0_11 := (p75.2.2.2.2.2.2.2.2.2.2.2.1 : Int64)) (t0_12 := (p75.2.2.2.2.2.2.2.2.2.2.2.2.1 : Int32)) (t0_13 := (p75.2.2.2.2.2.2.2.2.2.2.2.2.2 : Int32)) (t1_0 := t1_0) (t2_0 := t2_0) ht (by omega) ⟨by omega, by omega⟩
          with_reducible refine v_owe h50.1 ?_
          replace h50 := h50.2
          generalize F_TR_number (p75.1 : Int32) (p75.2.1 : Int32) (p75.2.2.1 : Int32) (p75.2.2.2.1 : Int32) (0 : Int32) (p75.2.2.2.2.2.1 : Int32) (p75.2.2.2.2.2.2.1 : Int32) (p75.2.2.2.2.2.2.2.1 : Int64) (p75.2.2.2.2.2.2.2.2.1 : Int32) (p75.2.2.2.2.2.2.2.2.2.1 : Int32) (p75.2.2.2.2.2.2.2.2.2.2.1 : Int64) (p75.2.2.2.2.2.2.2.2.2.2.2.1 : Int64) (p75.2.2.2.2.2.2.2.2.2.2.2.2.1 : Int32) (p75.2.2.2.2.2.2.2.2.2.2.2.2.2 : Int32) t1_0 t2_0 = p369 at *
          unfold Q_TR_number at h50
          obtain ⟨nub, nud, nu4, nuS⟩ := h50
          unfold S_TR_scan_c104 F_TR_scan_c104
          unfold S_TR_scan_J108 F_TR_scan_J108
          by_cases g51 : (p369.1 : Int32) = (0 : Int32)
          ·
            rw [if_pos g51, if_pos g51]
            unfold S_TR_scan_J116 F_TR_scan_J116
            rw [if_pos g51, if_pos g51]
            refine ⟨trivial, ?_⟩
            (unfold Q_TR_scan; dsimp only; exact ⟨by omega, ⟨by omega, by omega⟩, ⟨by omega, by omega⟩, fun h => absurd rfl h⟩)
          ·
            rw [if_neg g51, if_neg g51]
            have h52 := T_TR_blanks (t0_0 := (p369.2.1 : Int32)) (t0_1 := (p369.2.2.1 : Int32)) (t0_2 := (p369.2.2.2.1 : Int32)) (t0_3 := (p369.2.2.2.2.1 : Int32)) (t0_4 := (p369.2.2.2.2.2.1 : Int32)) (t0_5 := (p369.2.2.2.2.2.2.1 : Int32)) (t0_6 := (p369.2.2.2.2.2.2.2.1 : Int32)) (t0_7 := (p369.2.2.2.2.2.2.2.2.1 : Int64)) (t0_8 := (p369.2.2.2.2.2.2.2.2.2.1 : Int32)) (t0_9 := (p369.2.2.2.2.2.2.2.2.2.2.1 : Int32)) (t0_10 := (p369.2.2.2.2.2.2.2.2.2.2.2.1 : Int64)) (t0_11 := (p369.2.2.2.2.2.2.2.2.2.2.2.2.1 : Int64)) (t0_12 := (p369.2.2.2.2.2.2.2.2.2.2.2.2.2.1 : Int32)) (t0_13 := (p369.2.2.2.2.2.2.2.2.2.2.2.2.2.2.1 : Int32)) (t1_0 := t1_0) (by omega) ⟨by first | omega | decide, by first | omega | decide⟩
            with_reducible refine v_owe h52.1 ?_
            replace h52 := h52.2
            generalize F_TR_blanks (p369.2.1 : Int32) (p369.2.2.1 : Int32) (p369.2.2.2.1 : Int32) (p369.2.2.2.2.1 : Int32) (p369.2.2.2.2.2.1 : Int32) (p369.2.2.2.2.2.2.1 : Int32) (p369.2.2.2.2.2.2.2.1 : Int32) (p369.2.2.2.2.2.2.2.2.1 : Int64) (p369.2.2.2.2.2.2.2.2.2.1 : Int32) (p369.2.2.2.2.2.2.2.2.2.2.1 : Int32) (p369.2.2.2.2.2.2.2.2.2.2.2.1 : Int64) (p369.2.2.2.2.2.2.2.2.2.2.2.2.1 : Int64) (p369.2.2.2.2.2.2.2.2.2.2.2.2.2.1 : Int32) (p369.2.2.2.2.2.2.2.2.2.2.2.2.2.2.1 : Int32) t1_0 = p289 at *
            unfold Q_TR_blanks at h52
            obtain ⟨h52b, h52c, h52d, h523, h52s⟩ := h52
            have blp289d := congrArg Int32.toInt h52d
            have blp289b := congrArg Int32.toInt h52b
            have blp289c := congrArg Int32.toInt h52c
            have blp289s := h52s
            unfold S_TR_scan_c113 F_TR_scan_c113
            unfold S_TR_scan_J116 F_TR_scan_J116
            rw [if_neg g51, if_neg g51]
            by_cases g53 : (p289.2.2.2.1 : Int32) = (p289.2.1 : Int32)
            ·
              rw [if_pos g53, if_pos g53]
              refine ⟨trivial, ?_⟩
              (unfold Q_TR_scan; dsimp only; exact ⟨by omega, ⟨by omega, by omega⟩, ⟨by omega, by omega⟩, fun _ => Or.inr (blp289s _ (nuS g51))⟩)
            ·
              rw [if_neg g53, if_neg g53]
              refine ⟨trivial, ?_⟩
              (unfold Q_TR_scan; dsimp only; exact ⟨by omega, ⟨by omega, by omega⟩, ⟨by omega, by omega⟩, fun h => absurd rfl h⟩)

/-! TextRows: half, twice -/
/-- the value of the first n words -/
def trV (w : Nat → Int32) : Nat → Int
  | 0 => 0
  | n + 1 => trV w n * 100000000 + (w n).toInt
def trO (w : Nat → Int32) : Prop := ∀ i, i < 800 → 0 ≤ (w i).toInt ∧ (w i).toInt < 100000000
theorem trO.upd {w : Nat → Int32} {i : Nat} {x : Int32} (h : trO w) (hx : 0 ≤ x.toInt ∧ x.toInt < 100000000) : trO (upd w i x) := fun j hj => by
  by_cases c : j = i
  · rw [c, v_eq]; exact hx
  · rw [v_ne c]; exact h j hj
theorem trV_cong {f g : Nat → Int32} : ∀ {n : Nat}, (∀ i, i < n → f i = g i) → trV f n = trV g n
  | 0, _ => rfl
  | n + 1, h => by
    show trV f n * 100000000 + (f n).toInt = trV g n * 100000000 + (g n).toInt
    rw [trV_cong (fun i hi => h i (by omega)), h n (Nat.lt_succ_self n)]
theorem trV_0 {f : Nat → Int32} : ∀ {n : Nat}, (∀ i, i < n → f i = 0) → trV f n = 0
  | 0, _ => rfl
  | n + 1, h => by
    show trV f n * 100000000 + (f n).toInt = 0
    rw [trV_0 (fun i hi => h i (by omega)), h n (Nat.lt_succ_self n)]
    rfl
theorem trV_nn {f : Nat → Int32} (h : trO f) : ∀ {n : Nat}, n ≤ 800 → 0 ≤ trV f n
  | 0, _ => Int.le_refl 0
  | n + 1, hn => by
    have a := trV_nn h (show n ≤ 800 by omega)
    have b := (h n (by omega)).1
    show 0 ≤ trV f n * 100000000 + (f n).toInt
    omega
theorem trV_ge {f : Nat → Int32} (h : trO f) {i : Nat} : ∀ {n : Nat}, n ≤ 800 → i < n → (f i).toInt ≠ 0 → 1 ≤ trV f n
  | 0, _, hi, _ => by omega
  | n + 1, hn, hi, hz => by
    have b := h n (by omega)
    show 1 ≤ trV f n * 100000000 + (f n).toInt
    by_cases c : i = n
    · have a := trV_nn h (show n ≤ 800 by omega)
      rw [c] at hz
      omega
    · have a := trV_ge h (show n ≤ 800 by omega) (show i < n by omega) hz
      omega
/-- halving, at word k with the carry c: f as it was -/
def trH (f g : Nat → Int32) (k : Nat) (c : Int) : Prop := trO g ∧ (∀ i, k ≤ i → g i = f i) ∧ (0 ≤ c ∧ c ≤ 1) ∧ (k ≤ 55 → 2 * trV g k + c = trV f k) ∧ (55 ≤ k → 2 * trV g 55 ≤ trV f 55) ∧ (∀ j, j + 1 = k → c = 0 ∨ ∃ d : Int, (0 ≤ d ∧ d ≤ 1) ∧ 2 * (g j).toInt + c = (f j).toInt + d * 100000000) ∧ (∀ j, j + 1 = k → ∃ d : Int, (0 ≤ d ∧ d ≤ 1) ∧ 2 * (g j).toInt + c = (f j).toInt + d * 100000000)
theorem trH.step {f g : Nat → Int32} {k : Nat} {c c1 : Int} {x : Int32} (hk : k < 800) (h : trH f g k c) (hx : 2 * x.toInt + c1 = (g k).toInt + c * 100000000) (h0 : 0 ≤ x.toInt ∧ x.toInt < 100000000) (h1 : 0 ≤ c1 ∧ c1 ≤ 1) : trH f (upd g k x) (k + 1) c1 := by
  obtain ⟨a, b, d, e, m, -, -⟩ := h
  have eg := b k (Nat.le_refl k)
  have ew : ∀ n, n ≤ k → trV (upd g k x) n = trV g n := fun n hn => trV_cong (fun i hi => v_ne (by omega))
  have st : trV (upd g k x) (k + 1) = trV g k * 100000000 + x.toInt := by
    show trV (upd g k x) k * 100000000 + (upd g k x k).toInt = _
    rw [ew k (Nat.le_refl k), v_eq]
  have sf : trV f (k + 1) = trV f k * 100000000 + (f k).toInt := rfl
  have last : ∀ j, j + 1 = k + 1 → ∃ d : Int, (0 ≤ d ∧ d ≤ 1) ∧ 2 * (upd g k x j).toInt + c1 = (f j).toInt + d * 100000000 := fun j hj => by
    rw [show j = k by omega, v_eq, ← eg]
    exact ⟨c, d, hx⟩
  rw [eg] at hx
  refine ⟨a.upd h0, fun i hi => by rw [v_ne (by omega)]; exact b i (by omega), h1, fun hk5 => ?_, fun hk5 => ?_, fun j hj => Or.inr (last j hj), last⟩
  · have q := e (by omega)
    rw [st, sf]; omega
  · by_cases k5 : k = 54
    · subst k5
      have q := e (by omega)
      have s1 : trV (upd g 54 x) 55 = trV g 54 * 100000000 + x.toInt := st
      have s2 : trV f 55 = trV f 54 * 100000000 + (f 54).toInt := rfl
      rw [s1, s2]; omega
    · rw [ew 55 (by omega)]
      exact m (by omega)
theorem tr_hv {g c : Int32} (hg : 0 ≤ g.toInt ∧ g.toInt < 100000000) (hc : 0 ≤ c.toInt ∧ c.toInt ≤ 1) : 2 * ((g + c * 100000000) / 2 : Int32).toInt + ((g + c * 100000000) - (g + c * 100000000) / 2 * 2 : Int32).toInt = g.toInt + c.toInt * 100000000 ∧ (0 ≤ ((g + c * 100000000) / 2 : Int32).toInt ∧ ((g + c * 100000000) / 2 : Int32).toInt < 100000000) ∧ 0 ≤ ((g + c * 100000000) - (g + c * 100000000) / 2 * 2 : Int32).toInt ∧ ((g + c * 100000000) - (g + c * 100000000) / 2 * 2 : Int32).toInt ≤ 1 := by
  have e1 : (c * 100000000 : Int32).toInt = c.toInt * 100000000 := q_mulI (y := 100000000) rfl (by decide) (by omega) (by omega)
  have e2 : (g + c * 100000000 : Int32).toInt = g.toInt + c.toInt * 100000000 := q_addI rfl e1 (by omega) (by omega)
  generalize (g + c * 100000000 : Int32) = v at e2 ⊢
  have e3 : (v / 2 : Int32).toInt = v.toInt / 2 := q_divI rfl (by decide) (by omega) (by decide)
  have e4 := s_rem (x := v) (b := 2) (by omega) (by decide)
  have e5 : (2 : Int32).toInt = 2 := rfl
  rw [e5] at e4
  rw [e3, e4]
  clear e1
  omega
theorem trH.go {f g : Nat → Int32} {i j c : Int32} (h0 : 0 ≤ i.toInt ∧ i.toInt < 800) (h : trH f g i.toNatClampNeg c.toInt) (e : j.toInt = i.toInt + 1) : trH f (upd g i.toNatClampNeg ((g i.toNatClampNeg + c * 100000000) / 2)) j.toNatClampNeg ((g i.toNatClampNeg + c * 100000000) - (g i.toNatClampNeg + c * 100000000) / 2 * 2 : Int32).toInt := by
  have a := q_clI (i := i) rfl h0.1
  have b := q_clI (i := j) rfl (by omega)
  have z := tr_hv (h.1 i.toNatClampNeg (by omega)) h.2.2.1
  rw [show j.toNatClampNeg = i.toNatClampNeg + 1 by omega]
  exact h.step (by omega) z.1 z.2.1 z.2.2
def Q_TR_half (t0_1 t0_4 t0_9 : Int32) (t0_11 : Int64) (t0_13 : Int32) (t1_0 : Nat → Int32) (p : Int32 × Int32 × Int32 × Int32 × Int32 × Int32 × Int32 × Int64 × Int32 × Int32 × Int64 × Int64 × Int32 × Int32 × (Nat → Int32)) : Prop := p.2.1 = t0_1 ∧ p.2.2.2.2.1 = t0_4 ∧ p.2.2.2.2.2.2.2.2.2.2.2.1 = t0_11 ∧ p.2.2.2.2.2.2.2.2.2.2.2.2.2.1 = t0_13 ∧ (0 ≤ p.2.2.2.2.2.2.2.2.1.toInt ∧ p.2.2.2.2.2.2.2.2.1.toInt ≤ 54) ∧ trO p.2.2.2.2.2.2.2.2.2.2.2.2.2.2 ∧ (∀ i : Nat, (i : Int) < p.2.2.2.2.2.2.2.2.1.toInt → p.2.2.2.2.2.2.2.2.2.2.2.2.2.2 i = 0) ∧ (p.2.2.2.2.2.2.2.2.1.toInt = 54 ∨ (p.2.2.2.2.2.2.2.2.2.2.2.2.2.2 p.2.2.2.2.2.2.2.2.1.toNatClampNeg).toInt ≠ 0) ∧ 2 * trV p.2.2.2.2.2.2.2.2.2.2.2.2.2.2 55 ≤ trV t1_0 55 ∧ ((p.2.2.2.2.2.2.2.2.2.1 = t0_9 ∧ ∃ d : Int, (0 ≤ d ∧ d ≤ 1) ∧ 2 * (p.2.2.2.2.2.2.2.2.2.2.2.2.2.2 t0_9.toNatClampNeg).toInt = (t1_0 t0_9.toNatClampNeg).toInt + d * 100000000) ∨ (p.2.2.2.2.2.2.2.2.2.1.toInt = t0_9.toInt + 1 ∧ (t1_0 t0_9.toNatClampNeg).toInt % 2 = 1 ∧ (p.2.2.2.2.2.2.2.2.2.2.2.2.2.2 p.2.2.2.2.2.2.2.2.2.1.toNatClampNeg).toInt = 50000000))
def trZ (f g : Nat → Int32) (to to1 : Int32) : Prop := trO g ∧ 2 * trV g 55 ≤ trV f 55 ∧ ((to1 = to ∧ ∃ d : Int, (0 ≤ d ∧ d ≤ 1) ∧ 2 * (g to.toNatClampNeg).toInt = (f to.toNatClampNeg).toInt + d * 100000000) ∨ (to1.toInt = to.toInt + 1 ∧ (f to.toNatClampNeg).toInt % 2 = 1 ∧ (g to1.toNatClampNeg).toInt = 50000000))
theorem trZ.a {f g : Nat → Int32} {to k c : Int32} (h9 : 54 ≤ to.toInt ∧ to.toInt ≤ 799) (ek : k.toInt = to.toInt + 1) (h : trH f g k.toNatClampNeg c.toInt) (hc : c.toInt ≤ 0) : trZ f g to to := by
  obtain ⟨a, b, d, e, m, -, l⟩ := h
  have k1 := q_clI (i := k) rfl (by omega)
  have k2 := q_clI (i := to) rfl (by omega)
  obtain ⟨x, x1, x2⟩ := l to.toNatClampNeg (by omega)
  exact ⟨a, m (by omega), Or.inl ⟨rfl, x, x1, by omega⟩⟩
theorem trZ.b {f g : Nat → Int32} {to to1 k c : Int32} (h9 : 54 ≤ to.toInt ∧ to.toInt ≤ 799) (ek : k.toInt = to.toInt + 1) (e1 : to1.toInt = to.toInt + 1) (h : trH f g k.toNatClampNeg c.toInt) (hc : 0 < c.toInt) : trZ f (upd g to1.toNatClampNeg 50000000) to to1 := by
  obtain ⟨a, b, d, e, m, -, l⟩ := h
  have k1 := q_clI (i := k) rfl (by omega)
  have k2 := q_clI (i := to) rfl (by omega)
  have k3 := q_clI (i := to1) rfl (by omega)
  obtain ⟨x, x1, x2⟩ := l to.toNatClampNeg (by omega)
  refine ⟨a.upd (by decide), ?_, Or.inr ⟨e1, by omega, by rw [v_eq]; rfl⟩⟩
  rw [trV_cong (g := g) (fun i hi => v_ne (by omega))]
  exact m (by omega)
theorem trZ.odd {f g : Nat → Int32} {to k c : Int32} (h9 : 54 ≤ to.toInt ∧ to.toInt ≤ 799) (ek : k.toInt = to.toInt + 1) (h : trH f g k.toNatClampNeg c.toInt) (hc : 0 < c.toInt) : (f to.toNatClampNeg).toInt % 2 = 1 := by
  obtain ⟨a, b, d, e, m, -, l⟩ := h
  have k1 := q_clI (i := k) rfl (by omega)
  have k2 := q_clI (i := to) rfl (by omega)
  obtain ⟨x, x1, x2⟩ := l to.toNatClampNeg (by omega)
  omega
theorem vt_h2 {K_F_TR_half_L7 : Int32 → Int32 → (Nat → Int32) → (Int32 × Int32 × Int32 × Int32 × Int32 × Int32 × Int32 × Int64 × Int32 × Int32 × Int64 × Int64 × Int32 × Int32 × (Nat → Int32))} {t0_0 : Int32} {t0_1 : Int32} {t0_2 : Int32} {t0_3 : Int32} {t0_4 : Int32} {t0_5 : Int32} {t0_6 : Int32} {t0_7 : Int64} {t0_8 : Int32} {t0_9 : Int32} {t0_10 : Int64} {t0_11 : Int64} {t0_12 : Int32} {t0_13 : Int32} {t1_0 : (Nat → Int32)} {lx24 : Int32} {lx25 : Int32} {lx26 : (Nat → Int32)} {lx39 : Int32} {lx40 : (Nat → Int32)} {K_S_TR_half_L7 : Int32 → Int32 → (Nat → Int32) → Prop} (h8 : 0 ≤ t0_8.toInt ∧ t0_8.toInt ≤ 54) (h9 : 54 ≤ t0_9.toInt ∧ t0_9.toInt ≤ 799) (ho : trO t1_0) (hz : ∀ i : Nat, (i : Int) < t0_8.toInt → t1_0 i = 0) (hd : t0_9.toInt = 799 → (t1_0 t0_9.toNatClampNeg).toInt % 2 = 0)(hZ : trZ t1_0 lx40 t0_9 lx39) : ∀ (n : Nat) (lx53 : Int32), (t0_8.toInt ≤ lx53.toInt ∧ lx53.toInt ≤ 54) → (54 - lx53.toInt < (n : Int)) → (∀ i : Nat, (i : Int) < lx53.toInt → lx40 i = 0) → (S_TR_half_L71 K_S_TR_half_L7 t0_0 t0_1 t0_2 t0_3 t0_4 t0_5 t0_6 t0_7 t0_8 t0_9 t0_10 t0_11 t0_12 t0_13 t1_0 lx24 lx25 lx26 lx39 lx40 n lx53) ∧ Q_TR_half t0_1 t0_4 t0_9 t0_11 t0_13 t1_0 (F_TR_half_L71 K_F_TR_half_L7 t0_0 t0_1 t0_2 t0_3 t0_4 t0_5 t0_6 t0_7 t0_8 t0_9 t0_10 t0_11 t0_12 t0_13 t1_0 lx24 lx25 lx26 lx39 lx40 n lx53) := by
  intro n
  induction n with
  | zero => intro lx53 h0 hm hw; exact absurd (show False by omega) id
  | succ n ih =>
    intro lx53 h0 hm hw
    have e0 : (0 : Int32).toInt = 0 := rfl
    have e1 : (1 : Int32).toInt = 1 := rfl
    have eL0 : (0 : Int64).toInt = 0 := rfl
    have e53 := q_clI (i := lx53) rfl (by omega)
    rw [S_TR_half_L71.eq_2, F_TR_half_L71.eq_2]
    by_cases g1 : (54 : Int32) ≤ lx53
    ·
      rw [if_pos g1, if_pos g1]
      have g1i : 54 ≤ lx53.toInt := q_leI g1
      refine ⟨trivial, ?_⟩
      (unfold Q_TR_half; dsimp only; exact ⟨rfl, rfl, rfl, rfl, ⟨by omega, by omega⟩, hZ.1, hw, Or.inl (by omega), hZ.2.1, hZ.2.2⟩)
    ·
      rw [if_neg g1, if_neg g1]
      have g1i : lx53.toInt < 54 := q_nleI g1
      refine v_cons (by first | omega | decide) ?_
      by_cases g2 : (lx40 lx53.toNatClampNeg : Int32) = (0 : Int32)
      ·
        rw [if_pos g2, if_pos g2]
        obtain ⟨a3, e4⟩ := q_nm (lx53 + 1 : Int32)
        rw [e4]
        have a3i : a3.toInt = lx53.toInt + 1 := by rw [← e4]; exact q_addI (x := lx53.toInt) (y := 1) rfl (by decide) (by omega) (by omega)
        exact ih _ ⟨by omega, by omega⟩ (by omega) (fun i hi => by by_cases c : i = lx53.toNatClampNeg; (rw [c]; exact g2); exact hw i (by omega))
      ·
        rw [if_neg g2, if_neg g2]
        refine ⟨trivial, ?_⟩
        (unfold Q_TR_half; dsimp only; exact ⟨rfl, rfl, rfl, rfl, ⟨by omega, by omega⟩, hZ.1, hw, Or.inr (q_neI g2), hZ.2.1, hZ.2.2⟩)
theorem vt_h1 {t0_0 : Int32} {t0_1 : Int32} {t0_2 : Int32} {t0_3 : Int32} {t0_4 : Int32} {t0_5 : Int32} {t0_6 : Int32} {t0_7 : Int64} {t0_8 : Int32} {t0_9 : Int32} {t0_10 : Int64} {t0_11 : Int64} {t0_12 : Int32} {t0_13 : Int32} {t1_0 : (Nat → Int32)} (h8 : 0 ≤ t0_8.toInt ∧ t0_8.toInt ≤ 54) (h9 : 54 ≤ t0_9.toInt ∧ t0_9.toInt ≤ 799) (ho : trO t1_0) (hz : ∀ i : Nat, (i : Int) < t0_8.toInt → t1_0 i = 0) (hd : t0_9.toInt = 799 → (t1_0 t0_9.toNatClampNeg).toInt % 2 = 0) : ∀ (n : Nat) (lx24 : Int32) (lx25 : Int32) (lx26 : (Nat → Int32)), (t0_8.toInt ≤ lx24.toInt ∧ lx24.toInt ≤ t0_9.toInt + 1) → (4100 - lx24.toInt < (n : Int)) → (trH t1_0 lx26 lx24.toNatClampNeg lx25.toInt) → (∀ i : Nat, (i : Int) < t0_8.toInt → lx26 i = 0) → (S_TR_half_L7 t0_0 t0_1 t0_2 t0_3 t0_4 t0_5 t0_6 t0_7 t0_8 t0_9 t0_10 t0_11 t0_12 t0_13 t1_0 n lx24 lx25 lx26) ∧ Q_TR_half t0_1 t0_4 t0_9 t0_11 t0_13 t1_0 (F_TR_half_L7 t0_0 t0_1 t0_2 t0_3 t0_4 t0_5 t0_6 t0_7 t0_8 t0_9 t0_10 t0_11 t0_12 t0_13 t1_0 n lx24 lx25 lx26) := by
  intro n
  induction n with
  | zero => intro lx24 lx25 lx26 h0 hm hH hg; exact absurd (show False by omega) id
  | succ n ih =>
    intro lx24 lx25 lx26 h0 hm hH hg
    have e0 : (0 : Int32).toInt = 0 := rfl
    have e1 : (1 : Int32).toInt = 1 := rfl
    have eL0 : (0 : Int64).toInt = 0 := rfl
    have hc := hH.2.2.1
    rw [S_TR_half_L7.eq_2, F_TR_half_L7.eq_2]
    obtain ⟨t91, et91⟩ := q_nm (t0_9 + 1 : Int32)
    rw [et91]
    have t91i : t91.toInt = t0_9.toInt + 1 := by rw [← et91]; exact q_addI (y := 1) rfl (by decide) (by omega) (by omega)
    by_cases g1 : t0_9 < lx24
    ·
      rw [if_pos g1, if_pos g1]
      have g1i : t0_9.toInt < lx24.toInt := q_ltI g1
      by_cases g2 : lx25 ≤ (0 : Int32)
      ·
        rw [if_pos g2, if_pos g2]
        have g2i : lx25.toInt ≤ 0 := q_leI g2
        unfold S_TR_half_J71 F_TR_half_J71
        exact vt_h2 h8 h9 ho hz hd (trZ.a h9 (by omega) hH (by omega)) _ _ ⟨by omega, by omega⟩ (by omega) (fun i hi => by exact hg i hi)
      ·
        rw [if_neg g2, if_neg g2]
        have g2i : 0 < lx25.toInt := q_nleI g2
        refine v_cons (by first | omega | (have od := trZ.odd h9 (by omega) hH (by omega); by_cases c : t0_9.toInt = 799; (have := hd c; omega); omega)) ?_
        refine v_cons (by first | omega | (have od := trZ.odd h9 (by omega) hH (by omega); by_cases c : t0_9.toInt = 799; (have := hd c; omega); omega)) ?_
        unfold S_TR_half_J71 F_TR_half_J71
        exact vt_h2 h8 h9 ho hz hd (trZ.b h9 (by omega) (by omega) hH (by omega)) _ _ ⟨by omega, by omega⟩ (by omega) (fun i hi => by rw [v_ne (by have := q_clI (i := t91) rfl (by omega); omega)]; exact hg i hi)
    ·
      rw [if_neg g1, if_neg g1]
      have g1i : lx24.toInt ≤ t0_9.toInt := q_nltI g1
      refine v_cons (by first | omega | decide) ?_
      refine v_cons (by first | omega | decide) ?_
      obtain ⟨a3, e4⟩ := q_nm (lx24 + 1 : Int32)
      rw [e4]
      have a3i : a3.toInt = lx24.toInt + 1 := by rw [← e4]; exact q_addI (x := lx24.toInt) (y := 1) rfl (by decide) (by omega) (by omega)
      have e24 := q_clI (i := lx24) rfl (by omega); exact ih _ _ _ ⟨by omega, by omega⟩ (by omega) (hH.go ⟨by omega, by omega⟩ (by omega)) (fun i hi => by rw [v_ne (by omega)]; exact hg i hi)
theorem T_TR_half {t0_0 : Int32} {t0_1 : Int32} {t0_2 : Int32} {t0_3 : Int32} {t0_4 : Int32} {t0_5 : Int32} {t0_6 : Int32} {t0_7 : Int64} {t0_8 : Int32} {t0_9 : Int32} {t0_10 : Int64} {t0_11 : Int64} {t0_12 : Int32} {t0_13 : Int32} {t1_0 : (Nat → Int32)} (h8 : 0 ≤ t0_8.toInt ∧ t0_8.toInt ≤ 54) (h9 : 54 ≤ t0_9.toInt ∧ t0_9.toInt ≤ 799) (ho : trO t1_0) (hz : ∀ i : Nat, (i : Int) < t0_8.toInt → t1_0 i = 0) (hd : t0_9.toInt = 799 → (t1_0 t0_9.toNatClampNeg).toInt % 2 = 0) : (S_TR_half t0_0 t0_1 t0_2 t0_3 t0_4 t0_5 t0_6 t0_7 t0_8 t0_9 t0_10 t0_11 t0_12 t0_13 t1_0) ∧ Q_TR_half t0_1 t0_4 t0_9 t0_11 t0_13 t1_0 (F_TR_half t0_0 t0_1 t0_2 t0_3 t0_4 t0_5 t0_6 t0_7 t0_8 t0_9 t0_10 t0_11 t0_12 t0_13 t1_0) := by
  have e0 : (0 : Int32).toInt = 0 := rfl
  have e1 : (1 : Int32).toInt = 1 := rfl
  have eL0 : (0 : Int64).toInt = 0 := rfl
  unfold S_TR_half F_TR_half
  have e8 := q_clI (i := t0_8) rfl h8.1; exact vt_h1 h8 h9 ho hz hd _ _ _ _ ⟨by omega, by omega⟩ (by omega) ⟨ho, fun i hi => rfl, by decide, fun _ => by rw [trV_0 (fun i hi => hz i (by omega))]; rfl, fun h => by omega, fun j hj => Or.inl rfl, fun j hj => ⟨0, by decide, by rw [hz j (by omega)]; rfl⟩⟩ hz

/-! TextRows: twice, writeOut -/
def Q_TR_twice (t0_1 t0_4 t0_8 : Int32) (t0_11 : Int64) (t0_13 : Int32) (p : Int32 × Int32 × Int32 × Int32 × Int32 × Int32 × Int32 × Int64 × Int32 × Int32 × Int64 × Int64 × Int32 × Int32 × (Nat → Int32)) : Prop := p.2.1 = t0_1 ∧ p.2.2.2.2.1 = t0_4 ∧ p.2.2.2.2.2.2.2.2.2.2.2.1 = t0_11 ∧ p.2.2.2.2.2.2.2.2.2.2.2.2.2.1 = t0_13 ∧ (t0_8.toInt - 1 ≤ p.2.2.2.2.2.2.2.2.1.toInt ∧ p.2.2.2.2.2.2.2.2.1.toInt ≤ 54) ∧ (54 ≤ p.2.2.2.2.2.2.2.2.2.1.toInt ∧ p.2.2.2.2.2.2.2.2.2.1.toInt ≤ 799)
theorem vt_tw2 {K_F_TR_twice_L7 : Int32 → Int32 → (Nat → Int32) → (Int32 × Int32 × Int32 × Int32 × Int32 × Int32 × Int32 × Int64 × Int32 × Int32 × Int64 × Int64 × Int32 × Int32 × (Nat → Int32))} {t0_0 : Int32} {t0_1 : Int32} {t0_2 : Int32} {t0_3 : Int32} {t0_4 : Int32} {t0_5 : Int32} {t0_6 : Int32} {t0_7 : Int64} {t0_8 : Int32} {t0_9 : Int32} {t0_10 : Int64} {t0_11 : Int64} {t0_12 : Int32} {t0_13 : Int32} {t1_0 : (Nat → Int32)} {lx27 : Int32} {lx28 : Int32} {lx29 : (Nat → Int32)} {lx44 : Int32} {lx45 : (Nat → Int32)} {K_S_TR_twice_L7 : Int32 → Int32 → (Nat → Int32) → Prop} (h8 : 1 ≤ t0_8.toInt ∧ t0_8.toInt ≤ 54) (h9 : 54 ≤ t0_9.toInt ∧ t0_9.toInt ≤ 799)(h44 : t0_8.toInt - 1 ≤ lx44.toInt ∧ lx44.toInt ≤ 54) : ∀ (n : Nat) (lx58 : Int32), (54 ≤ lx58.toInt ∧ lx58.toInt ≤ 799) → (lx58.toInt + 1 < (n : Int)) → (S_TR_twice_L71 K_S_TR_twice_L7 t0_0 t0_1 t0_2 t0_3 t0_4 t0_5 t0_6 t0_7 t0_8 t0_9 t0_10 t0_11 t0_12 t0_13 t1_0 lx27 lx28 lx29 lx44 lx45 n lx58) ∧ Q_TR_twice t0_1 t0_4 t0_8 t0_11 t0_13 (F_TR_twice_L71 K_F_TR_twice_L7 t0_0 t0_1 t0_2 t0_3 t0_4 t0_5 t0_6 t0_7 t0_8 t0_9 t0_10 t0_11 t0_12 t0_13 t1_0 lx27 lx28 lx29 lx44 lx45 n lx58) := by
  intro n
  induction n with
  | zero => intro lx58 h0 hm; exact absurd (show False by omega) id
  | succ n ih =>
    intro lx58 h0 hm
    have e0 : (0 : Int32).toInt = 0 := rfl
    have e1 : (1 : Int32).toInt = 1 := rfl
    have eL0 : (0 : Int64).toInt = 0 := rfl
    rw [S_TR_twice_L71.eq_2, F_TR_twice_L71.eq_2]
    by_cases g1 : lx58 ≤ (54 : Int32)
    ·
      rw [if_pos g1, if_pos g1]
      have g1i : lx58.toInt ≤ 54 := q_leI g1
      refine ⟨trivial, ?_⟩
      (unfold Q_TR_twice; dsimp only; exact ⟨rfl, rfl, rfl, rfl, h44, ⟨by omega, by omega⟩⟩)
    ·
      rw [if_neg g1, if_neg g1]
      have g1i : 54 < lx58.toInt := q_nleI g1
      refine v_cons (by first | omega | decide) ?_
      by_cases g2 : (lx45 lx58.toNatClampNeg : Int32) = (0 : Int32)
      ·
        rw [if_pos g2, if_pos g2]
        obtain ⟨a3, e4⟩ := q_nm (lx58 - 1 : Int32)
        rw [e4]
        have a3i : a3.toInt = lx58.toInt - 1 := by rw [← e4]; exact q_subI (x := lx58.toInt) (y := 1) rfl (by decide) (by omega) (by omega)
        exact ih _ (by first | with_reducible assumption | omega | decide) (by first | with_reducible assumption | omega | decide)
      ·
        rw [if_neg g2, if_neg g2]
        refine ⟨trivial, ?_⟩
        (unfold Q_TR_twice; dsimp only; exact ⟨rfl, rfl, rfl, rfl, h44, ⟨by omega, by omega⟩⟩)
theorem vt_tw1 {t0_0 : Int32} {t0_1 : Int32} {t0_2 : Int32} {t0_3 : Int32} {t0_4 : Int32} {t0_5 : Int32} {t0_6 : Int32} {t0_7 : Int64} {t0_8 : Int32} {t0_9 : Int32} {t0_10 : Int64} {t0_11 : Int64} {t0_12 : Int32} {t0_13 : Int32} {t1_0 : (Nat → Int32)} (h8 : 1 ≤ t0_8.toInt ∧ t0_8.toInt ≤ 54) (h9 : 54 ≤ t0_9.toInt ∧ t0_9.toInt ≤ 799) : ∀ (n : Nat) (lx27 : Int32) (lx28 : Int32) (lx29 : (Nat → Int32)), (t0_8.toInt - 1 ≤ lx27.toInt ∧ lx27.toInt ≤ t0_9.toInt) → (lx27.toInt + 1 < (n : Int)) → (S_TR_twice_L7 t0_0 t0_1 t0_2 t0_3 t0_4 t0_5 t0_6 t0_7 t0_8 t0_9 t0_10 t0_11 t0_12 t0_13 t1_0 n lx27 lx28 lx29) ∧ Q_TR_twice t0_1 t0_4 t0_8 t0_11 t0_13 (F_TR_twice_L7 t0_0 t0_1 t0_2 t0_3 t0_4 t0_5 t0_6 t0_7 t0_8 t0_9 t0_10 t0_11 t0_12 t0_13 t1_0 n lx27 lx28 lx29) := by
  intro n
  induction n with
  | zero => intro lx27 lx28 lx29 h0 hm; exact absurd (show False by omega) id
  | succ n ih =>
    intro lx27 lx28 lx29 h0 hm
    have e0 : (0 : Int32).toInt = 0 := rfl
    have e1 : (1 : Int32).toInt = 1 := rfl
    have eL0 : (0 : Int64).toInt = 0 := rfl
    rw [S_TR_twice_L7.eq_2, F_TR_twice_L7.eq_2]
    obtain ⟨t81, et81⟩ := q_nm (t0_8 - 1 : Int32)
    rw [et81]
    have t81i : t81.toInt = t0_8.toInt - 1 := by rw [← et81]; exact q_subI (y := 1) rfl (by decide) (by omega) (by omega)
    by_cases g1 : lx27 < t0_8
    ·
      rw [if_pos g1, if_pos g1]
      have g1i : lx27.toInt < t0_8.toInt := q_ltI g1
      by_cases g2 : lx28 ≤ (0 : Int32)
      ·
        rw [if_pos g2, if_pos g2]
        unfold S_TR_twice_J71 F_TR_twice_J71
        exact vt_tw2 h8 h9 ⟨by omega, by omega⟩ _ _ ⟨by omega, by omega⟩ (by omega)
      ·
        rw [if_neg g2, if_neg g2]
        refine v_cons (by first | omega | decide) ?_
        refine v_cons (by first | omega | decide) ?_
        unfold S_TR_twice_J71 F_TR_twice_J71
        exact vt_tw2 h8 h9 ⟨by omega, by omega⟩ _ _ ⟨by omega, by omega⟩ (by omega)
    ·
      rw [if_neg g1, if_neg g1]
      have g1i : t0_8.toInt ≤ lx27.toInt := q_nltI g1
      refine v_cons (by first | omega | decide) ?_
      refine v_cons (by first | omega | decide) ?_
      obtain ⟨a3, e4⟩ := q_nm (lx27 + (-1) : Int32)
      rw [e4]
      have a3i : a3.toInt = lx27.toInt + (-1) := by rw [← e4]; exact q_addI (x := lx27.toInt) (y := (-1)) rfl (by decide) (by omega) (by omega)
      exact ih _ _ _ ⟨by omega, by omega⟩ (by omega)
theorem T_TR_twice {t0_0 : Int32} {t0_1 : Int32} {t0_2 : Int32} {t0_3 : Int32} {t0_4 : Int32} {t0_5 : Int32} {t0_6 : Int32} {t0_7 : Int64} {t0_8 : Int32} {t0_9 : Int32} {t0_10 : Int64} {t0_11 : Int64} {t0_12 : Int32} {t0_13 : Int32} {t1_0 : (Nat → Int32)} (h8 : 1 ≤ t0_8.toInt ∧ t0_8.toInt ≤ 54) (h9 : 54 ≤ t0_9.toInt ∧ t0_9.toInt ≤ 799) : (S_TR_twice t0_0 t0_1 t0_2 t0_3 t0_4 t0_5 t0_6 t0_7 t0_8 t0_9 t0_10 t0_11 t0_12 t0_13 t1_0) ∧ Q_TR_twice t0_1 t0_4 t0_8 t0_11 t0_13 (F_TR_twice t0_0 t0_1 t0_2 t0_3 t0_4 t0_5 t0_6 t0_7 t0_8 t0_9 t0_10 t0_11 t0_12 t0_13 t1_0) := by
  have e0 : (0 : Int32).toInt = 0 := rfl
  have e1 : (1 : Int32).toInt = 1 := rfl
  have eL0 : (0 : Int64).toInt = 0 := rfl
  unfold S_TR_twice F_TR_twice
  exact vt_tw1 h8 h9 _ _ _ _ ⟨by omega, by omega⟩ (by omega)
/-- words into which figures are written, the next one at place a -/
def trP (w : Nat → Int32) (a : Int) : Prop := trO w ∧ (∀ i : Nat, i < 800 → a < 8 * (i : Int) → (w i).toInt = 0) ∧ (∀ i, i < 5 → (w i).toInt = 0) ∧ ∀ q e : Nat, 8 * (q : Int) + 8 = a + e → 1 ≤ e → e ≤ 8 → (w q).toInt ≤ 100000000 - 10 ^ e
theorem tr_p1 {e : Nat} (h1 : 1 ≤ e) : (10 : Int) ^ e = 10 ^ (e - 1) * 10 := by rw [← fl_pw, show e - 1 + 1 = e by omega]
theorem trP.step {w : Nat → Int32} {a W : Int} {q e : Nat} {x : Int32} (h : trP w a) (ha : 40 ≤ a) (ha2 : a ≤ 5000) (hq : 8 * (q : Int) + 8 = a + e) (h1 : 1 ≤ e) (h8 : e ≤ 8) (hW : W = 10 ^ (e - 1)) {g : Int} (hg : 0 ≤ g ∧ g ≤ 9) (hx : x.toInt = (w q).toInt + g * W) (hq8 : q < 800) : trP (upd w q x) (a + 1) := by
  obtain ⟨o, z, f, b⟩ := h
  have hb := b q e hq h1 h8
  rw [tr_p1 h1] at hb
  have p := fl_pos (B := 10) (by decide) (e - 1)
  have wq := o q hq8
  have m1 : 0 ≤ g * W := Int.mul_nonneg hg.1 (by omega)
  have m2 : g * W ≤ 9 * W := Int.mul_le_mul_of_nonneg_right hg.2 (by omega)
  rw [← hW] at hb p
  have hx2 : 0 ≤ x.toInt ∧ x.toInt ≤ 100000000 - W := by
    generalize g * W = G at *
    omega
  refine ⟨o.upd (by omega), fun i hi8 hi => ?_, fun i hi => ?_, fun q1 e1 hq1 h11 h18 => ?_⟩
  · rw [v_ne (by omega)]; exact z i hi8 (by omega)
  · rw [v_ne (by omega)]; exact f i hi
  · by_cases c : q1 = q
    · subst c
      rw [v_eq, show e1 = e - 1 by omega, ← hW]
      exact hx2.2
    · rw [v_ne c, z q1 (by omega) (by omega), show e1 = 8 by omega]
      decide
theorem trP.zero {w : Nat → Int32} {a : Int} (h : ∀ i : Nat, i < 800 → (w i).toInt = 0) (ha : 40 ≤ a ∧ a ≤ 5000) : trP w a := ⟨fun i hi => by rw [h i hi]; decide, fun i hi _ => h i hi, fun i hi => h i (by omega), fun q e h1 h2 h3 => by
  rw [h q (by omega)]
  have a := fl_mono (B := 10) (by decide) h3
  have e : (10 : Int) ^ 8 = 100000000 := by decide
  omega⟩
theorem trV_lt {w : Nat → Int32} (ho : trO w) (hz : ∀ i, i < 5 → (w i).toInt = 0) : ∀ n : Nat, n ≤ 700 → trV w (5 + n) < 100000000 ^ n
  | 0, _ => by
    have e : trV w 5 = 0 := by
      show ((((0 * 100000000 + (w 0).toInt) * 100000000 + (w 1).toInt) * 100000000 + (w 2).toInt) * 100000000 + (w 3).toInt) * 100000000 + (w 4).toInt = 0
      rw [hz 0 (by decide), hz 1 (by decide), hz 2 (by decide), hz 3 (by decide), hz 4 (by decide)]
      decide
    show trV w 5 < _
    rw [e]; decide
  | n + 1, hn => by
    have a := trV_lt ho hz n (by omega)
    have b := (ho (5 + n) (by omega)).2
    show trV w (5 + n) * 100000000 + (w (5 + n)).toInt < 100000000 ^ (n + 1)
    rw [fl_pw]
    generalize (100000000 : Int) ^ n = P at *
    omega
theorem tr_aw {x2 x3 k : Int32} (h2 : 0 ≤ x2.toInt ∧ x2.toInt ≤ 4099) (h3 : -400 ≤ x3.toInt ∧ x3.toInt ≤ 400) (hk : x2.toInt ≤ k.toInt ∧ k.toInt ≤ 4100) : ((((439 - x3 : Int32) + 1 : Int32) + k : Int32) - x2 : Int32).toInt = 440 - x3.toInt + k.toInt - x2.toInt := by
  have e1 : (439 - x3 : Int32).toInt = 439 - x3.toInt := q_subI (x := 439) (by decide) rfl (by omega) (by omega)
  have e2 : ((439 - x3 : Int32) + 1 : Int32).toInt = 439 - x3.toInt + 1 := q_addI (y := 1) e1 (by decide) (by omega) (by omega)
  have e3 : (((439 - x3 : Int32) + 1 : Int32) + k : Int32).toInt = 439 - x3.toInt + 1 + k.toInt := q_addI e2 rfl (by omega) (by omega)
  have e4 : ((((439 - x3 : Int32) + 1 : Int32) + k : Int32) - x2 : Int32).toInt = 439 - x3.toInt + 1 + k.toInt - x2.toInt := q_subI e3 rfl (by omega) (by omega)
  rw [e4]; omega
theorem tr_8 {a : Int32} (h : 0 ≤ a.toInt) : (a / 8).toInt = a.toInt / 8 ∧ (a - a / 8 * 8 : Int32).toInt = a.toInt % 8 := by
  have e := s_rem (x := a) (b := 8) h (by decide)
  have e8 : (8 : Int32).toInt = 8 := rfl
  rw [e8] at e
  exact ⟨q_divI rfl (by decide) h (by decide), e⟩
theorem tr_fw {v f w : Int32} {e : Nat} (hv : 0 ≤ v.toInt ∧ v.toInt < 100000000) (hf : 0 ≤ f.toInt ∧ f.toInt ≤ 9) (he : e ≤ 7) (hw : w.toInt = 10 ^ e) : (v + f * w : Int32).toInt = v.toInt + f.toInt * w.toInt := by
  have a := fl_mono (B := 10) (by decide) he
  have b := fl_pos (B := 10) (by decide) e
  have c : (10 : Int) ^ 7 = 10000000 := by decide
  rw [c, ← hw] at a
  rw [← hw] at b
  have m1 : 0 ≤ f.toInt * w.toInt := Int.mul_nonneg hf.1 (by omega)
  have m2 : f.toInt * w.toInt ≤ 9 * w.toInt := Int.mul_le_mul_of_nonneg_right hf.2 (by omega)
  have e1 : (f * w : Int32).toInt = f.toInt * w.toInt := q_mulI rfl rfl (by omega) (by omega)
  exact q_addI rfl e1 (by omega) (by omega)
theorem tr_w10 {w : Int32} {j : Nat} (hj : j ≤ 7) (hw : w.toInt = 10 ^ j) : (w * 10 : Int32).toInt = 10 ^ (j + 1) := by
  have a := fl_mono (B := 10) (by decide) hj
  have b := fl_pos (B := 10) (by decide) j
  have c : (10 : Int) ^ 7 = 10000000 := by decide
  rw [c, ← hw] at a
  rw [← hw] at b
  have e : (w * 10 : Int32).toInt = w.toInt * 10 := q_mulI (y := 10) rfl (by decide) (by omega) (by omega)
  rw [e, fl_pw, hw]
def Q_TR_writeOut (t0_1 t0_4 t0_13 : Int32) (p : Int32 × Int32 × Int32 × Int32 × Int32 × Int32 × Int32 × Int64 × Int32 × Int32 × Int64 × Int64 × Int32 × Int32 × (Nat → Int32)) : Prop := p.2.1 = t0_1 ∧ p.2.2.2.2.1 = t0_4 ∧ p.2.2.2.2.2.2.2.2.2.2.2.2.2.1 = t0_13 ∧ (0 ≤ p.2.2.2.2.2.2.2.2.1.toInt ∧ p.2.2.2.2.2.2.2.2.1.toInt ≤ 54) ∧ (54 ≤ p.2.2.2.2.2.2.2.2.2.1.toInt ∧ p.2.2.2.2.2.2.2.2.2.1.toInt ≤ 617) ∧ trO p.2.2.2.2.2.2.2.2.2.2.2.2.2.2 ∧ (∀ i : Nat, (i : Int) < p.2.2.2.2.2.2.2.2.1.toInt → p.2.2.2.2.2.2.2.2.2.2.2.2.2.2 i = 0) ∧ (p.2.2.2.2.2.2.2.2.1.toInt = 54 ∨ (p.2.2.2.2.2.2.2.2.2.2.2.2.2.2 p.2.2.2.2.2.2.2.2.1.toNatClampNeg).toInt ≠ 0) ∧ trV p.2.2.2.2.2.2.2.2.2.2.2.2.2.2 55 < 100000000 ^ 50
theorem vt_wo5 {K_F_TR_writeOut_L2 : Int32 → (Nat → Int32) → (Int32 × Int32 × Int32 × Int32 × Int32 × Int32 × Int32 × Int64 × Int32 × Int32 × Int64 × Int64 × Int32 × Int32 × (Nat → Int32))} {K_F_TR_writeOut_L29 : Int32 → (Nat → Int32) → (Int32 × Int32 × Int32 × Int32 × Int32 × Int32 × Int32 × Int64 × Int32 × Int32 × Int64 × Int64 × Int32 × Int32 × (Nat → Int32))} {K_F_TR_writeOut_L130 : Int32 → (Int32 × Int32 × Int32 × Int32 × Int32 × Int32 × Int32 × Int64 × Int32 × Int32 × Int64 × Int64 × Int32 × Int32 × (Nat → Int32))} {x2 : Int32} {x3 : Int32} {t0_0 : Int32} {t0_1 : Int32} {t0_2 : Int32} {t0_3 : Int32} {t0_4 : Int32} {t0_5 : Int32} {t0_6 : Int32} {t0_7 : Int64} {t0_8 : Int32} {t0_9 : Int32} {t0_10 : Int64} {t0_11 : Int64} {t0_12 : Int32} {t0_13 : Int32} {t1_0 : (Nat → Int32)} {t2_0 : (Nat → Int32)} {lx26 : Int32} {lx27 : (Nat → Int32)} {lx43 : Int32} {lx44 : (Nat → Int32)} {lx62 : Int32} {K_S_TR_writeOut_L2 : Int32 → (Nat → Int32) → Prop} {K_S_TR_writeOut_L29 : Int32 → (Nat → Int32) → Prop} {K_S_TR_writeOut_L130 : Int32 → Prop} (hx2 : 0 ≤ x2.toInt ∧ x2.toInt ≤ 4099) (hx3 : -400 ≤ x3.toInt ∧ x3.toInt ≤ 400) (h5 : x2.toInt ≤ t0_5.toInt ∧ t0_5.toInt ≤ 4100) (hF : ∀ i : Nat, (i : Int) < t0_5.toInt → 0 ≤ (t1_0 i).toInt ∧ (t1_0 i).toInt ≤ 9)(ho : trO lx44) (hz5 : ∀ i, i < 5 → (lx44 i).toInt = 0) (hz6 : ∀ i : Nat, i < 800 → 618 ≤ i → (lx44 i).toInt = 0)(h62 : 0 ≤ lx62.toInt ∧ lx62.toInt ≤ 54) (hb : ∀ i : Nat, (i : Int) < lx62.toInt → lx44 i = 0) (hn : lx62.toInt = 54 ∨ (lx44 lx62.toNatClampNeg).toInt ≠ 0) : ∀ (n : Nat) (lx84 : Int32), (54 ≤ lx84.toInt ∧ lx84.toInt ≤ 799) → (lx84.toInt + 1 < (n : Int)) → (S_TR_writeOut_L164 K_S_TR_writeOut_L2 K_S_TR_writeOut_L29 K_S_TR_writeOut_L130 x2 x3 t0_0 t0_1 t0_2 t0_3 t0_4 t0_5 t0_6 t0_7 t0_8 t0_9 t0_10 t0_11 t0_12 t0_13 t1_0 t2_0 lx26 lx27 lx43 lx44 lx62 n lx84) ∧ Q_TR_writeOut t0_1 t0_4 t0_13 (F_TR_writeOut_L164 K_F_TR_writeOut_L2 K_F_TR_writeOut_L29 K_F_TR_writeOut_L130 x2 x3 t0_0 t0_1 t0_2 t0_3 t0_4 t0_5 t0_6 t0_7 t0_8 t0_9 t0_10 t0_11 t0_12 t0_13 t1_0 t2_0 lx26 lx27 lx43 lx44 lx62 n lx84) := by
  intro n
  induction n with
  | zero => intro lx84 h0 hm; exact absurd (show False by omega) id
  | succ n ih =>
    intro lx84 h0 hm
    have e0 : (0 : Int32).toInt = 0 := rfl
    have e1 : (1 : Int32).toInt = 1 := rfl
    have eL0 : (0 : Int64).toInt = 0 := rfl
    have e84 := q_clI (i := lx84) rfl (by omega)
    rw [S_TR_writeOut_L164.eq_2, F_TR_writeOut_L164.eq_2]
    by_cases g1 : lx84 ≤ (54 : Int32)
    ·
      rw [if_pos g1, if_pos g1]
      have g1i : lx84.toInt ≤ 54 := q_leI g1
      refine ⟨trivial, ?_⟩
      (unfold Q_TR_writeOut; dsimp only; exact ⟨rfl, rfl, rfl, h62, ⟨by omega, by omega⟩, ho, hb, hn, trV_lt ho hz5 50 (by decide)⟩)
    ·
      rw [if_neg g1, if_neg g1]
      have g1i : 54 < lx84.toInt := q_nleI g1
      by_cases g2 : (lx44 lx84.toNatClampNeg : Int32) = (0 : Int32)
      ·
        rw [if_pos g2, if_pos g2]
        obtain ⟨a3, e4⟩ := q_nm (lx84 - 1 : Int32)
        rw [e4]
        have a3i : a3.toInt = lx84.toInt - 1 := by rw [← e4]; exact q_subI (x := lx84.toInt) (y := 1) rfl (by decide) (by omega) (by omega)
        exact ih _ (by first | with_reducible assumption | omega | decide) (by first | with_reducible assumption | omega | decide)
      ·
        rw [if_neg g2, if_neg g2]
        refine ⟨trivial, ?_⟩
        (unfold Q_TR_writeOut; dsimp only; exact ⟨rfl, rfl, rfl, h62, ⟨by omega, Int.not_lt.mp (fun h => absurd (hz6 lx84.toNatClampNeg (by omega) (by omega)) (q_neI g2))⟩, ho, hb, hn, trV_lt ho hz5 50 (by decide)⟩)
theorem vt_wo4 {K_F_TR_writeOut_L2 : Int32 → (Nat → Int32) → (Int32 × Int32 × Int32 × Int32 × Int32 × Int32 × Int32 × Int64 × Int32 × Int32 × Int64 × Int64 × Int32 × Int32 × (Nat → Int32))} {K_F_TR_writeOut_L29 : Int32 → (Nat → Int32) → (Int32 × Int32 × Int32 × Int32 × Int32 × Int32 × Int32 × Int64 × Int32 × Int32 × Int64 × Int64 × Int32 × Int32 × (Nat → Int32))} {x2 : Int32} {x3 : Int32} {t0_0 : Int32} {t0_1 : Int32} {t0_2 : Int32} {t0_3 : Int32} {t0_4 : Int32} {t0_5 : Int32} {t0_6 : Int32} {t0_7 : Int64} {t0_8 : Int32} {t0_9 : Int32} {t0_10 : Int64} {t0_11 : Int64} {t0_12 : Int32} {t0_13 : Int32} {t1_0 : (Nat → Int32)} {t2_0 : (Nat → Int32)} {lx26 : Int32} {lx27 : (Nat → Int32)} {lx43 : Int32} {lx44 : (Nat → Int32)} {K_S_TR_writeOut_L2 : Int32 → (Nat → Int32) → Prop} {K_S_TR_writeOut_L29 : Int32 → (Nat → Int32) → Prop} (hx2 : 0 ≤ x2.toInt ∧ x2.toInt ≤ 4099) (hx3 : -400 ≤ x3.toInt ∧ x3.toInt ≤ 400) (h5 : x2.toInt ≤ t0_5.toInt ∧ t0_5.toInt ≤ 4100) (hF : ∀ i : Nat, (i : Int) < t0_5.toInt → 0 ≤ (t1_0 i).toInt ∧ (t1_0 i).toInt ≤ 9)(ho : trO lx44) (hz5 : ∀ i, i < 5 → (lx44 i).toInt = 0) (hz6 : ∀ i : Nat, i < 800 → 618 ≤ i → (lx44 i).toInt = 0) : ∀ (n : Nat) (lx62 : Int32), (0 ≤ lx62.toInt ∧ lx62.toInt ≤ 54) → (54 - lx62.toInt < (n : Int)) → (∀ i : Nat, (i : Int) < lx62.toInt → lx44 i = 0) → (S_TR_writeOut_L130 K_S_TR_writeOut_L2 K_S_TR_writeOut_L29 x2 x3 t0_0 t0_1 t0_2 t0_3 t0_4 t0_5 t0_6 t0_7 t0_8 t0_9 t0_10 t0_11 t0_12 t0_13 t1_0 t2_0 lx26 lx27 lx43 lx44 n lx62) ∧ Q_TR_writeOut t0_1 t0_4 t0_13 (F_TR_writeOut_L130 K_F_TR_writeOut_L2 K_F_TR_writeOut_L29 x2 x3 t0_0 t0_1 t0_2 t0_3 t0_4 t0_5 t0_6 t0_7 t0_8 t0_9 t0_10 t0_11 t0_12 t0_13 t1_0 t2_0 lx26 lx27 lx43 lx44 n lx62) := by
  intro n
  induction n with
  | zero => intro lx62 h0 hm hb; exact absurd (show False by omega) id
  | succ n ih =>
    intro lx62 h0 hm hb
    have e0 : (0 : Int32).toInt = 0 := rfl
    have e1 : (1 : Int32).toInt = 1 := rfl
    have eL0 : (0 : Int64).toInt = 0 := rfl
    have e62 := q_clI (i := lx62) rfl h0.1
    rw [S_TR_writeOut_L130.eq_2, F_TR_writeOut_L130.eq_2]
    by_cases g1 : (54 : Int32) ≤ lx62
    ·
      rw [if_pos g1, if_pos g1]
      have g1i : 54 ≤ lx62.toInt := q_leI g1
      unfold S_TR_writeOut_J164 F_TR_writeOut_J164
      exact vt_wo5 hx2 hx3 h5 hF ho hz5 hz6 ⟨by omega, by omega⟩ hb (Or.inl (by omega)) _ _ ⟨by decide, by decide⟩ (by decide)
    ·
      rw [if_neg g1, if_neg g1]
      have g1i : lx62.toInt < 54 := q_nleI g1
      by_cases g2 : (lx44 lx62.toNatClampNeg : Int32) = (0 : Int32)
      ·
        rw [if_pos g2, if_pos g2]
        obtain ⟨a3, e4⟩ := q_nm (lx62 + 1 : Int32)
        rw [e4]
        have a3i : a3.toInt = lx62.toInt + 1 := by rw [← e4]; exact q_addI (x := lx62.toInt) (y := 1) rfl (by decide) (by omega) (by omega)
        exact ih _ ⟨by omega, by omega⟩ (by omega) (fun i hi => by by_cases c : i = lx62.toNatClampNeg; (rw [c]; exact g2); exact hb i (by omega))
      ·
        rw [if_neg g2, if_neg g2]
        unfold S_TR_writeOut_J164 F_TR_writeOut_J164
        exact vt_wo5 hx2 hx3 h5 hF ho hz5 hz6 ⟨by omega, by omega⟩ hb (Or.inr (q_neI g2)) _ _ ⟨by decide, by decide⟩ (by decide)
theorem vt_wo3 {K_F_TR_writeOut_L2 : Int32 → (Nat → Int32) → (Int32 × Int32 × Int32 × Int32 × Int32 × Int32 × Int32 × Int64 × Int32 × Int32 × Int64 × Int64 × Int32 × Int32 × (Nat → Int32))} {K_F_TR_writeOut_L29 : Int32 → (Nat → Int32) → (Int32 × Int32 × Int32 × Int32 × Int32 × Int32 × Int32 × Int64 × Int32 × Int32 × Int64 × Int64 × Int32 × Int32 × (Nat → Int32))} {x2 : Int32} {x3 : Int32} {t0_0 : Int32} {t0_1 : Int32} {t0_2 : Int32} {t0_3 : Int32} {t0_4 : Int32} {t0_5 : Int32} {t0_6 : Int32} {t0_7 : Int64} {t0_8 : Int32} {t0_9 : Int32} {t0_10 : Int64} {t0_11 : Int64} {t0_12 : Int32} {t0_13 : Int32} {t1_0 : (Nat → Int32)} {t2_0 : (Nat → Int32)} {lx26 : Int32} {lx27 : (Nat → Int32)} {lx43 : Int32} {lx44 : (Nat → Int32)} {a132 : Int32} {K_S_TR_writeOut_L2 : Int32 → (Nat → Int32) → Prop} {K_S_TR_writeOut_L29 : Int32 → (Nat → Int32) → Prop} (hx2 : 0 ≤ x2.toInt ∧ x2.toInt ≤ 4099) (hx3 : -400 ≤ x3.toInt ∧ x3.toInt ≤ 400) (h5 : x2.toInt ≤ t0_5.toInt ∧ t0_5.toInt ≤ 4100) (hF : ∀ i : Nat, (i : Int) < t0_5.toInt → 0 ≤ (t1_0 i).toInt ∧ (t1_0 i).toInt ≤ 9){a : Int} {q e : Nat} (hP : trP lx44 a) (ha : 40 ≤ a ∧ a ≤ 4999) (hq : 8 * (q : Int) + 8 = a + e) (he : 1 ≤ e ∧ e ≤ 8) (h132 : a132.toInt = (q : Int)) (h43 : x2.toInt ≤ lx43.toInt ∧ lx43.toInt < t0_5.toInt) (hK : ∀ r : Nat → Int32, trP r (a + 1) → K_S_TR_writeOut_L29 (lx43 + 1) r ∧ Q_TR_writeOut t0_1 t0_4 t0_13 (K_F_TR_writeOut_L29 (lx43 + 1) r)) : ∀ (n : Nat) (lx141 : Int32) (lx142 : Int32), (0 ≤ lx141.toInt ∧ lx141.toInt ≤ 7) → (7 - lx141.toInt < (n : Int)) → (∃ j : Nat, (j : Int) = lx141.toInt - (8 - (e : Int)) ∧ lx142.toInt = 10 ^ j) → (S_TR_writeOut_L67 K_S_TR_writeOut_L2 K_S_TR_writeOut_L29 x2 x3 t0_0 t0_1 t0_2 t0_3 t0_4 t0_5 t0_6 t0_7 t0_8 t0_9 t0_10 t0_11 t0_12 t0_13 t1_0 t2_0 lx26 lx27 lx43 lx44 a132 n lx141 lx142) ∧ Q_TR_writeOut t0_1 t0_4 t0_13 (F_TR_writeOut_L67 K_F_TR_writeOut_L2 K_F_TR_writeOut_L29 x2 x3 t0_0 t0_1 t0_2 t0_3 t0_4 t0_5 t0_6 t0_7 t0_8 t0_9 t0_10 t0_11 t0_12 t0_13 t1_0 t2_0 lx26 lx27 lx43 lx44 a132 n lx141 lx142) := by
  intro n
  induction n with
  | zero => intro lx141 lx142 h0 hm hW; exact absurd (show False by omega) id
  | succ n ih =>
    intro lx141 lx142 h0 hm hW
    have e0 : (0 : Int32).toInt = 0 := rfl
    have e1 : (1 : Int32).toInt = 1 := rfl
    have eL0 : (0 : Int64).toInt = 0 := rfl
    have e132 := q_clI (i := a132) rfl (by omega)
    have e43 := q_clI (i := lx43) rfl (by omega)
    rw [S_TR_writeOut_L67.eq_2, F_TR_writeOut_L67.eq_2]
    by_cases g1 : (7 : Int32) ≤ lx141
    ·
      rw [if_pos g1, if_pos g1]
      have g1i : 7 ≤ lx141.toInt := q_leI g1
      refine v_cons (by first | omega | decide) ?_
      refine v_cons (by first | omega | decide) ?_
      refine v_cons (by first | omega | decide) ?_
      refine v_cons (by first | omega | decide) ?_
      obtain ⟨j, j1, j2⟩ := hW; have eq : a132.toNatClampNeg = q := by omega
      have wv := hP.1 a132.toNatClampNeg (by omega)
      have fv := hF lx43.toNatClampNeg (by omega)
      exact hK _ (by rw [eq] at wv ⊢; exact hP.step ha.1 (by omega) hq he.1 he.2 (by rw [j2, show j = e - 1 by omega]) fv (tr_fw wv fv (e := j) (by omega) j2) (by omega))
    ·
      rw [if_neg g1, if_neg g1]
      have g1i : lx141.toInt < 7 := q_nleI g1
      obtain ⟨a2, e3⟩ := q_nm (lx141 + 1 : Int32)
      rw [e3]
      have a2i : a2.toInt = lx141.toInt + 1 := by rw [← e3]; exact q_addI (x := lx141.toInt) (y := 1) rfl (by decide) (by omega) (by omega)
      obtain ⟨j, j1, j2⟩ := hW; exact ih _ _ ⟨by omega, by omega⟩ (by omega) ⟨j + 1, by omega, tr_w10 (by omega) j2⟩
theorem vt_wo2 {K_F_TR_writeOut_L2 : Int32 → (Nat → Int32) → (Int32 × Int32 × Int32 × Int32 × Int32 × Int32 × Int32 × Int64 × Int32 × Int32 × Int64 × Int64 × Int32 × Int32 × (Nat → Int32))} {x2 : Int32} {x3 : Int32} {t0_0 : Int32} {t0_1 : Int32} {t0_2 : Int32} {t0_3 : Int32} {t0_4 : Int32} {t0_5 : Int32} {t0_6 : Int32} {t0_7 : Int64} {t0_8 : Int32} {t0_9 : Int32} {t0_10 : Int64} {t0_11 : Int64} {t0_12 : Int32} {t0_13 : Int32} {t1_0 : (Nat → Int32)} {t2_0 : (Nat → Int32)} {lx26 : Int32} {lx27 : (Nat → Int32)} {K_S_TR_writeOut_L2 : Int32 → (Nat → Int32) → Prop} (hx2 : 0 ≤ x2.toInt ∧ x2.toInt ≤ 4099) (hx3 : -400 ≤ x3.toInt ∧ x3.toInt ≤ 400) (h5 : x2.toInt ≤ t0_5.toInt ∧ t0_5.toInt ≤ 4100) (hF : ∀ i : Nat, (i : Int) < t0_5.toInt → 0 ≤ (t1_0 i).toInt ∧ (t1_0 i).toInt ≤ 9) : ∀ (n : Nat) (lx43 : Int32) (lx44 : (Nat → Int32)), (x2.toInt ≤ lx43.toInt ∧ lx43.toInt ≤ t0_5.toInt) → (4100 - lx43.toInt < (n : Int)) → (trP lx44 (440 - x3.toInt + lx43.toInt - x2.toInt)) → (S_TR_writeOut_L29 K_S_TR_writeOut_L2 x2 x3 t0_0 t0_1 t0_2 t0_3 t0_4 t0_5 t0_6 t0_7 t0_8 t0_9 t0_10 t0_11 t0_12 t0_13 t1_0 t2_0 lx26 lx27 n lx43 lx44) ∧ Q_TR_writeOut t0_1 t0_4 t0_13 (F_TR_writeOut_L29 K_F_TR_writeOut_L2 x2 x3 t0_0 t0_1 t0_2 t0_3 t0_4 t0_5 t0_6 t0_7 t0_8 t0_9 t0_10 t0_11 t0_12 t0_13 t1_0 t2_0 lx26 lx27 n lx43 lx44) := by
  intro n
  induction n with
  | zero => intro lx43 lx44 h0 hm hP; exact absurd (show False by omega) id
  | succ n ih =>
    intro lx43 lx44 h0 hm hP
    have e0 : (0 : Int32).toInt = 0 := rfl
    have e1 : (1 : Int32).toInt = 1 := rfl
    have eL0 : (0 : Int64).toInt = 0 := rfl
    rw [S_TR_writeOut_L29.eq_2, F_TR_writeOut_L29.eq_2]
    obtain ⟨aw, eaw⟩ := q_nm ((((439 - x3 : Int32) + 1 : Int32) + lx43 : Int32) - x2 : Int32)
    have awi : aw.toInt = 440 - x3.toInt + lx43.toInt - x2.toInt := by rw [← eaw]; exact tr_aw hx2 hx3 ⟨by omega, by omega⟩
    rw [eaw]
    rw [← awi] at hP
    by_cases g1 : t0_5 ≤ lx43
    ·
      rw [if_pos g1, if_pos g1]
      have g1i : t0_5.toInt ≤ lx43.toInt := q_leI g1
      exact vt_wo4 hx2 hx3 h5 hF hP.1 hP.2.2.1 (fun i h1 h2 => hP.2.1 i h1 (by omega)) _ _ ⟨by decide, by decide⟩ (by decide) (fun i hi => by omega)
    ·
      rw [if_neg g1, if_neg g1]
      have g1i : lx43.toInt < t0_5.toInt := q_nleI g1
      have r8 := tr_8 (a := aw) (by omega); have e5 : (lx43 + 1 : Int32).toInt = lx43.toInt + 1 := q_addI (y := 1) rfl (by decide) (by omega) (by omega); exact vt_wo3 hx2 hx3 h5 hF (a := aw.toInt) (q := (aw.toInt / 8).toNat) (e := (8 - aw.toInt % 8).toNat) hP ⟨by omega, by omega⟩ (by omega) ⟨by omega, by omega⟩ (by omega) ⟨by omega, by omega⟩ (fun r h => ih _ r ⟨by omega, by omega⟩ (by omega) (by rw [show 440 - x3.toInt + (lx43 + 1 : Int32).toInt - x2.toInt = aw.toInt + 1 by omega]; exact h)) _ _ _ ⟨by omega, by omega⟩ (by omega) ⟨0, by omega, by decide⟩
theorem vt_wo1 {x2 : Int32} {x3 : Int32} {t0_0 : Int32} {t0_1 : Int32} {t0_2 : Int32} {t0_3 : Int32} {t0_4 : Int32} {t0_5 : Int32} {t0_6 : Int32} {t0_7 : Int64} {t0_8 : Int32} {t0_9 : Int32} {t0_10 : Int64} {t0_11 : Int64} {t0_12 : Int32} {t0_13 : Int32} {t1_0 : (Nat → Int32)} {t2_0 : (Nat → Int32)} (hx2 : 0 ≤ x2.toInt ∧ x2.toInt ≤ 4099) (hx3 : -400 ≤ x3.toInt ∧ x3.toInt ≤ 400) (h5 : x2.toInt ≤ t0_5.toInt ∧ t0_5.toInt ≤ 4100) (hF : ∀ i : Nat, (i : Int) < t0_5.toInt → 0 ≤ (t1_0 i).toInt ∧ (t1_0 i).toInt ≤ 9) : ∀ (n : Nat) (lx26 : Int32) (lx27 : (Nat → Int32)), (0 ≤ lx26.toInt ∧ lx26.toInt ≤ 800) → (800 - lx26.toInt < (n : Int)) → (∀ i : Nat, (i : Int) < lx26.toInt → (lx27 i).toInt = 0) → (S_TR_writeOut_L2 x2 x3 t0_0 t0_1 t0_2 t0_3 t0_4 t0_5 t0_6 t0_7 t0_8 t0_9 t0_10 t0_11 t0_12 t0_13 t1_0 t2_0 n lx26 lx27) ∧ Q_TR_writeOut t0_1 t0_4 t0_13 (F_TR_writeOut_L2 x2 x3 t0_0 t0_1 t0_2 t0_3 t0_4 t0_5 t0_6 t0_7 t0_8 t0_9 t0_10 t0_11 t0_12 t0_13 t1_0 t2_0 n lx26 lx27) := by
  intro n
  induction n with
  | zero => intro lx26 lx27 h0 hm ho; exact absurd (show False by omega) id
  | succ n ih =>
    intro lx26 lx27 h0 hm ho
    have e0 : (0 : Int32).toInt = 0 := rfl
    have e1 : (1 : Int32).toInt = 1 := rfl
    have eL0 : (0 : Int64).toInt = 0 := rfl
    have e26 := q_clI (i := lx26) rfl h0.1
    rw [S_TR_writeOut_L2.eq_2, F_TR_writeOut_L2.eq_2]
    by_cases g1 : (800 : Int32) ≤ lx26
    ·
      rw [if_pos g1, if_pos g1]
      have g1i : 800 ≤ lx26.toInt := q_leI g1
      exact vt_wo2 hx2 hx3 h5 hF _ _ _ ⟨by omega, by omega⟩ (by omega) (trP.zero (fun i hi => ho i (by omega)) ⟨by omega, by omega⟩)
    ·
      rw [if_neg g1, if_neg g1]
      have g1i : lx26.toInt < 800 := q_nleI g1
      obtain ⟨a2, e3⟩ := q_nm (lx26 + 1 : Int32)
      rw [e3]
      have a2i : a2.toInt = lx26.toInt + 1 := by rw [← e3]; exact q_addI (x := lx26.toInt) (y := 1) rfl (by decide) (by omega) (by omega)
      exact ih _ _ ⟨by omega, by omega⟩ (by omega) (fun i hi => by by_cases c : i = lx26.toNatClampNeg; (rw [c, v_eq]; rfl); rw [v_ne c]; exact ho i (by omega))
theorem T_TR_writeOut {x2 : Int32} {x3 : Int32} {t0_0 : Int32} {t0_1 : Int32} {t0_2 : Int32} {t0_3 : Int32} {t0_4 : Int32} {t0_5 : Int32} {t0_6 : Int32} {t0_7 : Int64} {t0_8 : Int32} {t0_9 : Int32} {t0_10 : Int64} {t0_11 : Int64} {t0_12 : Int32} {t0_13 : Int32} {t1_0 : (Nat → Int32)} {t2_0 : (Nat → Int32)} (hx2 : 0 ≤ x2.toInt ∧ x2.toInt ≤ 4099) (hx3 : -400 ≤ x3.toInt ∧ x3.toInt ≤ 400) (h5 : x2.toInt ≤ t0_5.toInt ∧ t0_5.toInt ≤ 4100) (hF : ∀ i : Nat, (i : Int) < t0_5.toInt → 0 ≤ (t1_0 i).toInt ∧ (t1_0 i).toInt ≤ 9) : (S_TR_writeOut x2 x3 t0_0 t0_1 t0_2 t0_3 t0_4 t0_5 t0_6 t0_7 t0_8 t0_9 t0_10 t0_11 t0_12 t0_13 t1_0 t2_0) ∧ Q_TR_writeOut t0_1 t0_4 t0_13 (F_TR_writeOut x2 x3 t0_0 t0_1 t0_2 t0_3 t0_4 t0_5 t0_6 t0_7 t0_8 t0_9 t0_10 t0_11 t0_12 t0_13 t1_0 t2_0) := by
  have e0 : (0 : Int32).toInt = 0 := rfl
  have e1 : (1 : Int32).toInt = 1 := rfl
  have eL0 : (0 : Int64).toInt = 0 := rfl
  unfold S_TR_writeOut F_TR_writeOut
  exact vt_wo1 hx2 hx3 h5 hF _ _ _ ⟨by decide, by decide⟩ (by decide) (fun i hi => by omega)

/-! TextRows: findDecimal -/
theorem tr_wp1 {t0_0 t0_1 t0_2 t0_3 t0_4 t0_5 t0_6 : Int32} {t0_7 : Int64} {t0_8 t0_9 : Int32} {t0_10 t0_11 : Int64} {t0_12 t0_13 : Int32} {t1_0 : Nat → Int32} {x : Int32} (hx : x = 53 ∨ x = 24) (g : ¬ 0 ≤ lg_cmp (F_TR_wholePart t0_0 t0_1 t0_2 t0_3 t0_4 t0_5 t0_6 t0_7 t0_8 t0_9 t0_10 t0_11 t0_12 t0_13 t1_0) ((1 : Int64) <<< ((x - 1 : Int32).toInt64 &&& 63))) : 53 ≤ t0_8.toInt := by
  by_cases c : (53 : Int32) ≤ t0_8
  · have := q_leI c; exact this
  · refine absurd ?_ g
    unfold F_TR_wholePart
    rw [if_neg c]
    unfold F_TR_wholePart_J16
    rw [if_neg (by decide)]
    rcases hx with h | h <;> (rw [h]; decide)
theorem tr_wp2 {t0_0 t0_1 t0_2 t0_3 t0_4 t0_5 t0_6 : Int32} {t0_7 : Int64} {t0_8 t0_9 : Int32} {t0_10 t0_11 : Int64} {t0_12 t0_13 : Int32} {t1_0 : Nat → Int32} {x : Int32} (hx : x = 53 ∨ x = 24) (g : ¬ lg_cmp (F_TR_wholePart t0_0 t0_1 t0_2 t0_3 t0_4 t0_5 t0_6 t0_7 t0_8 t0_9 t0_10 t0_11 t0_12 t0_13 t1_0) ((1 : Int64) <<< (x.toInt64 &&& 63)) < 0) (h8 : 0 ≤ t0_8.toInt ∧ t0_8.toInt ≤ 54) (hn : t0_8.toInt = 54 ∨ (t1_0 t0_8.toNatClampNeg).toInt ≠ 0) (ho : trO t1_0) : 1 ≤ trV t1_0 55 := by
  have e8 := q_clI (i := t0_8) rfl h8.1
  rcases hn with h | h
  · by_cases z : (t1_0 54).toInt = 0
    · refine absurd ?_ g
      have e : t0_8 = 54 := Int32.toInt_inj.mp (by rw [h]; rfl)
      have z2 : t1_0 54 = 0 := Int32.toInt_inj.mp (by rw [z]; rfl)
      unfold F_TR_wholePart
      rw [e, if_pos (by decide)]
      unfold F_TR_wholePart_J16
      rw [if_pos (by decide), if_pos (by decide), show (54 : Int32).toNatClampNeg = 54 by decide, z2]
      rcases hx with y | y <;> (rw [y]; decide)
    · exact trV_ge ho (by decide) (show 54 < 55 by decide) z
  · exact trV_ge ho (by decide) (show t0_8.toNatClampNeg < 55 by omega) h
theorem tr_2k : (100000000 : Int) ^ 50 < 2 ^ 1330 := by
  have b : (100000000 ^ 50 : Nat) < 2 ^ 1330 := by decide +kernel
  have c := Int.ofNat_lt.mpr b
  rw [fl_pn, fl_pn] at c
  exact c
theorem tr_2m {m : Nat} {V : Int} (hV : 1 ≤ V) (h : V * 2 ^ m < 100000000 ^ 50) : m ≤ 1329 := by
  by_cases c : m ≤ 1329
  · exact c
  · have a := fl_mono (B := 2) (by decide) (show 1330 ≤ m by omega)
    have p := fl_pos (B := 2) (by decide) m
    have b := Int.mul_le_mul_of_nonneg_right hV (Int.le_of_lt p)
    rw [Int.one_mul] at b
    exact absurd (Int.lt_of_le_of_lt (Int.le_trans a b) (Int.lt_trans h tr_2k)) (Int.lt_irrefl _)
/-- the words between two halvings; t of them are behind us -/
def trI (t : Int) (fr to : Int32) (w : Nat → Int32) : Prop := (0 ≤ fr.toInt ∧ fr.toInt ≤ 54) ∧ (54 ≤ to.toInt ∧ to.toInt ≤ 799) ∧ trO w ∧ (∀ i : Nat, (i : Int) < fr.toInt → w i = 0) ∧ (fr.toInt = 54 ∨ (w fr.toNatClampNeg).toInt ≠ 0) ∧ (∃ m : Nat, (m : Int) = t ∧ trV w 55 * 2 ^ m < 100000000 ^ 50) ∧ 8 * (to.toInt - 617) ≤ t + 7 ∧ (∀ d : Nat, (d : Int) = 8 * (to.toInt - 617) - t → (w to.toNatClampNeg).toInt % 2 ^ d = 0)
theorem tr_dv {f g d : Int} {k : Nat} (hk : 1 ≤ k) (hk7 : k ≤ 7) (hd : 0 ≤ d ∧ d ≤ 1) (e : 2 * g = f + d * 100000000) (h : f % 2 ^ k = 0) : g % 2 ^ (k - 1) = 0 := by
  have c : k = 1 ∨ k = 2 ∨ k = 3 ∨ k = 4 ∨ k = 5 ∨ k = 6 ∨ k = 7 := by omega
  rcases c with c | c | c | c | c | c | c <;> subst c
  · show g % 1 = 0; omega
  · have h : f % 4 = 0 := h; show g % 2 = 0; omega
  · have h : f % 8 = 0 := h; show g % 4 = 0; omega
  · have h : f % 16 = 0 := h; show g % 8 = 0; omega
  · have h : f % 32 = 0 := h; show g % 16 = 0; omega
  · have h : f % 64 = 0 := h; show g % 32 = 0; omega
  · have h : f % 128 = 0 := h; show g % 64 = 0; omega
theorem tr_d5 {k : Nat} (hk7 : k ≤ 7) : (50000000 : Int) % 2 ^ k = 0 := by
  have c : k = 0 ∨ k = 1 ∨ k = 2 ∨ k = 3 ∨ k = 4 ∨ k = 5 ∨ k = 6 ∨ k = 7 := by omega
  rcases c with c | c | c | c | c | c | c | c <;> subst c <;> decide
theorem tr_dod {f : Int} {k : Nat} (hk : 1 ≤ k) (ho : f % 2 = 1) (h : f % 2 ^ k = 0) : False := by
  have p := fl_pos (B := 2) (by decide) (k - 1)
  have e : (2 : Int) ^ k = 2 ^ (k - 1) * 2 := by rw [← fl_pw, show k - 1 + 1 = k by omega]
  have q := Int.emod_add_mul_ediv f (2 ^ k)
  rw [h, e, Int.mul_comm (2 ^ (k - 1)) 2, Int.mul_assoc] at q
  generalize 2 ^ (k - 1) * (f / (2 * 2 ^ (k - 1))) = R at q
  omega
theorem trI.even {t : Int} {fr to : Int32} {w : Nat → Int32} (h : trI t fr to w) (hV : 1 ≤ trV w 55) : to.toInt = 799 → (w to.toNatClampNeg).toInt % 2 = 0 := fun e => by
  obtain ⟨-, -, -, -, -, ⟨m, m1, m2⟩, a, -⟩ := h
  have := tr_2m hV m2
  omega
theorem trI.le {t : Int} {fr to : Int32} {w : Nat → Int32} (h : trI t fr to w) (hV : 1 ≤ trV w 55) : 0 ≤ t ∧ t ≤ 1329 ∧ to.toInt ≤ 785 := by
  obtain ⟨-, -, -, -, -, ⟨m, m1, m2⟩, a, -⟩ := h
  have := tr_2m hV m2
  omega
theorem trI.step {t : Int} {fr to fr1 to1 : Int32} {w w1 : Nat → Int32} (h : trI t fr to w) (hV : 1 ≤ trV w 55) (h8 : 0 ≤ fr1.toInt ∧ fr1.toInt ≤ 54) (ho : trO w1) (hz : ∀ i : Nat, (i : Int) < fr1.toInt → w1 i = 0) (hn : fr1.toInt = 54 ∨ (w1 fr1.toNatClampNeg).toInt ≠ 0) (hv : 2 * trV w1 55 ≤ trV w 55) (ht : (to1 = to ∧ ∃ d : Int, (0 ≤ d ∧ d ≤ 1) ∧ 2 * (w1 to.toNatClampNeg).toInt = (w to.toNatClampNeg).toInt + d * 100000000) ∨ (to1.toInt = to.toInt + 1 ∧ (w to.toNatClampNeg).toInt % 2 = 1 ∧ (w1 to1.toNatClampNeg).toInt = 50000000)) : trI (t + 1) fr1 to1 w1 := by
  have hl := h.le hV
  obtain ⟨a, b, c, d, e, ⟨m, m1, m2⟩, f, g⟩ := h
  have p := fl_pos (B := 2) (by decide) m
  have v2 : trV w1 55 * 2 ^ (m + 1) < 100000000 ^ 50 := by
    rw [fl_pw, Int.mul_comm (2 ^ m) 2, ← Int.mul_assoc, Int.mul_comm (trV w1 55) 2]
    exact Int.lt_of_le_of_lt (Int.mul_le_mul_of_nonneg_right hv (Int.le_of_lt p)) m2
  rcases ht with ⟨e1, x, x1, x2⟩ | ⟨e1, o, s⟩
  · subst e1
    refine ⟨h8, b, ho, hz, hn, ⟨m + 1, by omega, v2⟩, by omega, fun k hk => ?_⟩
    have y := tr_dv (k := k + 1) (by omega) (by omega) x1 x2 (g (k + 1) (by omega))
    exact y
  · have nd : 8 * (to.toInt - 617) - t ≤ 0 := by
      by_cases q : 8 * (to.toInt - 617) - t ≤ 0
      · exact q
      · exact (tr_dod (k := (8 * (to.toInt - 617) - t).toNat) (by omega) o (g _ (by omega))).elim
    refine ⟨h8, ⟨by omega, by omega⟩, ho, hz, hn, ⟨m + 1, by omega, v2⟩, by omega, fun k hk => ?_⟩
    rw [s]
    exact tr_d5 (by omega)
theorem tr_add1 {x : Int64} (h : -100000 ≤ x.toInt ∧ x.toInt ≤ 100000) : (x + 1 : Int64).toInt = x.toInt + 1 := q_addL (y := 1) rfl (by decide) (by omega) (by omega)
theorem tr_sub1 {x : Int64} (h : -100000 ≤ x.toInt ∧ x.toInt ≤ 100000) : (x - 1 : Int64).toInt = x.toInt - 1 := q_subL (y := 1) rfl (by decide) (by omega) (by omega)
theorem vt_fd2 {K_F_TR_findDecimal_L78 : Int32 → Int32 → Int32 → Int32 → Int32 → Int32 → Int32 → Int64 → Int32 → Int32 → Int64 → Int64 → Int32 → Int32 → (Nat → Int32) → (Int32 × Int32 × Int32 × Int32 × Int32 × Int32 × Int32 × Int64 × Int32 × Int32 × Int64 × Int64 × Int32 × Int32 × (Nat → Int32))} {x2 : Int32} {x3 : Int32} {x4 : Int32} {t0_0 : Int32} {t0_1 : Int32} {t0_2 : Int32} {t0_3 : Int32} {t0_4 : Int32} {t0_5 : Int32} {t0_6 : Int32} {t0_7 : Int64} {t0_8 : Int32} {t0_9 : Int32} {t0_10 : Int64} {t0_11 : Int64} {t0_12 : Int32} {t0_13 : Int32} {t1_0 : (Nat → Int32)} {t2_0 : (Nat → Int32)} {j30 : Int64} {lx35 : Int32} {p118 : (Int32 × Int32 × Int32 × Int32 × Int32 × Int32 × Int32 × Int64 × Int32 × Int32 × Int64 × Int64 × Int32 × Int32 × (Nat → Int32))} {lx142 : Int32} {lx143 : Int32} {lx144 : Int32} {lx145 : Int32} {lx146 : Int32} {lx147 : Int32} {lx148 : Int32} {lx149 : Int64} {lx150 : Int32} {lx151 : Int32} {lx152 : Int64} {lx153 : Int64} {lx154 : Int32} {lx155 : Int32} {lx156 : (Nat → Int32)} {K_S_TR_findDecimal_L78 : Int32 → Int32 → Int32 → Int32 → Int32 → Int32 → Int32 → Int64 → Int32 → Int32 → Int64 → Int64 → Int32 → Int32 → (Nat → Int32) → Prop} (hx3 : x3 = 53 ∨ x3 = 24) (hx4 : -1074 ≤ x4.toInt ∧ x4.toInt ≤ 0) : ∀ (n : Nat) (lx203 : Int32) (lx204 : Int32) (lx205 : Int32) (lx206 : Int32) (lx207 : Int32) (lx208 : Int32) (lx209 : Int32) (lx210 : Int64) (lx211 : Int32) (lx212 : Int32) (lx213 : Int64) (lx214 : Int64) (lx215 : Int32) (lx216 : Int32) (lx217 : (Nat → Int32)), (0 ≤ lx211.toInt ∧ lx211.toInt ≤ 54) → (54 ≤ lx212.toInt ∧ lx212.toInt ≤ 799) → (lx214.toInt ≤ 1400 ∧ -1074 ≤ lx214.toInt) → (lx214.toInt - x4.toInt < (n : Int) ∧ 0 < (n : Int)) → (S_TR_findDecimal_L106 K_S_TR_findDecimal_L78 x2 x3 x4 t0_0 t0_1 t0_2 t0_3 t0_4 t0_5 t0_6 t0_7 t0_8 t0_9 t0_10 t0_11 t0_12 t0_13 t1_0 t2_0 j30 lx35 p118 lx142 lx143 lx144 lx145 lx146 lx147 lx148 lx149 lx150 lx151 lx152 lx153 lx154 lx155 lx156 n lx203 lx204 lx205 lx206 lx207 lx208 lx209 lx210 lx211 lx212 lx213 lx214 lx215 lx216 lx217) := by
  intro n
  induction n with
  | zero => intro lx203 lx204 lx205 lx206 lx207 lx208 lx209 lx210 lx211 lx212 lx213 lx214 lx215 lx216 lx217 h8 h9 hs hm; omega
  | succ n ih =>
    intro lx203 lx204 lx205 lx206 lx207 lx208 lx209 lx210 lx211 lx212 lx213 lx214 lx215 lx216 lx217 h8 h9 hs hm
    have e0 : (0 : Int32).toInt = 0 := rfl
    have e1 : (1 : Int32).toInt = 1 := rfl
    have eL0 : (0 : Int64).toInt = 0 := rfl
    have ex4 := q_i2l (a := x4) rfl
    rw [S_TR_findDecimal_L106.eq_2]
    by_cases g1 : (0 : Int32) ≤ (lg_cmp ((F_TR_wholePart lx203 lx204 lx205 lx206 lx207 lx208 lx209 lx210 lx211 lx212 lx213 lx214 lx215 lx216 lx217) : Int64) ((1 : Int64) <<< ((x3 - 1 : Int32).toInt64 &&& 63) : Int64) : Int32)
    ·
      rw [if_pos g1]
      unfold S_TR_findDecimal_J146
      by_cases g2 : lx212 ≤ (54 : Int32)
      ·
        rw [if_pos g2]
        have g2i : lx212.toInt ≤ 54 := q_leI g2
        unfold S_TR_findDecimal_J174
        by_cases g3 : lx212 ≤ (55 : Int32)
        ·
          rw [if_pos g3]
          have g3i : lx212.toInt ≤ 55 := q_leI g3
          unfold S_TR_findDecimal_J190
          by_cases g4 : lx212 = (54 : Int32)
          ·
            rw [if_pos g4]
            have g4i : lx212.toInt = 54 := q_eqI g4
            exact trivial
          ·
            rw [if_neg g4]
            have g4i : lx212.toInt ≠ 54 := q_neI g4
            have g5 : ¬ ((50000000 : Int32) ≤ (0 : Int32)) := (by decide)
            rw [if_neg g5]
            exact trivial
        ·
          rw [if_neg g3]
          have g3i : 55 < lx212.toInt := q_nleI g3
          unfold S_TR_findDecimal_J190
          by_cases g6 : lx212 = (54 : Int32)
          ·
            rw [if_pos g6]
            have g6i : lx212.toInt = 54 := q_eqI g6
            exact trivial
          ·
            rw [if_neg g6]
            have g6i : lx212.toInt ≠ 54 := q_neI g6
            have g7 : ¬ ((50000000 : Int32) ≤ (0 : Int32)) := (by decide)
            rw [if_neg g7]
            exact trivial
      ·
        rw [if_neg g2]
        have g2i : 54 < lx212.toInt := q_nleI g2
        unfold S_TR_findDecimal_J174
        by_cases g8 : lx212 ≤ (55 : Int32)
        ·
          rw [if_pos g8]
          have g8i : lx212.toInt ≤ 55 := q_leI g8
          unfold S_TR_findDecimal_J190
          by_cases g9 : lx212 = (54 : Int32)
          ·
            rw [if_pos g9]
            have g9i : lx212.toInt = 54 := q_eqI g9
            exact trivial
          ·
            rw [if_neg g9]
            have g9i : lx212.toInt ≠ 54 := q_neI g9
            by_cases g10 : (50000000 : Int32) ≤ (lx217 (55 : Int32).toNatClampNeg : Int32)
            ·
              rw [if_pos g10]
              by_cases g11 : (50000000 : Int32) < (lx217 (55 : Int32).toNatClampNeg : Int32)
              ·
                rw [if_pos g11]
                exact trivial
              ·
                rw [if_neg g11]
                have g12 : ((0 : Int32) = (0 : Int32)) := (by decide)
                rw [if_pos g12]
                exact trivial
            ·
              rw [if_neg g10]
              exact trivial
        ·
          rw [if_neg g8]
          have g8i : 55 < lx212.toInt := q_nleI g8
          unfold S_TR_findDecimal_J190
          by_cases g13 : lx212 = (54 : Int32)
          ·
            rw [if_pos g13]
            have g13i : lx212.toInt = 54 := q_eqI g13
            exact trivial
          ·
            rw [if_neg g13]
            have g13i : lx212.toInt ≠ 54 := q_neI g13
            by_cases g14 : (50000000 : Int32) ≤ (lx217 (55 : Int32).toNatClampNeg : Int32)
            ·
              rw [if_pos g14]
              by_cases g15 : (50000000 : Int32) < (lx217 (55 : Int32).toNatClampNeg : Int32)
              ·
                rw [if_pos g15]
                exact trivial
              ·
                rw [if_neg g15]
                have g16 : ¬ ((1 : Int32) = (0 : Int32)) := (by decide)
                rw [if_neg g16]
                exact trivial
            ·
              rw [if_neg g14]
              exact trivial
    ·
      rw [if_neg g1]
      have f53 := tr_wp1 hx3 g1
      by_cases g17 : (lg_cmp lx214 (x4.toInt64 : Int64) : Int32) ≤ (0 : Int32)
      ·
        rw [if_pos g17]
        have g17l := g_lc3 g17
        unfold S_TR_findDecimal_J146
        by_cases g18 : lx212 ≤ (54 : Int32)
        ·
          rw [if_pos g18]
          have g18i : lx212.toInt ≤ 54 := q_leI g18
          unfold S_TR_findDecimal_J174
          by_cases g19 : lx212 ≤ (55 : Int32)
          ·
            rw [if_pos g19]
            have g19i : lx212.toInt ≤ 55 := q_leI g19
            unfold S_TR_findDecimal_J190
            by_cases g20 : lx212 = (54 : Int32)
            ·
              rw [if_pos g20]
              have g20i : lx212.toInt = 54 := q_eqI g20
              exact trivial
            ·
              rw [if_neg g20]
              have g20i : lx212.toInt ≠ 54 := q_neI g20
              have g21 : ¬ ((50000000 : Int32) ≤ (0 : Int32)) := (by decide)
              rw [if_neg g21]
              exact trivial
          ·
            rw [if_neg g19]
            have g19i : 55 < lx212.toInt := q_nleI g19
            unfold S_TR_findDecimal_J190
            by_cases g22 : lx212 = (54 : Int32)
            ·
              rw [if_pos g22]
              have g22i : lx212.toInt = 54 := q_eqI g22
              exact trivial
            ·
              rw [if_neg g22]
              have g22i : lx212.toInt ≠ 54 := q_neI g22
              have g23 : ¬ ((50000000 : Int32) ≤ (0 : Int32)) := (by decide)
              rw [if_neg g23]
              exact trivial
        ·
          rw [if_neg g18]
          have g18i : 54 < lx212.toInt := q_nleI g18
          unfold S_TR_findDecimal_J174
          by_cases g24 : lx212 ≤ (55 : Int32)
          ·
            rw [if_pos g24]
            have g24i : lx212.toInt ≤ 55 := q_leI g24
            unfold S_TR_findDecimal_J190
            by_cases g25 : lx212 = (54 : Int32)
            ·
              rw [if_pos g25]
              have g25i : lx212.toInt = 54 := q_eqI g25
              exact trivial
            ·
              rw [if_neg g25]
              have g25i : lx212.toInt ≠ 54 := q_neI g25
              by_cases g26 : (50000000 : Int32) ≤ (lx217 (55 : Int32).toNatClampNeg : Int32)
              ·
                rw [if_pos g26]
                by_cases g27 : (50000000 : Int32) < (lx217 (55 : Int32).toNatClampNeg : Int32)
                ·
                  rw [if_pos g27]
                  exact trivial
                ·
                  rw [if_neg g27]
                  have g28 : ((0 : Int32) = (0 : Int32)) := (by decide)
                  rw [if_pos g28]
                  exact trivial
              ·
                rw [if_neg g26]
                exact trivial
          ·
            rw [if_neg g24]
            have g24i : 55 < lx212.toInt := q_nleI g24
            unfold S_TR_findDecimal_J190
            by_cases g29 : lx212 = (54 : Int32)
            ·
              rw [if_pos g29]
              have g29i : lx212.toInt = 54 := q_eqI g29
              exact trivial
            ·
              rw [if_neg g29]
              have g29i : lx212.toInt ≠ 54 := q_neI g29
              by_cases g30 : (50000000 : Int32) ≤ (lx217 (55 : Int32).toNatClampNeg : Int32)
              ·
                rw [if_pos g30]
                by_cases g31 : (50000000 : Int32) < (lx217 (55 : Int32).toNatClampNeg : Int32)
                ·
                  rw [if_pos g31]
                  exact trivial
                ·
                  rw [if_neg g31]
                  have g32 : ¬ ((1 : Int32) = (0 : Int32)) := (by decide)
                  rw [if_neg g32]
                  exact trivial
              ·
                rw [if_neg g30]
                exact trivial
      ·
        rw [if_neg g17]
        have g17l := g_lc4 g17
        have h33 := T_TR_twice (t0_0 := lx203) (t0_1 := lx204) (t0_2 := lx205) (t0_3 := lx206) (t0_4 := lx207) (t0_5 := lx208) (t0_6 := lx209) (t0_7 := lx210) (t0_8 := lx211) (t0_9 := lx212) (t0_10 := lx213) (t0_11 := lx214) (t0_12 := lx215) (t0_13 := lx216) (t1_0 := lx217) ⟨by omega, by omega⟩ ⟨by omega, by omega⟩
        with_reducible refine v_oweS h33.1 ?_
        replace h33 := h33.2
        generalize F_TR_twice lx203 lx204 lx205 lx206 lx207 lx208 lx209 lx210 lx211 lx212 lx213 lx214 lx215 lx216 lx217 = p400 at *
        unfold Q_TR_twice at h33
        obtain ⟨tw1, tw4, tw11, tw13, tw8, tw9⟩ := h33
        have tw11i := congrArg Int64.toInt tw11
        unfold S_TR_findDecimal_c130
        have sb := tr_sub1 (x := p400.2.2.2.2.2.2.2.2.2.2.2.1) ⟨by omega, by omega⟩; exact ih _ _ _ _ _ _ _ _ _ _ _ _ _ _ _ ⟨by omega, by omega⟩ ⟨by omega, by omega⟩ ⟨by omega, by omega⟩ ⟨by omega, by omega⟩
theorem vt_fd1 {x2 : Int32} {x3 : Int32} {x4 : Int32} {t0_0 : Int32} {t0_1 : Int32} {t0_2 : Int32} {t0_3 : Int32} {t0_4 : Int32} {t0_5 : Int32} {t0_6 : Int32} {t0_7 : Int64} {t0_8 : Int32} {t0_9 : Int32} {t0_10 : Int64} {t0_11 : Int64} {t0_12 : Int32} {t0_13 : Int32} {t1_0 : (Nat → Int32)} {t2_0 : (Nat → Int32)} {j30 : Int64} {lx35 : Int32} {p118 : (Int32 × Int32 × Int32 × Int32 × Int32 × Int32 × Int32 × Int64 × Int32 × Int32 × Int64 × Int64 × Int32 × Int32 × (Nat → Int32))} (hx3 : x3 = 53 ∨ x3 = 24) (hx4 : -1074 ≤ x4.toInt ∧ x4.toInt ≤ 0) : ∀ (n : Nat) (lx142 : Int32) (lx143 : Int32) (lx144 : Int32) (lx145 : Int32) (lx146 : Int32) (lx147 : Int32) (lx148 : Int32) (lx149 : Int64) (lx150 : Int32) (lx151 : Int32) (lx152 : Int64) (lx153 : Int64) (lx154 : Int32) (lx155 : Int32) (lx156 : (Nat → Int32)), (trI lx153.toInt lx150 lx151 lx156) → ((0 ≤ lx143.toInt ∧ lx143.toInt ≤ 4100) ∧ (0 ≤ lx146.toInt ∧ lx146.toInt ≤ 1) ∧ (0 ≤ lx155.toInt ∧ lx155.toInt ≤ 1)) → (0 ≤ lx153.toInt ∧ lx153.toInt ≤ 1330) → (1331 - lx153.toInt < (n : Int)) → (S_TR_findDecimal_L78 x2 x3 x4 t0_0 t0_1 t0_2 t0_3 t0_4 t0_5 t0_6 t0_7 t0_8 t0_9 t0_10 t0_11 t0_12 t0_13 t1_0 t2_0 j30 lx35 p118 n lx142 lx143 lx144 lx145 lx146 lx147 lx148 lx149 lx150 lx151 lx152 lx153 lx154 lx155 lx156) := by
  intro n
  induction n with
  | zero => intro lx142 lx143 lx144 lx145 lx146 lx147 lx148 lx149 lx150 lx151 lx152 lx153 lx154 lx155 lx156 hI hb ht hm; exact absurd (show False by omega) id
  | succ n ih =>
    intro lx142 lx143 lx144 lx145 lx146 lx147 lx148 lx149 lx150 lx151 lx152 lx153 lx154 lx155 lx156 hI hb ht hm
    have e0 : (0 : Int32).toInt = 0 := rfl
    have e1 : (1 : Int32).toInt = 1 := rfl
    have eL0 : (0 : Int64).toInt = 0 := rfl
    rw [S_TR_findDecimal_L78.eq_2]
    by_cases g1 : (lg_cmp ((F_TR_wholePart lx142 lx143 lx144 lx145 lx146 lx147 lx148 lx149 lx150 lx151 lx152 lx153 lx154 lx155 lx156) : Int64) ((1 : Int64) <<< (x3.toInt64 &&& 63) : Int64) : Int32) < (0 : Int32)
    ·
      rw [if_pos g1]
      exact vt_fd2 (K_F_TR_findDecimal_L78 := fun _ _ _ _ _ _ _ _ _ _ _ _ _ _ _ => default) hx3 hx4 _ _ _ _ _ _ _ _ _ _ _ _ _ _ _ _ hI.1 hI.2.1 ⟨by omega, by omega⟩ ⟨by omega, by omega⟩
    ·
      rw [if_neg g1]
      have hV := tr_wp2 hx3 g1 hI.1 hI.2.2.2.2.1 hI.2.2.1
      have hl := hI.le hV
      have h2 := T_TR_half (t0_0 := lx142) (t0_1 := lx143) (t0_2 := lx144) (t0_3 := lx145) (t0_4 := lx146) (t0_5 := lx147) (t0_6 := lx148) (t0_7 := lx149) (t0_8 := lx150) (t0_9 := lx151) (t0_10 := lx152) (t0_11 := lx153) (t0_12 := lx154) (t0_13 := lx155) (t1_0 := lx156) hI.1 hI.2.1 hI.2.2.1 hI.2.2.2.1 (hI.even hV)
      with_reducible refine v_oweS h2.1 ?_
      replace h2 := h2.2
      generalize F_TR_half lx142 lx143 lx144 lx145 lx146 lx147 lx148 lx149 lx150 lx151 lx152 lx153 lx154 lx155 lx156 = p479 at *
      unfold Q_TR_half at h2
      obtain ⟨ha1, ha4, ha11, ha13, ha8, hao, haz, han, hav, hat⟩ := h2
      have ha1i := congrArg Int32.toInt ha1
      have ha4i := congrArg Int32.toInt ha4
      have ha11i := congrArg Int64.toInt ha11
      have ha13i := congrArg Int32.toInt ha13
      unfold S_TR_findDecimal_c90
      refine And.intro (by first | omega | decide) ?_
      refine And.intro (by first | omega | decide) ?_
      refine And.intro (by first | omega | decide) ?_
      refine And.intro (by first | omega | decide) ?_
      refine And.intro (by first | omega | decide) ?_
      refine And.intro (by first | omega | decide) ?_
      have sb := tr_add1 (x := p479.2.2.2.2.2.2.2.2.2.2.2.1) ⟨by omega, by omega⟩; exact ih _ _ _ _ _ _ _ _ _ _ _ _ _ _ _ (by rw [sb, ha11i]; exact hI.step hV ha8 hao haz han hav hat) ⟨⟨by omega, by omega⟩, ⟨by omega, by omega⟩, ⟨by omega, by omega⟩⟩ ⟨by omega, by omega⟩ (by omega)
theorem tr_j32 {j : Int64} (h : -400 ≤ j.toInt ∧ j.toInt ≤ 400) : -400 ≤ j.toInt32.toInt ∧ j.toInt32.toInt ≤ 400 := by rw [s_l2i (by omega) (by omega)]; exact h
theorem trI.start {fr to : Int32} {w : Nat → Int32} (h8 : 0 ≤ fr.toInt ∧ fr.toInt ≤ 54) (h9 : 54 ≤ to.toInt ∧ to.toInt ≤ 617) (ho : trO w) (hz : ∀ i : Nat, (i : Int) < fr.toInt → w i = 0) (hn : fr.toInt = 54 ∨ (w fr.toNatClampNeg).toInt ≠ 0) (hv : trV w 55 < 100000000 ^ 50) : trI (0 : Int64).toInt fr to w := by
  have e : (0 : Int64).toInt = 0 := rfl
  rw [e]
  refine ⟨h8, ⟨h9.1, by omega⟩, ho, hz, hn, ⟨0, rfl, by rw [Int.pow_zero, Int.mul_one]; exact hv⟩, by omega, fun d hd => ?_⟩
  rw [show d = 0 by omega]
  show _ % 1 = 0
  omega
theorem T_TR_findDecimal {x2 : Int32} {x3 : Int32} {x4 : Int32} {t0_0 : Int32} {t0_1 : Int32} {t0_2 : Int32} {t0_3 : Int32} {t0_4 : Int32} {t0_5 : Int32} {t0_6 : Int32} {t0_7 : Int64} {t0_8 : Int32} {t0_9 : Int32} {t0_10 : Int64} {t0_11 : Int64} {t0_12 : Int32} {t0_13 : Int32} {t1_0 : (Nat → Int32)} {t2_0 : (Nat → Int32)} (hx3 : x3 = 53 ∨ x3 = 24) (hx4 : -1074 ≤ x4.toInt ∧ x4.toInt ≤ 0)(hx2 : 0 ≤ x2.toInt ∧ x2.toInt < t0_5.toInt) (h5 : t0_5.toInt ≤ 4100) (hF : ∀ i : Nat, (i : Int) < t0_5.toInt → 0 ≤ (t1_0 i).toInt ∧ (t1_0 i).toInt ≤ 9) (hT : (0 ≤ t0_1.toInt ∧ t0_1.toInt ≤ 4100) ∧ (0 ≤ t0_4.toInt ∧ t0_4.toInt ≤ 1)) : (S_TR_findDecimal x2 x3 x4 t0_0 t0_1 t0_2 t0_3 t0_4 t0_5 t0_6 t0_7 t0_8 t0_9 t0_10 t0_11 t0_12 t0_13 t1_0 t2_0) := by
  have e0 : (0 : Int32).toInt = 0 := rfl
  have e1 : (1 : Int32).toInt = 1 := rfl
  have eL0 : (0 : Int64).toInt = 0 := rfl
  have e400 : (400 : Int64).toInt = 400 := rfl
  have em400 : (-400 : Int64).toInt = -400 := rfl
  unfold S_TR_findDecimal
  obtain ⟨jj, ejj⟩ := q_nm (((t0_6 - x2 : Int32).toInt64 : Int64) + t0_7 : Int64)
  rw [ejj]
  by_cases g1 : (lg_cmp jj 400 : Int32) ≤ (0 : Int32)
  ·
    rw [if_pos g1]
    have g1l := g_lc3 g1
    unfold S_TR_findDecimal_J29
    have g2 : ((0 : Int32) = (0 : Int32)) := (by decide)
    rw [if_pos g2]
    by_cases g3 : (0 : Int32) ≤ (lg_cmp jj (-400) : Int32)
    ·
      rw [if_pos g3]
      have g3l := g_lc5 g3
      have h4 := T_TR_writeOut (x2 := x2) (x3 := (jj.toInt32 : Int32)) (t0_0 := t0_0) (t0_1 := t0_1) (t0_2 := t0_2) (t0_3 := t0_3) (t0_4 := t0_4) (t0_5 := t0_5) (t0_6 := t0_6) (t0_7 := t0_7) (t0_8 := t0_8) (t0_9 := t0_9) (t0_10 := t0_10) (t0_11 := t0_11) (t0_12 := t0_12) (t0_13 := (0 : Int32)) (t1_0 := t1_0) (t2_0 := t2_0) ⟨by omega, by omega⟩ (tr_j32 ⟨by omega, by omega⟩) ⟨by omega, by omega⟩ hF
      with_reducible refine v_oweS h4.1 ?_
      replace h4 := h4.2
      generalize F_TR_writeOut x2 (jj.toInt32 : Int32) t0_0 t0_1 t0_2 t0_3 t0_4 t0_5 t0_6 t0_7 t0_8 t0_9 t0_10 t0_11 t0_12 (0 : Int32) t1_0 t2_0 = p118 at *
      unfold Q_TR_writeOut at h4
      obtain ⟨wo1, wo4, wo13, wo8, wo9, woo, woz, won, wov⟩ := h4
      have wo1i := congrArg Int32.toInt wo1
      have wo4i := congrArg Int32.toInt wo4
      have wo13i := congrArg Int32.toInt wo13
      unfold S_TR_findDecimal_c70
      exact vt_fd1 hx3 hx4 1000000 _ _ _ _ _ _ _ _ _ _ _ _ _ _ _ (trI.start wo8 wo9 woo woz won wov) ⟨⟨by omega, by omega⟩, ⟨by omega, by omega⟩, ⟨by omega, by omega⟩⟩ (by decide) (by decide)
    ·
      rw [if_neg g3]
      have g3l := g_lc6 g3
      exact trivial
  ·
    rw [if_neg g1]
    have g1l := g_lc4 g1
    unfold S_TR_findDecimal_J29
    have g5 : ¬ ((1 : Int32) = (0 : Int32)) := (by decide)
    rw [if_neg g5]
    exact trivial
theorem tr_ix {v : Int64} {m : Int32} (h0 : (0 : Int64).toInt ≤ v.toInt) (h1 : v.toInt < m.toInt64.toInt) (hm : m.toInt ≤ 4100) : v.toInt32.toInt ≤ 4099 := by
  have e : m.toInt64.toInt = m.toInt := q_i2l rfl
  have e0 : (0 : Int64).toInt = 0 := rfl
  rw [s_l2i (by omega) (by omega)]
  omega
theorem tr_j138 {p m : Int32} {e : Int64} (hp : 0 ≤ p.toInt ∧ p.toInt ≤ 4100) (hm : 0 ≤ m.toInt ∧ m.toInt ≤ 4100) (he : -20000000000 ≤ e.toInt ∧ e.toInt ≤ 20000000000) : ((4 * ((p - m : Int32).toInt64 : Int64) : Int64) + e : Int64).toInt = 4 * (p.toInt - m.toInt) + e.toInt := by
  have a : (p - m : Int32).toInt = p.toInt - m.toInt := q_subI rfl rfl (by omega) (by omega)
  have b : (4 * ((p - m : Int32).toInt64 : Int64) : Int64).toInt = 4 * (p.toInt - m.toInt) := q_mulL (x := 4) (by decide) (q_i2l a) (by omega) (by omega)
  exact q_addL b rfl (by omega) (by omega)
theorem tr_j54 {p m b : Int32} {e : Int64} (hp : 0 ≤ p.toInt ∧ p.toInt ≤ 4100) (hm : 0 ≤ m.toInt ∧ m.toInt ≤ 4100) (hb : 1 ≤ b.toInt ∧ b.toInt ≤ 4) (he : -20000000000 ≤ e.toInt ∧ e.toInt ≤ 20000000000) : ((((4 * ((p - m : Int32).toInt64 : Int64) : Int64) - 5 : Int64) + (b.toInt64 : Int64) : Int64) + e : Int64).toInt = 4 * (p.toInt - m.toInt) - 5 + b.toInt + e.toInt := by
  have a : (p - m : Int32).toInt = p.toInt - m.toInt := q_subI rfl rfl (by omega) (by omega)
  have c : (4 * ((p - m : Int32).toInt64 : Int64) : Int64).toInt = 4 * (p.toInt - m.toInt) := q_mulL (x := 4) (by decide) (q_i2l a) (by omega) (by omega)
  have d : ((4 * ((p - m : Int32).toInt64 : Int64) : Int64) - 5 : Int64).toInt = 4 * (p.toInt - m.toInt) - 5 := q_subL c (by decide) (by omega) (by omega)
  have f : (((4 * ((p - m : Int32).toInt64 : Int64) : Int64) - 5 : Int64) + (b.toInt64 : Int64) : Int64).toInt = 4 * (p.toInt - m.toInt) - 5 + b.toInt := q_addL d (q_i2l rfl) (by omega) (by omega)
  exact q_addL f rfl (by omega) (by omega)
theorem tr_102 {j : Int64} {x : Int32} (hj : -2000 ≤ j.toInt ∧ j.toInt ≤ 2000) (hx : 0 ≤ x.toInt ∧ x.toInt ≤ 60) : ((j - x.toInt64 : Int64) + 1 : Int64).toInt = j.toInt - x.toInt + 1 := by
  have a : (j - x.toInt64 : Int64).toInt = j.toInt - x.toInt := q_subL rfl (q_i2l rfl) (by omega) (by omega)
  exact q_addL a (by decide) (by omega) (by omega)
theorem tr_sub2 {x : Int64} (h : -100000 ≤ x.toInt ∧ x.toInt ≤ 100000) : (x - 2 : Int64).toInt = x.toInt - 2 := q_subL (y := 2) rfl (by decide) (by omega) (by omega)
theorem T_TR_bitAt {x2 : Int64} {t0_0 : Int32} {t0_1 : Int32} {t0_2 : Int32} {t0_3 : Int32} {t0_4 : Int32} {t0_5 : Int32} {t0_6 : Int32} {t0_7 : Int64} {t0_8 : Int32} {t0_9 : Int32} {t0_10 : Int64} {t0_11 : Int64} {t0_12 : Int32} {t0_13 : Int32} {t1_0 : (Nat → Int32)} (h5 : t0_5.toInt ≤ 4100) : (S_TR_bitAt x2 t0_0 t0_1 t0_2 t0_3 t0_4 t0_5 t0_6 t0_7 t0_8 t0_9 t0_10 t0_11 t0_12 t0_13 t1_0) := by
  have e0 : (0 : Int32).toInt = 0 := rfl
  have e1 : (1 : Int32).toInt = 1 := rfl
  have eL0 : (0 : Int64).toInt = 0 := rfl
  unfold S_TR_bitAt
  by_cases g1 : (lg_cmp (x2 - t0_7 : Int64) 0 : Int32) < (0 : Int32)
  ·
    rw [if_pos g1]
    have g1l := g_lc1 g1
    unfold S_TR_bitAt_J31
    by_cases g2 : (lg_cmp (((t0_6.toInt64 : Int64) - 1 : Int64) - (-((3 - (x2 - t0_7 : Int64) : Int64) / 4 : Int64) : Int64) : Int64) 0 : Int32) < (0 : Int32)
    ·
      rw [if_pos g2]
      have g2l := g_lc1 g2
      exact trivial
    ·
      rw [if_neg g2]
      have g2l := g_lc2 g2
      by_cases g3 : (lg_cmp (((t0_6.toInt64 : Int64) - 1 : Int64) - (-((3 - (x2 - t0_7 : Int64) : Int64) / 4 : Int64) : Int64) : Int64) (t0_5.toInt64 : Int64) : Int32) < (0 : Int32)
      ·
        rw [if_pos g3]
        have g3l := g_lc1 g3
        refine And.intro (tr_ix (by with_reducible assumption) (by with_reducible assumption) (by omega)) ?_
        exact trivial
      ·
        rw [if_neg g3]
        have g3l := g_lc2 g3
        exact trivial
  ·
    rw [if_neg g1]
    have g1l := g_lc2 g1
    unfold S_TR_bitAt_J31
    by_cases g4 : (lg_cmp (((t0_6.toInt64 : Int64) - 1 : Int64) - ((x2 - t0_7 : Int64) / 4 : Int64) : Int64) 0 : Int32) < (0 : Int32)
    ·
      rw [if_pos g4]
      have g4l := g_lc1 g4
      exact trivial
    ·
      rw [if_neg g4]
      have g4l := g_lc2 g4
      by_cases g5 : (lg_cmp (((t0_6.toInt64 : Int64) - 1 : Int64) - ((x2 - t0_7 : Int64) / 4 : Int64) : Int64) (t0_5.toInt64 : Int64) : Int32) < (0 : Int32)
      ·
        rw [if_pos g5]
        have g5l := g_lc1 g5
        refine And.intro (tr_ix (by with_reducible assumption) (by with_reducible assumption) (by omega)) ?_
        exact trivial
      ·
        rw [if_neg g5]
        have g5l := g_lc2 g5
        exact trivial
theorem vt_fh2 {K_F_TR_findHexadecimal_L156 : Int64 → Int64 → (Int32 × Int32 × Int32 × Int32 × Int32 × Int32 × Int32 × Int64 × Int32 × Int32 × Int64 × Int64 × Int32 × Int32)} {x2 : Int32} {x3 : Int32} {x4 : Int32} {t0_0 : Int32} {t0_1 : Int32} {t0_2 : Int32} {t0_3 : Int32} {t0_4 : Int32} {t0_5 : Int32} {t0_6 : Int32} {t0_7 : Int64} {t0_8 : Int32} {t0_9 : Int32} {t0_10 : Int64} {t0_11 : Int64} {t0_12 : Int32} {t0_13 : Int32} {t1_0 : (Nat → Int32)} {lx26 : Int32} {j54 : Int64} {lx59 : Int32} {j74 : Int64} {lx102 : Int64} {lx114 : Int64} {lx115 : Int64} {j138 : Int64} {K_S_TR_findHexadecimal_L156 : Int64 → Int64 → Prop} (h5 : 1 ≤ t0_5.toInt ∧ t0_5.toInt ≤ 4100)(hj : -30000 ≤ j138.toInt) : ∀ (n : Nat) (lx144 : Int64) (lx145 : Int32), (-40000 ≤ lx144.toInt ∧ lx144.toInt ≤ 10000) → (lx144.toInt - j138.toInt + 1 < (n : Int) ∧ 0 < (n : Int)) → (S_TR_findHexadecimal_L229 K_S_TR_findHexadecimal_L156 x2 x3 x4 t0_0 t0_1 t0_2 t0_3 t0_4 t0_5 t0_6 t0_7 t0_8 t0_9 t0_10 t0_11 t0_12 t0_13 t1_0 lx26 j54 lx59 j74 lx102 lx114 lx115 j138 n lx144 lx145) := by
  intro n
  induction n with
  | zero => intro lx144 lx145 h0 hm; omega
  | succ n ih =>
    intro lx144 lx145 h0 hm
    have e0 : (0 : Int32).toInt = 0 := rfl
    have e1 : (1 : Int32).toInt = 1 := rfl
    have eL0 : (0 : Int64).toInt = 0 := rfl
    have sb := tr_sub1 (x := lx144) ⟨by omega, by omega⟩
    rw [S_TR_findHexadecimal_L229.eq_2]
    by_cases g1 : (lg_cmp lx144 j138 : Int32) < (0 : Int32)
    ·
      rw [if_pos g1]
      have g1l := g_lc1 g1
      unfold S_TR_findHexadecimal_J268
      have h2 := T_TR_bitAt (x2 := (lx102 - 1 : Int64)) (t0_0 := t0_0) (t0_1 := t0_1) (t0_2 := t0_2) (t0_3 := t0_3) (t0_4 := t0_4) (t0_5 := t0_5) (t0_6 := t0_6) (t0_7 := t0_7) (t0_8 := t0_8) (t0_9 := t0_9) (t0_10 := lx115) (t0_11 := lx102) (t0_12 := (1 : Int32)) (t0_13 := lx59) (t1_0 := t1_0) (by omega)
      with_reducible refine v_oweS h2 ?_
      by_cases g3 : ((F_TR_bitAt (lx102 - 1 : Int64) t0_0 t0_1 t0_2 t0_3 t0_4 t0_5 t0_6 t0_7 t0_8 t0_9 lx115 lx102 (1 : Int32) lx59 t1_0) : Int32) = (1 : Int32)
      ·
        rw [if_pos g3]
        by_cases g4 : lx145 = (0 : Int32)
        ·
          rw [if_pos g4]
          exact trivial
        ·
          rw [if_neg g4]
          exact trivial
      ·
        rw [if_neg g3]
        by_cases g5 : lx145 = (0 : Int32)
        ·
          rw [if_pos g5]
          exact trivial
        ·
          rw [if_neg g5]
          exact trivial
    ·
      rw [if_neg g1]
      have g1l := g_lc2 g1
      by_cases g6 : lx145 = (0 : Int32)
      ·
        rw [if_pos g6]
        have h7 := T_TR_bitAt (x2 := lx144) (t0_0 := t0_0) (t0_1 := t0_1) (t0_2 := t0_2) (t0_3 := t0_3) (t0_4 := t0_4) (t0_5 := t0_5) (t0_6 := t0_6) (t0_7 := t0_7) (t0_8 := t0_8) (t0_9 := t0_9) (t0_10 := lx115) (t0_11 := lx102) (t0_12 := (1 : Int32)) (t0_13 := lx59) (t1_0 := t1_0) (by omega)
        with_reducible refine v_oweS h7 ?_
        by_cases g8 : ((F_TR_bitAt lx144 t0_0 t0_1 t0_2 t0_3 t0_4 t0_5 t0_6 t0_7 t0_8 t0_9 lx115 lx102 (1 : Int32) lx59 t1_0) : Int32) = (1 : Int32)
        ·
          rw [if_pos g8]
          exact ih _ _ ⟨by omega, by omega⟩ ⟨by omega, by omega⟩
        ·
          rw [if_neg g8]
          exact ih _ _ ⟨by omega, by omega⟩ ⟨by omega, by omega⟩
      ·
        rw [if_neg g6]
        unfold S_TR_findHexadecimal_J268
        have h9 := T_TR_bitAt (x2 := (lx102 - 1 : Int64)) (t0_0 := t0_0) (t0_1 := t0_1) (t0_2 := t0_2) (t0_3 := t0_3) (t0_4 := t0_4) (t0_5 := t0_5) (t0_6 := t0_6) (t0_7 := t0_7) (t0_8 := t0_8) (t0_9 := t0_9) (t0_10 := lx115) (t0_11 := lx102) (t0_12 := (1 : Int32)) (t0_13 := lx59) (t1_0 := t1_0) (by omega)
        with_reducible refine v_oweS h9 ?_
        by_cases g10 : ((F_TR_bitAt (lx102 - 1 : Int64) t0_0 t0_1 t0_2 t0_3 t0_4 t0_5 t0_6 t0_7 t0_8 t0_9 lx115 lx102 (1 : Int32) lx59 t1_0) : Int32) = (1 : Int32)
        ·
          rw [if_pos g10]
          rw [if_neg g6]
          exact trivial
        ·
          rw [if_neg g10]
          rw [if_neg g6]
          exact trivial
theorem vt_fh1 {x2 : Int32} {x3 : Int32} {x4 : Int32} {t0_0 : Int32} {t0_1 : Int32} {t0_2 : Int32} {t0_3 : Int32} {t0_4 : Int32} {t0_5 : Int32} {t0_6 : Int32} {t0_7 : Int64} {t0_8 : Int32} {t0_9 : Int32} {t0_10 : Int64} {t0_11 : Int64} {t0_12 : Int32} {t0_13 : Int32} {t1_0 : (Nat → Int32)} {lx26 : Int32} {j54 : Int64} {lx59 : Int32} {j74 : Int64} {lx102 : Int64} (h5 : 1 ≤ t0_5.toInt ∧ t0_5.toInt ≤ 4100)(h6 : 0 ≤ t0_6.toInt ∧ t0_6.toInt ≤ 4100) (h7 : -20000000000 ≤ t0_7.toInt ∧ t0_7.toInt ≤ 20000000000) (hE : -30000 ≤ 4 * (t0_6.toInt - t0_5.toInt) + t0_7.toInt)(hl : -5000 ≤ lx102.toInt ∧ lx102.toInt ≤ 5000) : ∀ (n : Nat) (lx114 : Int64) (lx115 : Int64), (-10000 ≤ lx114.toInt ∧ lx114.toInt ≤ 10000) → (lx114.toInt - lx102.toInt + 1 < (n : Int) ∧ 0 < (n : Int)) → (S_TR_findHexadecimal_L156 x2 x3 x4 t0_0 t0_1 t0_2 t0_3 t0_4 t0_5 t0_6 t0_7 t0_8 t0_9 t0_10 t0_11 t0_12 t0_13 t1_0 lx26 j54 lx59 j74 lx102 n lx114 lx115) := by
  intro n
  induction n with
  | zero => intro lx114 lx115 h0 hm; omega
  | succ n ih =>
    intro lx114 lx115 h0 hm
    have e0 : (0 : Int32).toInt = 0 := rfl
    have e1 : (1 : Int32).toInt = 1 := rfl
    have eL0 : (0 : Int64).toInt = 0 := rfl
    have sb := tr_sub1 (x := lx114) ⟨by omega, by omega⟩
    rw [S_TR_findHexadecimal_L156.eq_2]
    by_cases g1 : (lg_cmp lx114 lx102 : Int32) < (0 : Int32)
    ·
      rw [if_pos g1]
      have g1l := g_lc1 g1
      have s2 := tr_sub2 (x := lx102) ⟨by omega, by omega⟩; have ej := tr_j138 (p := t0_6) (m := t0_5) (e := t0_7) h6 ⟨by omega, by omega⟩ h7; exact vt_fh2 (K_F_TR_findHexadecimal_L156 := fun _ _ => default) h5 (by rw [ej]; exact hE) 1000000 _ _ ⟨by omega, by omega⟩ ⟨by rw [ej, s2]; omega, by decide⟩
    ·
      rw [if_neg g1]
      have g1l := g_lc2 g1
      have h2 := T_TR_bitAt (x2 := lx114) (t0_0 := t0_0) (t0_1 := t0_1) (t0_2 := t0_2) (t0_3 := t0_3) (t0_4 := t0_4) (t0_5 := t0_5) (t0_6 := t0_6) (t0_7 := t0_7) (t0_8 := t0_8) (t0_9 := t0_9) (t0_10 := lx115) (t0_11 := lx102) (t0_12 := (1 : Int32)) (t0_13 := lx59) (t1_0 := t1_0) (by omega)
      with_reducible refine v_oweS h2 ?_
      exact ih _ _ ⟨by omega, by omega⟩ ⟨by omega, by omega⟩
theorem T_TR_fhJ {x2 : Int32} {x3 : Int32} {x4 : Int32} {t0_0 : Int32} {t0_1 : Int32} {t0_2 : Int32} {t0_3 : Int32} {t0_4 : Int32} {t0_5 : Int32} {t0_6 : Int32} {t0_7 : Int64} {t0_8 : Int32} {t0_9 : Int32} {t0_10 : Int64} {t0_11 : Int64} {t0_12 : Int32} {t0_13 : Int32} {t1_0 : (Nat → Int32)} {lx26 : Int32} (hx3 : x3 = 53 ∨ x3 = 24) (hx4 : -1074 ≤ x4.toInt ∧ x4.toInt ≤ 0)(h5 : 1 ≤ t0_5.toInt ∧ t0_5.toInt ≤ 4100)(hx2 : 0 ≤ x2.toInt ∧ x2.toInt < t0_5.toInt)(h6 : 0 ≤ t0_6.toInt ∧ t0_6.toInt ≤ 4100) (h7 : -20000000000 ≤ t0_7.toInt ∧ t0_7.toInt ≤ 20000000000) (h26 : 1 ≤ lx26.toInt ∧ lx26.toInt ≤ 4) : (S_TR_findHexadecimal_J44 x2 x3 x4 t0_0 t0_1 t0_2 t0_3 t0_4 t0_5 t0_6 t0_7 t0_8 t0_9 t0_10 t0_11 t0_12 t0_13 t1_0 lx26) := by
  have e0 : (0 : Int32).toInt = 0 := rfl
  have e1 : (1 : Int32).toInt = 1 := rfl
  have eL0 : (0 : Int64).toInt = 0 := rfl
  have e2k : (2000 : Int64).toInt = 2000 := rfl
  have em2k : (-2000 : Int64).toInt = -2000 := rfl
  have x3b : 0 ≤ x3.toInt ∧ x3.toInt ≤ 60 := by rcases hx3 with h | h <;> (rw [h]; decide)
  unfold S_TR_findHexadecimal_J44
  obtain ⟨jt, ejt⟩ := q_nm ((((4 * ((t0_6 - x2 : Int32).toInt64 : Int64) : Int64) - 5 : Int64) + (lx26.toInt64 : Int64) : Int64) + t0_7 : Int64)
  have jti : jt.toInt = 4 * (t0_6.toInt - x2.toInt) - 5 + lx26.toInt + t0_7.toInt := by rw [← ejt]; exact tr_j54 h6 ⟨by omega, by omega⟩ h26 h7
  rw [ejt]
  have exA := fun h => tr_102 (j := jt) (x := x3) h x3b
  have exB : x4.toInt64.toInt = x4.toInt := q_i2l rfl
  by_cases g1 : (lg_cmp jt 2000 : Int32) ≤ (0 : Int32)
  ·
    rw [if_pos g1]
    have g1l := g_lc3 g1
    unfold S_TR_findHexadecimal_J87
    have g2 : ((0 : Int32) = (0 : Int32)) := (by decide)
    rw [if_pos g2]
    by_cases g3 : (0 : Int32) ≤ (lg_cmp jt (-2000) : Int32)
    ·
      rw [if_pos g3]
      have g3l := g_lc5 g3
      by_cases g4 : (lg_cmp ((jt - (x3.toInt64 : Int64) : Int64) + 1 : Int64) (x4.toInt64 : Int64) : Int32) ≤ (0 : Int32)
      ·
        rw [if_pos g4]
        unfold S_TR_findHexadecimal_J149
        exact vt_fh1 h5 h6 h7 (by omega) (by rw [exB]; omega) 1000000 _ _ ⟨by omega, by omega⟩ ⟨by rw [exB]; omega, by decide⟩
      ·
        rw [if_neg g4]
        unfold S_TR_findHexadecimal_J149
        exact vt_fh1 h5 h6 h7 (by omega) (by rw [(exA ⟨by omega, by omega⟩)]; omega) 1000000 _ _ ⟨by omega, by omega⟩ ⟨by rw [(exA ⟨by omega, by omega⟩)]; omega, by decide⟩
    ·
      rw [if_neg g3]
      have g3l := g_lc6 g3
      exact trivial
  ·
    rw [if_neg g1]
    have g1l := g_lc4 g1
    unfold S_TR_findHexadecimal_J87
    have g5 : ¬ ((1 : Int32) = (0 : Int32)) := (by decide)
    rw [if_neg g5]
    exact trivial
theorem T_TR_findHexadecimal {x2 : Int32} {x3 : Int32} {x4 : Int32} {t0_0 : Int32} {t0_1 : Int32} {t0_2 : Int32} {t0_3 : Int32} {t0_4 : Int32} {t0_5 : Int32} {t0_6 : Int32} {t0_7 : Int64} {t0_8 : Int32} {t0_9 : Int32} {t0_10 : Int64} {t0_11 : Int64} {t0_12 : Int32} {t0_13 : Int32} {t1_0 : (Nat → Int32)} (hx3 : x3 = 53 ∨ x3 = 24) (hx4 : -1074 ≤ x4.toInt ∧ x4.toInt ≤ 0)(h5 : 1 ≤ t0_5.toInt ∧ t0_5.toInt ≤ 4100)(hx2 : 0 ≤ x2.toInt ∧ x2.toInt < t0_5.toInt)(h6 : 0 ≤ t0_6.toInt ∧ t0_6.toInt ≤ 4100) (h7 : -20000000000 ≤ t0_7.toInt ∧ t0_7.toInt ≤ 20000000000)  : (S_TR_findHexadecimal x2 x3 x4 t0_0 t0_1 t0_2 t0_3 t0_4 t0_5 t0_6 t0_7 t0_8 t0_9 t0_10 t0_11 t0_12 t0_13 t1_0) := by
  have e0 : (0 : Int32).toInt = 0 := rfl
  have e1 : (1 : Int32).toInt = 1 := rfl
  have eL0 : (0 : Int64).toInt = 0 := rfl
  unfold S_TR_findHexadecimal
  refine And.intro (by first | omega | decide) ?_
  refine And.intro (by first | omega | decide) ?_
  by_cases g1 : (t1_0 x2.toNatClampNeg : Int32) < (8 : Int32)
  ·
    rw [if_pos g1]
    by_cases g2 : (t1_0 x2.toNatClampNeg : Int32) < (4 : Int32)
    ·
      rw [if_pos g2]
      by_cases g3 : (t1_0 x2.toNatClampNeg : Int32) < (2 : Int32)
      ·
        rw [if_pos g3]
        exact T_TR_fhJ hx3 hx4 h5 hx2 h6 h7 (by decide)
      ·
        rw [if_neg g3]
        exact T_TR_fhJ hx3 hx4 h5 hx2 h6 h7 (by decide)
    ·
      rw [if_neg g2]
      exact T_TR_fhJ hx3 hx4 h5 hx2 h6 h7 (by decide)
  ·
    rw [if_neg g1]
    exact T_TR_fhJ hx3 hx4 h5 hx2 h6 h7 (by decide)
theorem vt_fi {x2 : Int32} {x3 : Int32} {t0_0 : Int32} {t0_1 : Int32} {t0_2 : Int32} {t0_3 : Int32} {t0_4 : Int32} {t0_5 : Int32} {t0_6 : Int32} {t0_7 : Int64} {t0_8 : Int32} {t0_9 : Int32} {t0_10 : Int64} {t0_11 : Int64} {t0_12 : Int32} {t0_13 : Int32} {t1_0 : (Nat → Int32)} {t2_0 : (Nat → Int32)} (hx2 : x2 = 53 ∨ x2 = 24) (hx3 : -1074 ≤ x3.toInt ∧ x3.toInt ≤ 0) (hT : (0 ≤ t0_1.toInt ∧ t0_1.toInt ≤ 4100) ∧ (0 ≤ t0_4.toInt ∧ t0_4.toInt ≤ 1))(hS : trS t0_2 t0_5 t0_6 t0_7 t1_0) : ∀ (n : Nat) (lx26 : Int32), (0 ≤ lx26.toInt ∧ lx26.toInt ≤ t0_5.toInt) → (4100 - lx26.toInt < (n : Int)) → (S_TR_find_L2 x2 x3 t0_0 t0_1 t0_2 t0_3 t0_4 t0_5 t0_6 t0_7 t0_8 t0_9 t0_10 t0_11 t0_12 t0_13 t1_0 t2_0 n lx26) := by
  intro n
  induction n with
  | zero => intro lx26 h0 hm; have := hS.2.1; exact absurd (show False by omega) id
  | succ n ih =>
    intro lx26 h0 hm
    have e0 : (0 : Int32).toInt = 0 := rfl
    have e1 : (1 : Int32).toInt = 1 := rfl
    have eL0 : (0 : Int64).toInt = 0 := rfl
    have s5 := hS.2.1
    have s6 := hS.2.2.1
    rw [S_TR_find_L2.eq_2]
    by_cases g1 : t0_5 ≤ lx26
    ·
      rw [if_pos g1]
      have g1i : t0_5.toInt ≤ lx26.toInt := q_leI g1
      unfold S_TR_find_J25
      by_cases g2 : lx26 = t0_5
      ·
        rw [if_pos g2]
        have g2i : lx26.toInt = t0_5.toInt := q_eqI g2
        exact trivial
      ·
        rw [if_neg g2]
        have g2i : lx26.toInt ≠ t0_5.toInt := q_neI g2
        by_cases g3 : t0_2 = (0 : Int32)
        ·
          rw [if_pos g3]
          have k0 : t0_2.toInt = 0 := q_eqI g3
          have h4 := T_TR_findDecimal (x2 := lx26) (x3 := x2) (x4 := x3) (t0_0 := t0_0) (t0_1 := t0_1) (t0_2 := t0_2) (t0_3 := t0_3) (t0_4 := t0_4) (t0_5 := t0_5) (t0_6 := t0_6) (t0_7 := t0_7) (t0_8 := t0_8) (t0_9 := t0_9) (t0_10 := t0_10) (t0_11 := t0_11) (t0_12 := t0_12) (t0_13 := t0_13) (t1_0 := t1_0) (t2_0 := t2_0) hx2 hx3 ⟨by omega, by omega⟩ (by omega) (fun i hi => ⟨((hS.2.2.2.2) i hi).1.1, ((hS.2.2.2.2) i hi).2 k0⟩) hT
          with_reducible refine v_oweS h4 ?_
          generalize F_TR_findDecimal lx26 x2 x3 t0_0 t0_1 t0_2 t0_3 t0_4 t0_5 t0_6 t0_7 t0_8 t0_9 t0_10 t0_11 t0_12 t0_13 t1_0 t2_0 = p163 at *
          unfold S_TR_find_c68
          exact trivial
        ·
          rw [if_neg g3]
          have h5 := T_TR_findHexadecimal (x2 := lx26) (x3 := x2) (x4 := x3) (t0_0 := t0_0) (t0_1 := t0_1) (t0_2 := t0_2) (t0_3 := t0_3) (t0_4 := t0_4) (t0_5 := t0_5) (t0_6 := t0_6) (t0_7 := t0_7) (t0_8 := t0_8) (t0_9 := t0_9) (t0_10 := t0_10) (t0_11 := t0_11) (t0_12 := t0_12) (t0_13 := t0_13) (t1_0 := t1_0) hx2 hx3 hS.2.1 ⟨by omega, by omega⟩ ⟨by omega, by omega⟩ hS.2.2.2.1
          with_reducible refine v_oweS h5 ?_
          generalize F_TR_findHexadecimal lx26 x2 x3 t0_0 t0_1 t0_2 t0_3 t0_4 t0_5 t0_6 t0_7 t0_8 t0_9 t0_10 t0_11 t0_12 t0_13 t1_0 = p99 at *
          unfold S_TR_find_c78
          exact trivial
    ·
      rw [if_neg g1]
      have g1i : lx26.toInt < t0_5.toInt := q_nleI g1
      refine And.intro (by first | omega | decide) ?_
      by_cases g6 : (t1_0 lx26.toNatClampNeg : Int32) = (0 : Int32)
      ·
        rw [if_pos g6]
        obtain ⟨a7, e8⟩ := q_nm (lx26 + 1 : Int32)
        rw [e8]
        have a7i : a7.toInt = lx26.toInt + 1 := by rw [← e8]; exact q_addI (x := lx26.toInt) (y := 1) rfl (by decide) (by omega) (by omega)
        exact ih _ (by first | with_reducible assumption | omega | decide) (by first | with_reducible assumption | omega | decide)
      ·
        rw [if_neg g6]
        unfold S_TR_find_J25
        by_cases g9 : lx26 = t0_5
        ·
          rw [if_pos g9]
          have g9i : lx26.toInt = t0_5.toInt := q_eqI g9
          exact trivial
        ·
          rw [if_neg g9]
          have g9i : lx26.toInt ≠ t0_5.toInt := q_neI g9
          by_cases g10 : t0_2 = (0 : Int32)
          ·
            rw [if_pos g10]
            have k0 : t0_2.toInt = 0 := q_eqI g10
            have h11 := T_TR_findDecimal (x2 := lx26) (x3 := x2) (x4 := x3) (t0_0 := t0_0) (t0_1 := t0_1) (t0_2 := t0_2) (t0_3 := t0_3) (t0_4 := t0_4) (t0_5 := t0_5) (t0_6 := t0_6) (t0_7 := t0_7) (t0_8 := t0_8) (t0_9 := t0_9) (t0_10 := t0_10) (t0_11 := t0_11) (t0_12 := t0_12) (t0_13 := t0_13) (t1_0 := t1_0) (t2_0 := t2_0) hx2 hx3 ⟨by omega, by omega⟩ (by omega) (fun i hi => ⟨((hS.2.2.2.2) i hi).1.1, ((hS.2.2.2.2) i hi).2 k0⟩) hT
            with_reducible refine v_oweS h11 ?_
            generalize F_TR_findDecimal lx26 x2 x3 t0_0 t0_1 t0_2 t0_3 t0_4 t0_5 t0_6 t0_7 t0_8 t0_9 t0_10 t0_11 t0_12 t0_13 t1_0 t2_0 = p163 at *
            unfold S_TR_find_c68
            exact trivial
          ·
            rw [if_neg g10]
            have h12 := T_TR_findHexadecimal (x2 := lx26) (x3 := x2) (x4 := x3) (t0_0 := t0_0) (t0_1 := t0_1) (t0_2 := t0_2) (t0_3 := t0_3) (t0_4 := t0_4) (t0_5 := t0_5) (t0_6 := t0_6) (t0_7 := t0_7) (t0_8 := t0_8) (t0_9 := t0_9) (t0_10 := t0_10) (t0_11 := t0_11) (t0_12 := t0_12) (t0_13 := t0_13) (t1_0 := t1_0) hx2 hx3 hS.2.1 ⟨by omega, by omega⟩ ⟨by omega, by omega⟩ hS.2.2.2.1
            with_reducible refine v_oweS h12 ?_
            generalize F_TR_findHexadecimal lx26 x2 x3 t0_0 t0_1 t0_2 t0_3 t0_4 t0_5 t0_6 t0_7 t0_8 t0_9 t0_10 t0_11 t0_12 t0_13 t1_0 = p99 at *
            unfold S_TR_find_c78
            exact trivial
theorem T_TR_find {x2 : Int32} {x3 : Int32} {t0_0 : Int32} {t0_1 : Int32} {t0_2 : Int32} {t0_3 : Int32} {t0_4 : Int32} {t0_5 : Int32} {t0_6 : Int32} {t0_7 : Int64} {t0_8 : Int32} {t0_9 : Int32} {t0_10 : Int64} {t0_11 : Int64} {t0_12 : Int32} {t0_13 : Int32} {t1_0 : (Nat → Int32)} {t2_0 : (Nat → Int32)} (hx2 : x2 = 53 ∨ x2 = 24) (hx3 : -1074 ≤ x3.toInt ∧ x3.toInt ≤ 0) (hT : (0 ≤ t0_1.toInt ∧ t0_1.toInt ≤ 4100) ∧ (0 ≤ t0_4.toInt ∧ t0_4.toInt ≤ 1))(hS : trS t0_2 t0_5 t0_6 t0_7 t1_0) : (S_TR_find x2 x3 t0_0 t0_1 t0_2 t0_3 t0_4 t0_5 t0_6 t0_7 t0_8 t0_9 t0_10 t0_11 t0_12 t0_13 t1_0 t2_0) := by
  have e0 : (0 : Int32).toInt = 0 := rfl
  have e1 : (1 : Int32).toInt = 1 := rfl
  have eL0 : (0 : Int64).toInt = 0 := rfl
  unfold S_TR_find
  have s5 := hS.2.1; exact vt_fi hx2 hx3 hT hS _ _ ⟨by decide, by omega⟩ (by decide)
theorem T_TR_sizeRead {x2 : Int32} {x3 : Int32} {t0_0 : Int32} {t0_1 : Int32} {t0_2 : Int32} {t0_3 : Int32} {t0_4 : Int32} {t0_5 : Int32} {t0_6 : Int32} {t0_7 : Int64} {t0_8 : Int32} {t0_9 : Int32} {t0_10 : Int64} {t0_11 : Int64} {t0_12 : Int32} {t0_13 : Int32} {t1_0 : (Nat → Int32)} {t2_0 : (Nat → Int32)} (hx2 : x2 = 53 ∨ x2 = 24) (hx3 : -1074 ≤ x3.toInt ∧ x3.toInt ≤ 0) (hT : (0 ≤ t0_1.toInt ∧ t0_1.toInt ≤ 4100) ∧ (0 ≤ t0_4.toInt ∧ t0_4.toInt ≤ 1))(hS : (2 ≤ t0_2.toInt ∧ t0_2.toInt ≤ 3) ∨ trS t0_2 t0_5 t0_6 t0_7 t1_0) : (S_TR_sizeRead x2 x3 t0_0 t0_1 t0_2 t0_3 t0_4 t0_5 t0_6 t0_7 t0_8 t0_9 t0_10 t0_11 t0_12 t0_13 t1_0 t2_0) := by
  have e0 : (0 : Int32).toInt = 0 := rfl
  have e1 : (1 : Int32).toInt = 1 := rfl
  have eL0 : (0 : Int64).toInt = 0 := rfl
  unfold S_TR_sizeRead
  by_cases g1 : t0_2 ≤ (1 : Int32)
  ·
    rw [if_pos g1]
    have g1i : t0_2.toInt ≤ 1 := q_leI g1
    have h2 := T_TR_find (x2 := x2) (x3 := x3) (t0_0 := t0_0) (t0_1 := t0_1) (t0_2 := t0_2) (t0_3 := t0_3) (t0_4 := t0_4) (t0_5 := t0_5) (t0_6 := t0_6) (t0_7 := t0_7) (t0_8 := t0_8) (t0_9 := t0_9) (t0_10 := t0_10) (t0_11 := t0_11) (t0_12 := t0_12) (t0_13 := t0_13) (t1_0 := t1_0) (t2_0 := t2_0) hx2 hx3 hT (by rcases hS with h | h; (exfalso; omega); exact h)
    with_reducible refine v_oweS h2 ?_
    generalize F_TR_find x2 x3 t0_0 t0_1 t0_2 t0_3 t0_4 t0_5 t0_6 t0_7 t0_8 t0_9 t0_10 t0_11 t0_12 t0_13 t1_0 t2_0 = p69 at *
    unfold S_TR_sizeRead_c49
    by_cases g3 : (p69.2.2.2.2.2.2.2.2.2.2.2.2.2.1 : Int32) = (0 : Int32)
    ·
      rw [if_pos g3]
      by_cases g4 : ((F_TR_goesUp (p69.1 : Int32) (p69.2.1 : Int32) (p69.2.2.1 : Int32) (p69.2.2.2.1 : Int32) (p69.2.2.2.2.1 : Int32) (p69.2.2.2.2.2.1 : Int32) (p69.2.2.2.2.2.2.1 : Int32) (p69.2.2.2.2.2.2.2.1 : Int64) (p69.2.2.2.2.2.2.2.2.1 : Int32) (p69.2.2.2.2.2.2.2.2.2.1 : Int32) (p69.2.2.2.2.2.2.2.2.2.2.1 : Int64) (p69.2.2.2.2.2.2.2.2.2.2.2.1 : Int64) (p69.2.2.2.2.2.2.2.2.2.2.2.2.1 : Int32) (p69.2.2.2.2.2.2.2.2.2.2.2.2.2.1 : Int32)) : Int32) = (0 : Int32)
      ·
        rw [if_pos g4]
        exact trivial
      ·
        rw [if_neg g4]
        exact trivial
    ·
      rw [if_neg g3]
      by_cases g5 : x2 = (53 : Int32)
      ·
        rw [if_pos g5]
        exact trivial
      ·
        rw [if_neg g5]
        exact trivial
  ·
    rw [if_neg g1]
    have g1i : 1 < t0_2.toInt := q_nleI g1
    by_cases g6 : x2 = (53 : Int32)
    ·
      rw [if_pos g6]
      unfold S_TR_sizeRead_J23
      by_cases g7 : t0_2 = (3 : Int32)
      ·
        rw [if_pos g7]
        exact trivial
      ·
        rw [if_neg g7]
        exact trivial
    ·
      rw [if_neg g6]
      unfold S_TR_sizeRead_J23
      by_cases g8 : t0_2 = (3 : Int32)
      ·
        rw [if_pos g8]
        exact trivial
      ·
        rw [if_neg g8]
        exact trivial
theorem T_TR_bits {t0_0 : Int32} {t0_1 : Int32} {t0_2 : Int32} {t0_3 : Int32} {t0_4 : Int32} {t0_5 : Int32} {t0_6 : Int32} {t0_7 : Int64} {t0_8 : Int32} {t0_9 : Int32} {t0_10 : Int64} {t0_11 : Int64} {t0_12 : Int32} {t0_13 : Int32} {t1_0 : (Nat → Int32)} {t2_0 : (Nat → Int32)} {t3_0 : (Nat → Int32)} (ht : trT t1_0) (hl1 : 0 ≤ t0_1.toInt ∧ t0_1.toInt ≤ 4100) : (S_TR_bits t0_0 t0_1 t0_2 t0_3 t0_4 t0_5 t0_6 t0_7 t0_8 t0_9 t0_10 t0_11 t0_12 t0_13 t1_0 t2_0 t3_0) := by
  have e0 : (0 : Int32).toInt = 0 := rfl
  have e1 : (1 : Int32).toInt = 1 := rfl
  have eL0 : (0 : Int64).toInt = 0 := rfl
  unfold S_TR_bits
  have h1 := T_TR_scan (t0_0 := t0_0) (t0_1 := t0_1) (t0_2 := t0_2) (t0_3 := t0_3) (t0_4 := t0_4) (t0_5 := t0_5) (t0_6 := t0_6) (t0_7 := t0_7) (t0_8 := t0_8) (t0_9 := t0_9) (t0_10 := t0_10) (t0_11 := t0_11) (t0_12 := t0_12) (t0_13 := t0_13) (t1_0 := t1_0) (t2_0 := t2_0) ht hl1.2
  with_reducible refine v_oweS h1.1 ?_
  replace h1 := h1.2
  generalize F_TR_scan t0_0 t0_1 t0_2 t0_3 t0_4 t0_5 t0_6 t0_7 t0_8 t0_9 t0_10 t0_11 t0_12 t0_13 t1_0 t2_0 = p73 at *
  unfold Q_TR_scan at h1
  obtain ⟨scb, sc5, sc4, scS⟩ := h1
  unfold S_TR_bits_c2
  by_cases g2 : (p73.1 : Int32) = (0 : Int32)
  ·
    rw [if_pos g2]
    unfold S_TR_bits_J13
    have g3 : ¬ ((1 : Int32) ≤ (0 : Int32)) := (by decide)
    rw [if_neg g3]
    exact trivial
  ·
    rw [if_neg g2]
    have scG := g2
    unfold S_TR_bits_J13
    have g4 : ((0 : Int32) ≤ (0 : Int32)) := (by decide)
    rw [if_pos g4]
    have h5 := T_TR_sizeRead (x2 := (53 : Int32)) (x3 := (-1074 : Int32)) (t0_0 := (0 : Int32)) (t0_1 := (p73.2.2.1 : Int32)) (t0_2 := (p73.2.2.2.1 : Int32)) (t0_3 := (p73.2.2.2.2.1 : Int32)) (t0_4 := (p73.2.2.2.2.2.1 : Int32)) (t0_5 := (p73.2.2.2.2.2.2.1 : Int32)) (t0_6 := (p73.2.2.2.2.2.2.2.1 : Int32)) (t0_7 := (p73.2.2.2.2.2.2.2.2.1 : Int64)) (t0_8 := (p73.2.2.2.2.2.2.2.2.2.1 : Int32)) (t0_9 := (p73.2.2.2.2.2.2.2.2.2.2.1 : Int32)) (t0_10 := (p73.2.2.2.2.2.2.2.2.2.2.2.1 : Int64)) (t0_11 := (p73.2.2.2.2.2.2.2.2.2.2.2.2.1 : Int64)) (t0_12 := (p73.2.2.2.2.2.2.2.2.2.2.2.2.2.1 : Int32)) (t0_13 := (p73.2.2.2.2.2.2.2.2.2.2.2.2.2.2.1 : Int32)) (t1_0 := (p73.2.2.2.2.2.2.2.2.2.2.2.2.2.2.2 : (Nat → Int32))) (t2_0 := t3_0) (by decide) (by decide) ⟨⟨by omega, by omega⟩, ⟨by omega, by omega⟩⟩ (scS scG)
    with_reducible refine v_oweS h5 ?_
    generalize F_TR_sizeRead (53 : Int32) (-1074 : Int32) (0 : Int32) (p73.2.2.1 : Int32) (p73.2.2.2.1 : Int32) (p73.2.2.2.2.1 : Int32) (p73.2.2.2.2.2.1 : Int32) (p73.2.2.2.2.2.2.1 : Int32) (p73.2.2.2.2.2.2.2.1 : Int32) (p73.2.2.2.2.2.2.2.2.1 : Int64) (p73.2.2.2.2.2.2.2.2.2.1 : Int32) (p73.2.2.2.2.2.2.2.2.2.2.1 : Int32) (p73.2.2.2.2.2.2.2.2.2.2.2.1 : Int64) (p73.2.2.2.2.2.2.2.2.2.2.2.2.1 : Int64) (p73.2.2.2.2.2.2.2.2.2.2.2.2.2.1 : Int32) (p73.2.2.2.2.2.2.2.2.2.2.2.2.2.2.1 : Int32) (p73.2.2.2.2.2.2.2.2.2.2.2.2.2.2.2 : (Nat → Int32)) t3_0 = p154 at *
    unfold S_TR_bits_c31
    by_cases g6 : (p154.2.2.2.2.2.1 : Int32) = (0 : Int32)
    ·
      rw [if_pos g6]
      exact trivial
    ·
      rw [if_neg g6]
      by_cases g7 : (3 : Int32) ≤ (p154.2.2.2.1 : Int32)
      ·
        rw [if_pos g7]
        exact trivial
      ·
        rw [if_neg g7]
        exact trivial
theorem T_TR_floatBits {t0_0 : Int32} {t0_1 : Int32} {t0_2 : Int32} {t0_3 : Int32} {t0_4 : Int32} {t0_5 : Int32} {t0_6 : Int32} {t0_7 : Int64} {t0_8 : Int32} {t0_9 : Int32} {t0_10 : Int64} {t0_11 : Int64} {t0_12 : Int32} {t0_13 : Int32} {t1_0 : (Nat → Int32)} {t2_0 : (Nat → Int32)} {t3_0 : (Nat → Int32)} (ht : trT t1_0) (hl1 : 0 ≤ t0_1.toInt ∧ t0_1.toInt ≤ 4100) : (S_TR_floatBits t0_0 t0_1 t0_2 t0_3 t0_4 t0_5 t0_6 t0_7 t0_8 t0_9 t0_10 t0_11 t0_12 t0_13 t1_0 t2_0 t3_0) := by
  have e0 : (0 : Int32).toInt = 0 := rfl
  have e1 : (1 : Int32).toInt = 1 := rfl
  have eL0 : (0 : Int64).toInt = 0 := rfl
  unfold S_TR_floatBits
  have h1 := T_TR_scan (t0_0 := t0_0) (t0_1 := t0_1) (t0_2 := t0_2) (t0_3 := t0_3) (t0_4 := t0_4) (t0_5 := t0_5) (t0_6 := t0_6) (t0_7 := t0_7) (t0_8 := t0_8) (t0_9 := t0_9) (t0_10 := t0_10) (t0_11 := t0_11) (t0_12 := t0_12) (t0_13 := t0_13) (t1_0 := t1_0) (t2_0 := t2_0) ht hl1.2
  with_reducible refine v_oweS h1.1 ?_
  replace h1 := h1.2
  generalize F_TR_scan t0_0 t0_1 t0_2 t0_3 t0_4 t0_5 t0_6 t0_7 t0_8 t0_9 t0_10 t0_11 t0_12 t0_13 t1_0 t2_0 = p73 at *
  unfold Q_TR_scan at h1
  obtain ⟨scb, sc5, sc4, scS⟩ := h1
  unfold S_TR_floatBits_c2
  by_cases g2 : (p73.1 : Int32) = (0 : Int32)
  ·
    rw [if_pos g2]
    unfold S_TR_floatBits_J13
    have g3 : ¬ ((1 : Int32) ≤ (0 : Int32)) := (by decide)
    rw [if_neg g3]
    exact trivial
  ·
    rw [if_neg g2]
    have scG := g2
    unfold S_TR_floatBits_J13
    have g4 : ((0 : Int32) ≤ (0 : Int32)) := (by decide)
    rw [if_pos g4]
    have h5 := T_TR_sizeRead (x2 := (24 : Int32)) (x3 := (-149 : Int32)) (t0_0 := (0 : Int32)) (t0_1 := (p73.2.2.1 : Int32)) (t0_2 := (p73.2.2.2.1 : Int32)) (t0_3 := (p73.2.2.2.2.1 : Int32)) (t0_4 := (p73.2.2.2.2.2.1 : Int32)) (t0_5 := (p73.2.2.2.2.2.2.1 : Int32)) (t0_6 := (p73.2.2.2.2.2.2.2.1 : Int32)) (t0_7 := (p73.2.2.2.2.2.2.2.2.1 : Int64)) (t0_8 := (p73.2.2.2.2.2.2.2.2.2.1 : Int32)) (t0_9 := (p73.2.2.2.2.2.2.2.2.2.2.1 : Int32)) (t0_10 := (p73.2.2.2.2.2.2.2.2.2.2.2.1 : Int64)) (t0_11 := (p73.2.2.2.2.2.2.2.2.2.2.2.2.1 : Int64)) (t0_12 := (p73.2.2.2.2.2.2.2.2.2.2.2.2.2.1 : Int32)) (t0_13 := (p73.2.2.2.2.2.2.2.2.2.2.2.2.2.2.1 : Int32)) (t1_0 := (p73.2.2.2.2.2.2.2.2.2.2.2.2.2.2.2 : (Nat → Int32))) (t2_0 := t3_0) (by decide) (by decide) ⟨⟨by omega, by omega⟩, ⟨by omega, by omega⟩⟩ (scS scG)
    with_reducible refine v_oweS h5 ?_
    generalize F_TR_sizeRead (24 : Int32) (-149 : Int32) (0 : Int32) (p73.2.2.1 : Int32) (p73.2.2.2.1 : Int32) (p73.2.2.2.2.1 : Int32) (p73.2.2.2.2.2.1 : Int32) (p73.2.2.2.2.2.2.1 : Int32) (p73.2.2.2.2.2.2.2.1 : Int32) (p73.2.2.2.2.2.2.2.2.1 : Int64) (p73.2.2.2.2.2.2.2.2.2.1 : Int32) (p73.2.2.2.2.2.2.2.2.2.2.1 : Int32) (p73.2.2.2.2.2.2.2.2.2.2.2.1 : Int64) (p73.2.2.2.2.2.2.2.2.2.2.2.2.1 : Int64) (p73.2.2.2.2.2.2.2.2.2.2.2.2.2.1 : Int32) (p73.2.2.2.2.2.2.2.2.2.2.2.2.2.2.1 : Int32) (p73.2.2.2.2.2.2.2.2.2.2.2.2.2.2.2 : (Nat → Int32)) t3_0 = p154 at *
    unfold S_TR_floatBits_c31
    by_cases g6 : (p154.2.2.2.2.2.1 : Int32) = (0 : Int32)
    ·
      rw [if_pos g6]
      exact trivial
    ·
      rw [if_neg g6]
      by_cases g7 : (3 : Int32) ≤ (p154.2.2.2.1 : Int32)
      ·
        rw [if_pos g7]
        exact trivial
      ·
        rw [if_neg g7]
        exact trivial

