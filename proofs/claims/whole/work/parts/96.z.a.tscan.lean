/-! TextRows: here, spells, digits, power, number, blanks, scan -/
theorem T_TR_here {t0_0 : Int32} {t0_1 : Int32} {t0_2 : Int32} {t0_3 : Int32} {t0_4 : Int32} {t0_5 : Int32} {t0_6 : Int32} {t0_7 : Int64} {t0_8 : Int32} {t0_9 : Int32} {t0_10 : Int64} {t0_11 : Int64} {t0_12 : Int32} {t0_13 : Int32} {t1_0 : (Nat → Int32)} (h3 : 0 ≤ t0_3.toInt) : (S_TR_here t0_0 t0_1 t0_2 t0_3 t0_4 t0_5 t0_6 t0_7 t0_8 t0_9 t0_10 t0_11 t0_12 t0_13 t1_0) := by
  have e0 : (0 : Int32).toInt = 0 := rfl
  have e1 : (1 : Int32).toInt = 1 := rfl
  have eL0 : (0 : Int64).toInt = 0 := rfl
  unfold S_TR_here
  by_cases g1 : t0_1 ≤ t0_3
  ·
    rw [if_pos g1]
    have g1i : t0_1.toInt ≤ t0_3.toInt := q_leI g1
    exact trivial
  ·
    rw [if_neg g1]
    have g1i : t0_3.toInt < t0_1.toInt := q_nleI g1
    refine And.intro (by first | omega | decide) ?_
    exact trivial
theorem T_TR_isAt {x2 : Int32} {x3 : Int32} {t0_0 : Int32} {t0_1 : Int32} {t0_2 : Int32} {t0_3 : Int32} {t0_4 : Int32} {t0_5 : Int32} {t0_6 : Int32} {t0_7 : Int64} {t0_8 : Int32} {t0_9 : Int32} {t0_10 : Int64} {t0_11 : Int64} {t0_12 : Int32} {t0_13 : Int32} {t1_0 : (Nat → Int32)} (h3 : 0 ≤ t0_3.toInt) : (S_TR_isAt x2 x3 t0_0 t0_1 t0_2 t0_3 t0_4 t0_5 t0_6 t0_7 t0_8 t0_9 t0_10 t0_11 t0_12 t0_13 t1_0) := by
  have e0 : (0 : Int32).toInt = 0 := rfl
  have e1 : (1 : Int32).toInt = 1 := rfl
  have eL0 : (0 : Int64).toInt = 0 := rfl
  unfold S_TR_isAt
  have h1 := T_TR_here (t0_0 := t0_0) (t0_1 := t0_1) (t0_2 := t0_2) (t0_3 := t0_3) (t0_4 := t0_4) (t0_5 := t0_5) (t0_6 := t0_6) (t0_7 := t0_7) (t0_8 := t0_8) (t0_9 := t0_9) (t0_10 := t0_10) (t0_11 := t0_11) (t0_12 := t0_12) (t0_13 := t0_13) (t1_0 := t1_0) (by first | omega | decide)
  with_reducible refine v_oweS h1 ?_
  by_cases g2 : ((F_TR_here t0_0 t0_1 t0_2 t0_3 t0_4 t0_5 t0_6 t0_7 t0_8 t0_9 t0_10 t0_11 t0_12 t0_13 t1_0) : Int32) = x2
  ·
    rw [if_pos g2]
    exact trivial
  ·
    rw [if_neg g2]
    with_reducible refine v_oweS h1 ?_
    by_cases g3 : ((F_TR_here t0_0 t0_1 t0_2 t0_3 t0_4 t0_5 t0_6 t0_7 t0_8 t0_9 t0_10 t0_11 t0_12 t0_13 t1_0) : Int32) = x3
    ·
      rw [if_pos g3]
      exact trivial
    ·
      rw [if_neg g3]
      exact trivial
theorem tr_h {t0_0 t0_1 t0_2 t0_3 t0_4 t0_5 t0_6 : Int32} {t0_7 : Int64} {t0_8 t0_9 : Int32} {t0_10 t0_11 : Int64} {t0_12 t0_13 : Int32} {t1_0 : Nat → Int32} {c : Int32} (g : F_TR_here t0_0 t0_1 t0_2 t0_3 t0_4 t0_5 t0_6 t0_7 t0_8 t0_9 t0_10 t0_11 t0_12 t0_13 t1_0 = c) (hc : c ≠ 0) : t0_3.toInt < t0_1.toInt := by
  unfold F_TR_here at g
  by_cases y : t0_1 ≤ t0_3
  · rw [if_pos y] at g; exact absurd g.symm hc
  · exact q_nleI y
theorem tr_dg {x : Int32} (g : ¬ F_TR_isDigit x = 0) : 48 ≤ x.toInt ∧ x.toInt ≤ 57 := by
  unfold F_TR_isDigit at g
  have e1 : (48 : Int32).toInt = 48 := rfl
  have e2 : (57 : Int32).toInt = 57 := rfl
  by_cases y : x < 48
  · rw [if_pos y] at g; exact absurd rfl g
  · rw [if_neg y] at g
    by_cases z : (57 : Int32) < x
    · rw [if_pos z] at g; exact absurd rfl g
    · have a := q_nltI y
      have b := q_nltI z
      omega
theorem tr_d {t0_0 t0_1 t0_2 t0_3 t0_4 t0_5 t0_6 : Int32} {t0_7 : Int64} {t0_8 t0_9 : Int32} {t0_10 t0_11 : Int64} {t0_12 t0_13 : Int32} {t1_0 : Nat → Int32} (g : ¬ F_TR_isDigit (F_TR_here t0_0 t0_1 t0_2 t0_3 t0_4 t0_5 t0_6 t0_7 t0_8 t0_9 t0_10 t0_11 t0_12 t0_13 t1_0) = 0) : t0_3.toInt < t0_1.toInt ∧ 48 ≤ (F_TR_here t0_0 t0_1 t0_2 t0_3 t0_4 t0_5 t0_6 t0_7 t0_8 t0_9 t0_10 t0_11 t0_12 t0_13 t1_0).toInt ∧ (F_TR_here t0_0 t0_1 t0_2 t0_3 t0_4 t0_5 t0_6 t0_7 t0_8 t0_9 t0_10 t0_11 t0_12 t0_13 t1_0).toInt ≤ 57 := by
  have a := tr_dg g
  exact ⟨tr_h rfl (fun h => by rw [h] at a; have e : (0 : Int32).toInt = 0 := rfl; omega), a⟩
theorem tr_a {t0_0 t0_1 t0_2 t0_3 t0_4 t0_5 t0_6 : Int32} {t0_7 : Int64} {t0_8 t0_9 : Int32} {t0_10 t0_11 : Int64} {t0_12 t0_13 : Int32} {t1_0 : Nat → Int32} {x y : Int32} (g : ¬ F_TR_isAt x y t0_0 t0_1 t0_2 t0_3 t0_4 t0_5 t0_6 t0_7 t0_8 t0_9 t0_10 t0_11 t0_12 t0_13 t1_0 = 0) (hx : x ≠ 0) (hy : y ≠ 0) : t0_3.toInt < t0_1.toInt := by
  unfold F_TR_isAt at g
  by_cases c : F_TR_here t0_0 t0_1 t0_2 t0_3 t0_4 t0_5 t0_6 t0_7 t0_8 t0_9 t0_10 t0_11 t0_12 t0_13 t1_0 = x
  · exact tr_h c hx
  · rw [if_neg c] at g
    by_cases d : F_TR_here t0_0 t0_1 t0_2 t0_3 t0_4 t0_5 t0_6 t0_7 t0_8 t0_9 t0_10 t0_11 t0_12 t0_13 t1_0 = y
    · exact tr_h d hy
    · rw [if_neg d] at g; exact absurd rfl g
theorem tr_hx {x : Int32} : (-1 ≤ (F_TR_hex x).toInt ∧ (F_TR_hex x).toInt ≤ 15) ∧ (0 ≤ (F_TR_hex x).toInt → x.toInt ≠ 0) := by
  have e48 : (48 : Int32).toInt = 48 := rfl
  have e97 : (97 : Int32).toInt = 97 := rfl
  have e102 : (102 : Int32).toInt = 102 := rfl
  have e65 : (65 : Int32).toInt = 65 := rfl
  have e70 : (70 : Int32).toInt = 70 := rfl
  have em : (-1 : Int32).toInt = -1 := rfl
  have J : (-1 ≤ (F_TR_hex_J36 x).toInt ∧ (F_TR_hex_J36 x).toInt ≤ 15) ∧ (0 ≤ (F_TR_hex_J36 x).toInt → x.toInt ≠ 0) := by
    unfold F_TR_hex_J36
    by_cases c : x < 65
    · rw [if_pos c]; exact ⟨by decide, fun h => absurd h (by decide)⟩
    · rw [if_neg c]
      by_cases d : (70 : Int32) < x
      · rw [if_pos d]; exact ⟨by decide, fun h => absurd h (by decide)⟩
      · rw [if_neg d]
        have a := q_nltI c
        have b := q_nltI d
        have e : ((x - 65 : Int32) + 10 : Int32).toInt = (x.toInt - 65) + 10 := q_addI (y := 10) (q_subI (y := 65) rfl (by decide) (by omega) (by omega)) (by decide) (by omega) (by omega)
        rw [e]; exact ⟨by omega, fun _ => by omega⟩
  unfold F_TR_hex
  by_cases c : F_TR_isDigit x = 0
  · rw [if_pos c]
    by_cases d : x < 97
    · rw [if_pos d]; exact J
    · rw [if_neg d]
      by_cases f : (102 : Int32) < x
      · rw [if_pos f]; exact J
      · rw [if_neg f]
        have a := q_nltI d
        have b := q_nltI f
        have e : ((x - 97 : Int32) + 10 : Int32).toInt = (x.toInt - 97) + 10 := q_addI (y := 10) (q_subI (y := 97) rfl (by decide) (by omega) (by omega)) (by decide) (by omega) (by omega)
        rw [e]; exact ⟨by omega, fun _ => by omega⟩
  · rw [if_neg c]
    have a := tr_dg c
    have e : (x - 48 : Int32).toInt = x.toInt - 48 := q_subI (y := 48) rfl (by decide) (by omega) (by omega)
    rw [e]; exact ⟨by omega, fun _ => by omega⟩
/-- the text's characters -/
def trT (_ : Nat → Int32) : Prop := True
/-- the figures that were read -/
def trF (k many : Int32) (f : Nat → Int32) : Prop := ∀ i : Nat, (i : Int) < many.toInt → (0 ≤ (f i).toInt ∧ (f i).toInt ≤ 15) ∧ (k.toInt = 0 → (f i).toInt ≤ 9)
theorem trF.put {k m m1 v : Int32} {f : Nat → Int32} (h : trF k m f) (h0 : 0 ≤ m.toInt) (e : m1.toInt = m.toInt + 1) (hv : (0 ≤ v.toInt ∧ v.toInt ≤ 15) ∧ (k.toInt = 0 → v.toInt ≤ 9)) : trF k m1 (upd f m.toNatClampNeg v) := fun i hi => by
  have c := q_clI (i := m) rfl h0
  by_cases d : i = m.toNatClampNeg
  · rw [d, v_eq]; exact hv
  · rw [v_ne d]; exact h i (by omega)
theorem tr_sub48 {x : Int32} (h : 48 ≤ x.toInt ∧ x.toInt ≤ 57) : (x - 48 : Int32).toInt = x.toInt - 48 := q_subI (y := 48) rfl (by decide) (by omega) (by omega)
def Q_TR_digits (x2 t0_0 t0_1 t0_2 t0_4 : Int32) (t0_7 : Int64) (p : Int32 × Int32 × Int32 × Int32 × Int32 × Int32 × Int32 × Int32 × Int64 × Int32 × Int32 × Int64 × Int64 × Int32 × Int32 × (Nat → Int32)) : Prop := p.2.1 = t0_0 ∧ p.2.2.1 = t0_1 ∧ p.2.2.2.1 = t0_2 ∧ p.2.2.2.2.2.1 = t0_4 ∧ p.2.2.2.2.2.2.2.2.1 = t0_7 ∧ (0 ≤ p.2.2.2.2.1.toInt ∧ p.2.2.2.2.1.toInt ≤ 4110) ∧ (0 ≤ p.2.2.2.2.2.2.1.toInt ∧ p.2.2.2.2.2.2.1.toInt ≤ 4100) ∧ (0 ≤ p.2.2.2.2.2.2.2.1.toInt ∧ p.2.2.2.2.2.2.2.1.toInt ≤ p.2.2.2.2.2.2.1.toInt) ∧ trF x2 p.2.2.2.2.2.2.1 p.2.2.2.2.2.2.2.2.2.2.2.2.2.2.2 ∧ (p.1 ≠ 0 → 1 ≤ p.2.2.2.2.2.2.1.toInt)
theorem vt_dg {x2 : Int32} {t0_0 : Int32} {t0_1 : Int32} {t0_2 : Int32} {t0_3 : Int32} {t0_4 : Int32} {t0_5 : Int32} {t0_6 : Int32} {t0_7 : Int64} {t0_8 : Int32} {t0_9 : Int32} {t0_10 : Int64} {t0_11 : Int64} {t0_12 : Int32} {t0_13 : Int32} {t1_0 : (Nat → Int32)} {t2_0 : (Nat → Int32)} (ht : trT t1_0) (hl1 : t0_1.toInt ≤ 4100) : ∀ (n : Nat) (lx29 : Int32) (lx30 : Int32) (lx31 : Int32) (lx32 : (Nat → Int32)), (0 ≤ lx29.toInt ∧ lx29.toInt ≤ 4110) → (0 ≤ lx31.toInt ∧ lx31.toInt ≤ lx29.toInt ∧ lx31.toInt ≤ 4100) → (-1 ≤ lx30.toInt ∧ lx30.toInt ≤ lx31.toInt) → (4111 - lx29.toInt < (n : Int)) → (trF x2 lx31 lx32) → (S_TR_digits_L10 x2 t0_0 t0_1 t0_2 t0_3 t0_4 t0_5 t0_6 t0_7 t0_8 t0_9 t0_10 t0_11 t0_12 t0_13 t1_0 t2_0 n lx29 lx30 lx31 lx32) ∧ Q_TR_digits x2 t0_0 t0_1 t0_2 t0_4 t0_7 (F_TR_digits_L10 x2 t0_0 t0_1 t0_2 t0_3 t0_4 t0_5 t0_6 t0_7 t0_8 t0_9 t0_10 t0_11 t0_12 t0_13 t1_0 t2_0 n lx29 lx30 lx31 lx32) := by
  intro n
  induction n with
  | zero => intro lx29 lx30 lx31 lx32 h0 h2 h3 hm ho; exact absurd (show False by omega) id
  | succ n ih =>
    intro lx29 lx30 lx31 lx32 h0 h2 h3 hm ho
    have e0 : (0 : Int32).toInt = 0 := rfl
    have e1 : (1 : Int32).toInt = 1 := rfl
    have eL0 : (0 : Int64).toInt = 0 := rfl
    have em : (-1 : Int32).toInt = -1 := rfl
    rw [S_TR_digits_L10.eq_2, F_TR_digits_L10.eq_2]
    by_cases g1 : x2 = (0 : Int32)
    ·
      rw [if_pos g1, if_pos g1]
      have g1i := q_eqI g1
      have h2 := T_TR_here (t0_0 := t0_0) (t0_1 := t0_1) (t0_2 := t0_2) (t0_3 := lx29) (t0_4 := t0_4) (t0_5 := lx31) (t0_6 := lx30) (t0_7 := t0_7) (t0_8 := t0_8) (t0_9 := t0_9) (t0_10 := t0_10) (t0_11 := t0_11) (t0_12 := t0_12) (t0_13 := t0_13) (t1_0 := t1_0) (by first | omega | decide)
      with_reducible refine v_owe h2 ?_
      by_cases g3 : ((F_TR_isDigit ((F_TR_here t0_0 t0_1 t0_2 lx29 t0_4 lx31 lx30 t0_7 t0_8 t0_9 t0_10 t0_11 t0_12 t0_13 t1_0) : Int32)) : Int32) = (0 : Int32)
      ·
        rw [if_pos g3, if_pos g3]
        obtain ⟨lx47, e4⟩ := q_nm ((-1) : Int32)
        rw [e4]
        have lx47q : (lx47.toInt ≤ 15 ∧ (x2.toInt = 0 → lx47.toInt ≤ 9)) ∧ (0 ≤ lx47.toInt → lx29.toInt < t0_1.toInt) := by rw [← e4]; exact ⟨⟨by decide, fun _ => by decide⟩, fun h => absurd h (by decide)⟩
        unfold S_TR_digits_J45 F_TR_digits_J45
        by_cases g5 : lx47 < (0 : Int32)
        ·
          rw [if_pos g5, if_pos g5]
          have g5i : lx47.toInt < 0 := q_ltI g5
          with_reducible refine v_owe h2 ?_
          by_cases g6 : ((F_TR_here t0_0 t0_1 t0_2 lx29 t0_4 lx31 lx30 t0_7 t0_8 t0_9 t0_10 t0_11 t0_12 t0_13 t1_0) : Int32) = (46 : Int32)
          ·
            rw [if_pos g6, if_pos g6]
            have g6i := tr_h g6 (by decide)
            by_cases g7 : (0 : Int32) ≤ lx30
            ·
              rw [if_pos g7, if_pos g7]
              have g7i : 0 ≤ lx30.toInt := q_leI g7
              unfold S_TR_digits_J100 F_TR_digits_J100
              rw [if_pos g7, if_pos g7]
              by_cases g8 : lx31 ≤ (0 : Int32)
              ·
                rw [if_pos g8, if_pos g8]
                have g8i : lx31.toInt ≤ 0 := q_leI g8
                refine ⟨trivial, ?_⟩
                (unfold Q_TR_digits; dsimp only; exact ⟨rfl, rfl, rfl, rfl, rfl, ⟨by omega, by omega⟩, ⟨by omega, by omega⟩, ⟨by omega, by omega⟩, ho, fun h => by first | omega | exact absurd rfl h⟩)
              ·
                rw [if_neg g8, if_neg g8]
                have g8i : 0 < lx31.toInt := q_nleI g8
                refine ⟨trivial, ?_⟩
                (unfold Q_TR_digits; dsimp only; exact ⟨rfl, rfl, rfl, rfl, rfl, ⟨by omega, by omega⟩, ⟨by omega, by omega⟩, ⟨by omega, by omega⟩, ho, fun h => by first | omega | exact absurd rfl h⟩)
            ·
              rw [if_neg g7, if_neg g7]
              have g7i : lx30.toInt < 0 := q_nleI g7
              obtain ⟨a9, e10⟩ := q_nm (lx29 + 1 : Int32)
              rw [e10]
              have a9i : a9.toInt = lx29.toInt + 1 := by rw [← e10]; exact q_addI (x := lx29.toInt) (y := 1) rfl (by decide) (by omega) (by omega)
              exact ih _ _ _ _ ⟨by omega, by omega⟩ ⟨by omega, by omega, by omega⟩ ⟨by omega, by omega⟩ (by omega) ho
          ·
            rw [if_neg g6, if_neg g6]
            unfold S_TR_digits_J100 F_TR_digits_J100
            by_cases g11 : (0 : Int32) ≤ lx30
            ·
              rw [if_pos g11, if_pos g11]
              have g11i : 0 ≤ lx30.toInt := q_leI g11
              by_cases g12 : lx31 ≤ (0 : Int32)
              ·
                rw [if_pos g12, if_pos g12]
                have g12i : lx31.toInt ≤ 0 := q_leI g12
                refine ⟨trivial, ?_⟩
                (unfold Q_TR_digits; dsimp only; exact ⟨rfl, rfl, rfl, rfl, rfl, ⟨by omega, by omega⟩, ⟨by omega, by omega⟩, ⟨by omega, by omega⟩, ho, fun h => by first | omega | exact absurd rfl h⟩)
              ·
                rw [if_neg g12, if_neg g12]
                have g12i : 0 < lx31.toInt := q_nleI g12
                refine ⟨trivial, ?_⟩
                (unfold Q_TR_digits; dsimp only; exact ⟨rfl, rfl, rfl, rfl, rfl, ⟨by omega, by omega⟩, ⟨by omega, by omega⟩, ⟨by omega, by omega⟩, ho, fun h => by first | omega | exact absurd rfl h⟩)
            ·
              rw [if_neg g11, if_neg g11]
              have g11i : lx30.toInt < 0 := q_nleI g11
              by_cases g13 : lx31 ≤ (0 : Int32)
              ·
                rw [if_pos g13, if_pos g13]
                have g13i : lx31.toInt ≤ 0 := q_leI g13
                refine ⟨trivial, ?_⟩
                (unfold Q_TR_digits; dsimp only; exact ⟨rfl, rfl, rfl, rfl, rfl, ⟨by omega, by omega⟩, ⟨by omega, by omega⟩, ⟨by omega, by omega⟩, ho, fun h => by first | omega | exact absurd rfl h⟩)
              ·
                rw [if_neg g13, if_neg g13]
                have g13i : 0 < lx31.toInt := q_nleI g13
                refine ⟨trivial, ?_⟩
                (unfold Q_TR_digits; dsimp only; exact ⟨rfl, rfl, rfl, rfl, rfl, ⟨by omega, by omega⟩, ⟨by omega, by omega⟩, ⟨by omega, by omega⟩, ho, fun h => by first | omega | exact absurd rfl h⟩)
        ·
          rw [if_neg g5, if_neg g5]
          have g5i : 0 ≤ lx47.toInt := q_nltI g5
          refine v_cons (by have pl := lx47q.2 (by omega); omega) ?_
          obtain ⟨a14, e15⟩ := q_nm (lx29 + 1 : Int32)
          rw [e15]
          have a14i : a14.toInt = lx29.toInt + 1 := by rw [← e15]; exact q_addI (x := lx29.toInt) (y := 1) rfl (by decide) (by omega) (by omega)
          obtain ⟨a16, e17⟩ := q_nm (lx31 + 1 : Int32)
          rw [e17]
          have a16i : a16.toInt = lx31.toInt + 1 := by rw [← e17]; exact q_addI (x := lx31.toInt) (y := 1) rfl (by decide) (by omega) (by omega)
          have pl := lx47q.2 (by omega); exact ih _ _ _ _ ⟨by omega, by omega⟩ ⟨by omega, by omega, by omega⟩ ⟨by omega, by omega⟩ (by omega) (trF.put ho (by omega) (by omega) ⟨⟨by omega, lx47q.1.1⟩, lx47q.1.2⟩)
      ·
        rw [if_neg g3, if_neg g3]
        have dgi := tr_d g3
        with_reducible refine v_owe h2 ?_
        obtain ⟨lx47, e18⟩ := q_nm ((((F_TR_here t0_0 t0_1 t0_2 lx29 t0_4 lx31 lx30 t0_7 t0_8 t0_9 t0_10 t0_11 t0_12 t0_13 t1_0) : Int32) - 48 : Int32) : Int32)
        rw [e18]
        have lx47q : (lx47.toInt ≤ 15 ∧ (x2.toInt = 0 → lx47.toInt ≤ 9)) ∧ (0 ≤ lx47.toInt → lx29.toInt < t0_1.toInt) := by rw [← e18, tr_sub48 dgi.2]; exact ⟨⟨by omega, fun _ => by omega⟩, fun _ => dgi.1⟩
        unfold S_TR_digits_J45 F_TR_digits_J45
        by_cases g19 : lx47 < (0 : Int32)
        ·
          rw [if_pos g19, if_pos g19]
          have g19i : lx47.toInt < 0 := q_ltI g19
          with_reducible refine v_owe h2 ?_
          by_cases g20 : ((F_TR_here t0_0 t0_1 t0_2 lx29 t0_4 lx31 lx30 t0_7 t0_8 t0_9 t0_10 t0_11 t0_12 t0_13 t1_0) : Int32) = (46 : Int32)
          ·
            rw [if_pos g20, if_pos g20]
            have g20i := tr_h g20 (by decide)
            by_cases g21 : (0 : Int32) ≤ lx30
            ·
              rw [if_pos g21, if_pos g21]
              have g21i : 0 ≤ lx30.toInt := q_leI g21
              unfold S_TR_digits_J100 F_TR_digits_J100
              rw [if_pos g21, if_pos g21]
              by_cases g22 : lx31 ≤ (0 : Int32)
              ·
                rw [if_pos g22, if_pos g22]
                have g22i : lx31.toInt ≤ 0 := q_leI g22
                refine ⟨trivial, ?_⟩
                (unfold Q_TR_digits; dsimp only; exact ⟨rfl, rfl, rfl, rfl, rfl, ⟨by omega, by omega⟩, ⟨by omega, by omega⟩, ⟨by omega, by omega⟩, ho, fun h => by first | omega | exact absurd rfl h⟩)
              ·
                rw [if_neg g22, if_neg g22]
                have g22i : 0 < lx31.toInt := q_nleI g22
                refine ⟨trivial, ?_⟩
                (unfold Q_TR_digits; dsimp only; exact ⟨rfl, rfl, rfl, rfl, rfl, ⟨by omega, by omega⟩, ⟨by omega, by omega⟩, ⟨by omega, by omega⟩, ho, fun h => by first | omega | exact absurd rfl h⟩)
            ·
              rw [if_neg g21, if_neg g21]
              have g21i : lx30.toInt < 0 := q_nleI g21
              obtain ⟨a23, e24⟩ := q_nm (lx29 + 1 : Int32)
              rw [e24]
              have a23i : a23.toInt = lx29.toInt + 1 := by rw [← e24]; exact q_addI (x := lx29.toInt) (y := 1) rfl (by decide) (by omega) (by omega)
              exact ih _ _ _ _ ⟨by omega, by omega⟩ ⟨by omega, by omega, by omega⟩ ⟨by omega, by omega⟩ (by omega) ho
          ·
            rw [if_neg g20, if_neg g20]
            unfold S_TR_digits_J100 F_TR_digits_J100
            by_cases g25 : (0 : Int32) ≤ lx30
            ·
              rw [if_pos g25, if_pos g25]
              have g25i : 0 ≤ lx30.toInt := q_leI g25
              by_cases g26 : lx31 ≤ (0 : Int32)
              ·
                rw [if_pos g26, if_pos g26]
                have g26i : lx31.toInt ≤ 0 := q_leI g26
                refine ⟨trivial, ?_⟩
                (unfold Q_TR_digits; dsimp only; exact ⟨rfl, rfl, rfl, rfl, rfl, ⟨by omega, by omega⟩, ⟨by omega, by omega⟩, ⟨by omega, by omega⟩, ho, fun h => by first | omega | exact absurd rfl h⟩)
              ·
                rw [if_neg g26, if_neg g26]
                have g26i : 0 < lx31.toInt := q_nleI g26
                refine ⟨trivial, ?_⟩
                (unfold Q_TR_digits; dsimp only; exact ⟨rfl, rfl, rfl, rfl, rfl, ⟨by omega, by omega⟩, ⟨by omega, by omega⟩, ⟨by omega, by omega⟩, ho, fun h => by first | omega | exact absurd rfl h⟩)
            ·
              rw [if_neg g25, if_neg g25]
              have g25i : lx30.toInt < 0 := q_nleI g25
              by_cases g27 : lx31 ≤ (0 : Int32)
              ·
                rw [if_pos g27, if_pos g27]
                have g27i : lx31.toInt ≤ 0 := q_leI g27
                refine ⟨trivial, ?_⟩
                (unfold Q_TR_digits; dsimp only; exact ⟨rfl, rfl, rfl, rfl, rfl, ⟨by omega, by omega⟩, ⟨by omega, by omega⟩, ⟨by omega, by omega⟩, ho, fun h => by first | omega | exact absurd rfl h⟩)
              ·
                rw [if_neg g27, if_neg g27]
                have g27i : 0 < lx31.toInt := q_nleI g27
                refine ⟨trivial, ?_⟩
                (unfold Q_TR_digits; dsimp only; exact ⟨rfl, rfl, rfl, rfl, rfl, ⟨by omega, by omega⟩, ⟨by omega, by omega⟩, ⟨by omega, by omega⟩, ho, fun h => by first | omega | exact absurd rfl h⟩)
        ·
          rw [if_neg g19, if_neg g19]
          have g19i : 0 ≤ lx47.toInt := q_nltI g19
          refine v_cons (by have pl := lx47q.2 (by omega); omega) ?_
          obtain ⟨a28, e29⟩ := q_nm (lx29 + 1 : Int32)
          rw [e29]
          have a28i : a28.toInt = lx29.toInt + 1 := by rw [← e29]; exact q_addI (x := lx29.toInt) (y := 1) rfl (by decide) (by omega) (by omega)
          obtain ⟨a30, e31⟩ := q_nm (lx31 + 1 : Int32)
          rw [e31]
          have a30i : a30.toInt = lx31.toInt + 1 := by rw [← e31]; exact q_addI (x := lx31.toInt) (y := 1) rfl (by decide) (by omega) (by omega)
          have pl := lx47q.2 (by omega); exact ih _ _ _ _ ⟨by omega, by omega⟩ ⟨by omega, by omega, by omega⟩ ⟨by omega, by omega⟩ (by omega) (trF.put ho (by omega) (by omega) ⟨⟨by omega, lx47q.1.1⟩, lx47q.1.2⟩)
    ·
      rw [if_neg g1, if_neg g1]
      have g1i := q_neI g1
      have h32 := T_TR_here (t0_0 := t0_0) (t0_1 := t0_1) (t0_2 := t0_2) (t0_3 := lx29) (t0_4 := t0_4) (t0_5 := lx31) (t0_6 := lx30) (t0_7 := t0_7) (t0_8 := t0_8) (t0_9 := t0_9) (t0_10 := t0_10) (t0_11 := t0_11) (t0_12 := t0_12) (t0_13 := t0_13) (t1_0 := t1_0) (by first | omega | decide)
      with_reducible refine v_owe h32 ?_
      obtain ⟨lx47, e33⟩ := q_nm (((F_TR_hex ((F_TR_here t0_0 t0_1 t0_2 lx29 t0_4 lx31 lx30 t0_7 t0_8 t0_9 t0_10 t0_11 t0_12 t0_13 t1_0) : Int32)) : Int32) : Int32)
      rw [e33]
      have lx47h := tr_hx (x := (F_TR_here t0_0 t0_1 t0_2 lx29 t0_4 lx31 lx30 t0_7 t0_8 t0_9 t0_10 t0_11 t0_12 t0_13 t1_0))
      rw [e33] at lx47h
      have lx47q : (lx47.toInt ≤ 15 ∧ (x2.toInt = 0 → lx47.toInt ≤ 9)) ∧ (0 ≤ lx47.toInt → lx29.toInt < t0_1.toInt) := ⟨⟨lx47h.1.2, fun h => by omega⟩, fun h => tr_h rfl (fun e => lx47h.2 h (by rw [e]; rfl))⟩
      unfold S_TR_digits_J45 F_TR_digits_J45
      by_cases g34 : lx47 < (0 : Int32)
      ·
        rw [if_pos g34, if_pos g34]
        have g34i : lx47.toInt < 0 := q_ltI g34
        with_reducible refine v_owe h32 ?_
        by_cases g35 : ((F_TR_here t0_0 t0_1 t0_2 lx29 t0_4 lx31 lx30 t0_7 t0_8 t0_9 t0_10 t0_11 t0_12 t0_13 t1_0) : Int32) = (46 : Int32)
        ·
          rw [if_pos g35, if_pos g35]
          have g35i := tr_h g35 (by decide)
          by_cases g36 : (0 : Int32) ≤ lx30
          ·
            rw [if_pos g36, if_pos g36]
            have g36i : 0 ≤ lx30.toInt := q_leI g36
            unfold S_TR_digits_J100 F_TR_digits_J100
            rw [if_pos g36, if_pos g36]
            by_cases g37 : lx31 ≤ (0 : Int32)
            ·
              rw [if_pos g37, if_pos g37]
              have g37i : lx31.toInt ≤ 0 := q_leI g37
              refine ⟨trivial, ?_⟩
              (unfold Q_TR_digits; dsimp only; exact ⟨rfl, rfl, rfl, rfl, rfl, ⟨by omega, by omega⟩, ⟨by omega, by omega⟩, ⟨by omega, by omega⟩, ho, fun h => by first | omega | exact absurd rfl h⟩)
            ·
              rw [if_neg g37, if_neg g37]
              have g37i : 0 < lx31.toInt := q_nleI g37
              refine ⟨trivial, ?_⟩
              (unfold Q_TR_digits; dsimp only; exact ⟨rfl, rfl, rfl, rfl, rfl, ⟨by omega, by omega⟩, ⟨by omega, by omega⟩, ⟨by omega, by omega⟩, ho, fun h => by first | omega | exact absurd rfl h⟩)
          ·
            rw [if_neg g36, if_neg g36]
            have g36i : lx30.toInt < 0 := q_nleI g36
            obtain ⟨a38, e39⟩ := q_nm (lx29 + 1 : Int32)
            rw [e39]
            have a38i : a38.toInt = lx29.toInt + 1 := by rw [← e39]; exact q_addI (x := lx29.toInt) (y := 1) rfl (by decide) (by omega) (by omega)
            exact ih _ _ _ _ ⟨by omega, by omega⟩ ⟨by omega, by omega, by omega⟩ ⟨by omega, by omega⟩ (by omega) ho
        ·
          rw [if_neg g35, if_neg g35]
          unfold S_TR_digits_J100 F_TR_digits_J100
          by_cases g40 : (0 : Int32) ≤ lx30
          ·
            rw [if_pos g40, if_pos g40]
            have g40i : 0 ≤ lx30.toInt := q_leI g40
            by_cases g41 : lx31 ≤ (0 : Int32)
            ·
              rw [if_pos g41, if_pos g41]
              have g41i : lx31.toInt ≤ 0 := q_leI g41
              refine ⟨trivial, ?_⟩
              (unfold Q_TR_digits; dsimp only; exact ⟨rfl, rfl, rfl, rfl, rfl, ⟨by omega, by omega⟩, ⟨by omega, by omega⟩, ⟨by omega, by omega⟩, ho, fun h => by first | omega | exact absurd rfl h⟩)
            ·
              rw [if_neg g41, if_neg g41]
              have g41i : 0 < lx31.toInt := q_nleI g41
              refine ⟨trivial, ?_⟩
              (unfold Q_TR_digits; dsimp only; exact ⟨rfl, rfl, rfl, rfl, rfl, ⟨by omega, by omega⟩, ⟨by omega, by omega⟩, ⟨by omega, by omega⟩, ho, fun h => by first | omega | exact absurd rfl h⟩)
          ·
            rw [if_neg g40, if_neg g40]
            have g40i : lx30.toInt < 0 := q_nleI g40
            by_cases g42 : lx31 ≤ (0 : Int32)
            ·
              rw [if_pos g42, if_pos g42]
              have g42i : lx31.toInt ≤ 0 := q_leI g42
              refine ⟨trivial, ?_⟩
              (unfold Q_TR_digits; dsimp only; exact ⟨rfl, rfl, rfl, rfl, rfl, ⟨by omega, by omega⟩, ⟨by omega, by omega⟩, ⟨by omega, by omega⟩, ho, fun h => by first | omega | exact absurd rfl h⟩)
            ·
              rw [if_neg g42, if_neg g42]
              have g42i : 0 < lx31.toInt := q_nleI g42
              refine ⟨trivial, ?_⟩
              (unfold Q_TR_digits; dsimp only; exact ⟨rfl, rfl, rfl, rfl, rfl, ⟨by omega, by omega⟩, ⟨by omega, by omega⟩, ⟨by omega, by omega⟩, ho, fun h => by first | omega | exact absurd rfl h⟩)
      ·
        rw [if_neg g34, if_neg g34]
        have g34i : 0 ≤ lx47.toInt := q_nltI g34
        refine v_cons (by have pl := lx47q.2 (by omega); omega) ?_
        obtain ⟨a43, e44⟩ := q_nm (lx29 + 1 : Int32)
        rw [e44]
        have a43i : a43.toInt = lx29.toInt + 1 := by rw [← e44]; exact q_addI (x := lx29.toInt) (y := 1) rfl (by decide) (by omega) (by omega)
        obtain ⟨a45, e46⟩ := q_nm (lx31 + 1 : Int32)
        rw [e46]
        have a45i : a45.toInt = lx31.toInt + 1 := by rw [← e46]; exact q_addI (x := lx31.toInt) (y := 1) rfl (by decide) (by omega) (by omega)
        have pl := lx47q.2 (by omega); exact ih _ _ _ _ ⟨by omega, by omega⟩ ⟨by omega, by omega, by omega⟩ ⟨by omega, by omega⟩ (by omega) (trF.put ho (by omega) (by omega) ⟨⟨by omega, lx47q.1.1⟩, lx47q.1.2⟩)
theorem T_TR_digits {x2 : Int32} {t0_0 : Int32} {t0_1 : Int32} {t0_2 : Int32} {t0_3 : Int32} {t0_4 : Int32} {t0_5 : Int32} {t0_6 : Int32} {t0_7 : Int64} {t0_8 : Int32} {t0_9 : Int32} {t0_10 : Int64} {t0_11 : Int64} {t0_12 : Int32} {t0_13 : Int32} {t1_0 : (Nat → Int32)} {t2_0 : (Nat → Int32)} (ht : trT t1_0) (hl1 : t0_1.toInt ≤ 4100)(h3 : 0 ≤ t0_3.toInt ∧ t0_3.toInt ≤ 4110) : (S_TR_digits x2 t0_0 t0_1 t0_2 t0_3 t0_4 t0_5 t0_6 t0_7 t0_8 t0_9 t0_10 t0_11 t0_12 t0_13 t1_0 t2_0) ∧ Q_TR_digits x2 t0_0 t0_1 t0_2 t0_4 t0_7 (F_TR_digits x2 t0_0 t0_1 t0_2 t0_3 t0_4 t0_5 t0_6 t0_7 t0_8 t0_9 t0_10 t0_11 t0_12 t0_13 t1_0 t2_0) := by
  have e0 : (0 : Int32).toInt = 0 := rfl
  have e1 : (1 : Int32).toInt = 1 := rfl
  have eL0 : (0 : Int64).toInt = 0 := rfl
  unfold S_TR_digits F_TR_digits
  exact vt_dg ht hl1 1000000 _ _ _ _ ⟨by omega, by omega⟩ ⟨by decide, by omega, by decide⟩ (by decide) (by omega) (fun i hi => by omega)
def Q_TR_power (t0_0 t0_1 t0_2 t0_4 t0_5 t0_6 : Int32) (p : Int32 × Int32 × Int32 × Int32 × Int32 × Int32 × Int32 × Int32 × Int64 × Int32 × Int32 × Int64 × Int64 × Int32 × Int32) : Prop := p.2.1 = t0_0 ∧ p.2.2.1 = t0_1 ∧ p.2.2.2.1 = t0_2 ∧ p.2.2.2.2.2.1 = t0_4 ∧ p.2.2.2.2.2.2.1 = t0_5 ∧ p.2.2.2.2.2.2.2.1 = t0_6 ∧ (0 ≤ p.2.2.2.2.1.toInt ∧ p.2.2.2.2.1.toInt ≤ 4110) ∧ (-20000000000 ≤ p.2.2.2.2.2.2.2.2.1.toInt ∧ p.2.2.2.2.2.2.2.2.1.toInt ≤ 20000000000)
theorem tr_neg {x : Int64} (h : 0 ≤ x.toInt ∧ x.toInt ≤ 20000000000) : -20000000000 ≤ (-x : Int64).toInt ∧ (-x : Int64).toInt ≤ 20000000000 := by
  have e : (-x : Int64) = 0 - x := by rw [Int64.zero_sub]
  have e2 : (0 - x : Int64).toInt = 0 - x.toInt := q_subL (x := 0) (by decide) rfl (by omega) (by omega)
  rw [e, e2]; omega
theorem tr_ten {x : Int64} {h : Int32} (hx : 0 ≤ x.toInt ∧ x.toInt < 1000000000) (hh : 48 ≤ h.toInt ∧ h.toInt ≤ 57) : 0 ≤ ((10 * x + h.toInt64) - 48 : Int64).toInt ∧ ((10 * x + h.toInt64) - 48 : Int64).toInt ≤ 20000000000 := by
  have a : (10 * x : Int64).toInt = 10 * x.toInt := q_mulL (x := 10) (by decide) rfl (by omega) (by omega)
  have b : (10 * x + h.toInt64 : Int64).toInt = 10 * x.toInt + h.toInt := q_addL a (q_i2l rfl) (by omega) (by omega)
  have c : ((10 * x + h.toInt64) - 48 : Int64).toInt = (10 * x.toInt + h.toInt) - 48 := q_subL b (by decide) (by omega) (by omega)
  rw [c]; omega
theorem vt_pw {t0_0 : Int32} {t0_1 : Int32} {t0_2 : Int32} {t0_3 : Int32} {t0_4 : Int32} {t0_5 : Int32} {t0_6 : Int32} {t0_7 : Int64} {t0_8 : Int32} {t0_9 : Int32} {t0_10 : Int64} {t0_11 : Int64} {t0_12 : Int32} {t0_13 : Int32} {t1_0 : (Nat → Int32)} {lx28 : Int32} {lx39 : Int32} (ht : trT t1_0) (hl1 : t0_1.toInt ≤ 4100) : ∀ (n : Nat) (lx64 : Int32) (lx65 : Int64), (0 ≤ lx64.toInt ∧ lx64.toInt ≤ 4110) → (0 ≤ lx65.toInt ∧ lx65.toInt ≤ 20000000000) → (4111 - lx64.toInt < (n : Int)) → (S_TR_power_L50 t0_0 t0_1 t0_2 t0_3 t0_4 t0_5 t0_6 t0_7 t0_8 t0_9 t0_10 t0_11 t0_12 t0_13 t1_0 lx28 lx39 n lx64 lx65) ∧ Q_TR_power t0_0 t0_1 t0_2 t0_4 t0_5 t0_6 (F_TR_power_L50 t0_0 t0_1 t0_2 t0_3 t0_4 t0_5 t0_6 t0_7 t0_8 t0_9 t0_10 t0_11 t0_12 t0_13 t1_0 lx28 lx39 n lx64 lx65) := by
  intro n
  induction n with
  | zero => intro lx64 lx65 h0 hE hm; exact absurd (show False by omega) id
  | succ n ih =>
    intro lx64 lx65 h0 hE hm
    have e0 : (0 : Int32).toInt = 0 := rfl
    have e1 : (1 : Int32).toInt = 1 := rfl
    have eL0 : (0 : Int64).toInt = 0 := rfl
    have e9 : (1000000000 : Int64).toInt = 1000000000 := rfl
    rw [S_TR_power_L50.eq_2, F_TR_power_L50.eq_2]
    have h1 := T_TR_here (t0_0 := t0_0) (t0_1 := t0_1) (t0_2 := t0_2) (t0_3 := lx64) (t0_4 := t0_4) (t0_5 := t0_5) (t0_6 := t0_6) (t0_7 := lx65) (t0_8 := t0_8) (t0_9 := t0_9) (t0_10 := t0_10) (t0_11 := t0_11) (t0_12 := t0_12) (t0_13 := t0_13) (t1_0 := t1_0) (by first | omega | decide)
    with_reducible refine v_owe h1 ?_
    by_cases g2 : ((F_TR_isDigit ((F_TR_here t0_0 t0_1 t0_2 lx64 t0_4 t0_5 t0_6 lx65 t0_8 t0_9 t0_10 t0_11 t0_12 t0_13 t1_0) : Int32)) : Int32) = (0 : Int32)
    ·
      rw [if_pos g2, if_pos g2]
      by_cases g3 : lx28 = (0 : Int32)
      ·
        rw [if_pos g3, if_pos g3]
        refine ⟨trivial, ?_⟩
        (unfold Q_TR_power; dsimp only; first | exact ⟨rfl, rfl, rfl, rfl, rfl, rfl, ⟨by omega, by omega⟩, ⟨by omega, by omega⟩⟩ | exact ⟨rfl, rfl, rfl, rfl, rfl, rfl, ⟨by omega, by omega⟩, tr_neg hE⟩)
      ·
        rw [if_neg g3, if_neg g3]
        refine ⟨trivial, ?_⟩
        (unfold Q_TR_power; dsimp only; first | exact ⟨rfl, rfl, rfl, rfl, rfl, rfl, ⟨by omega, by omega⟩, ⟨by omega, by omega⟩⟩ | exact ⟨rfl, rfl, rfl, rfl, rfl, rfl, ⟨by omega, by omega⟩, tr_neg hE⟩)
    ·
      rw [if_neg g2, if_neg g2]
      have dgi := tr_d g2
      by_cases g4 : (0 : Int32) ≤ (lg_cmp lx65 1000000000 : Int32)
      ·
        rw [if_pos g4, if_pos g4]
        have g4l := g_lc5 g4
        obtain ⟨a5, e6⟩ := q_nm (lx64 + 1 : Int32)
        rw [e6]
        have a5i : a5.toInt = lx64.toInt + 1 := by rw [← e6]; exact q_addI (x := lx64.toInt) (y := 1) rfl (by decide) (by omega) (by omega)
        exact ih _ _ ⟨by omega, by omega⟩ hE (by omega)
      ·
        rw [if_neg g4, if_neg g4]
        have g4l := g_lc6 g4
        with_reducible refine v_owe h1 ?_
        obtain ⟨a7, e8⟩ := q_nm (lx64 + 1 : Int32)
        rw [e8]
        have a7i : a7.toInt = lx64.toInt + 1 := by rw [← e8]; exact q_addI (x := lx64.toInt) (y := 1) rfl (by decide) (by omega) (by omega)
        exact ih _ _ ⟨by omega, by omega⟩ (tr_ten ⟨by omega, by omega⟩ dgi.2) (by omega)
theorem T_TR_power {t0_0 : Int32} {t0_1 : Int32} {t0_2 : Int32} {t0_3 : Int32} {t0_4 : Int32} {t0_5 : Int32} {t0_6 : Int32} {t0_7 : Int64} {t0_8 : Int32} {t0_9 : Int32} {t0_10 : Int64} {t0_11 : Int64} {t0_12 : Int32} {t0_13 : Int32} {t1_0 : (Nat → Int32)} (ht : trT t1_0) (hl1 : t0_1.toInt ≤ 4100)(h3 : 0 ≤ t0_3.toInt ∧ t0_3.toInt ≤ 4109) (h7 : t0_7.toInt = 0) : (S_TR_power t0_0 t0_1 t0_2 t0_3 t0_4 t0_5 t0_6 t0_7 t0_8 t0_9 t0_10 t0_11 t0_12 t0_13 t1_0) ∧ Q_TR_power t0_0 t0_1 t0_2 t0_4 t0_5 t0_6 (F_TR_power t0_0 t0_1 t0_2 t0_3 t0_4 t0_5 t0_6 t0_7 t0_8 t0_9 t0_10 t0_11 t0_12 t0_13 t1_0) := by
  have e0 : (0 : Int32).toInt = 0 := rfl
  have e1 : (1 : Int32).toInt = 1 := rfl
  have eL0 : (0 : Int64).toInt = 0 := rfl
  unfold S_TR_power F_TR_power
  have h1 := T_TR_here (t0_0 := t0_0) (t0_1 := t0_1) (t0_2 := t0_2) (t0_3 := t0_3) (t0_4 := t0_4) (t0_5 := t0_5) (t0_6 := t0_6) (t0_7 := t0_7) (t0_8 := t0_8) (t0_9 := t0_9) (t0_10 := t0_10) (t0_11 := t0_11) (t0_12 := t0_12) (t0_13 := t0_13) (t1_0 := t1_0) (by first | omega | decide)
  with_reducible refine v_owe h1 ?_
  by_cases g2 : ((F_TR_here t0_0 t0_1 t0_2 t0_3 t0_4 t0_5 t0_6 t0_7 t0_8 t0_9 t0_10 t0_11 t0_12 t0_13 t1_0) : Int32) = (45 : Int32)
  ·
    rw [if_pos g2, if_pos g2]
    have g2i := tr_h g2 (by decide)
    unfold S_TR_power_J14 F_TR_power_J14
    have g3 : ¬ ((1 : Int32) = (0 : Int32)) := (by decide)
    rw [if_neg g3, if_neg g3]
    unfold S_TR_power_J28 F_TR_power_J28
    obtain ⟨lx39, e4⟩ := q_nm ((t0_3 + 1 : Int32) : Int32)
    rw [e4]
    have lx39i : lx39.toInt = t0_3.toInt + 1 := by rw [← e4]; exact q_addI (y := 1) rfl (by decide) (by omega) (by omega)
    unfold S_TR_power_J38 F_TR_power_J38
    have h5 := T_TR_here (t0_0 := t0_0) (t0_1 := t0_1) (t0_2 := t0_2) (t0_3 := lx39) (t0_4 := t0_4) (t0_5 := t0_5) (t0_6 := t0_6) (t0_7 := t0_7) (t0_8 := t0_8) (t0_9 := t0_9) (t0_10 := t0_10) (t0_11 := t0_11) (t0_12 := t0_12) (t0_13 := t0_13) (t1_0 := t1_0) (by first | omega | decide)
    with_reducible refine v_owe h5 ?_
    by_cases g6 : ((F_TR_isDigit ((F_TR_here t0_0 t0_1 t0_2 lx39 t0_4 t0_5 t0_6 t0_7 t0_8 t0_9 t0_10 t0_11 t0_12 t0_13 t1_0) : Int32)) : Int32) = (0 : Int32)
    ·
      rw [if_pos g6, if_pos g6]
      refine ⟨trivial, ?_⟩
      (unfold Q_TR_power; dsimp only; first | exact ⟨rfl, rfl, rfl, rfl, rfl, rfl, ⟨by omega, by omega⟩, ⟨by omega, by omega⟩⟩ | exact ⟨rfl, rfl, rfl, rfl, rfl, rfl, ⟨by omega, by omega⟩, tr_neg hE⟩)
    ·
      rw [if_neg g6, if_neg g6]
      have g6i := tr_d g6
      exact vt_pw ht hl1 1000000 _ _ ⟨by omega, by omega⟩ ⟨by omega, by omega⟩ (by omega)
  ·
    rw [if_neg g2, if_neg g2]
    unfold S_TR_power_J14 F_TR_power_J14
    have g7 : ((0 : Int32) = (0 : Int32)) := (by decide)
    rw [if_pos g7, if_pos g7]
    with_reducible refine v_owe h1 ?_
    by_cases g8 : ((F_TR_here t0_0 t0_1 t0_2 t0_3 t0_4 t0_5 t0_6 t0_7 t0_8 t0_9 t0_10 t0_11 t0_12 t0_13 t1_0) : Int32) = (43 : Int32)
    ·
      rw [if_pos g8, if_pos g8]
      have g8i := tr_h g8 (by decide)
      unfold S_TR_power_J28 F_TR_power_J28
      obtain ⟨lx39, e9⟩ := q_nm ((t0_3 + 1 : Int32) : Int32)
      rw [e9]
      have lx39i : lx39.toInt = t0_3.toInt + 1 := by rw [← e9]; exact q_addI (y := 1) rfl (by decide) (by omega) (by omega)
      unfold S_TR_power_J38 F_TR_power_J38
      have h10 := T_TR_here (t0_0 := t0_0) (t0_1 := t0_1) (t0_2 := t0_2) (t0_3 := lx39) (t0_4 := t0_4) (t0_5 := t0_5) (t0_6 := t0_6) (t0_7 := t0_7) (t0_8 := t0_8) (t0_9 := t0_9) (t0_10 := t0_10) (t0_11 := t0_11) (t0_12 := t0_12) (t0_13 := t0_13) (t1_0 := t1_0) (by first | omega | decide)
      with_reducible refine v_owe h10 ?_
      by_cases g11 : ((F_TR_isDigit ((F_TR_here t0_0 t0_1 t0_2 lx39 t0_4 t0_5 t0_6 t0_7 t0_8 t0_9 t0_10 t0_11 t0_12 t0_13 t1_0) : Int32)) : Int32) = (0 : Int32)
      ·
        rw [if_pos g11, if_pos g11]
        refine ⟨trivial, ?_⟩
        (unfold Q_TR_power; dsimp only; first | exact ⟨rfl, rfl, rfl, rfl, rfl, rfl, ⟨by omega, by omega⟩, ⟨by omega, by omega⟩⟩ | exact ⟨rfl, rfl, rfl, rfl, rfl, rfl, ⟨by omega, by omega⟩, tr_neg hE⟩)
      ·
        rw [if_neg g11, if_neg g11]
        have g11i := tr_d g11
        exact vt_pw ht hl1 1000000 _ _ ⟨by omega, by omega⟩ ⟨by omega, by omega⟩ (by omega)
    ·
      rw [if_neg g8, if_neg g8]
      unfold S_TR_power_J38 F_TR_power_J38
      with_reducible refine v_owe h1 ?_
      by_cases g12 : ((F_TR_isDigit ((F_TR_here t0_0 t0_1 t0_2 t0_3 t0_4 t0_5 t0_6 t0_7 t0_8 t0_9 t0_10 t0_11 t0_12 t0_13 t1_0) : Int32)) : Int32) = (0 : Int32)
      ·
        rw [if_pos g12, if_pos g12]
        refine ⟨trivial, ?_⟩
        (unfold Q_TR_power; dsimp only; first | exact ⟨rfl, rfl, rfl, rfl, rfl, rfl, ⟨by omega, by omega⟩, ⟨by omega, by omega⟩⟩ | exact ⟨rfl, rfl, rfl, rfl, rfl, rfl, ⟨by omega, by omega⟩, tr_neg hE⟩)
      ·
        rw [if_neg g12, if_neg g12]
        have g12i := tr_d g12
        exact vt_pw ht hl1 1000000 _ _ ⟨by omega, by omega⟩ ⟨by omega, by omega⟩ (by omega)
/-- a number that was read: kind, figures, point, exponent -/
def trS (k m p : Int32) (e : Int64) (f : Nat → Int32) : Prop := (k.toInt = 0 ∨ k.toInt = 1) ∧ (1 ≤ m.toInt ∧ m.toInt ≤ 4100) ∧ (0 ≤ p.toInt ∧ p.toInt ≤ m.toInt) ∧ (-20000000000 ≤ e.toInt ∧ e.toInt ≤ 20000000000) ∧ trF k m f
theorem trF.k {a b m m1 : Int32} {f : Nat → Int32} (h : trF a m f) (e : b.toInt = a.toInt) (e1 : m1.toInt = m.toInt) : trF b m1 f := fun i hi => ⟨(h i (by omega)).1, fun z => (h i (by omega)).2 (by omega)⟩
theorem tr_shr8 {x : Int64} : (x >>> ((8 : Int32).toInt64 &&& 63)).toInt = x.toInt / 256 := by
  have hc : ((8 : Int32).toInt64 &&& 63).toBitVec.smod 64 = BitVec.ofNat 64 8 := by decide
  show (x >>> ((8 : Int32).toInt64 &&& 63)).toBitVec.toInt = _
  rw [Int64.toBitVec_shiftRight, hc, BitVec.sshiftRight_eq', BitVec.toInt_sshiftRight, Int.shiftRight_eq_div_pow]
  rfl
theorem tr_lt8 {x : Int64} : x.toInt < 256 ^ 8 := by
  have a : x.toInt < 9223372036854775808 := Int64.toInt_lt x
  have e : (256 : Int) ^ 8 = 18446744073709551616 := by decide
  omega
theorem tr_256 {v : Int} {m : Nat} (b : v < 256 ^ m) (h : 0 < v) : 1 ≤ m ∧ v / 256 < 256 ^ (m - 1) := by
  have m2 : 1 ≤ m := by
    by_cases c : m = 0
    · rw [c, Int.pow_zero] at b; omega
    · omega
  refine ⟨m2, ?_⟩
  have p : (256 : Int) ^ m = 256 ^ (m - 1) * 256 := by rw [← fl_pw, show m - 1 + 1 = m by omega]
  rw [p] at b
  generalize (256 : Int) ^ (m - 1) = P at *
  omega
def Q_TR_number (t0_1 t0_4 : Int32) (p : Int32 × Int32 × Int32 × Int32 × Int32 × Int32 × Int32 × Int32 × Int64 × Int32 × Int32 × Int64 × Int64 × Int32 × Int32 × (Nat → Int32)) : Prop := p.2.2.1.toInt = t0_1.toInt ∧ p.2.2.2.2.2.1.toInt = t0_4.toInt ∧ (0 ≤ p.2.2.2.2.1.toInt ∧ p.2.2.2.2.1.toInt ≤ 4120) ∧ (p.1 ≠ 0 → trS p.2.2.2.1 p.2.2.2.2.2.2.1 p.2.2.2.2.2.2.2.1 p.2.2.2.2.2.2.2.2.1 p.2.2.2.2.2.2.2.2.2.2.2.2.2.2.2)
theorem tr_nuA {t b a1 a2 a3 a4 a5 a6 a7 : Int32} {a8 : Int64} {a9 a10 : Int32} {a11 a12 : Int64} {a13 a14 : Int32} {f : Nat → Int32} (h2 : a2.toInt = t.toInt) (h5 : a5.toInt = b.toInt) (h4 : 0 ≤ a4.toInt ∧ a4.toInt ≤ 4120) (hs : trS a3 a6 a7 a8 f) : Q_TR_number t b (1, a1, a2, a3, a4, a5, a6, a7, a8, a9, a10, a11, a12, a13, a14, f) := ⟨h2, h5, h4, fun _ => hs⟩
theorem tr_nuB {t b a1 a2 a3 a4 a5 a6 a7 : Int32} {a8 : Int64} {a9 a10 : Int32} {a11 a12 : Int64} {a13 a14 : Int32} {f : Nat → Int32} (h2 : a2.toInt = t.toInt) (h5 : a5.toInt = b.toInt) (h4 : 0 ≤ a4.toInt ∧ a4.toInt ≤ 4120) : Q_TR_number t b (0, a1, a2, a3, a4, a5, a6, a7, a8, a9, a10, a11, a12, a13, a14, f) := ⟨h2, h5, h4, fun h => absurd rfl h⟩
theorem T_TR_nuA {t0_0 : Int32} {t0_1 : Int32} {t0_2 : Int32} {t0_3 : Int32} {t0_4 : Int32} {t0_5 : Int32} {t0_6 : Int32} {t0_7 : Int64} {t0_8 : Int32} {t0_9 : Int32} {t0_10 : Int64} {t0_11 : Int64} {t0_12 : Int32} {t0_13 : Int32} {t1_0 : (Nat → Int32)} {t2_0 : (Nat → Int32)} (ht : trT t1_0) (hl1 : t0_1.toInt ≤ 4100)(h3 : 0 ≤ t0_3.toInt ∧ t0_3.toInt ≤ 4105) : (S_TR_number_J114 t0_0 t0_1 t0_2 t0_3 t0_4 t0_5 t0_6 t0_7 t0_8 t0_9 t0_10 t0_11 t0_12 t0_13 t1_0 t2_0) ∧ Q_TR_number t0_1 t0_4 (F_TR_number_J114 t0_0 t0_1 t0_2 t0_3 t0_4 t0_5 t0_6 t0_7 t0_8 t0_9 t0_10 t0_11 t0_12 t0_13 t1_0 t2_0) := by
  have e0 : (0 : Int32).toInt = 0 := rfl
  have e1 : (1 : Int32).toInt = 1 := rfl
  have eL0 : (0 : Int64).toInt = 0 := rfl
  unfold S_TR_number_J114 F_TR_number_J114
  have h1 := T_TR_digits (x2 := (0 : Int32)) (t0_0 := t0_0) (t0_1 := t0_1) (t0_2 := (0 : Int32)) (t0_3 := t0_3) (t0_4 := t0_4) (t0_5 := t0_5) (t0_6 := t0_6) (t0_7 := (0 : Int64)) (t0_8 := t0_8) (t0_9 := t0_9) (t0_10 := t0_10) (t0_11 := t0_11) (t0_12 := t0_12) (t0_13 := t0_13) (t1_0 := t1_0) (t2_0 := t2_0) ht (by omega) ⟨by omega, by omega⟩
  with_reducible refine v_owe h1.1 ?_
  replace h1 := h1.2
  generalize F_TR_digits (0 : Int32) t0_0 t0_1 (0 : Int32) t0_3 t0_4 t0_5 t0_6 (0 : Int64) t0_8 t0_9 t0_10 t0_11 t0_12 t0_13 t1_0 t2_0 = p174 at *
  unfold Q_TR_digits at h1
  obtain ⟨h1a, h1b, h1c, h1d, h1e, h14, h16, h17, h1F, h10⟩ := h1
  have dgF := h1F
  have dgb := congrArg Int32.toInt h1b
  have dgc := congrArg Int32.toInt h1c
  have dge := congrArg Int64.toInt h1e
  have dgd := congrArg Int32.toInt h1d
  have dg0 := h10
  unfold S_TR_number_c121 F_TR_number_c121
  by_cases g2 : (p174.1 : Int32) = (0 : Int32)
  ·
    rw [if_pos g2, if_pos g2]
    refine ⟨trivial, ?_⟩
    exact tr_nuB (by omega) (by omega) ⟨by omega, by omega⟩
  ·
    rw [if_neg g2, if_neg g2]
    have dgn := dg0 g2
    have h3 := T_TR_isAt (x2 := (101 : Int32)) (x3 := (69 : Int32)) (t0_0 := (p174.2.1 : Int32)) (t0_1 := (p174.2.2.1 : Int32)) (t0_2 := (p174.2.2.2.1 : Int32)) (t0_3 := (p174.2.2.2.2.1 : Int32)) (t0_4 := (p174.2.2.2.2.2.1 : Int32)) (t0_5 := (p174.2.2.2.2.2.2.1 : Int32)) (t0_6 := (p174.2.2.2.2.2.2.2.1 : Int32)) (t0_7 := (p174.2.2.2.2.2.2.2.2.1 : Int64)) (t0_8 := (p174.2.2.2.2.2.2.2.2.2.1 : Int32)) (t0_9 := (p174.2.2.2.2.2.2.2.2.2.2.1 : Int32)) (t0_10 := (p174.2.2.2.2.2.2.2.2.2.2.2.1 : Int64)) (t0_11 := (p174.2.2.2.2.2.2.2.2.2.2.2.2.1 : Int64)) (t0_12 := (p174.2.2.2.2.2.2.2.2.2.2.2.2.2.1 : Int32)) (t0_13 := (p174.2.2.2.2.2.2.2.2.2.2.2.2.2.2.1 : Int32)) (t1_0 := t1_0) (by first | omega | decide)
    with_reducible refine v_owe h3 ?_
    by_cases g4 : ((F_TR_isAt (101 : Int32) (69 : Int32) (p174.2.1 : Int32) (p174.2.2.1 : Int32) (p174.2.2.2.1 : Int32) (p174.2.2.2.2.1 : Int32) (p174.2.2.2.2.2.1 : Int32) (p174.2.2.2.2.2.2.1 : Int32) (p174.2.2.2.2.2.2.2.1 : Int32) (p174.2.2.2.2.2.2.2.2.1 : Int64) (p174.2.2.2.2.2.2.2.2.2.1 : Int32) (p174.2.2.2.2.2.2.2.2.2.2.1 : Int32) (p174.2.2.2.2.2.2.2.2.2.2.2.1 : Int64) (p174.2.2.2.2.2.2.2.2.2.2.2.2.1 : Int64) (p174.2.2.2.2.2.2.2.2.2.2.2.2.2.1 : Int32) (p174.2.2.2.2.2.2.2.2.2.2.2.2.2.2.1 : Int32) t1_0) : Int32) = (0 : Int32)
    ·
      rw [if_pos g4, if_pos g4]
      unfold S_TR_number_J159 F_TR_number_J159
      have h5 := T_TR_isAt (x2 := (100 : Int32)) (x3 := (68 : Int32)) (t0_0 := (p174.2.1 : Int32)) (t0_1 := (p174.2.2.1 : Int32)) (t0_2 := (p174.2.2.2.1 : Int32)) (t0_3 := (p174.2.2.2.2.1 : Int32)) (t0_4 := (p174.2.2.2.2.2.1 : Int32)) (t0_5 := (p174.2.2.2.2.2.2.1 : Int32)) (t0_6 := (p174.2.2.2.2.2.2.2.1 : Int32)) (t0_7 := (p174.2.2.2.2.2.2.2.2.1 : Int64)) (t0_8 := (p174.2.2.2.2.2.2.2.2.2.1 : Int32)) (t0_9 := (p174.2.2.2.2.2.2.2.2.2.2.1 : Int32)) (t0_10 := (p174.2.2.2.2.2.2.2.2.2.2.2.1 : Int64)) (t0_11 := (p174.2.2.2.2.2.2.2.2.2.2.2.2.1 : Int64)) (t0_12 := (p174.2.2.2.2.2.2.2.2.2.2.2.2.2.1 : Int32)) (t0_13 := (p174.2.2.2.2.2.2.2.2.2.2.2.2.2.2.1 : Int32)) (t1_0 := t1_0) (by first | omega | decide)
      with_reducible refine v_owe h5 ?_
      by_cases g6 : ((F_TR_isAt (100 : Int32) (68 : Int32) (p174.2.1 : Int32) (p174.2.2.1 : Int32) (p174.2.2.2.1 : Int32) (p174.2.2.2.2.1 : Int32) (p174.2.2.2.2.2.1 : Int32) (p174.2.2.2.2.2.2.1 : Int32) (p174.2.2.2.2.2.2.2.1 : Int32) (p174.2.2.2.2.2.2.2.2.1 : Int64) (p174.2.2.2.2.2.2.2.2.2.1 : Int32) (p174.2.2.2.2.2.2.2.2.2.2.1 : Int32) (p174.2.2.2.2.2.2.2.2.2.2.2.1 : Int64) (p174.2.2.2.2.2.2.2.2.2.2.2.2.1 : Int64) (p174.2.2.2.2.2.2.2.2.2.2.2.2.2.1 : Int32) (p174.2.2.2.2.2.2.2.2.2.2.2.2.2.2.1 : Int32) t1_0) : Int32) = (0 : Int32)
      ·
        rw [if_pos g6, if_pos g6]
        have h7 := T_TR_isAt (x2 := (102 : Int32)) (x3 := (70 : Int32)) (t0_0 := (p174.2.1 : Int32)) (t0_1 := (p174.2.2.1 : Int32)) (t0_2 := (p174.2.2.2.1 : Int32)) (t0_3 := (p174.2.2.2.2.1 : Int32)) (t0_4 := (p174.2.2.2.2.2.1 : Int32)) (t0_5 := (p174.2.2.2.2.2.2.1 : Int32)) (t0_6 := (p174.2.2.2.2.2.2.2.1 : Int32)) (t0_7 := (p174.2.2.2.2.2.2.2.2.1 : Int64)) (t0_8 := (p174.2.2.2.2.2.2.2.2.2.1 : Int32)) (t0_9 := (p174.2.2.2.2.2.2.2.2.2.2.1 : Int32)) (t0_10 := (p174.2.2.2.2.2.2.2.2.2.2.2.1 : Int64)) (t0_11 := (p174.2.2.2.2.2.2.2.2.2.2.2.2.1 : Int64)) (t0_12 := (p174.2.2.2.2.2.2.2.2.2.2.2.2.2.1 : Int32)) (t0_13 := (p174.2.2.2.2.2.2.2.2.2.2.2.2.2.2.1 : Int32)) (t1_0 := t1_0) (by first | omega | decide)
        with_reducible refine v_owe h7 ?_
        by_cases g8 : ((F_TR_isAt (102 : Int32) (70 : Int32) (p174.2.1 : Int32) (p174.2.2.1 : Int32) (p174.2.2.2.1 : Int32) (p174.2.2.2.2.1 : Int32) (p174.2.2.2.2.2.1 : Int32) (p174.2.2.2.2.2.2.1 : Int32) (p174.2.2.2.2.2.2.2.1 : Int32) (p174.2.2.2.2.2.2.2.2.1 : Int64) (p174.2.2.2.2.2.2.2.2.2.1 : Int32) (p174.2.2.2.2.2.2.2.2.2.2.1 : Int32) (p174.2.2.2.2.2.2.2.2.2.2.2.1 : Int64) (p174.2.2.2.2.2.2.2.2.2.2.2.2.1 : Int64) (p174.2.2.2.2.2.2.2.2.2.2.2.2.2.1 : Int32) (p174.2.2.2.2.2.2.2.2.2.2.2.2.2.2.1 : Int32) t1_0) : Int32) = (0 : Int32)
        ·
          rw [if_pos g8, if_pos g8]
          refine ⟨trivial, ?_⟩
          exact tr_nuA (by omega) (by omega) ⟨by omega, by omega⟩ ⟨by omega, ⟨by omega, by omega⟩, ⟨by omega, by omega⟩, ⟨by omega, by omega⟩, dgF.k (by omega) (by omega)⟩
        ·
          rw [if_neg g8, if_neg g8]
          have g8i := tr_a g8 (by decide) (by decide)
          refine ⟨trivial, ?_⟩
          obtain ⟨a9, e10⟩ := q_nm ((p174.2.2.2.2.1 : Int32) + 1 : Int32)
          rw [e10]
          have a9i : a9.toInt = (p174.2.2.2.2.1 : Int32).toInt + 1 := by rw [← e10]; exact q_addI (x := (p174.2.2.2.2.1 : Int32).toInt) (y := 1) rfl (by decide) (by omega) (by omega)
          exact tr_nuA (by omega) (by omega) ⟨by omega, by omega⟩ ⟨by omega, ⟨by omega, by omega⟩, ⟨by omega, by omega⟩, ⟨by omega, by omega⟩, dgF.k (by omega) (by omega)⟩
      ·
        rw [if_neg g6, if_neg g6]
        have g6i := tr_a g6 (by decide) (by decide)
        refine ⟨trivial, ?_⟩
        obtain ⟨a11, e12⟩ := q_nm ((p174.2.2.2.2.1 : Int32) + 1 : Int32)
        rw [e12]
        have a11i : a11.toInt = (p174.2.2.2.2.1 : Int32).toInt + 1 := by rw [← e12]; exact q_addI (x := (p174.2.2.2.2.1 : Int32).toInt) (y := 1) rfl (by decide) (by omega) (by omega)
        exact tr_nuA (by omega) (by omega) ⟨by omega, by omega⟩ ⟨by omega, ⟨by omega, by omega⟩, ⟨by omega, by omega⟩, ⟨by omega, by omega⟩, dgF.k (by omega) (by omega)⟩
    ·
      rw [if_neg g4, if_neg g4]
      have g4i := tr_a g4 (by decide) (by decide)
      obtain ⟨a13, e14⟩ := q_nm ((p174.2.2.2.2.1 : Int32) + 1 : Int32)
      rw [e14]
      have a13i : a13.toInt = (p174.2.2.2.2.1 : Int32).toInt + 1 := by rw [← e14]; exact q_addI (x := (p174.2.2.2.2.1 : Int32).toInt) (y := 1) rfl (by decide) (by omega) (by omega)
      have h15 := T_TR_power (t0_0 := (p174.2.1 : Int32)) (t0_1 := (p174.2.2.1 : Int32)) (t0_2 := (p174.2.2.2.1 : Int32)) (t0_3 := a13) (t0_4 := (p174.2.2.2.2.2.1 : Int32)) (t0_5 := (p174.2.2.2.2.2.2.1 : Int32)) (t0_6 := (p174.2.2.2.2.2.2.2.1 : Int32)) (t0_7 := (p174.2.2.2.2.2.2.2.2.1 : Int64)) (t0_8 := (p174.2.2.2.2.2.2.2.2.2.1 : Int32)) (t0_9 := (p174.2.2.2.2.2.2.2.2.2.2.1 : Int32)) (t0_10 := (p174.2.2.2.2.2.2.2.2.2.2.2.1 : Int64)) (t0_11 := (p174.2.2.2.2.2.2.2.2.2.2.2.2.1 : Int64)) (t0_12 := (p174.2.2.2.2.2.2.2.2.2.2.2.2.2.1 : Int32)) (t0_13 := (p174.2.2.2.2.2.2.2.2.2.2.2.2.2.2.1 : Int32)) (t1_0 := t1_0) ht (by omega) ⟨by omega, by omega⟩ (by omega)
      with_reducible refine v_owe h15.1 ?_
      replace h15 := h15.2
      generalize F_TR_power (p174.2.1 : Int32) (p174.2.2.1 : Int32) (p174.2.2.2.1 : Int32) a13 (p174.2.2.2.2.2.1 : Int32) (p174.2.2.2.2.2.2.1 : Int32) (p174.2.2.2.2.2.2.2.1 : Int32) (p174.2.2.2.2.2.2.2.2.1 : Int64) (p174.2.2.2.2.2.2.2.2.2.1 : Int32) (p174.2.2.2.2.2.2.2.2.2.2.1 : Int32) (p174.2.2.2.2.2.2.2.2.2.2.2.1 : Int64) (p174.2.2.2.2.2.2.2.2.2.2.2.2.1 : Int64) (p174.2.2.2.2.2.2.2.2.2.2.2.2.2.1 : Int32) (p174.2.2.2.2.2.2.2.2.2.2.2.2.2.2.1 : Int32) t1_0 = p261 at *
      unfold Q_TR_power at h15
      obtain ⟨h15a, h15b, h15c, h15d, h15e, h15f, h154, h158⟩ := h15
      have pwb := congrArg Int32.toInt h15b
      have pwc := congrArg Int32.toInt h15c
      have pwe := congrArg Int32.toInt h15e
      have pwf := congrArg Int32.toInt h15f
      have pwE := h15e
      have pwC := h15c
      have pwd := congrArg Int32.toInt h15d
      unfold S_TR_number_c151 F_TR_number_c151
      by_cases g16 : (p261.1 : Int32) = (0 : Int32)
      ·
        rw [if_pos g16, if_pos g16]
        refine ⟨trivial, ?_⟩
        exact tr_nuB (by omega) (by omega) ⟨by omega, by omega⟩
      ·
        rw [if_neg g16, if_neg g16]
        unfold S_TR_number_J159 F_TR_number_J159
        have h17 := T_TR_isAt (x2 := (100 : Int32)) (x3 := (68 : Int32)) (t0_0 := (p261.2.1 : Int32)) (t0_1 := (p261.2.2.1 : Int32)) (t0_2 := (p261.2.2.2.1 : Int32)) (t0_3 := (p261.2.2.2.2.1 : Int32)) (t0_4 := (p261.2.2.2.2.2.1 : Int32)) (t0_5 := (p261.2.2.2.2.2.2.1 : Int32)) (t0_6 := (p261.2.2.2.2.2.2.2.1 : Int32)) (t0_7 := (p261.2.2.2.2.2.2.2.2.1 : Int64)) (t0_8 := (p261.2.2.2.2.2.2.2.2.2.1 : Int32)) (t0_9 := (p261.2.2.2.2.2.2.2.2.2.2.1 : Int32)) (t0_10 := (p261.2.2.2.2.2.2.2.2.2.2.2.1 : Int64)) (t0_11 := (p261.2.2.2.2.2.2.2.2.2.2.2.2.1 : Int64)) (t0_12 := (p261.2.2.2.2.2.2.2.2.2.2.2.2.2.1 : Int32)) (t0_13 := (p261.2.2.2.2.2.2.2.2.2.2.2.2.2.2 : Int32)) (t1_0 := t1_0) (by first | omega | decide)
        with_reducible refine v_owe h17 ?_
        by_cases g18 : ((F_TR_isAt (100 : Int32) (68 : Int32) (p261.2.1 : Int32) (p261.2.2.1 : Int32) (p261.2.2.2.1 : Int32) (p261.2.2.2.2.1 : Int32) (p261.2.2.2.2.2.1 : Int32) (p261.2.2.2.2.2.2.1 : Int32) (p261.2.2.2.2.2.2.2.1 : Int32) (p261.2.2.2.2.2.2.2.2.1 : Int64) (p261.2.2.2.2.2.2.2.2.2.1 : Int32) (p261.2.2.2.2.2.2.2.2.2.2.1 : Int32) (p261.2.2.2.2.2.2.2.2.2.2.2.1 : Int64) (p261.2.2.2.2.2.2.2.2.2.2.2.2.1 : Int64) (p261.2.2.2.2.2.2.2.2.2.2.2.2.2.1 : Int32) (p261.2.2.2.2.2.2.2.2.2.2.2.2.2.2 : Int32) t1_0) : Int32) = (0 : Int32)
        ·
          rw [if_pos g18, if_pos g18]
          have h19 := T_TR_isAt (x2 := (102 : Int32)) (x3 := (70 : Int32)) (t0_0 := (p261.2.1 : Int32)) (t0_1 := (p261.2.2.1 : Int32)) (t0_2 := (p261.2.2.2.1 : Int32)) (t0_3 := (p261.2.2.2.2.1 : Int32)) (t0_4 := (p261.2.2.2.2.2.1 : Int32)) (t0_5 := (p261.2.2.2.2.2.2.1 : Int32)) (t0_6 := (p261.2.2.2.2.2.2.2.1 : Int32)) (t0_7 := (p261.2.2.2.2.2.2.2.2.1 : Int64)) (t0_8 := (p261.2.2.2.2.2.2.2.2.2.1 : Int32)) (t0_9 := (p261.2.2.2.2.2.2.2.2.2.2.1 : Int32)) (t0_10 := (p261.2.2.2.2.2.2.2.2.2.2.2.1 : Int64)) (t0_11 := (p261.2.2.2.2.2.2.2.2.2.2.2.2.1 : Int64)) (t0_12 := (p261.2.2.2.2.2.2.2.2.2.2.2.2.2.1 : Int32)) (t0_13 := (p261.2.2.2.2.2.2.2.2.2.2.2.2.2.2 : Int32)) (t1_0 := t1_0) (by first | omega | decide)
          with_reducible refine v_owe h19 ?_
          by_cases g20 : ((F_TR_isAt (102 : Int32) (70 : Int32) (p261.2.1 : Int32) (p261.2.2.1 : Int32) (p261.2.2.2.1 : Int32) (p261.2.2.2.2.1 : Int32) (p261.2.2.2.2.2.1 : Int32) (p261.2.2.2.2.2.2.1 : Int32) (p261.2.2.2.2.2.2.2.1 : Int32) (p261.2.2.2.2.2.2.2.2.1 : Int64) (p261.2.2.2.2.2.2.2.2.2.1 : Int32) (p261.2.2.2.2.2.2.2.2.2.2.1 : Int32) (p261.2.2.2.2.2.2.2.2.2.2.2.1 : Int64) (p261.2.2.2.2.2.2.2.2.2.2.2.2.1 : Int64) (p261.2.2.2.2.2.2.2.2.2.2.2.2.2.1 : Int32) (p261.2.2.2.2.2.2.2.2.2.2.2.2.2.2 : Int32) t1_0) : Int32) = (0 : Int32)
          ·
            rw [if_pos g20, if_pos g20]
            refine ⟨trivial, ?_⟩
            exact tr_nuA (by omega) (by omega) ⟨by omega, by omega⟩ ⟨by omega, ⟨by omega, by omega⟩, ⟨by omega, by omega⟩, ⟨by omega, by omega⟩, dgF.k (by omega) (by omega)⟩
          ·
            rw [if_neg g20, if_neg g20]
            have g20i := tr_a g20 (by decide) (by decide)
            refine ⟨trivial, ?_⟩
            obtain ⟨a21, e22⟩ := q_nm ((p261.2.2.2.2.1 : Int32) + 1 : Int32)
            rw [e22]
            have a21i : a21.toInt = (p261.2.2.2.2.1 : Int32).toInt + 1 := by rw [← e22]; exact q_addI (x := (p261.2.2.2.2.1 : Int32).toInt) (y := 1) rfl (by decide) (by omega) (by omega)
            exact tr_nuA (by omega) (by omega) ⟨by omega, by omega⟩ ⟨by omega, ⟨by omega, by omega⟩, ⟨by omega, by omega⟩, ⟨by omega, by omega⟩, dgF.k (by omega) (by omega)⟩
        ·
          rw [if_neg g18, if_neg g18]
          have g18i := tr_a g18 (by decide) (by decide)
          refine ⟨trivial, ?_⟩
          obtain ⟨a23, e24⟩ := q_nm ((p261.2.2.2.2.1 : Int32) + 1 : Int32)
          rw [e24]
          have a23i : a23.toInt = (p261.2.2.2.2.1 : Int32).toInt + 1 := by rw [← e24]; exact q_addI (x := (p261.2.2.2.2.1 : Int32).toInt) (y := 1) rfl (by decide) (by omega) (by omega)
          exact tr_nuA (by omega) (by omega) ⟨by omega, by omega⟩ ⟨by omega, ⟨by omega, by omega⟩, ⟨by omega, by omega⟩, ⟨by omega, by omega⟩, dgF.k (by omega) (by omega)⟩
theorem T_TR_nuB {t0_0 : Int32} {t0_1 : Int32} {t0_2 : Int32} {t0_3 : Int32} {t0_4 : Int32} {t0_5 : Int32} {t0_6 : Int32} {t0_7 : Int64} {t0_8 : Int32} {t0_9 : Int32} {t0_10 : Int64} {t0_11 : Int64} {t0_12 : Int32} {t0_13 : Int32} {t1_0 : (Nat → Int32)} {t2_0 : (Nat → Int32)} (ht : trT t1_0) (hl1 : t0_1.toInt ≤ 4100)(h3 : 0 ≤ t0_3.toInt ∧ t0_3.toInt ≤ 4105) : (S_TR_number_J59 t0_0 t0_1 t0_2 t0_3 t0_4 t0_5 t0_6 t0_7 t0_8 t0_9 t0_10 t0_11 t0_12 t0_13 t1_0 t2_0) ∧ Q_TR_number t0_1 t0_4 (F_TR_number_J59 t0_0 t0_1 t0_2 t0_3 t0_4 t0_5 t0_6 t0_7 t0_8 t0_9 t0_10 t0_11 t0_12 t0_13 t1_0 t2_0) := by
  have e0 : (0 : Int32).toInt = 0 := rfl
  have e1 : (1 : Int32).toInt = 1 := rfl
  have eL0 : (0 : Int64).toInt = 0 := rfl
  unfold S_TR_number_J59 F_TR_number_J59
  obtain ⟨a1, e2⟩ := q_nm (t0_3 + 2 : Int32)
  rw [e2]
  have a1i : a1.toInt = t0_3.toInt + 2 := by rw [← e2]; exact q_addI (x := t0_3.toInt) (y := 2) rfl (by decide) (by omega) (by omega)
  have h3 := T_TR_digits (x2 := (1 : Int32)) (t0_0 := t0_0) (t0_1 := t0_1) (t0_2 := (1 : Int32)) (t0_3 := a1) (t0_4 := t0_4) (t0_5 := t0_5) (t0_6 := t0_6) (t0_7 := (0 : Int64)) (t0_8 := t0_8) (t0_9 := t0_9) (t0_10 := t0_10) (t0_11 := t0_11) (t0_12 := t0_12) (t0_13 := t0_13) (t1_0 := t1_0) (t2_0 := t2_0) ht (by omega) ⟨by omega, by omega⟩
  with_reducible refine v_owe h3.1 ?_
  replace h3 := h3.2
  generalize F_TR_digits (1 : Int32) t0_0 t0_1 (1 : Int32) a1 t0_4 t0_5 t0_6 (0 : Int64) t0_8 t0_9 t0_10 t0_11 t0_12 t0_13 t1_0 t2_0 = p367 at *
  unfold Q_TR_digits at h3
  obtain ⟨h3a, h3b, h3c, h3d, h3e, h34, h36, h37, h3F, h30⟩ := h3
  have dgF := h3F
  have dgb := congrArg Int32.toInt h3b
  have dgc := congrArg Int32.toInt h3c
  have dge := congrArg Int64.toInt h3e
  have dgd := congrArg Int32.toInt h3d
  have dg0 := h30
  unfold S_TR_number_c76 F_TR_number_c76
  by_cases g4 : (p367.1 : Int32) = (0 : Int32)
  ·
    rw [if_pos g4, if_pos g4]
    refine ⟨trivial, ?_⟩
    exact tr_nuB (by omega) (by omega) ⟨by omega, by omega⟩
  ·
    rw [if_neg g4, if_neg g4]
    have dgn := dg0 g4
    have h5 := T_TR_isAt (x2 := (112 : Int32)) (x3 := (80 : Int32)) (t0_0 := (p367.2.1 : Int32)) (t0_1 := (p367.2.2.1 : Int32)) (t0_2 := (p367.2.2.2.1 : Int32)) (t0_3 := (p367.2.2.2.2.1 : Int32)) (t0_4 := (p367.2.2.2.2.2.1 : Int32)) (t0_5 := (p367.2.2.2.2.2.2.1 : Int32)) (t0_6 := (p367.2.2.2.2.2.2.2.1 : Int32)) (t0_7 := (p367.2.2.2.2.2.2.2.2.1 : Int64)) (t0_8 := (p367.2.2.2.2.2.2.2.2.2.1 : Int32)) (t0_9 := (p367.2.2.2.2.2.2.2.2.2.2.1 : Int32)) (t0_10 := (p367.2.2.2.2.2.2.2.2.2.2.2.1 : Int64)) (t0_11 := (p367.2.2.2.2.2.2.2.2.2.2.2.2.1 : Int64)) (t0_12 := (p367.2.2.2.2.2.2.2.2.2.2.2.2.2.1 : Int32)) (t0_13 := (p367.2.2.2.2.2.2.2.2.2.2.2.2.2.2.1 : Int32)) (t1_0 := t1_0) (by first | omega | decide)
    with_reducible refine v_owe h5 ?_
    by_cases g6 : ((F_TR_isAt (112 : Int32) (80 : Int32) (p367.2.1 : Int32) (p367.2.2.1 : Int32) (p367.2.2.2.1 : Int32) (p367.2.2.2.2.1 : Int32) (p367.2.2.2.2.2.1 : Int32) (p367.2.2.2.2.2.2.1 : Int32) (p367.2.2.2.2.2.2.2.1 : Int32) (p367.2.2.2.2.2.2.2.2.1 : Int64) (p367.2.2.2.2.2.2.2.2.2.1 : Int32) (p367.2.2.2.2.2.2.2.2.2.2.1 : Int32) (p367.2.2.2.2.2.2.2.2.2.2.2.1 : Int64) (p367.2.2.2.2.2.2.2.2.2.2.2.2.1 : Int64) (p367.2.2.2.2.2.2.2.2.2.2.2.2.2.1 : Int32) (p367.2.2.2.2.2.2.2.2.2.2.2.2.2.2.1 : Int32) t1_0) : Int32) = (0 : Int32)
    ·
      rw [if_pos g6, if_pos g6]
      refine ⟨trivial, ?_⟩
      exact tr_nuB (by omega) (by omega) ⟨by omega, by omega⟩
    ·
      rw [if_neg g6, if_neg g6]
      have g6i := tr_a g6 (by decide) (by decide)
      obtain ⟨a7, e8⟩ := q_nm ((p367.2.2.2.2.1 : Int32) + 1 : Int32)
      rw [e8]
      have a7i : a7.toInt = (p367.2.2.2.2.1 : Int32).toInt + 1 := by rw [← e8]; exact q_addI (x := (p367.2.2.2.2.1 : Int32).toInt) (y := 1) rfl (by decide) (by omega) (by omega)
      have h9 := T_TR_power (t0_0 := (p367.2.1 : Int32)) (t0_1 := (p367.2.2.1 : Int32)) (t0_2 := (p367.2.2.2.1 : Int32)) (t0_3 := a7) (t0_4 := (p367.2.2.2.2.2.1 : Int32)) (t0_5 := (p367.2.2.2.2.2.2.1 : Int32)) (t0_6 := (p367.2.2.2.2.2.2.2.1 : Int32)) (t0_7 := (p367.2.2.2.2.2.2.2.2.1 : Int64)) (t0_8 := (p367.2.2.2.2.2.2.2.2.2.1 : Int32)) (t0_9 := (p367.2.2.2.2.2.2.2.2.2.2.1 : Int32)) (t0_10 := (p367.2.2.2.2.2.2.2.2.2.2.2.1 : Int64)) (t0_11 := (p367.2.2.2.2.2.2.2.2.2.2.2.2.1 : Int64)) (t0_12 := (p367.2.2.2.2.2.2.2.2.2.2.2.2.2.1 : Int32)) (t0_13 := (p367.2.2.2.2.2.2.2.2.2.2.2.2.2.2.1 : Int32)) (t1_0 := t1_0) ht (by omega) ⟨by omega, by omega⟩ (by omega)
      with_reducible refine v_owe h9.1 ?_
      replace h9 := h9.2
      generalize F_TR_power (p367.2.1 : Int32) (p367.2.2.1 : Int32) (p367.2.2.2.1 : Int32) a7 (p367.2.2.2.2.2.1 : Int32) (p367.2.2.2.2.2.2.1 : Int32) (p367.2.2.2.2.2.2.2.1 : Int32) (p367.2.2.2.2.2.2.2.2.1 : Int64) (p367.2.2.2.2.2.2.2.2.2.1 : Int32) (p367.2.2.2.2.2.2.2.2.2.2.1 : Int32) (p367.2.2.2.2.2.2.2.2.2.2.2.1 : Int64) (p367.2.2.2.2.2.2.2.2.2.2.2.2.1 : Int64) (p367.2.2.2.2.2.2.2.2.2.2.2.2.2.1 : Int32) (p367.2.2.2.2.2.2.2.2.2.2.2.2.2.2.1 : Int32) t1_0 = p454 at *
      unfold Q_TR_power at h9
      obtain ⟨h9a, h9b, h9c, h9d, h9e, h9f, h94, h98⟩ := h9
      have pwb := congrArg Int32.toInt h9b
      have pwc := congrArg Int32.toInt h9c
      have pwe := congrArg Int32.toInt h9e
      have pwf := congrArg Int32.toInt h9f
      have pwE := h9e
      have pwC := h9c
      have pwd := congrArg Int32.toInt h9d
      unfold S_TR_number_c106 F_TR_number_c106
      by_cases g10 : (p454.1 : Int32) = (0 : Int32)
      ·
        rw [if_pos g10, if_pos g10]
        refine ⟨trivial, ?_⟩
        exact tr_nuB (by omega) (by omega) ⟨by omega, by omega⟩
      ·
        rw [if_neg g10, if_neg g10]
        unfold S_TR_number_J159 F_TR_number_J159
        have h11 := T_TR_isAt (x2 := (100 : Int32)) (x3 := (68 : Int32)) (t0_0 := (p454.2.1 : Int32)) (t0_1 := (p454.2.2.1 : Int32)) (t0_2 := (p454.2.2.2.1 : Int32)) (t0_3 := (p454.2.2.2.2.1 : Int32)) (t0_4 := (p454.2.2.2.2.2.1 : Int32)) (t0_5 := (p454.2.2.2.2.2.2.1 : Int32)) (t0_6 := (p454.2.2.2.2.2.2.2.1 : Int32)) (t0_7 := (p454.2.2.2.2.2.2.2.2.1 : Int64)) (t0_8 := (p454.2.2.2.2.2.2.2.2.2.1 : Int32)) (t0_9 := (p454.2.2.2.2.2.2.2.2.2.2.1 : Int32)) (t0_10 := (p454.2.2.2.2.2.2.2.2.2.2.2.1 : Int64)) (t0_11 := (p454.2.2.2.2.2.2.2.2.2.2.2.2.1 : Int64)) (t0_12 := (p454.2.2.2.2.2.2.2.2.2.2.2.2.2.1 : Int32)) (t0_13 := (p454.2.2.2.2.2.2.2.2.2.2.2.2.2.2 : Int32)) (t1_0 := t1_0) (by first | omega | decide)
        with_reducible refine v_owe h11 ?_
        by_cases g12 : ((F_TR_isAt (100 : Int32) (68 : Int32) (p454.2.1 : Int32) (p454.2.2.1 : Int32) (p454.2.2.2.1 : Int32) (p454.2.2.2.2.1 : Int32) (p454.2.2.2.2.2.1 : Int32) (p454.2.2.2.2.2.2.1 : Int32) (p454.2.2.2.2.2.2.2.1 : Int32) (p454.2.2.2.2.2.2.2.2.1 : Int64) (p454.2.2.2.2.2.2.2.2.2.1 : Int32) (p454.2.2.2.2.2.2.2.2.2.2.1 : Int32) (p454.2.2.2.2.2.2.2.2.2.2.2.1 : Int64) (p454.2.2.2.2.2.2.2.2.2.2.2.2.1 : Int64) (p454.2.2.2.2.2.2.2.2.2.2.2.2.2.1 : Int32) (p454.2.2.2.2.2.2.2.2.2.2.2.2.2.2 : Int32) t1_0) : Int32) = (0 : Int32)
        ·
          rw [if_pos g12, if_pos g12]
          have h13 := T_TR_isAt (x2 := (102 : Int32)) (x3 := (70 : Int32)) (t0_0 := (p454.2.1 : Int32)) (t0_1 := (p454.2.2.1 : Int32)) (t0_2 := (p454.2.2.2.1 : Int32)) (t0_3 := (p454.2.2.2.2.1 : Int32)) (t0_4 := (p454.2.2.2.2.2.1 : Int32)) (t0_5 := (p454.2.2.2.2.2.2.1 : Int32)) (t0_6 := (p454.2.2.2.2.2.2.2.1 : Int32)) (t0_7 := (p454.2.2.2.2.2.2.2.2.1 : Int64)) (t0_8 := (p454.2.2.2.2.2.2.2.2.2.1 : Int32)) (t0_9 := (p454.2.2.2.2.2.2.2.2.2.2.1 : Int32)) (t0_10 := (p454.2.2.2.2.2.2.2.2.2.2.2.1 : Int64)) (t0_11 := (p454.2.2.2.2.2.2.2.2.2.2.2.2.1 : Int64)) (t0_12 := (p454.2.2.2.2.2.2.2.2.2.2.2.2.2.1 : Int32)) (t0_13 := (p454.2.2.2.2.2.2.2.2.2.2.2.2.2.2 : Int32)) (t1_0 := t1_0) (by first | omega | decide)
          with_reducible refine v_owe h13 ?_
          by_cases g14 : ((F_TR_isAt (102 : Int32) (70 : Int32) (p454.2.1 : Int32) (p454.2.2.1 : Int32) (p454.2.2.2.1 : Int32) (p454.2.2.2.2.1 : Int32) (p454.2.2.2.2.2.1 : Int32) (p454.2.2.2.2.2.2.1 : Int32) (p454.2.2.2.2.2.2.2.1 : Int32) (p454.2.2.2.2.2.2.2.2.1 : Int64) (p454.2.2.2.2.2.2.2.2.2.1 : Int32) (p454.2.2.2.2.2.2.2.2.2.2.1 : Int32) (p454.2.2.2.2.2.2.2.2.2.2.2.1 : Int64) (p454.2.2.2.2.2.2.2.2.2.2.2.2.1 : Int64) (p454.2.2.2.2.2.2.2.2.2.2.2.2.2.1 : Int32) (p454.2.2.2.2.2.2.2.2.2.2.2.2.2.2 : Int32) t1_0) : Int32) = (0 : Int32)
          ·
            rw [if_pos g14, if_pos g14]
            refine ⟨trivial, ?_⟩
            exact tr_nuA (by omega) (by omega) ⟨by omega, by omega⟩ ⟨by omega, ⟨by omega, by omega⟩, ⟨by omega, by omega⟩, ⟨by omega, by omega⟩, dgF.k (by omega) (by omega)⟩
          ·
            rw [if_neg g14, if_neg g14]
            have g14i := tr_a g14 (by decide) (by decide)
            refine ⟨trivial, ?_⟩
            obtain ⟨a15, e16⟩ := q_nm ((p454.2.2.2.2.1 : Int32) + 1 : Int32)
            rw [e16]
            have a15i : a15.toInt = (p454.2.2.2.2.1 : Int32).toInt + 1 := by rw [← e16]; exact q_addI (x := (p454.2.2.2.2.1 : Int32).toInt) (y := 1) rfl (by decide) (by omega) (by omega)
            exact tr_nuA (by omega) (by omega) ⟨by omega, by omega⟩ ⟨by omega, ⟨by omega, by omega⟩, ⟨by omega, by omega⟩, ⟨by omega, by omega⟩, dgF.k (by omega) (by omega)⟩
        ·
          rw [if_neg g12, if_neg g12]
          have g12i := tr_a g12 (by decide) (by decide)
          refine ⟨trivial, ?_⟩
          obtain ⟨a17, e18⟩ := q_nm ((p454.2.2.2.2.1 : Int32) + 1 : Int32)
          rw [e18]
          have a17i : a17.toInt = (p454.2.2.2.2.1 : Int32).toInt + 1 := by rw [← e18]; exact q_addI (x := (p454.2.2.2.2.1 : Int32).toInt) (y := 1) rfl (by decide) (by omega) (by omega)
          exact tr_nuA (by omega) (by omega) ⟨by omega, by omega⟩ ⟨by omega, ⟨by omega, by omega⟩, ⟨by omega, by omega⟩, ⟨by omega, by omega⟩, dgF.k (by omega) (by omega)⟩
theorem T_TR_number {t0_0 : Int32} {t0_1 : Int32} {t0_2 : Int32} {t0_3 : Int32} {t0_4 : Int32} {t0_5 : Int32} {t0_6 : Int32} {t0_7 : Int64} {t0_8 : Int32} {t0_9 : Int32} {t0_10 : Int64} {t0_11 : Int64} {t0_12 : Int32} {t0_13 : Int32} {t1_0 : (Nat → Int32)} {t2_0 : (Nat → Int32)} (ht : trT t1_0) (hl1 : t0_1.toInt ≤ 4100)(h3 : 0 ≤ t0_3.toInt ∧ t0_3.toInt ≤ 4105) : (S_TR_number t0_0 t0_1 t0_2 t0_3 t0_4 t0_5 t0_6 t0_7 t0_8 t0_9 t0_10 t0_11 t0_12 t0_13 t1_0 t2_0) ∧ Q_TR_number t0_1 t0_4 (F_TR_number t0_0 t0_1 t0_2 t0_3 t0_4 t0_5 t0_6 t0_7 t0_8 t0_9 t0_10 t0_11 t0_12 t0_13 t1_0 t2_0) := by
  have e0 : (0 : Int32).toInt = 0 := rfl
  have e1 : (1 : Int32).toInt = 1 := rfl
  have eL0 : (0 : Int64).toInt = 0 := rfl
  unfold S_TR_number F_TR_number
  have h1 := T_TR_here (t0_0 := t0_0) (t0_1 := t0_1) (t0_2 := t0_2) (t0_3 := t0_3) (t0_4 := t0_4) (t0_5 := t0_5) (t0_6 := t0_6) (t0_7 := (0 : Int64)) (t0_8 := t0_8) (t0_9 := t0_9) (t0_10 := t0_10) (t0_11 := t0_11) (t0_12 := t0_12) (t0_13 := t0_13) (t1_0 := t1_0) (by first | omega | decide)
  with_reducible refine v_owe h1 ?_
  by_cases g2 : ((F_TR_here t0_0 t0_1 t0_2 t0_3 t0_4 t0_5 t0_6 (0 : Int64) t0_8 t0_9 t0_10 t0_11 t0_12 t0_13 t1_0) : Int32) = (48 : Int32)
  ·
    rw [if_pos g2, if_pos g2]
    have g2i := tr_h g2 (by decide)
    obtain ⟨a3, e4⟩ := q_nm (t0_3 + 1 : Int32)
    rw [e4]
    have a3i : a3.toInt = t0_3.toInt + 1 := by rw [← e4]; exact q_addI (x := t0_3.toInt) (y := 1) rfl (by decide) (by omega) (by omega)
    by_cases g5 : t0_1 ≤ a3
    ·
      rw [if_pos g5, if_pos g5]
      have g5i : t0_1.toInt ≤ a3.toInt := q_leI g5
      exact T_TR_nuA ht hl1 h3
    ·
      rw [if_neg g5, if_neg g5]
      have g5i : a3.toInt < t0_1.toInt := q_nleI g5
      refine v_cons (by first | omega | decide) ?_
      refine v_cons (by first | omega | decide) ?_
      by_cases g6 : (t1_0 a3.toNatClampNeg : Int32) = (120 : Int32)
      ·
        rw [if_pos g6, if_pos g6]
        exact T_TR_nuB ht hl1 h3
      ·
        rw [if_neg g6, if_neg g6]
        refine v_cons (by first | omega | decide) ?_
        refine v_cons (by first | omega | decide) ?_
        by_cases g7 : (t1_0 a3.toNatClampNeg : Int32) = (88 : Int32)
        ·
          rw [if_pos g7, if_pos g7]
          exact T_TR_nuB ht hl1 h3
        ·
          rw [if_neg g7, if_neg g7]
          exact T_TR_nuA ht hl1 h3
  ·
    rw [if_neg g2, if_neg g2]
    exact T_TR_nuA ht hl1 h3
def Q_TR_blanks (t0_1 t0_2 t0_3 t0_4 t0_5 t0_6 : Int32) (t0_7 : Int64) (p : Int32 × Int32 × Int32 × Int32 × Int32 × Int32 × Int32 × Int64 × Int32 × Int32 × Int64 × Int64 × Int32 × Int32) : Prop := p.2.1 = t0_1 ∧ p.2.2.1 = t0_2 ∧ p.2.2.2.2.1 = t0_4 ∧ (0 ≤ p.2.2.2.1.toInt ∧ (p.2.2.2.1.toInt ≤ t0_3.toInt ∨ p.2.2.2.1.toInt ≤ 4100)) ∧ (∀ f, trS t0_2 t0_5 t0_6 t0_7 f → trS p.2.2.1 p.2.2.2.2.2.1 p.2.2.2.2.2.2.1 p.2.2.2.2.2.2.2.1 f)
theorem vt_bl {t0_0 : Int32} {t0_1 : Int32} {t0_2 : Int32} {t0_3 : Int32} {t0_4 : Int32} {t0_5 : Int32} {t0_6 : Int32} {t0_7 : Int64} {t0_8 : Int32} {t0_9 : Int32} {t0_10 : Int64} {t0_11 : Int64} {t0_12 : Int32} {t0_13 : Int32} {t1_0 : (Nat → Int32)} (hl1 : t0_1.toInt ≤ 4100) : ∀ (n : Nat) (lx22 : Int32), (0 ≤ lx22.toInt ∧ lx22.toInt ≤ 4150 ∧ (lx22.toInt ≤ t0_3.toInt ∨ lx22.toInt ≤ 4100)) → (4100 - lx22.toInt < (n : Int) ∧ 0 < (n : Int)) → (S_TR_blanks_L0 t0_0 t0_1 t0_2 t0_3 t0_4 t0_5 t0_6 t0_7 t0_8 t0_9 t0_10 t0_11 t0_12 t0_13 t1_0 n lx22) ∧ Q_TR_blanks t0_1 t0_2 t0_3 t0_4 t0_5 t0_6 t0_7 (F_TR_blanks_L0 t0_0 t0_1 t0_2 t0_3 t0_4 t0_5 t0_6 t0_7 t0_8 t0_9 t0_10 t0_11 t0_12 t0_13 t1_0 n lx22) := by
  intro n
  induction n with
  | zero => intro lx22 h0 hm; exact absurd (show False by omega) id
  | succ n ih =>
    intro lx22 h0 hm
    have e0 : (0 : Int32).toInt = 0 := rfl
    have e1 : (1 : Int32).toInt = 1 := rfl
    have eL0 : (0 : Int64).toInt = 0 := rfl
    rw [S_TR_blanks_L0.eq_2, F_TR_blanks_L0.eq_2]
    by_cases g1 : t0_1 ≤ lx22
    ·
      rw [if_pos g1, if_pos g1]
      have g1i : t0_1.toInt ≤ lx22.toInt := q_leI g1
      refine ⟨trivial, ?_⟩
      (unfold Q_TR_blanks; dsimp only; exact ⟨rfl, rfl, rfl, ⟨by omega, by omega⟩, fun f h => h⟩)
    ·
      rw [if_neg g1, if_neg g1]
      have g1i : lx22.toInt < t0_1.toInt := q_nleI g1
      refine v_cons (by first | omega | decide) ?_
      by_cases g2 : (32 : Int32) < (t1_0 lx22.toNatClampNeg : Int32)
      ·
        rw [if_pos g2, if_pos g2]
        refine ⟨trivial, ?_⟩
        (unfold Q_TR_blanks; dsimp only; exact ⟨rfl, rfl, rfl, ⟨by omega, by omega⟩, fun f h => h⟩)
      ·
        rw [if_neg g2, if_neg g2]
        obtain ⟨a3, e4⟩ := q_nm (lx22 + 1 : Int32)
        rw [e4]
        have a3i : a3.toInt = lx22.toInt + 1 := by rw [← e4]; exact q_addI (x := lx22.toInt) (y := 1) rfl (by decide) (by omega) (by omega)
        exact ih _ ⟨by omega, by omega, by omega⟩ ⟨by omega, by omega⟩
theorem T_TR_blanks {t0_0 : Int32} {t0_1 : Int32} {t0_2 : Int32} {t0_3 : Int32} {t0_4 : Int32} {t0_5 : Int32} {t0_6 : Int32} {t0_7 : Int64} {t0_8 : Int32} {t0_9 : Int32} {t0_10 : Int64} {t0_11 : Int64} {t0_12 : Int32} {t0_13 : Int32} {t1_0 : (Nat → Int32)} (hl1 : t0_1.toInt ≤ 4100) (h3 : 0 ≤ t0_3.toInt ∧ t0_3.toInt ≤ 4150) : (S_TR_blanks t0_0 t0_1 t0_2 t0_3 t0_4 t0_5 t0_6 t0_7 t0_8 t0_9 t0_10 t0_11 t0_12 t0_13 t1_0) ∧ Q_TR_blanks t0_1 t0_2 t0_3 t0_4 t0_5 t0_6 t0_7 (F_TR_blanks t0_0 t0_1 t0_2 t0_3 t0_4 t0_5 t0_6 t0_7 t0_8 t0_9 t0_10 t0_11 t0_12 t0_13 t1_0) := by
  have e0 : (0 : Int32).toInt = 0 := rfl
  have e1 : (1 : Int32).toInt = 1 := rfl
  have eL0 : (0 : Int64).toInt = 0 := rfl
  unfold S_TR_blanks F_TR_blanks
  exact vt_bl hl1 _ _ ⟨by omega, by omega, by omega⟩ ⟨by omega, by omega⟩
def Q_TR_spells (t0_1 t0_2 t0_4 : Int32) (p : Int32 × Int32 × Int32 × Int32 × Int32 × Int32 × Int32 × Int32 × Int64 × Int32 × Int32 × Int64 × Int64 × Int32 × Int32) : Prop := p.2.2.1 = t0_1 ∧ p.2.2.2.1 = t0_2 ∧ p.2.2.2.2.2.1 = t0_4 ∧ (0 ≤ p.2.2.2.2.1.toInt ∧ p.2.2.2.2.1.toInt ≤ 4130)
theorem vt_sp {x2 : Int64} {t0_0 : Int32} {t0_1 : Int32} {t0_2 : Int32} {t0_3 : Int32} {t0_4 : Int32} {t0_5 : Int32} {t0_6 : Int32} {t0_7 : Int64} {t0_8 : Int32} {t0_9 : Int32} {t0_10 : Int64} {t0_11 : Int64} {t0_12 : Int32} {t0_13 : Int32} {t1_0 : (Nat → Int32)} (h3 : 0 ≤ t0_3.toInt ∧ t0_3.toInt ≤ 4110) : ∀ (n : Nat) (lx23 : Int64) (lx24 : Int32), (0 ≤ lx23.toInt) → (∃ j : Nat, lx23.toInt < 256 ^ j ∧ j < n ∧ lx24.toInt + (j : Int) ≤ t0_3.toInt + 8) → (0 ≤ lx24.toInt) → (S_TR_spells_L2 x2 t0_0 t0_1 t0_2 t0_3 t0_4 t0_5 t0_6 t0_7 t0_8 t0_9 t0_10 t0_11 t0_12 t0_13 t1_0 n lx23 lx24) ∧ Q_TR_spells t0_1 t0_2 t0_4 (F_TR_spells_L2 x2 t0_0 t0_1 t0_2 t0_3 t0_4 t0_5 t0_6 t0_7 t0_8 t0_9 t0_10 t0_11 t0_12 t0_13 t1_0 n lx23 lx24) := by
  intro n
  induction n with
  | zero => intro lx23 lx24 hx hj h0; obtain ⟨j, -, a, -⟩ := hj; omega
  | succ n ih =>
    intro lx23 lx24 hx hj h0
    have e0 : (0 : Int32).toInt = 0 := rfl
    have e1 : (1 : Int32).toInt = 1 := rfl
    have eL0 : (0 : Int64).toInt = 0 := rfl
    have h8 : lx24.toInt ≤ t0_3.toInt + 8 := by obtain ⟨j, a, b, c⟩ := hj; omega
    rw [S_TR_spells_L2.eq_2, F_TR_spells_L2.eq_2]
    by_cases g1 : (lg_cmp lx23 0 : Int32) = (0 : Int32)
    ·
      rw [if_pos g1, if_pos g1]
      refine ⟨trivial, ?_⟩
      (unfold Q_TR_spells; dsimp only; exact ⟨rfl, rfl, rfl, ⟨by omega, by omega⟩⟩)
    ·
      rw [if_neg g1, if_neg g1]
      have nz := fl_lnz g1
      have h2 := T_TR_here (t0_0 := t0_0) (t0_1 := t0_1) (t0_2 := t0_2) (t0_3 := lx24) (t0_4 := t0_4) (t0_5 := t0_5) (t0_6 := t0_6) (t0_7 := t0_7) (t0_8 := t0_8) (t0_9 := t0_9) (t0_10 := t0_10) (t0_11 := t0_11) (t0_12 := t0_12) (t0_13 := t0_13) (t1_0 := t1_0) (by first | omega | decide)
      with_reducible refine v_owe h2 ?_
      by_cases g3 : (lg_cmp (((F_TR_here t0_0 t0_1 t0_2 lx24 t0_4 t0_5 t0_6 t0_7 t0_8 t0_9 t0_10 t0_11 t0_12 t0_13 t1_0) : Int32).toInt64 : Int64) (lx23 &&& 255 : Int64) : Int32) = (0 : Int32)
      ·
        rw [if_pos g3, if_pos g3]
        obtain ⟨a4, e5⟩ := q_nm (lx24 + 1 : Int32)
        rw [e5]
        have a4i : a4.toInt = lx24.toInt + 1 := by rw [← e5]; exact q_addI (x := lx24.toInt) (y := 1) rfl (by decide) (by omega) (by omega)
        obtain ⟨j, a, b, c⟩ := hj; have q := tr_256 a (by omega); exact ih _ _ (by rw [tr_shr8]; omega) ⟨j - 1, by rw [tr_shr8]; exact q.2, by omega, by omega⟩ (by omega)
      ·
        rw [if_neg g3, if_neg g3]
        refine ⟨trivial, ?_⟩
        (unfold Q_TR_spells; dsimp only; exact ⟨rfl, rfl, rfl, ⟨by omega, by omega⟩⟩)
theorem T_TR_spells {x2 : Int64} {t0_0 : Int32} {t0_1 : Int32} {t0_2 : Int32} {t0_3 : Int32} {t0_4 : Int32} {t0_5 : Int32} {t0_6 : Int32} {t0_7 : Int64} {t0_8 : Int32} {t0_9 : Int32} {t0_10 : Int64} {t0_11 : Int64} {t0_12 : Int32} {t0_13 : Int32} {t1_0 : (Nat → Int32)} (h3 : 0 ≤ t0_3.toInt ∧ t0_3.toInt ≤ 4110) (hx : 0 ≤ x2.toInt) : (S_TR_spells x2 t0_0 t0_1 t0_2 t0_3 t0_4 t0_5 t0_6 t0_7 t0_8 t0_9 t0_10 t0_11 t0_12 t0_13 t1_0) ∧ Q_TR_spells t0_1 t0_2 t0_4 (F_TR_spells x2 t0_0 t0_1 t0_2 t0_3 t0_4 t0_5 t0_6 t0_7 t0_8 t0_9 t0_10 t0_11 t0_12 t0_13 t1_0) := by
  have e0 : (0 : Int32).toInt = 0 := rfl
  have e1 : (1 : Int32).toInt = 1 := rfl
  have eL0 : (0 : Int64).toInt = 0 := rfl
  unfold S_TR_spells F_TR_spells
  exact vt_sp h3 1000000 _ _ hx ⟨8, tr_lt8, by decide, by omega⟩ h3.1
def Q_TR_scan (t0_1 : Int32) (p : Int32 × Int32 × Int32 × Int32 × Int32 × Int32 × Int32 × Int32 × Int64 × Int32 × Int32 × Int64 × Int64 × Int32 × Int32 × (Nat → Int32)) : Prop := p.2.2.1.toInt = t0_1.toInt ∧ (0 ≤ p.2.2.2.2.2.1.toInt ∧ p.2.2.2.2.2.1.toInt ≤ 1) ∧ (0 ≤ p.2.2.2.2.1.toInt ∧ p.2.2.2.2.1.toInt ≤ 4150) ∧ (p.1 ≠ 0 → (2 ≤ p.2.2.2.1.toInt ∧ p.2.2.2.1.toInt ≤ 3) ∨ trS p.2.2.2.1 p.2.2.2.2.2.2.1 p.2.2.2.2.2.2.2.1 p.2.2.2.2.2.2.2.2.1 p.2.2.2.2.2.2.2.2.2.2.2.2.2.2.2)
theorem T_TR_scan {t0_0 : Int32} {t0_1 : Int32} {t0_2 : Int32} {t0_3 : Int32} {t0_4 : Int32} {t0_5 : Int32} {t0_6 : Int32} {t0_7 : Int64} {t0_8 : Int32} {t0_9 : Int32} {t0_10 : Int64} {t0_11 : Int64} {t0_12 : Int32} {t0_13 : Int32} {t1_0 : (Nat → Int32)} {t2_0 : (Nat → Int32)} (ht : trT t1_0) (hl1 : t0_1.toInt ≤ 4100) : (S_TR_scan t0_0 t0_1 t0_2 t0_3 t0_4 t0_5 t0_6 t0_7 t0_8 t0_9 t0_10 t0_11 t0_12 t0_13 t1_0 t2_0) ∧ Q_TR_scan t0_1 (F_TR_scan t0_0 t0_1 t0_2 t0_3 t0_4 t0_5 t0_6 t0_7 t0_8 t0_9 t0_10 t0_11 t0_12 t0_13 t1_0 t2_0) := by
  have e0 : (0 : Int32).toInt = 0 := rfl
  have e1 : (1 : Int32).toInt = 1 := rfl
  have eL0 : (0 : Int64).toInt = 0 := rfl
  have e3 : (3 : Int32).toInt = 3 := rfl
  have e2 : (2 : Int32).toInt = 2 := rfl
  unfold S_TR_scan F_TR_scan
  have h1 := T_TR_blanks (t0_0 := t0_0) (t0_1 := t0_1) (t0_2 := t0_2) (t0_3 := (0 : Int32)) (t0_4 := t0_4) (t0_5 := t0_5) (t0_6 := t0_6) (t0_7 := t0_7) (t0_8 := t0_8) (t0_9 := t0_9) (t0_10 := t0_10) (t0_11 := t0_11) (t0_12 := t0_12) (t0_13 := t0_13) (t1_0 := t1_0) (by omega) ⟨by first | omega | decide, by first | omega | decide⟩
  with_reducible refine v_owe h1.1 ?_
  replace h1 := h1.2
  generalize F_TR_blanks t0_0 t0_1 t0_2 (0 : Int32) t0_4 t0_5 t0_6 t0_7 t0_8 t0_9 t0_10 t0_11 t0_12 t0_13 t1_0 = p75 at *
  unfold Q_TR_blanks at h1
  obtain ⟨h1b, h1c, h1d, h13, h1s⟩ := h1
  have blp75d := congrArg Int32.toInt h1d
  have blp75b := congrArg Int32.toInt h1b
  have blp75c := congrArg Int32.toInt h1c
  have blp75s := h1s
  unfold S_TR_scan_c6 F_TR_scan_c6
  have h2 := T_TR_here (t0_0 := (p75.1 : Int32)) (t0_1 := (p75.2.1 : Int32)) (t0_2 := (p75.2.2.1 : Int32)) (t0_3 := (p75.2.2.2.1 : Int32)) (t0_4 := (p75.2.2.2.2.1 : Int32)) (t0_5 := (p75.2.2.2.2.2.1 : Int32)) (t0_6 := (p75.2.2.2.2.2.2.1 : Int32)) (t0_7 := (p75.2.2.2.2.2.2.2.1 : Int64)) (t0_8 := (p75.2.2.2.2.2.2.2.2.1 : Int32)) (t0_9 := (p75.2.2.2.2.2.2.2.2.2.1 : Int32)) (t0_10 := (p75.2.2.2.2.2.2.2.2.2.2.1 : Int64)) (t0_11 := (p75.2.2.2.2.2.2.2.2.2.2.2.1 : Int64)) (t0_12 := (p75.2.2.2.2.2.2.2.2.2.2.2.2.1 : Int32)) (t0_13 := (p75.2.2.2.2.2.2.2.2.2.2.2.2.2 : Int32)) (t1_0 := t1_0) (by first | omega | decide)
  with_reducible refine v_owe h2 ?_
  by_cases g3 : ((F_TR_here (p75.1 : Int32) (p75.2.1 : Int32) (p75.2.2.1 : Int32) (p75.2.2.2.1 : Int32) (p75.2.2.2.2.1 : Int32) (p75.2.2.2.2.2.1 : Int32) (p75.2.2.2.2.2.2.1 : Int32) (p75.2.2.2.2.2.2.2.1 : Int64) (p75.2.2.2.2.2.2.2.2.1 : Int32) (p75.2.2.2.2.2.2.2.2.2.1 : Int32) (p75.2.2.2.2.2.2.2.2.2.2.1 : Int64) (p75.2.2.2.2.2.2.2.2.2.2.2.1 : Int64) (p75.2.2.2.2.2.2.2.2.2.2.2.2.1 : Int32) (p75.2.2.2.2.2.2.2.2.2.2.2.2.2 : Int32) t1_0) : Int32) = (45 : Int32)
  ·
    rw [if_pos g3, if_pos g3]
    have g3i := tr_h g3 (by decide)
    unfold S_TR_scan_J24 F_TR_scan_J24
    have g4 : ¬ ((1 : Int32) = (0 : Int32)) := (by decide)
    rw [if_neg g4, if_neg g4]
    unfold S_TR_scan_J43 F_TR_scan_J43
    obtain ⟨lx116, e5⟩ := q_nm (((p75.2.2.2.1 : Int32) + 1 : Int32) : Int32)
    rw [e5]
    have lx116i : lx116.toInt = p75.2.2.2.1.toInt + 1 := by rw [← e5]; exact q_addI (y := 1) rfl (by decide) (by omega) (by omega)
    unfold S_TR_scan_J53 F_TR_scan_J53
    have h6 := T_TR_here (t0_0 := (p75.1 : Int32)) (t0_1 := (p75.2.1 : Int32)) (t0_2 := (p75.2.2.1 : Int32)) (t0_3 := lx116) (t0_4 := (1 : Int32)) (t0_5 := (p75.2.2.2.2.2.1 : Int32)) (t0_6 := (p75.2.2.2.2.2.2.1 : Int32)) (t0_7 := (p75.2.2.2.2.2.2.2.1 : Int64)) (t0_8 := (p75.2.2.2.2.2.2.2.2.1 : Int32)) (t0_9 := (p75.2.2.2.2.2.2.2.2.2.1 : Int32)) (t0_10 := (p75.2.2.2.2.2.2.2.2.2.2.1 : Int64)) (t0_11 := (p75.2.2.2.2.2.2.2.2.2.2.2.1 : Int64)) (t0_12 := (p75.2.2.2.2.2.2.2.2.2.2.2.2.1 : Int32)) (t0_13 := (p75.2.2.2.2.2.2.2.2.2.2.2.2.2 : Int32)) (t1_0 := t1_0) (by first | omega | decide)
    with_reducible refine v_owe h6 ?_
    by_cases g7 : ((F_TR_here (p75.1 : Int32) (p75.2.1 : Int32) (p75.2.2.1 : Int32) lx116 (1 : Int32) (p75.2.2.2.2.2.1 : Int32) (p75.2.2.2.2.2.2.1 : Int32) (p75.2.2.2.2.2.2.2.1 : Int64) (p75.2.2.2.2.2.2.2.2.1 : Int32) (p75.2.2.2.2.2.2.2.2.2.1 : Int32) (p75.2.2.2.2.2.2.2.2.2.2.1 : Int64) (p75.2.2.2.2.2.2.2.2.2.2.2.1 : Int64) (p75.2.2.2.2.2.2.2.2.2.2.2.2.1 : Int32) (p75.2.2.2.2.2.2.2.2.2.2.2.2.2 : Int32) t1_0) : Int32) = (78 : Int32)
    ·
      rw [if_pos g7, if_pos g7]
      have g7i := tr_h g7 (by decide)
      have h8 := T_TR_spells (x2 := (5136718 : Int64)) (t0_0 := (p75.1 : Int32)) (t0_1 := (p75.2.1 : Int32)) (t0_2 := (3 : Int32)) (t0_3 := lx116) (t0_4 := (1 : Int32)) (t0_5 := (p75.2.2.2.2.2.1 : Int32)) (t0_6 := (p75.2.2.2.2.2.2.1 : Int32)) (t0_7 := (p75.2.2.2.2.2.2.2.1 : Int64)) (t0_8 := (p75.2.2.2.2.2.2.2.2.1 : Int32)) (t0_9 := (p75.2.2.2.2.2.2.2.2.2.1 : Int32)) (t0_10 := (p75.2.2.2.2.2.2.2.2.2.2.1 : Int64)) (t0_11 := (p75.2.2.2.2.2.2.2.2.2.2.2.1 : Int64)) (t0_12 := (p75.2.2.2.2.2.2.2.2.2.2.2.2.1 : Int32)) (t0_13 := (p75.2.2.2.2.2.2.2.2.2.2.2.2.2 : Int32)) (t1_0 := t1_0) ⟨by omega, by omega⟩ (by decide)
      with_reducible refine v_owe h8.1 ?_
      replace h8 := h8.2
      generalize F_TR_spells (5136718 : Int64) (p75.1 : Int32) (p75.2.1 : Int32) (3 : Int32) lx116 (1 : Int32) (p75.2.2.2.2.2.1 : Int32) (p75.2.2.2.2.2.2.1 : Int32) (p75.2.2.2.2.2.2.2.1 : Int64) (p75.2.2.2.2.2.2.2.2.1 : Int32) (p75.2.2.2.2.2.2.2.2.2.1 : Int32) (p75.2.2.2.2.2.2.2.2.2.2.1 : Int64) (p75.2.2.2.2.2.2.2.2.2.2.2.1 : Int64) (p75.2.2.2.2.2.2.2.2.2.2.2.2.1 : Int32) (p75.2.2.2.2.2.2.2.2.2.2.2.2.2 : Int32) t1_0 = p518 at *
      unfold Q_TR_spells at h8
      obtain ⟨h8b, h8c, h8d, h84⟩ := h8
      have spp518d := congrArg Int32.toInt h8d
      have spp518b := congrArg Int32.toInt h8b
      have spp518c := congrArg Int32.toInt h8c
      unfold S_TR_scan_c71 F_TR_scan_c71
      unfold S_TR_scan_J108 F_TR_scan_J108
      by_cases g9 : (p518.1 : Int32) = (0 : Int32)
      ·
        rw [if_pos g9, if_pos g9]
        unfold S_TR_scan_J116 F_TR_scan_J116
        rw [if_pos g9, if_pos g9]
        refine ⟨trivial, ?_⟩
        (unfold Q_TR_scan; dsimp only; exact ⟨by omega, ⟨by omega, by omega⟩, ⟨by omega, by omega⟩, fun h => absurd rfl h⟩)
      ·
        rw [if_neg g9, if_neg g9]
        have h10 := T_TR_blanks (t0_0 := (p518.2.1 : Int32)) (t0_1 := (p518.2.2.1 : Int32)) (t0_2 := (p518.2.2.2.1 : Int32)) (t0_3 := (p518.2.2.2.2.1 : Int32)) (t0_4 := (p518.2.2.2.2.2.1 : Int32)) (t0_5 := (p518.2.2.2.2.2.2.1 : Int32)) (t0_6 := (p518.2.2.2.2.2.2.2.1 : Int32)) (t0_7 := (p518.2.2.2.2.2.2.2.2.1 : Int64)) (t0_8 := (p518.2.2.2.2.2.2.2.2.2.1 : Int32)) (t0_9 := (p518.2.2.2.2.2.2.2.2.2.2.1 : Int32)) (t0_10 := (p518.2.2.2.2.2.2.2.2.2.2.2.1 : Int64)) (t0_11 := (p518.2.2.2.2.2.2.2.2.2.2.2.2.1 : Int64)) (t0_12 := (p518.2.2.2.2.2.2.2.2.2.2.2.2.2.1 : Int32)) (t0_13 := (p518.2.2.2.2.2.2.2.2.2.2.2.2.2.2 : Int32)) (t1_0 := t1_0) (by omega) ⟨by first | omega | decide, by first | omega | decide⟩
        with_reducible refine v_owe h10.1 ?_
        replace h10 := h10.2
        generalize F_TR_blanks (p518.2.1 : Int32) (p518.2.2.1 : Int32) (p518.2.2.2.1 : Int32) (p518.2.2.2.2.1 : Int32) (p518.2.2.2.2.2.1 : Int32) (p518.2.2.2.2.2.2.1 : Int32) (p518.2.2.2.2.2.2.2.1 : Int32) (p518.2.2.2.2.2.2.2.2.1 : Int64) (p518.2.2.2.2.2.2.2.2.2.1 : Int32) (p518.2.2.2.2.2.2.2.2.2.2.1 : Int32) (p518.2.2.2.2.2.2.2.2.2.2.2.1 : Int64) (p518.2.2.2.2.2.2.2.2.2.2.2.2.1 : Int64) (p518.2.2.2.2.2.2.2.2.2.2.2.2.2.1 : Int32) (p518.2.2.2.2.2.2.2.2.2.2.2.2.2.2 : Int32) t1_0 = p289 at *
        unfold Q_TR_blanks at h10
        obtain ⟨h10b, h10c, h10d, h103, h10s⟩ := h10
        have blp289d := congrArg Int32.toInt h10d
        have blp289b := congrArg Int32.toInt h10b
        have blp289c := congrArg Int32.toInt h10c
        have blp289s := h10s
        unfold S_TR_scan_c113 F_TR_scan_c113
        unfold S_TR_scan_J116 F_TR_scan_J116
        rw [if_neg g9, if_neg g9]
        by_cases g11 : (p289.2.2.2.1 : Int32) = (p289.2.1 : Int32)
        ·
          rw [if_pos g11, if_pos g11]
          refine ⟨trivial, ?_⟩
          (unfold Q_TR_scan; dsimp only; exact ⟨by omega, ⟨by omega, by omega⟩, ⟨by omega, by omega⟩, fun _ => Or.inl ⟨by omega, by omega⟩⟩)
        ·
          rw [if_neg g11, if_neg g11]
          refine ⟨trivial, ?_⟩
          (unfold Q_TR_scan; dsimp only; exact ⟨by omega, ⟨by omega, by omega⟩, ⟨by omega, by omega⟩, fun h => absurd rfl h⟩)
    ·
      rw [if_neg g7, if_neg g7]
      with_reducible refine v_owe h6 ?_
      by_cases g12 : ((F_TR_here (p75.1 : Int32) (p75.2.1 : Int32) (p75.2.2.1 : Int32) lx116 (1 : Int32) (p75.2.2.2.2.2.1 : Int32) (p75.2.2.2.2.2.2.1 : Int32) (p75.2.2.2.2.2.2.2.1 : Int64) (p75.2.2.2.2.2.2.2.2.1 : Int32) (p75.2.2.2.2.2.2.2.2.2.1 : Int32) (p75.2.2.2.2.2.2.2.2.2.2.1 : Int64) (p75.2.2.2.2.2.2.2.2.2.2.2.1 : Int64) (p75.2.2.2.2.2.2.2.2.2.2.2.2.1 : Int32) (p75.2.2.2.2.2.2.2.2.2.2.2.2.2 : Int32) t1_0) : Int32) = (73 : Int32)
      ·
        rw [if_pos g12, if_pos g12]
        have g12i := tr_h g12 (by decide)
        have h13 := T_TR_spells (x2 := (8751735898823355977 : Int64)) (t0_0 := (p75.1 : Int32)) (t0_1 := (p75.2.1 : Int32)) (t0_2 := (2 : Int32)) (t0_3 := lx116) (t0_4 := (1 : Int32)) (t0_5 := (p75.2.2.2.2.2.1 : Int32)) (t0_6 := (p75.2.2.2.2.2.2.1 : Int32)) (t0_7 := (p75.2.2.2.2.2.2.2.1 : Int64)) (t0_8 := (p75.2.2.2.2.2.2.2.2.1 : Int32)) (t0_9 := (p75.2.2.2.2.2.2.2.2.2.1 : Int32)) (t0_10 := (p75.2.2.2.2.2.2.2.2.2.2.1 : Int64)) (t0_11 := (p75.2.2.2.2.2.2.2.2.2.2.2.1 : Int64)) (t0_12 := (p75.2.2.2.2.2.2.2.2.2.2.2.2.1 : Int32)) (t0_13 := (p75.2.2.2.2.2.2.2.2.2.2.2.2.2 : Int32)) (t1_0 := t1_0) ⟨by omega, by omega⟩ (by decide)
        with_reducible refine v_owe h13.1 ?_
        replace h13 := h13.2
        generalize F_TR_spells (8751735898823355977 : Int64) (p75.1 : Int32) (p75.2.1 : Int32) (2 : Int32) lx116 (1 : Int32) (p75.2.2.2.2.2.1 : Int32) (p75.2.2.2.2.2.2.1 : Int32) (p75.2.2.2.2.2.2.2.1 : Int64) (p75.2.2.2.2.2.2.2.2.1 : Int32) (p75.2.2.2.2.2.2.2.2.2.1 : Int32) (p75.2.2.2.2.2.2.2.2.2.2.1 : Int64) (p75.2.2.2.2.2.2.2.2.2.2.2.1 : Int64) (p75.2.2.2.2.2.2.2.2.2.2.2.2.1 : Int32) (p75.2.2.2.2.2.2.2.2.2.2.2.2.2 : Int32) t1_0 = p444 at *
        unfold Q_TR_spells at h13
        obtain ⟨h13b, h13c, h13d, h134⟩ := h13
        have spp444d := congrArg Int32.toInt h13d
        have spp444b := congrArg Int32.toInt h13b
        have spp444c := congrArg Int32.toInt h13c
        unfold S_TR_scan_c96 F_TR_scan_c96
        unfold S_TR_scan_J108 F_TR_scan_J108
        by_cases g14 : (p444.1 : Int32) = (0 : Int32)
        ·
          rw [if_pos g14, if_pos g14]
          unfold S_TR_scan_J116 F_TR_scan_J116
          rw [if_pos g14, if_pos g14]
          refine ⟨trivial, ?_⟩
          (unfold Q_TR_scan; dsimp only; exact ⟨by omega, ⟨by omega, by omega⟩, ⟨by omega, by omega⟩, fun h => absurd rfl h⟩)
        ·
          rw [if_neg g14, if_neg g14]
          have h15 := T_TR_blanks (t0_0 := (p444.2.1 : Int32)) (t0_1 := (p444.2.2.1 : Int32)) (t0_2 := (p444.2.2.2.1 : Int32)) (t0_3 := (p444.2.2.2.2.1 : Int32)) (t0_4 := (p444.2.2.2.2.2.1 : Int32)) (t0_5 := (p444.2.2.2.2.2.2.1 : Int32)) (t0_6 := (p444.2.2.2.2.2.2.2.1 : Int32)) (t0_7 := (p444.2.2.2.2.2.2.2.2.1 : Int64)) (t0_8 := (p444.2.2.2.2.2.2.2.2.2.1 : Int32)) (t0_9 := (p444.2.2.2.2.2.2.2.2.2.2.1 : Int32)) (t0_10 := (p444.2.2.2.2.2.2.2.2.2.2.2.1 : Int64)) (t0_11 := (p444.2.2.2.2.2.2.2.2.2.2.2.2.1 : Int64)) (t0_12 := (p444.2.2.2.2.2.2.2.2.2.2.2.2.2.1 : Int32)) (t0_13 := (p444.2.2.2.2.2.2.2.2.2.2.2.2.2.2 : Int32)) (t1_0 := t1_0) (by omega) ⟨by first | omega | decide, by first | omega | decide⟩
          with_reducible refine v_owe h15.1 ?_
          replace h15 := h15.2
          generalize F_TR_blanks (p444.2.1 : Int32) (p444.2.2.1 : Int32) (p444.2.2.2.1 : Int32) (p444.2.2.2.2.1 : Int32) (p444.2.2.2.2.2.1 : Int32) (p444.2.2.2.2.2.2.1 : Int32) (p444.2.2.2.2.2.2.2.1 : Int32) (p444.2.2.2.2.2.2.2.2.1 : Int64) (p444.2.2.2.2.2.2.2.2.2.1 : Int32) (p444.2.2.2.2.2.2.2.2.2.2.1 : Int32) (p444.2.2.2.2.2.2.2.2.2.2.2.1 : Int64) (p444.2.2.2.2.2.2.2.2.2.2.2.2.1 : Int64) (p444.2.2.2.2.2.2.2.2.2.2.2.2.2.1 : Int32) (p444.2.2.2.2.2.2.2.2.2.2.2.2.2.2 : Int32) t1_0 = p289 at *
          unfold Q_TR_blanks at h15
          obtain ⟨h15b, h15c, h15d, h153, h15s⟩ := h15
          have blp289d := congrArg Int32.toInt h15d
          have blp289b := congrArg Int32.toInt h15b
          have blp289c := congrArg Int32.toInt h15c
          have blp289s := h15s
          unfold S_TR_scan_c113 F_TR_scan_c113
          unfold S_TR_scan_J116 F_TR_scan_J116
          rw [if_neg g14, if_neg g14]
          by_cases g16 : (p289.2.2.2.1 : Int32) = (p289.2.1 : Int32)
          ·
            rw [if_pos g16, if_pos g16]
            refine ⟨trivial, ?_⟩
            (unfold Q_TR_scan; dsimp only; exact ⟨by omega, ⟨by omega, by omega⟩, ⟨by omega, by omega⟩, fun _ => Or.inl ⟨by omega, by omega⟩⟩)
          ·
            rw [if_neg g16, if_neg g16]
            refine ⟨trivial, ?_⟩
            (unfold Q_TR_scan; dsimp only; exact ⟨by omega, ⟨by omega, by omega⟩, ⟨by omega, by omega⟩, fun h => absurd rfl h⟩)
      ·
        rw [if_neg g12, if_neg g12]
        have h17 := T_TR_number (t0_0 := (p75.1 : Int32)) (t0_1 := (p75.2.1 : Int32)) (t0_2 := (p75.2.2.1 : Int32)) (t0_3 := lx116) (t0_4 := (1 : Int32)) (t0_5 := (p75.2.2.2.2.2.1 : Int32)) (t0_6 := (p75.2.2.2.2.2.2.1 : Int32)) (t0_7 := (p75.2.2.2.2.2.2.2.1 : Int64)) (t0_8 := (p75.2.2.2.2.2.2.2.2.1 : Int32)) (t0_9 := (p75.2.2.2.2.2.2.2.2.2.1 : Int32)) (t0_10 := (p75.2.2.2.2.2.2.2.2.2.2.1 : Int64)) (t0_11 := (p75.2.2.2.2.2.2.2.2.2.2.2.1 : Int64)) (t0_12 := (p75.2.2.2.2.2.2.2.2.2.2.2.2.1 : Int32)) (t0_13 := (p75.2.2.2.2.2.2.2.2.2.2.2.2.2 : Int32)) (t1_0 := t1_0) (t2_0 := t2_0) ht (by omega) ⟨by omega, by omega⟩
        with_reducible refine v_owe h17.1 ?_
        replace h17 := h17.2
        generalize F_TR_number (p75.1 : Int32) (p75.2.1 : Int32) (p75.2.2.1 : Int32) lx116 (1 : Int32) (p75.2.2.2.2.2.1 : Int32) (p75.2.2.2.2.2.2.1 : Int32) (p75.2.2.2.2.2.2.2.1 : Int64) (p75.2.2.2.2.2.2.2.2.1 : Int32) (p75.2.2.2.2.2.2.2.2.2.1 : Int32) (p75.2.2.2.2.2.2.2.2.2.2.1 : Int64) (p75.2.2.2.2.2.2.2.2.2.2.2.1 : Int64) (p75.2.2.2.2.2.2.2.2.2.2.2.2.1 : Int32) (p75.2.2.2.2.2.2.2.2.2.2.2.2.2 : Int32) t1_0 t2_0 = p369 at *
        unfold Q_TR_number at h17
        obtain ⟨nub, nud, nu4, nuS⟩ := h17
        unfold S_TR_scan_c104 F_TR_scan_c104
        unfold S_TR_scan_J108 F_TR_scan_J108
        by_cases g18 : (p369.1 : Int32) = (0 : Int32)
        ·
          rw [if_pos g18, if_pos g18]
          unfold S_TR_scan_J116 F_TR_scan_J116
          rw [if_pos g18, if_pos g18]
          refine ⟨trivial, ?_⟩
          (unfold Q_TR_scan; dsimp only; exact ⟨by omega, ⟨by omega, by omega⟩, ⟨by omega, by omega⟩, fun h => absurd rfl h⟩)
        ·
          rw [if_neg g18, if_neg g18]
          have h19 := T_TR_blanks (t0_0 := (p369.2.1 : Int32)) (t0_1 := (p369.2.2.1 : Int32)) (t0_2 := (p369.2.2.2.1 : Int32)) (t0_3 := (p369.2.2.2.2.1 : Int32)) (t0_4 := (p369.2.2.2.2.2.1 : Int32)) (t0_5 := (p369.2.2.2.2.2.2.1 : Int32)) (t0_6 := (p369.2.2.2.2.2.2.2.1 : Int32)) (t0_7 := (p369.2.2.2.2.2.2.2.2.1 : Int64)) (t0_8 := (p369.2.2.2.2.2.2.2.2.2.1 : Int32)) (t0_9 := (p369.2.2.2.2.2.2.2.2.2.2.1 : Int32)) (t0_10 := (p369.2.2.2.2.2.2.2.2.2.2.2.1 : Int64)) (t0_11 := (p369.2.2.2.2.2.2.2.2.2.2.2.2.1 : Int64)) (t0_12 := (p369.2.2.2.2.2.2.2.2.2.2.2.2.2.1 : Int32)) (t0_13 := (p369.2.2.2.2.2.2.2.2.2.2.2.2.2.2.1 : Int32)) (t1_0 := t1_0) (by omega) ⟨by first | omega | decide, by first | omega | decide⟩
          with_reducible refine v_owe h19.1 ?_
          replace h19 := h19.2
          generalize F_TR_blanks (p369.2.1 : Int32) (p369.2.2.1 : Int32) (p369.2.2.2.1 : Int32) (p369.2.2.2.2.1 : Int32) (p369.2.2.2.2.2.1 : Int32) (p369.2.2.2.2.2.2.1 : Int32) (p369.2.2.2.2.2.2.2.1 : Int32) (p369.2.2.2.2.2.2.2.2.1 : Int64) (p369.2.2.2.2.2.2.2.2.2.1 : Int32) (p369.2.2.2.2.2.2.2.2.2.2.1 : Int32) (p369.2.2.2.2.2.2.2.2.2.2.2.1 : Int64) (p369.2.2.2.2.2.2.2.2.2.2.2.2.1 : Int64) (p369.2.2.2.2.2.2.2.2.2.2.2.2.2.1 : Int32) (p369.2.2.2.2.2.2.2.2.2.2.2.2.2.2.1 : Int32) t1_0 = p289 at *
          unfold Q_TR_blanks at h19
          obtain ⟨h19b, h19c, h19d, h193, h19s⟩ := h19
          have blp289d := congrArg Int32.toInt h19d
          have blp289b := congrArg Int32.toInt h19b
          have blp289c := congrArg Int32.toInt h19c
          have blp289s := h19s
          unfold S_TR_scan_c113 F_TR_scan_c113
          unfold S_TR_scan_J116 F_TR_scan_J116
          rw [if_neg g18, if_neg g18]
          by_cases g20 : (p289.2.2.2.1 : Int32) = (p289.2.1 : Int32)
          ·
            rw [if_pos g20, if_pos g20]
            refine ⟨trivial, ?_⟩
            (unfold Q_TR_scan; dsimp only; exact ⟨by omega, ⟨by omega, by omega⟩, ⟨by omega, by omega⟩, fun _ => Or.inr (blp289s _ (nuS g18))⟩)
          ·
            rw [if_neg g20, if_neg g20]
            refine ⟨trivial, ?_⟩
            (unfold Q_TR_scan; dsimp only; exact ⟨by omega, ⟨by omega, by omega⟩, ⟨by omega, by omega⟩, fun h => absurd rfl h⟩)
  ·
    rw [if_neg g3, if_neg g3]
    unfold S_TR_scan_J24 F_TR_scan_J24
    have g21 : ((0 : Int32) = (0 : Int32)) := (by decide)
    rw [if_pos g21, if_pos g21]
    have h22 := T_TR_here (t0_0 := (p75.1 : Int32)) (t0_1 := (p75.2.1 : Int32)) (t0_2 := (p75.2.2.1 : Int32)) (t0_3 := (p75.2.2.2.1 : Int32)) (t0_4 := (0 : Int32)) (t0_5 := (p75.2.2.2.2.2.1 : Int32)) (t0_6 := (p75.2.2.2.2.2.2.1 : Int32)) (t0_7 := (p75.2.2.2.2.2.2.2.1 : Int64)) (t0_8 := (p75.2.2.2.2.2.2.2.2.1 : Int32)) (t0_9 := (p75.2.2.2.2.2.2.2.2.2.1 : Int32)) (t0_10 := (p75.2.2.2.2.2.2.2.2.2.2.1 : Int64)) (t0_11 := (p75.2.2.2.2.2.2.2.2.2.2.2.1 : Int64)) (t0_12 := (p75.2.2.2.2.2.2.2.2.2.2.2.2.1 : Int32)) (t0_13 := (p75.2.2.2.2.2.2.2.2.2.2.2.2.2 : Int32)) (t1_0 := t1_0) (by first | omega | decide)
    with_reducible refine v_owe h22 ?_
    by_cases g23 : ((F_TR_here (p75.1 : Int32) (p75.2.1 : Int32) (p75.2.2.1 : Int32) (p75.2.2.2.1 : Int32) (0 : Int32) (p75.2.2.2.2.2.1 : Int32) (p75.2.2.2.2.2.2.1 : Int32) (p75.2.2.2.2.2.2.2.1 : Int64) (p75.2.2.2.2.2.2.2.2.1 : Int32) (p75.2.2.2.2.2.2.2.2.2.1 : Int32) (p75.2.2.2.2.2.2.2.2.2.2.1 : Int64) (p75.2.2.2.2.2.2.2.2.2.2.2.1 : Int64) (p75.2.2.2.2.2.2.2.2.2.2.2.2.1 : Int32) (p75.2.2.2.2.2.2.2.2.2.2.2.2.2 : Int32) t1_0) : Int32) = (43 : Int32)
    ·
      rw [if_pos g23, if_pos g23]
      have g23i := tr_h g23 (by decide)
      unfold S_TR_scan_J43 F_TR_scan_J43
      obtain ⟨lx116, e24⟩ := q_nm (((p75.2.2.2.1 : Int32) + 1 : Int32) : Int32)
      rw [e24]
      have lx116i : lx116.toInt = p75.2.2.2.1.toInt + 1 := by rw [← e24]; exact q_addI (y := 1) rfl (by decide) (by omega) (by omega)
      unfold S_TR_scan_J53 F_TR_scan_J53
      have h25 := T_TR_here (t0_0 := (p75.1 : Int32)) (t0_1 := (p75.2.1 : Int32)) (t0_2 := (p75.2.2.1 : Int32)) (t0_3 := lx116) (t0_4 := (0 : Int32)) (t0_5 := (p75.2.2.2.2.2.1 : Int32)) (t0_6 := (p75.2.2.2.2.2.2.1 : Int32)) (t0_7 := (p75.2.2.2.2.2.2.2.1 : Int64)) (t0_8 := (p75.2.2.2.2.2.2.2.2.1 : Int32)) (t0_9 := (p75.2.2.2.2.2.2.2.2.2.1 : Int32)) (t0_10 := (p75.2.2.2.2.2.2.2.2.2.2.1 : Int64)) (t0_11 := (p75.2.2.2.2.2.2.2.2.2.2.2.1 : Int64)) (t0_12 := (p75.2.2.2.2.2.2.2.2.2.2.2.2.1 : Int32)) (t0_13 := (p75.2.2.2.2.2.2.2.2.2.2.2.2.2 : Int32)) (t1_0 := t1_0) (by first | omega | decide)
      with_reducible refine v_owe h25 ?_
      by_cases g26 : ((F_TR_here (p75.1 : Int32) (p75.2.1 : Int32) (p75.2.2.1 : Int32) lx116 (0 : Int32) (p75.2.2.2.2.2.1 : Int32) (p75.2.2.2.2.2.2.1 : Int32) (p75.2.2.2.2.2.2.2.1 : Int64) (p75.2.2.2.2.2.2.2.2.1 : Int32) (p75.2.2.2.2.2.2.2.2.2.1 : Int32) (p75.2.2.2.2.2.2.2.2.2.2.1 : Int64) (p75.2.2.2.2.2.2.2.2.2.2.2.1 : Int64) (p75.2.2.2.2.2.2.2.2.2.2.2.2.1 : Int32) (p75.2.2.2.2.2.2.2.2.2.2.2.2.2 : Int32) t1_0) : Int32) = (78 : Int32)
      ·
        rw [if_pos g26, if_pos g26]
        have g26i := tr_h g26 (by decide)
        have h27 := T_TR_spells (x2 := (5136718 : Int64)) (t0_0 := (p75.1 : Int32)) (t0_1 := (p75.2.1 : Int32)) (t0_2 := (3 : Int32)) (t0_3 := lx116) (t0_4 := (0 : Int32)) (t0_5 := (p75.2.2.2.2.2.1 : Int32)) (t0_6 := (p75.2.2.2.2.2.2.1 : Int32)) (t0_7 := (p75.2.2.2.2.2.2.2.1 : Int64)) (t0_8 := (p75.2.2.2.2.2.2.2.2.1 : Int32)) (t0_9 := (p75.2.2.2.2.2.2.2.2.2.1 : Int32)) (t0_10 := (p75.2.2.2.2.2.2.2.2.2.2.1 : Int64)) (t0_11 := (p75.2.2.2.2.2.2.2.2.2.2.2.1 : Int64)) (t0_12 := (p75.2.2.2.2.2.2.2.2.2.2.2.2.1 : Int32)) (t0_13 := (p75.2.2.2.2.2.2.2.2.2.2.2.2.2 : Int32)) (t1_0 := t1_0) ⟨by omega, by omega⟩ (by decide)
        with_reducible refine v_owe h27.1 ?_
        replace h27 := h27.2
        generalize F_TR_spells (5136718 : Int64) (p75.1 : Int32) (p75.2.1 : Int32) (3 : Int32) lx116 (0 : Int32) (p75.2.2.2.2.2.1 : Int32) (p75.2.2.2.2.2.2.1 : Int32) (p75.2.2.2.2.2.2.2.1 : Int64) (p75.2.2.2.2.2.2.2.2.1 : Int32) (p75.2.2.2.2.2.2.2.2.2.1 : Int32) (p75.2.2.2.2.2.2.2.2.2.2.1 : Int64) (p75.2.2.2.2.2.2.2.2.2.2.2.1 : Int64) (p75.2.2.2.2.2.2.2.2.2.2.2.2.1 : Int32) (p75.2.2.2.2.2.2.2.2.2.2.2.2.2 : Int32) t1_0 = p518 at *
        unfold Q_TR_spells at h27
        obtain ⟨h27b, h27c, h27d, h274⟩ := h27
        have spp518d := congrArg Int32.toInt h27d
        have spp518b := congrArg Int32.toInt h27b
        have spp518c := congrArg Int32.toInt h27c
        unfold S_TR_scan_c71 F_TR_scan_c71
        unfold S_TR_scan_J108 F_TR_scan_J108
        by_cases g28 : (p518.1 : Int32) = (0 : Int32)
        ·
          rw [if_pos g28, if_pos g28]
          unfold S_TR_scan_J116 F_TR_scan_J116
          rw [if_pos g28, if_pos g28]
          refine ⟨trivial, ?_⟩
          (unfold Q_TR_scan; dsimp only; exact ⟨by omega, ⟨by omega, by omega⟩, ⟨by omega, by omega⟩, fun h => absurd rfl h⟩)
        ·
          rw [if_neg g28, if_neg g28]
          have h29 := T_TR_blanks (t0_0 := (p518.2.1 : Int32)) (t0_1 := (p518.2.2.1 : Int32)) (t0_2 := (p518.2.2.2.1 : Int32)) (t0_3 := (p518.2.2.2.2.1 : Int32)) (t0_4 := (p518.2.2.2.2.2.1 : Int32)) (t0_5 := (p518.2.2.2.2.2.2.1 : Int32)) (t0_6 := (p518.2.2.2.2.2.2.2.1 : Int32)) (t0_7 := (p518.2.2.2.2.2.2.2.2.1 : Int64)) (t0_8 := (p518.2.2.2.2.2.2.2.2.2.1 : Int32)) (t0_9 := (p518.2.2.2.2.2.2.2.2.2.2.1 : Int32)) (t0_10 := (p518.2.2.2.2.2.2.2.2.2.2.2.1 : Int64)) (t0_11 := (p518.2.2.2.2.2.2.2.2.2.2.2.2.1 : Int64)) (t0_12 := (p518.2.2.2.2.2.2.2.2.2.2.2.2.2.1 : Int32)) (t0_13 := (p518.2.2.2.2.2.2.2.2.2.2.2.2.2.2 : Int32)) (t1_0 := t1_0) (by omega) ⟨by first | omega | decide, by first | omega | decide⟩
          with_reducible refine v_owe h29.1 ?_
          replace h29 := h29.2
          generalize F_TR_blanks (p518.2.1 : Int32) (p518.2.2.1 : Int32) (p518.2.2.2.1 : Int32) (p518.2.2.2.2.1 : Int32) (p518.2.2.2.2.2.1 : Int32) (p518.2.2.2.2.2.2.1 : Int32) (p518.2.2.2.2.2.2.2.1 : Int32) (p518.2.2.2.2.2.2.2.2.1 : Int64) (p518.2.2.2.2.2.2.2.2.2.1 : Int32) (p518.2.2.2.2.2.2.2.2.2.2.1 : Int32) (p518.2.2.2.2.2.2.2.2.2.2.2.1 : Int64) (p518.2.2.2.2.2.2.2.2.2.2.2.2.1 : Int64) (p518.2.2.2.2.2.2.2.2.2.2.2.2.2.1 : Int32) (p518.2.2.2.2.2.2.2.2.2.2.2.2.2.2 : Int32) t1_0 = p289 at *
          unfold Q_TR_blanks at h29
          obtain ⟨h29b, h29c, h29d, h293, h29s⟩ := h29
          have blp289d := congrArg Int32.toInt h29d
          have blp289b := congrArg Int32.toInt h29b
          have blp289c := congrArg Int32.toInt h29c
          have blp289s := h29s
          unfold S_TR_scan_c113 F_TR_scan_c113
          unfold S_TR_scan_J116 F_TR_scan_J116
          rw [if_neg g28, if_neg g28]
          by_cases g30 : (p289.2.2.2.1 : Int32) = (p289.2.1 : Int32)
          ·
            rw [if_pos g30, if_pos g30]
            refine ⟨trivial, ?_⟩
            (unfold Q_TR_scan; dsimp only; exact ⟨by omega, ⟨by omega, by omega⟩, ⟨by omega, by omega⟩, fun _ => Or.inl ⟨by omega, by omega⟩⟩)
          ·
            rw [if_neg g30, if_neg g30]
            refine ⟨trivial, ?_⟩
            (unfold Q_TR_scan; dsimp only; exact ⟨by omega, ⟨by omega, by omega⟩, ⟨by omega, by omega⟩, fun h => absurd rfl h⟩)
      ·
        rw [if_neg g26, if_neg g26]
        with_reducible refine v_owe h25 ?_
        by_cases g31 : ((F_TR_here (p75.1 : Int32) (p75.2.1 : Int32) (p75.2.2.1 : Int32) lx116 (0 : Int32) (p75.2.2.2.2.2.1 : Int32) (p75.2.2.2.2.2.2.1 : Int32) (p75.2.2.2.2.2.2.2.1 : Int64) (p75.2.2.2.2.2.2.2.2.1 : Int32) (p75.2.2.2.2.2.2.2.2.2.1 : Int32) (p75.2.2.2.2.2.2.2.2.2.2.1 : Int64) (p75.2.2.2.2.2.2.2.2.2.2.2.1 : Int64) (p75.2.2.2.2.2.2.2.2.2.2.2.2.1 : Int32) (p75.2.2.2.2.2.2.2.2.2.2.2.2.2 : Int32) t1_0) : Int32) = (73 : Int32)
        ·
          rw [if_pos g31, if_pos g31]
          have g31i := tr_h g31 (by decide)
          have h32 := T_TR_spells (x2 := (8751735898823355977 : Int64)) (t0_0 := (p75.1 : Int32)) (t0_1 := (p75.2.1 : Int32)) (t0_2 := (2 : Int32)) (t0_3 := lx116) (t0_4 := (0 : Int32)) (t0_5 := (p75.2.2.2.2.2.1 : Int32)) (t0_6 := (p75.2.2.2.2.2.2.1 : Int32)) (t0_7 := (p75.2.2.2.2.2.2.2.1 : Int64)) (t0_8 := (p75.2.2.2.2.2.2.2.2.1 : Int32)) (t0_9 := (p75.2.2.2.2.2.2.2.2.2.1 : Int32)) (t0_10 := (p75.2.2.2.2.2.2.2.2.2.2.1 : Int64)) (t0_11 := (p75.2.2.2.2.2.2.2.2.2.2.2.1 : Int64)) (t0_12 := (p75.2.2.2.2.2.2.2.2.2.2.2.2.1 : Int32)) (t0_13 := (p75.2.2.2.2.2.2.2.2.2.2.2.2.2 : Int32)) (t1_0 := t1_0) ⟨by omega, by omega⟩ (by decide)
          with_reducible refine v_owe h32.1 ?_
          replace h32 := h32.2
          generalize F_TR_spells (8751735898823355977 : Int64) (p75.1 : Int32) (p75.2.1 : Int32) (2 : Int32) lx116 (0 : Int32) (p75.2.2.2.2.2.1 : Int32) (p75.2.2.2.2.2.2.1 : Int32) (p75.2.2.2.2.2.2.2.1 : Int64) (p75.2.2.2.2.2.2.2.2.1 : Int32) (p75.2.2.2.2.2.2.2.2.2.1 : Int32) (p75.2.2.2.2.2.2.2.2.2.2.1 : Int64) (p75.2.2.2.2.2.2.2.2.2.2.2.1 : Int64) (p75.2.2.2.2.2.2.2.2.2.2.2.2.1 : Int32) (p75.2.2.2.2.2.2.2.2.2.2.2.2.2 : Int32) t1_0 = p444 at *
          unfold Q_TR_spells at h32
          obtain ⟨h32b, h32c, h32d, h324⟩ := h32
          have spp444d := congrArg Int32.toInt h32d
          have spp444b := congrArg Int32.toInt h32b
          have spp444c := congrArg Int32.toInt h32c
          unfold S_TR_scan_c96 F_TR_scan_c96
          unfold S_TR_scan_J108 F_TR_scan_J108
          by_cases g33 : (p444.1 : Int32) = (0 : Int32)
          ·
            rw [if_pos g33, if_pos g33]
            unfold S_TR_scan_J116 F_TR_scan_J116
            rw [if_pos g33, if_pos g33]
            refine ⟨trivial, ?_⟩
            (unfold Q_TR_scan; dsimp only; exact ⟨by omega, ⟨by omega, by omega⟩, ⟨by omega, by omega⟩, fun h => absurd rfl h⟩)
          ·
            rw [if_neg g33, if_neg g33]
            have h34 := T_TR_blanks (t0_0 := (p444.2.1 : Int32)) (t0_1 := (p444.2.2.1 : Int32)) (t0_2 := (p444.2.2.2.1 : Int32)) (t0_3 := (p444.2.2.2.2.1 : Int32)) (t0_4 := (p444.2.2.2.2.2.1 : Int32)) (t0_5 := (p444.2.2.2.2.2.2.1 : Int32)) (t0_6 := (p444.2.2.2.2.2.2.2.1 : Int32)) (t0_7 := (p444.2.2.2.2.2.2.2.2.1 : Int64)) (t0_8 := (p444.2.2.2.2.2.2.2.2.2.1 : Int32)) (t0_9 := (p444.2.2.2.2.2.2.2.2.2.2.1 : Int32)) (t0_10 := (p444.2.2.2.2.2.2.2.2.2.2.2.1 : Int64)) (t0_11 := (p444.2.2.2.2.2.2.2.2.2.2.2.2.1 : Int64)) (t0_12 := (p444.2.2.2.2.2.2.2.2.2.2.2.2.2.1 : Int32)) (t0_13 := (p444.2.2.2.2.2.2.2.2.2.2.2.2.2.2 : Int32)) (t1_0 := t1_0) (by omega) ⟨by first | omega | decide, by first | omega | decide⟩
            with_reducible refine v_owe h34.1 ?_
            replace h34 := h34.2
            generalize F_TR_blanks (p444.2.1 : Int32) (p444.2.2.1 : Int32) (p444.2.2.2.1 : Int32) (p444.2.2.2.2.1 : Int32) (p444.2.2.2.2.2.1 : Int32) (p444.2.2.2.2.2.2.1 : Int32) (p444.2.2.2.2.2.2.2.1 : Int32) (p444.2.2.2.2.2.2.2.2.1 : Int64) (p444.2.2.2.2.2.2.2.2.2.1 : Int32) (p444.2.2.2.2.2.2.2.2.2.2.1 : Int32) (p444.2.2.2.2.2.2.2.2.2.2.2.1 : Int64) (p444.2.2.2.2.2.2.2.2.2.2.2.2.1 : Int64) (p444.2.2.2.2.2.2.2.2.2.2.2.2.2.1 : Int32) (p444.2.2.2.2.2.2.2.2.2.2.2.2.2.2 : Int32) t1_0 = p289 at *
            unfold Q_TR_blanks at h34
            obtain ⟨h34b, h34c, h34d, h343, h34s⟩ := h34
            have blp289d := congrArg Int32.toInt h34d
            have blp289b := congrArg Int32.toInt h34b
            have blp289c := congrArg Int32.toInt h34c
            have blp289s := h34s
            unfold S_TR_scan_c113 F_TR_scan_c113
            unfold S_TR_scan_J116 F_TR_scan_J116
            rw [if_neg g33, if_neg g33]
            by_cases g35 : (p289.2.2.2.1 : Int32) = (p289.2.1 : Int32)
            ·
              rw [if_pos g35, if_pos g35]
              refine ⟨trivial, ?_⟩
              (unfold Q_TR_scan; dsimp only; exact ⟨by omega, ⟨by omega, by omega⟩, ⟨by omega, by omega⟩, fun _ => Or.inl ⟨by omega, by omega⟩⟩)
            ·
              rw [if_neg g35, if_neg g35]
              refine ⟨trivial, ?_⟩
              (unfold Q_TR_scan; dsimp only; exact ⟨by omega, ⟨by omega, by omega⟩, ⟨by omega, by omega⟩, fun h => absurd rfl h⟩)
        ·
          rw [if_neg g31, if_neg g31]
          have h36 := T_TR_number (t0_0 := (p75.1 : Int32)) (t0_1 := (p75.2.1 : Int32)) (t0_2 := (p75.2.2.1 : Int32)) (t0_3 := lx116) (t0_4 := (0 : Int32)) (t0_5 := (p75.2.2.2.2.2.1 : Int32)) (t0_6 := (p75.2.2.2.2.2.2.1 : Int32)) (t0_7 := (p75.2.2.2.2.2.2.2.1 : Int64)) (t0_8 := (p75.2.2.2.2.2.2.2.2.1 : Int32)) (t0_9 := (p75.2.2.2.2.2.2.2.2.2.1 : Int32)) (t0_10 := (p75.2.2.2.2.2.2.2.2.2.2.1 : Int64)) (t0_11 := (p75.2.2.2.2.2.2.2.2.2.2.2.1 : Int64)) (t0_12 := (p75.2.2.2.2.2.2.2.2.2.2.2.2.1 : Int32)) (t0_13 := (p75.2.2.2.2.2.2.2.2.2.2.2.2.2 : Int32)) (t1_0 := t1_0) (t2_0 := t2_0) ht (by omega) ⟨by omega, by omega⟩
          with_reducible refine v_owe h36.1 ?_
          replace h36 := h36.2
          generalize F_TR_number (p75.1 : Int32) (p75.2.1 : Int32) (p75.2.2.1 : Int32) lx116 (0 : Int32) (p75.2.2.2.2.2.1 : Int32) (p75.2.2.2.2.2.2.1 : Int32) (p75.2.2.2.2.2.2.2.1 : Int64) (p75.2.2.2.2.2.2.2.2.1 : Int32) (p75.2.2.2.2.2.2.2.2.2.1 : Int32) (p75.2.2.2.2.2.2.2.2.2.2.1 : Int64) (p75.2.2.2.2.2.2.2.2.2.2.2.1 : Int64) (p75.2.2.2.2.2.2.2.2.2.2.2.2.1 : Int32) (p75.2.2.2.2.2.2.2.2.2.2.2.2.2 : Int32) t1_0 t2_0 = p369 at *
          unfold Q_TR_number at h36
          obtain ⟨nub, nud, nu4, nuS⟩ := h36
          unfold S_TR_scan_c104 F_TR_scan_c104
          unfold S_TR_scan_J108 F_TR_scan_J108
          by_cases g37 : (p369.1 : Int32) = (0 : Int32)
          ·
            rw [if_pos g37, if_pos g37]
            unfold S_TR_scan_J116 F_TR_scan_J116
            rw [if_pos g37, if_pos g37]
            refine ⟨trivial, ?_⟩
            (unfold Q_TR_scan; dsimp only; exact ⟨by omega, ⟨by omega, by omega⟩, ⟨by omega, by omega⟩, fun h => absurd rfl h⟩)
          ·
            rw [if_neg g37, if_neg g37]
            have h38 := T_TR_blanks (t0_0 := (p369.2.1 : Int32)) (t0_1 := (p369.2.2.1 : Int32)) (t0_2 := (p369.2.2.2.1 : Int32)) (t0_3 := (p369.2.2.2.2.1 : Int32)) (t0_4 := (p369.2.2.2.2.2.1 : Int32)) (t0_5 := (p369.2.2.2.2.2.2.1 : Int32)) (t0_6 := (p369.2.2.2.2.2.2.2.1 : Int32)) (t0_7 := (p369.2.2.2.2.2.2.2.2.1 : Int64)) (t0_8 := (p369.2.2.2.2.2.2.2.2.2.1 : Int32)) (t0_9 := (p369.2.2.2.2.2.2.2.2.2.2.1 : Int32)) (t0_10 := (p369.2.2.2.2.2.2.2.2.2.2.2.1 : Int64)) (t0_11 := (p369.2.2.2.2.2.2.2.2.2.2.2.2.1 : Int64)) (t0_12 := (p369.2.2.2.2.2.2.2.2.2.2.2.2.2.1 : Int32)) (t0_13 := (p369.2.2.2.2.2.2.2.2.2.2.2.2.2.2.1 : Int32)) (t1_0 := t1_0) (by omega) ⟨by first | omega | decide, by first | omega | decide⟩
            with_reducible refine v_owe h38.1 ?_
            replace h38 := h38.2
            generalize F_TR_blanks (p369.2.1 : Int32) (p369.2.2.1 : Int32) (p369.2.2.2.1 : Int32) (p369.2.2.2.2.1 : Int32) (p369.2.2.2.2.2.1 : Int32) (p369.2.2.2.2.2.2.1 : Int32) (p369.2.2.2.2.2.2.2.1 : Int32) (p369.2.2.2.2.2.2.2.2.1 : Int64) (p369.2.2.2.2.2.2.2.2.2.1 : Int32) (p369.2.2.2.2.2.2.2.2.2.2.1 : Int32) (p369.2.2.2.2.2.2.2.2.2.2.2.1 : Int64) (p369.2.2.2.2.2.2.2.2.2.2.2.2.1 : Int64) (p369.2.2.2.2.2.2.2.2.2.2.2.2.2.1 : Int32) (p369.2.2.2.2.2.2.2.2.2.2.2.2.2.2.1 : Int32) t1_0 = p289 at *
            unfold Q_TR_blanks at h38
            obtain ⟨h38b, h38c, h38d, h383, h38s⟩ := h38
            have blp289d := congrArg Int32.toInt h38d
            have blp289b := congrArg Int32.toInt h38b
            have blp289c := congrArg Int32.toInt h38c
            have blp289s := h38s
            unfold S_TR_scan_c113 F_TR_scan_c113
            unfold S_TR_scan_J116 F_TR_scan_J116
            rw [if_neg g37, if_neg g37]
            by_cases g39 : (p289.2.2.2.1 : Int32) = (p289.2.1 : Int32)
            ·
              rw [if_pos g39, if_pos g39]
              refine ⟨trivial, ?_⟩
              (unfold Q_TR_scan; dsimp only; exact ⟨by omega, ⟨by omega, by omega⟩, ⟨by omega, by omega⟩, fun _ => Or.inr (blp289s _ (nuS g37))⟩)
            ·
              rw [if_neg g39, if_neg g39]
              refine ⟨trivial, ?_⟩
              (unfold Q_TR_scan; dsimp only; exact ⟨by omega, ⟨by omega, by omega⟩, ⟨by omega, by omega⟩, fun h => absurd rfl h⟩)
    ·
      rw [if_neg g23, if_neg g23]
      unfold S_TR_scan_J53 F_TR_scan_J53
      with_reducible refine v_owe h22 ?_
      by_cases g40 : ((F_TR_here (p75.1 : Int32) (p75.2.1 : Int32) (p75.2.2.1 : Int32) (p75.2.2.2.1 : Int32) (0 : Int32) (p75.2.2.2.2.2.1 : Int32) (p75.2.2.2.2.2.2.1 : Int32) (p75.2.2.2.2.2.2.2.1 : Int64) (p75.2.2.2.2.2.2.2.2.1 : Int32) (p75.2.2.2.2.2.2.2.2.2.1 : Int32) (p75.2.2.2.2.2.2.2.2.2.2.1 : Int64) (p75.2.2.2.2.2.2.2.2.2.2.2.1 : Int64) (p75.2.2.2.2.2.2.2.2.2.2.2.2.1 : Int32) (p75.2.2.2.2.2.2.2.2.2.2.2.2.2 : Int32) t1_0) : Int32) = (78 : Int32)
      ·
        rw [if_pos g40, if_pos g40]
        have g40i := tr_h g40 (by decide)
        have h41 := T_TR_spells (x2 := (5136718 : Int64)) (t0_0 := (p75.1 : Int32)) (t0_1 := (p75.2.1 : Int32)) (t0_2 := (3 : Int32)) (t0_3 := (p75.2.2.2.1 : Int32)) (t0_4 := (0 : Int32)) (t0_5 := (p75.2.2.2.2.2.1 : Int32)) (t0_6 := (p75.2.2.2.2.2.2.1 : Int32)) (t0_7 := (p75.2.2.2.2.2.2.2.1 : Int64)) (t0_8 := (p75.2.2.2.2.2.2.2.2.1 : Int32)) (t0_9 := (p75.2.2.2.2.2.2.2.2.2.1 : Int32)) (t0_10 := (p75.2.2.2.2.2.2.2.2.2.2.1 : Int64)) (t0_11 := (p75.2.2.2.2.2.2.2.2.2.2.2.1 : Int64)) (t0_12 := (p75.2.2.2.2.2.2.2.2.2.2.2.2.1 : Int32)) (t0_13 := (p75.2.2.2.2.2.2.2.2.2.2.2.2.2 : Int32)) (t1_0 := t1_0) ⟨by omega, by omega⟩ (by decide)
        with_reducible refine v_owe h41.1 ?_
        replace h41 := h41.2
        generalize F_TR_spells (5136718 : Int64) (p75.1 : Int32) (p75.2.1 : Int32) (3 : Int32) (p75.2.2.2.1 : Int32) (0 : Int32) (p75.2.2.2.2.2.1 : Int32) (p75.2.2.2.2.2.2.1 : Int32) (p75.2.2.2.2.2.2.2.1 : Int64) (p75.2.2.2.2.2.2.2.2.1 : Int32) (p75.2.2.2.2.2.2.2.2.2.1 : Int32) (p75.2.2.2.2.2.2.2.2.2.2.1 : Int64) (p75.2.2.2.2.2.2.2.2.2.2.2.1 : Int64) (p75.2.2.2.2.2.2.2.2.2.2.2.2.1 : Int32) (p75.2.2.2.2.2.2.2.2.2.2.2.2.2 : Int32) t1_0 = p518 at *
        unfold Q_TR_spells at h41
        obtain ⟨h41b, h41c, h41d, h414⟩ := h41
        have spp518d := congrArg Int32.toInt h41d
        have spp518b := congrArg Int32.toInt h41b
        have spp518c := congrArg Int32.toInt h41c
        unfold S_TR_scan_c71 F_TR_scan_c71
        unfold S_TR_scan_J108 F_TR_scan_J108
        by_cases g42 : (p518.1 : Int32) = (0 : Int32)
        ·
          rw [if_pos g42, if_pos g42]
          unfold S_TR_scan_J116 F_TR_scan_J116
          rw [if_pos g42, if_pos g42]
          refine ⟨trivial, ?_⟩
          (unfold Q_TR_scan; dsimp only; exact ⟨by omega, ⟨by omega, by omega⟩, ⟨by omega, by omega⟩, fun h => absurd rfl h⟩)
        ·
          rw [if_neg g42, if_neg g42]
          have h43 := T_TR_blanks (t0_0 := (p518.2.1 : Int32)) (t0_1 := (p518.2.2.1 : Int32)) (t0_2 := (p518.2.2.2.1 : Int32)) (t0_3 := (p518.2.2.2.2.1 : Int32)) (t0_4 := (p518.2.2.2.2.2.1 : Int32)) (t0_5 := (p518.2.2.2.2.2.2.1 : Int32)) (t0_6 := (p518.2.2.2.2.2.2.2.1 : Int32)) (t0_7 := (p518.2.2.2.2.2.2.2.2.1 : Int64)) (t0_8 := (p518.2.2.2.2.2.2.2.2.2.1 : Int32)) (t0_9 := (p518.2.2.2.2.2.2.2.2.2.2.1 : Int32)) (t0_10 := (p518.2.2.2.2.2.2.2.2.2.2.2.1 : Int64)) (t0_11 := (p518.2.2.2.2.2.2.2.2.2.2.2.2.1 : Int64)) (t0_12 := (p518.2.2.2.2.2.2.2.2.2.2.2.2.2.1 : Int32)) (t0_13 := (p518.2.2.2.2.2.2.2.2.2.2.2.2.2.2 : Int32)) (t1_0 := t1_0) (by omega) ⟨by first | omega | decide, by first | omega | decide⟩
          with_reducible refine v_owe h43.1 ?_
          replace h43 := h43.2
          generalize F_TR_blanks (p518.2.1 : Int32) (p518.2.2.1 : Int32) (p518.2.2.2.1 : Int32) (p518.2.2.2.2.1 : Int32) (p518.2.2.2.2.2.1 : Int32) (p518.2.2.2.2.2.2.1 : Int32) (p518.2.2.2.2.2.2.2.1 : Int32) (p518.2.2.2.2.2.2.2.2.1 : Int64) (p518.2.2.2.2.2.2.2.2.2.1 : Int32) (p518.2.2.2.2.2.2.2.2.2.2.1 : Int32) (p518.2.2.2.2.2.2.2.2.2.2.2.1 : Int64) (p518.2.2.2.2.2.2.2.2.2.2.2.2.1 : Int64) (p518.2.2.2.2.2.2.2.2.2.2.2.2.2.1 : Int32) (p518.2.2.2.2.2.2.2.2.2.2.2.2.2.2 : Int32) t1_0 = p289 at *
          unfold Q_TR_blanks at h43
          obtain ⟨h43b, h43c, h43d, h433, h43s⟩ := h43
          have blp289d := congrArg Int32.toInt h43d
          have blp289b := congrArg Int32.toInt h43b
          have blp289c := congrArg Int32.toInt h43c
          have blp289s := h43s
          unfold S_TR_scan_c113 F_TR_scan_c113
          unfold S_TR_scan_J116 F_TR_scan_J116
          rw [if_neg g42, if_neg g42]
          by_cases g44 : (p289.2.2.2.1 : Int32) = (p289.2.1 : Int32)
          ·
            rw [if_pos g44, if_pos g44]
            refine ⟨trivial, ?_⟩
            (unfold Q_TR_scan; dsimp only; exact ⟨by omega, ⟨by omega, by omega⟩, ⟨by omega, by omega⟩, fun _ => Or.inl ⟨by omega, by omega⟩⟩)
          ·
            rw [if_neg g44, if_neg g44]
            refine ⟨trivial, ?_⟩
            (unfold Q_TR_scan; dsimp only; exact ⟨by omega, ⟨by omega, by omega⟩, ⟨by omega, by omega⟩, fun h => absurd rfl h⟩)
      ·
        rw [if_neg g40, if_neg g40]
        with_reducible refine v_owe h22 ?_
        by_cases g45 : ((F_TR_here (p75.1 : Int32) (p75.2.1 : Int32) (p75.2.2.1 : Int32) (p75.2.2.2.1 : Int32) (0 : Int32) (p75.2.2.2.2.2.1 : Int32) (p75.2.2.2.2.2.2.1 : Int32) (p75.2.2.2.2.2.2.2.1 : Int64) (p75.2.2.2.2.2.2.2.2.1 : Int32) (p75.2.2.2.2.2.2.2.2.2.1 : Int32) (p75.2.2.2.2.2.2.2.2.2.2.1 : Int64) (p75.2.2.2.2.2.2.2.2.2.2.2.1 : Int64) (p75.2.2.2.2.2.2.2.2.2.2.2.2.1 : Int32) (p75.2.2.2.2.2.2.2.2.2.2.2.2.2 : Int32) t1_0) : Int32) = (73 : Int32)
        ·
          rw [if_pos g45, if_pos g45]
          have g45i := tr_h g45 (by decide)
          have h46 := T_TR_spells (x2 := (8751735898823355977 : Int64)) (t0_0 := (p75.1 : Int32)) (t0_1 := (p75.2.1 : Int32)) (t0_2 := (2 : Int32)) (t0_3 := (p75.2.2.2.1 : Int32)) (t0_4 := (0 : Int32)) (t0_5 := (p75.2.2.2.2.2.1 : Int32)) (t0_6 := (p75.2.2.2.2.2.2.1 : Int32)) (t0_7 := (p75.2.2.2.2.2.2.2.1 : Int64)) (t0_8 := (p75.2.2.2.2.2.2.2.2.1 : Int32)) (t0_9 := (p75.2.2.2.2.2.2.2.2.2.1 : Int32)) (t0_10 := (p75.2.2.2.2.2.2.2.2.2.2.1 : Int64)) (t0_11 := (p75.2.2.2.2.2.2.2.2.2.2.2.1 : Int64)) (t0_12 := (p75.2.2.2.2.2.2.2.2.2.2.2.2.1 : Int32)) (t0_13 := (p75.2.2.2.2.2.2.2.2.2.2.2.2.2 : Int32)) (t1_0 := t1_0) ⟨by omega, by omega⟩ (by decide)
          with_reducible refine v_owe h46.1 ?_
          replace h46 := h46.2
          generalize F_TR_spells (8751735898823355977 : Int64) (p75.1 : Int32) (p75.2.1 : Int32) (2 : Int32) (p75.2.2.2.1 : Int32) (0 : Int32) (p75.2.2.2.2.2.1 : Int32) (p75.2.2.2.2.2.2.1 : Int32) (p75.2.2.2.2.2.2.2.1 : Int64) (p75.2.2.2.2.2.2.2.2.1 : Int32) (p75.2.2.2.2.2.2.2.2.2.1 : Int32) (p75.2.2.2.2.2.2.2.2.2.2.1 : Int64) (p75.2.2.2.2.2.2.2.2.2.2.2.1 : Int64) (p75.2.2.2.2.2.2.2.2.2.2.2.2.1 : Int32) (p75.2.2.2.2.2.2.2.2.2.2.2.2.2 : Int32) t1_0 = p444 at *
          unfold Q_TR_spells at h46
          obtain ⟨h46b, h46c, h46d, h464⟩ := h46
          have spp444d := congrArg Int32.toInt h46d
          have spp444b := congrArg Int32.toInt h46b
          have spp444c := congrArg Int32.toInt h46c
          unfold S_TR_scan_c96 F_TR_scan_c96
          unfold S_TR_scan_J108 F_TR_scan_J108
          by_cases g47 : (p444.1 : Int32) = (0 : Int32)
          ·
            rw [if_pos g47, if_pos g47]
            unfold S_TR_scan_J116 F_TR_scan_J116
            rw [if_pos g47, if_pos g47]
            refine ⟨trivial, ?_⟩
            (unfold Q_TR_scan; dsimp only; exact ⟨by omega, ⟨by omega, by omega⟩, ⟨by omega, by omega⟩, fun h => absurd rfl h⟩)
          ·
            rw [if_neg g47, if_neg g47]
            have h48 := T_TR_blanks (t0_0 := (p444.2.1 : Int32)) (t0_1 := (p444.2.2.1 : Int32)) (t0_2 := (p444.2.2.2.1 : Int32)) (t0_3 := (p444.2.2.2.2.1 : Int32)) (t0_4 := (p444.2.2.2.2.2.1 : Int32)) (t0_5 := (p444.2.2.2.2.2.2.1 : Int32)) (t0_6 := (p444.2.2.2.2.2.2.2.1 : Int32)) (t0_7 := (p444.2.2.2.2.2.2.2.2.1 : Int64)) (t0_8 := (p444.2.2.2.2.2.2.2.2.2.1 : Int32)) (t0_9 := (p444.2.2.2.2.2.2.2.2.2.2.1 : Int32)) (t0_10 := (p444.2.2.2.2.2.2.2.2.2.2.2.1 : Int64)) (t0_11 := (p444.2.2.2.2.2.2.2.2.2.2.2.2.1 : Int64)) (t0_12 := (p444.2.2.2.2.2.2.2.2.2.2.2.2.2.1 : Int32)) (t0_13 := (p444.2.2.2.2.2.2.2.2.2.2.2.2.2.2 : Int32)) (t1_0 := t1_0) (by omega) ⟨by first | omega | decide, by first | omega | decide⟩
            with_reducible refine v_owe h48.1 ?_
            replace h48 := h48.2
            generalize F_TR_blanks (p444.2.1 : Int32) (p444.2.2.1 : Int32) (p444.2.2.2.1 : Int32) (p444.2.2.2.2.1 : Int32) (p444.2.2.2.2.2.1 : Int32) (p444.2.2.2.2.2.2.1 : Int32) (p444.2.2.2.2.2.2.2.1 : Int32) (p444.2.2.2.2.2.2.2.2.1 : Int64) (p444.2.2.2.2.2.2.2.2.2.1 : Int32) (p444.2.2.2.2.2.2.2.2.2.2.1 : Int32) (p444.2.2.2.2.2.2.2.2.2.2.2.1 : Int64) (p444.2.2.2.2.2.2.2.2.2.2.2.2.1 : Int64) (p444.2.2.2.2.2.2.2.2.2.2.2.2.2.1 : Int32) (p444.2.2.2.2.2.2.2.2.2.2.2.2.2.2 : Int32) t1_0 = p289 at *
            unfold Q_TR_blanks at h48
            obtain ⟨h48b, h48c, h48d, h483, h48s⟩ := h48
            have blp289d := congrArg Int32.toInt h48d
            have blp289b := congrArg Int32.toInt h48b
            have blp289c := congrArg Int32.toInt h48c
            have blp289s := h48s
            unfold S_TR_scan_c113 F_TR_scan_c113
            unfold S_TR_scan_J116 F_TR_scan_J116
            rw [if_neg g47, if_neg g47]
            by_cases g49 : (p289.2.2.2.1 : Int32) = (p289.2.1 : Int32)
            ·
              rw [if_pos g49, if_pos g49]
              refine ⟨trivial, ?_⟩
              (unfold Q_TR_scan; dsimp only; exact ⟨by omega, ⟨by omega, by omega⟩, ⟨by omega, by omega⟩, fun _ => Or.inl ⟨by omega, by omega⟩⟩)
            ·
              rw [if_neg g49, if_neg g49]
              refine ⟨trivial, ?_⟩
              (unfold Q_TR_scan; dsimp only; exact ⟨by omega, ⟨by omega, by omega⟩, ⟨by omega, by omega⟩, fun h => absurd rfl h⟩)
        ·
          rw [if_neg g45, if_neg g45]
          have h50 := T_TR_number (t0_0 := (p75.1 : Int32)) (t0_1 := (p75.2.1 : Int32)) (t0_2 := (p75.2.2.1 : Int32)) (t0_3 := (p75.2.2.2.1 : Int32)) (t0_4 := (0 : Int32)) (t0_5 := (p75.2.2.2.2.2.1 : Int32)) (t0_6 := (p75.2.2.2.2.2.2.1 : Int32)) (t0_7 := (p75.2.2.2.2.2.2.2.1 : Int64)) (t0_8 := (p75.2.2.2.2.2.2.2.2.1 : Int32)) (t0_9 := (p75.2.2.2.2.2.2.2.2.2.1 : Int32)) (t0_10 := (p75.2.2.2.2.2.2.2.2.2.2.1 : Int64)) (t0_11 := (p75.2.2.2.2.2.2.2.2.2.2.2.1 : Int64)) (t0_12 := (p75.2.2.2.2.2.2.2.2.2.2.2.2.1 : Int32)) (t0_13 := (p75.2.2.2.2.2.2.2.2.2.2.2.2.2 : Int32)) (t1_0 := t1_0) (t2_0 := t2_0) ht (by omega) ⟨by omega, by omega⟩
          with_reducible refine v_owe h50.1 ?_
          replace h50 := h50.2
          generalize F_TR_number (p75.1 : Int32) (p75.2.1 : Int32) (p75.2.2.1 : Int32) (p75.2.2.2.1 : Int32) (0 : Int32) (p75.2.2.2.2.2.1 : Int32) (p75.2.2.2.2.2.2.1 : Int32) (p75.2.2.2.2.2.2.2.1 : Int64) (p75.2.2.2.2.2.2.2.2.1 : Int32) (p75.2.2.2.2.2.2.2.2.2.1 : Int32) (p75.2.2.2.2.2.2.2.2.2.2.1 : Int64) (p75.2.2.2.2.2.2.2.2.2.2.2.1 : Int64) (p75.2.2.2.2.2.2.2.2.2.2.2.2.1 : Int32) (p75.2.2.2.2.2.2.2.2.2.2.2.2.2 : Int32) t1_0 t2_0 = p369 at *
          unfold Q_TR_number at h50
          obtain ⟨nub, nud, nu4, nuS⟩ := h50
          unfold S_TR_scan_c104 F_TR_scan_c104
          unfold S_TR_scan_J108 F_TR_scan_J108
          by_cases g51 : (p369.1 : Int32) = (0 : Int32)
          ·
            rw [if_pos g51, if_pos g51]
            unfold S_TR_scan_J116 F_TR_scan_J116
            rw [if_pos g51, if_pos g51]
            refine ⟨trivial, ?_⟩
            (unfold Q_TR_scan; dsimp only; exact ⟨by omega, ⟨by omega, by omega⟩, ⟨by omega, by omega⟩, fun h => absurd rfl h⟩)
          ·
            rw [if_neg g51, if_neg g51]
            have h52 := T_TR_blanks (t0_0 := (p369.2.1 : Int32)) (t0_1 := (p369.2.2.1 : Int32)) (t0_2 := (p369.2.2.2.1 : Int32)) (t0_3 := (p369.2.2.2.2.1 : Int32)) (t0_4 := (p369.2.2.2.2.2.1 : Int32)) (t0_5 := (p369.2.2.2.2.2.2.1 : Int32)) (t0_6 := (p369.2.2.2.2.2.2.2.1 : Int32)) (t0_7 := (p369.2.2.2.2.2.2.2.2.1 : Int64)) (t0_8 := (p369.2.2.2.2.2.2.2.2.2.1 : Int32)) (t0_9 := (p369.2.2.2.2.2.2.2.2.2.2.1 : Int32)) (t0_10 := (p369.2.2.2.2.2.2.2.2.2.2.2.1 : Int64)) (t0_11 := (p369.2.2.2.2.2.2.2.2.2.2.2.2.1 : Int64)) (t0_12 := (p369.2.2.2.2.2.2.2.2.2.2.2.2.2.1 : Int32)) (t0_13 := (p369.2.2.2.2.2.2.2.2.2.2.2.2.2.2.1 : Int32)) (t1_0 := t1_0) (by omega) ⟨by first | omega | decide, by first | omega | decide⟩
            with_reducible refine v_owe h52.1 ?_
            replace h52 := h52.2
            generalize F_TR_blanks (p369.2.1 : Int32) (p369.2.2.1 : Int32) (p369.2.2.2.1 : Int32) (p369.2.2.2.2.1 : Int32) (p369.2.2.2.2.2.1 : Int32) (p369.2.2.2.2.2.2.1 : Int32) (p369.2.2.2.2.2.2.2.1 : Int32) (p369.2.2.2.2.2.2.2.2.1 : Int64) (p369.2.2.2.2.2.2.2.2.2.1 : Int32) (p369.2.2.2.2.2.2.2.2.2.2.1 : Int32) (p369.2.2.2.2.2.2.2.2.2.2.2.1 : Int64) (p369.2.2.2.2.2.2.2.2.2.2.2.2.1 : Int64) (p369.2.2.2.2.2.2.2.2.2.2.2.2.2.1 : Int32) (p369.2.2.2.2.2.2.2.2.2.2.2.2.2.2.1 : Int32) t1_0 = p289 at *
            unfold Q_TR_blanks at h52
            obtain ⟨h52b, h52c, h52d, h523, h52s⟩ := h52
            have blp289d := congrArg Int32.toInt h52d
            have blp289b := congrArg Int32.toInt h52b
            have blp289c := congrArg Int32.toInt h52c
            have blp289s := h52s
            unfold S_TR_scan_c113 F_TR_scan_c113
            unfold S_TR_scan_J116 F_TR_scan_J116
            rw [if_neg g51, if_neg g51]
            by_cases g53 : (p289.2.2.2.1 : Int32) = (p289.2.1 : Int32)
            ·
              rw [if_pos g53, if_pos g53]
              refine ⟨trivial, ?_⟩
              (unfold Q_TR_scan; dsimp only; exact ⟨by omega, ⟨by omega, by omega⟩, ⟨by omega, by omega⟩, fun _ => Or.inr (blp289s _ (nuS g51))⟩)
            ·
              rw [if_neg g53, if_neg g53]
              refine ⟨trivial, ?_⟩
              (unfold Q_TR_scan; dsimp only; exact ⟨by omega, ⟨by omega, by omega⟩, ⟨by omega, by omega⟩, fun h => absurd rfl h⟩)
