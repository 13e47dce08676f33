/-! values, for whole: numbers of the reference's directives -/
def zSgn (v : Int) (fl : Int32) : List Nat := if v < 0 then (if fl &&& 32 = 0 then [45] else [40]) else if fl &&& 4 = 0 then (if fl &&& 128 = 0 then [] else [32]) else [43]
def zCls (v : Int) (fl : Int32) : List Nat := if v < 0 then (if fl &&& 32 = 0 then [] else [41]) else []
def zPre (sm fl : Int32) : List Nat := if fl &&& 2 = 0 then [] else if sm = 111 then [48] else [48, 120]
def zBas (b N : Nat) (t : List Nat) : Prop := ∃ m, zNf b N m ∧ t = (yLw b N 0 m).reverse
theorem zBas_U {b N : Nat} {t u : List Nat} (hb : 1 < b) (h : zBas b N t) (g : zBas b N u) : t = u := by
  obtain ⟨m, h1, h2⟩ := h
  obtain ⟨k, g1, g2⟩ := g
  rw [h2, g2, zNf_U hb h1 g1]
/-- a number's text, and how much of it stands before the zeros -/
def zNuT (sm : Int32) (v : Int64) (s : Nat) (fl : Int32) (p dg : Nat) (t : List Nat) (f : Nat) : Prop := ((sm = 111 ∨ sm = 120) ∧ ∃ u, zBas (if sm = 111 then 8 else 16) (yu v) u ∧ t = zPre sm fl ++ u ∧ f = (zPre sm fl).length) ∨ (sm = 100 ∧ ∃ u, zTf v.toInt.natAbs 0 0 (fl &&& 16) (fl &&& 2) u ∧ t = zSgn v.toInt fl ++ u ++ zCls v.toInt fl ∧ f = (zSgn v.toInt fl).length) ∨ ((sm = 102 ∨ sm = 101 ∨ sm = 103) ∧ ∃ u, zTx sm v.toInt.natAbs dg s p (fl &&& 16) (fl &&& 2) u ∧ t = zSgn v.toInt fl ++ u ++ zCls v.toInt fl ∧ f = (zSgn v.toInt fl).length)
theorem zTx_U {c : Int32} {N dg s p : Nat} {cm ap : Int32} {t u : List Nat} (h : zTx c N dg s p cm ap t) (g : zTx c N dg s p cm ap u) : t = u := by
  rcases h with ⟨a, h⟩ | ⟨a, h⟩ | ⟨a, h⟩ <;> rcases g with ⟨b, g⟩ | ⟨b, g⟩ | ⟨b, g⟩
  · exact zTf_U h g
  · rw [a] at b; exact absurd b (by decide)
  · rw [a] at b; exact absurd b (by decide)
  · rw [a] at b; exact absurd b (by decide)
  · exact zTe_U h g
  · rw [a] at b; exact absurd b (by decide)
  · rw [a] at b; exact absurd b (by decide)
  · rw [a] at b; exact absurd b (by decide)
  · exact zTg_U h g
theorem zNuT_U {sm : Int32} {v : Int64} {s : Nat} {fl : Int32} {p dg : Nat} {t t2 : List Nat} {f f2 : Nat} (h : zNuT sm v s fl p dg t f) (g : zNuT sm v s fl p dg t2 f2) : t = t2 ∧ f = f2 := by
  rcases h with ⟨a, u, h1, h2, h3⟩ | ⟨a, u, h1, h2, h3⟩ | ⟨a, u, h1, h2, h3⟩ <;> rcases g with ⟨b, w, g1, g2, g3⟩ | ⟨b, w, g1, g2, g3⟩ | ⟨b, w, g1, g2, g3⟩
  · have := zBas_U (by split <;> decide) h1 g1
    rw [h2, g2, h3, g3, this]
    exact ⟨rfl, rfl⟩
  · exfalso; rcases a with a | a <;> rw [a] at b <;> exact absurd b (by decide)
  · exfalso; rcases a with a | a <;> rw [a] at b <;> exact absurd b (by decide)
  · exfalso; rw [a] at b; exact absurd b (by decide)
  · rw [h2, g2, h3, g3, zTf_U h1 g1]
    exact ⟨rfl, rfl⟩
  · exfalso; rw [a] at b; exact absurd b (by decide)
  · exfalso; rcases b with b | b <;> rw [b] at a <;> exact absurd a (by decide)
  · exfalso; rw [b] at a; exact absurd a (by decide)
  · rw [h2, g2, h3, g3, zTx_U h1 g1]
    exact ⟨rfl, rfl⟩
theorem Z_nuLo {x2 : Int32} {t0_0 : Int32} {t0_1 : Int32} {t0_2 : Int32} {t0_3 : Int32} {t0_4 : Int32} {t0_5 : Int32} {t0_6 : Int32} {t0_7 : Int32} {t0_8 : Int32} {t0_9 : Int32} {t0_10 : Int32} {t0_11 : Int32} {t0_12 : Int32} {t0_13 : Int32} {t0_14 : Int32} {t0_15 : Int32} {t0_16 : Int32} {t0_17 : Int32} {t0_18 : Int32} {t0_19 : Int32} {t0_20 : Int32} {t0_21 : Int32} {t1_0 : (Nat → Int32)} {t2_0 : (Nat → Int64)} {t3_0 : (Nat → Int32)} {t4_0 : (Nat → Int32)} {j42 : Int64} {a46 : Int32} {lx53 : Int32} {lx67 : Int32} {lx81 : Int32} {lx82 : (Nat → Int32)} {lx95 : Int32} {lx96 : (Nat → Int32)} {lx178 : Int64} {lx190 : Int32} {p218 : (Int32 × Int32 × (Nat → Int32))} {y208 : Int32} {y209 : Int32} {f210 : (Nat → Int32)} {N b m : Nat} (hm : y208.toInt = (m : Int)) (hm2 : m ≤ 22) (hb : 2 ≤ b ∧ b ≤ 16) (hf : zFr b m f210 N) : ∀ (n : Nat) (lx229 : Int32) (lx230 : Int32) (lx231 : (Nat → Int32)), ∀ (j : Nat) (l : List Nat), lx229.toInt = (j : Int) → j ≤ m → m < n + j → yRt lx230 lx231 l → l.length + m ≤ 1000 + j → yRt (F_VR_numeric_L248 x2 t0_0 t0_1 t0_2 t0_3 t0_4 t0_5 t0_6 t0_7 t0_8 t0_9 t0_10 t0_11 t0_12 t0_13 t0_14 t0_15 t0_16 t0_17 t0_18 t0_19 t0_20 t0_21 t1_0 t2_0 t3_0 t4_0 j42 a46 lx53 lx67 lx81 lx82 lx95 lx96 lx178 lx190 p218 y208 y209 f210 n lx229 lx230 lx231).1 (F_VR_numeric_L248 x2 t0_0 t0_1 t0_2 t0_3 t0_4 t0_5 t0_6 t0_7 t0_8 t0_9 t0_10 t0_11 t0_12 t0_13 t0_14 t0_15 t0_16 t0_17 t0_18 t0_19 t0_20 t0_21 t1_0 t2_0 t3_0 t4_0 j42 a46 lx53 lx67 lx81 lx82 lx95 lx96 lx178 lx190 p218 y208 y209 f210 n lx229 lx230 lx231).2.2.2.2.2.1 (l ++ (yLw b N 0 (m - j)).reverse) ∧ (F_VR_numeric_L248 x2 t0_0 t0_1 t0_2 t0_3 t0_4 t0_5 t0_6 t0_7 t0_8 t0_9 t0_10 t0_11 t0_12 t0_13 t0_14 t0_15 t0_16 t0_17 t0_18 t0_19 t0_20 t0_21 t1_0 t2_0 t3_0 t4_0 j42 a46 lx53 lx67 lx81 lx82 lx95 lx96 lx178 lx190 p218 y208 y209 f210 n lx229 lx230 lx231).2.1 = lx95 ∧ (F_VR_numeric_L248 x2 t0_0 t0_1 t0_2 t0_3 t0_4 t0_5 t0_6 t0_7 t0_8 t0_9 t0_10 t0_11 t0_12 t0_13 t0_14 t0_15 t0_16 t0_17 t0_18 t0_19 t0_20 t0_21 t1_0 t2_0 t3_0 t4_0 j42 a46 lx53 lx67 lx81 lx82 lx95 lx96 lx178 lx190 p218 y208 y209 f210 n lx229 lx230 lx231).2.2.1 = a46 := by
  have e10 : (10 : Int32).toInt = 10 := rfl
  intro n
  induction n with
  | zero =>
    intro _ _ _ j l _ q1 q2
    omega
  | succ n ih =>
    intro lx229 lx230 lx231 j l h1 h2 h3 h4 h5
    unfold F_VR_numeric_L248
    by_cases c : y208 ≤ lx229
    · rw [if_pos c]
      have c' := q_leI c
      rw [show m - j = 0 by omega]
      refine ⟨?_, rfl, rfl⟩
      show yRt lx230 lx231 (l ++ [])
      rw [List.append_nil]
      exact h4
    · rw [if_neg c]
      have c' := q_nleI c
      have ix : lx229.toNatClampNeg = j := by show lx229.toInt.toNat = j; omega
      rw [ix]
      have f := hf j (by omega)
      have lt : N / b ^ (m - 1 - j) % b < b := Nat.mod_lt _ (by omega)
      have e : (yLw b N 0 (m - j)).reverse = yLet (N / b ^ (m - 1 - j) % b) :: (yLw b N 0 (m - (j + 1))).reverse := by
        rw [show m - j = (m - (j + 1)) + 1 by omega, yLw_s, List.reverse_append]
        show yLet (yBg b N (0 + (m - (j + 1)))) :: _ = _
        rw [Nat.zero_add, show m - (j + 1) = m - 1 - j by omega]
        rfl
      have hj1 : (lx229 + 1).toInt = ((j + 1 : Nat) : Int) := by
        rw [q_addI (y := 1) h1 rfl (by omega) (by omega)]
        omega
      have nx : ∀ p : Int32 × (Nat → Int32), yRt p.1 p.2 (l ++ [yLet (N / b ^ (m - 1 - j) % b)]) → yRt (F_VR_numeric_L248 x2 t0_0 t0_1 t0_2 t0_3 t0_4 t0_5 t0_6 t0_7 t0_8 t0_9 t0_10 t0_11 t0_12 t0_13 t0_14 t0_15 t0_16 t0_17 t0_18 t0_19 t0_20 t0_21 t1_0 t2_0 t3_0 t4_0 j42 a46 lx53 lx67 lx81 lx82 lx95 lx96 lx178 lx190 p218 y208 y209 f210 n (lx229 + 1) p.1 p.2).1 (F_VR_numeric_L248 x2 t0_0 t0_1 t0_2 t0_3 t0_4 t0_5 t0_6 t0_7 t0_8 t0_9 t0_10 t0_11 t0_12 t0_13 t0_14 t0_15 t0_16 t0_17 t0_18 t0_19 t0_20 t0_21 t1_0 t2_0 t3_0 t4_0 j42 a46 lx53 lx67 lx81 lx82 lx95 lx96 lx178 lx190 p218 y208 y209 f210 n (lx229 + 1) p.1 p.2).2.2.2.2.2.1 (l ++ (yLw b N 0 (m - j)).reverse) ∧ (F_VR_numeric_L248 x2 t0_0 t0_1 t0_2 t0_3 t0_4 t0_5 t0_6 t0_7 t0_8 t0_9 t0_10 t0_11 t0_12 t0_13 t0_14 t0_15 t0_16 t0_17 t0_18 t0_19 t0_20 t0_21 t1_0 t2_0 t3_0 t4_0 j42 a46 lx53 lx67 lx81 lx82 lx95 lx96 lx178 lx190 p218 y208 y209 f210 n (lx229 + 1) p.1 p.2).2.1 = lx95 ∧ (F_VR_numeric_L248 x2 t0_0 t0_1 t0_2 t0_3 t0_4 t0_5 t0_6 t0_7 t0_8 t0_9 t0_10 t0_11 t0_12 t0_13 t0_14 t0_15 t0_16 t0_17 t0_18 t0_19 t0_20 t0_21 t1_0 t2_0 t3_0 t4_0 j42 a46 lx53 lx67 lx81 lx82 lx95 lx96 lx178 lx190 p218 y208 y209 f210 n (lx229 + 1) p.1 p.2).2.2.1 = a46 := by
        intro p hp
        have r := ih (lx229 + 1) p.1 p.2 (j + 1) _ hj1 (by omega) (by omega) hp (by rw [List.length_append]; show l.length + 1 + m ≤ _; omega)
        rw [List.append_assoc] at r
        rw [e]
        exact r
      by_cases g : 10 ≤ f210 j
      · rw [if_pos g]
        have g' := q_leI g
        have v : ((97 + f210 j) - 10 : Int32).toInt = ((yLet (N / b ^ (m - 1 - j) % b) : Nat) : Int) := by
          have a1 := q_addI (x := 97) (a := 97) rfl f (by omega) (by omega)
          rw [q_subI (b := 10) (y := 10) a1 rfl (by omega) (by omega)]
          unfold yLet
          rw [if_neg (by omega)]
          omega
        have w := Z_put (t0_0 := t0_0) (t0_1 := t0_1) (t0_2 := t0_2) (t0_3 := t0_3) (t0_4 := t0_4) (t0_5 := t0_5) (t0_6 := t0_6) (t0_7 := t0_7) (t0_8 := t0_8) (t0_9 := t0_9) (t0_10 := t0_10) (t0_11 := t0_11) (t0_12 := t0_12) (t0_13 := t0_13) (t0_14 := t0_14) (t0_15 := t0_15) (t0_16 := t0_16) (t0_17 := lx230) (t0_18 := lx95) (t0_19 := a46) (t0_20 := y208) (t0_21 := y209) h4 (by omega) v
        unfold F_VR_numeric_c296
        exact nx _ w
      · rw [if_neg g]
        have g' := q_nleI g
        have v : (48 + f210 j : Int32).toInt = ((yLet (N / b ^ (m - 1 - j) % b) : Nat) : Int) := by
          rw [q_addI (x := 48) (a := 48) rfl f (by omega) (by omega)]
          unfold yLet
          rw [if_pos (by omega)]
          omega
        have w := Z_put (t0_0 := t0_0) (t0_1 := t0_1) (t0_2 := t0_2) (t0_3 := t0_3) (t0_4 := t0_4) (t0_5 := t0_5) (t0_6 := t0_6) (t0_7 := t0_7) (t0_8 := t0_8) (t0_9 := t0_9) (t0_10 := t0_10) (t0_11 := t0_11) (t0_12 := t0_12) (t0_13 := t0_13) (t0_14 := t0_14) (t0_15 := t0_15) (t0_16 := t0_16) (t0_17 := lx230) (t0_18 := lx95) (t0_19 := a46) (t0_20 := y208) (t0_21 := y209) h4 (by omega) v
        unfold F_VR_numeric_c296_12
        exact nx _ w

