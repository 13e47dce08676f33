/-! values, for whole: the reference's decimals written: exponent -/
def yTn (j : Nat) : Nat := if j = 0 then 0 else yP5 j
theorem yTn_d {j : Nat} (h : 1 ≤ j ∧ j ≤ 5) : yTn j / 10 = yTn (j - 1) := by
  have : j = 1 ∨ j = 2 ∨ j = 3 ∨ j = 4 ∨ j = 5 := by omega
  rcases this with rfl | rfl | rfl | rfl | rfl <;> decide
theorem y_digQ {a u : Int32} {v j : Nat} (ha : a.toInt = (v : Int)) (hu : u.toInt = ((yP5 j : Nat) : Int)) (hj : 1 ≤ j ∧ j ≤ 5) : (48 + ((a / u) - (a / u) / 10 * 10) : Int32).toInt = ((48 + yLo v (j - 1) : Nat) : Int) := by
  have e10 : (10 : Int32).toInt = 10 := rfl
  have e48 : (48 : Int32).toInt = 48 := rfl
  have p5 := yP5_b hj.2
  have hs := yP5_s hj
  have q1 := q_divI ha hu (by omega) (by omega)
  have q2 := v_rem (a := a / u) (b := 10) (by rw [q1]; exact Int.ediv_nonneg (by omega) (by omega)) (by omega)
  rw [q1, e10] at q2
  have q3 : (v : Int) / ((yP5 j : Nat) : Int) % 10 = ((yLo v (j - 1) : Nat) : Int) := by
    unfold yLo
    rw [← hs]
    rfl
  rw [q3] at q2
  have l9 := yLo_9 v (j - 1)
  exact q_addI e48 q2 (by omega) (by omega)
theorem V_ex50 {K_F_DR_exponent_L34 : Int32 → (Int32 × Int32 × Int32 × Int64 × Int32 × Int32 × Int32 × Int32 × Int32 × Int32 × Int32 × (Nat → Int32))} {x2 : Int32} {t0_0 : Int32} {t0_1 : Int32} {t0_2 : Int32} {t0_3 : Int64} {t0_4 : Int32} {t0_5 : Int32} {t0_6 : Int32} {t0_7 : Int32} {t0_8 : Int32} {t0_9 : Int32} {t0_10 : Int32} {t1_0 : (Nat → Int32)} {p62 : (Int32 × Int32 × Int32 × Int64 × Int32 × Int32 × Int32 × Int32 × Int32 × Int32 × Int32 × (Nat → Int32))} {y24 : Int32} {y25 : Int32} {y26 : Int32} {y27 : Int64} {y28 : Int32} {y29 : Int32} {y30 : Int32} {y31 : Int32} {y32 : Int32} {y33 : Int32} {y34 : Int32} {f35 : (Nat → Int32)} {lx81 : Int32} {p134 : (Int32 × Int32 × Int32 × Int64 × Int32 × Int32 × Int32 × Int32 × Int32 × Int32 × Int32 × (Nat → Int32))} {y96 : Int32} {y97 : Int32} {y98 : Int32} {y99 : Int64} {y100 : Int32} {y101 : Int32} {y102 : Int32} {y103 : Int32} {y104 : Int32} {y105 : Int32} {y106 : Int32} {f107 : (Nat → Int32)} {lx153 : Int32} {lx163 : Int32} {v : Nat} (hv : lx153.toInt = (v : Int)) : ∀ (n : Nat) (lx176 : Int32) (lx177 : Int32) (lx178 : Int32) (lx179 : Int32) (lx180 : Int64) (lx181 : Int32) (lx182 : Int32) (lx183 : Int32) (lx184 : Int32) (lx185 : Int32) (lx186 : Int32) (lx187 : Int32) (lx188 : (Nat → Int32)), ∀ (j : Nat) (l : List Nat), lx176.toInt = ((yTn j : Nat) : Int) → j ≤ 5 → j < n → yRt lx186 lx188 l → l.length + j < 1900000000 → yRt (F_DR_exponent_L50 K_F_DR_exponent_L34 x2 t0_0 t0_1 t0_2 t0_3 t0_4 t0_5 t0_6 t0_7 t0_8 t0_9 t0_10 t1_0 p62 y24 y25 y26 y27 y28 y29 y30 y31 y32 y33 y34 f35 lx81 p134 y96 y97 y98 y99 y100 y101 y102 y103 y104 y105 y106 f107 lx153 lx163 n lx176 lx177 lx178 lx179 lx180 lx181 lx182 lx183 lx184 lx185 lx186 lx187 lx188).2.2.2.2.2.2.2.2.2.1 (F_DR_exponent_L50 K_F_DR_exponent_L34 x2 t0_0 t0_1 t0_2 t0_3 t0_4 t0_5 t0_6 t0_7 t0_8 t0_9 t0_10 t1_0 p62 y24 y25 y26 y27 y28 y29 y30 y31 y32 y33 y34 f35 lx81 p134 y96 y97 y98 y99 y100 y101 y102 y103 y104 y105 y106 f107 lx153 lx163 n lx176 lx177 lx178 lx179 lx180 lx181 lx182 lx183 lx184 lx185 lx186 lx187 lx188).2.2.2.2.2.2.2.2.2.2.2 (l ++ yDs j v) := by
  have e0 : (0 : Int32).toInt = 0 := rfl
  have e10 : (10 : Int32).toInt = 10 := rfl
  intro n
  induction n with
  | zero =>
    intro lx176 lx177 lx178 lx179 lx180 lx181 lx182 lx183 lx184 lx185 lx186 lx187 lx188 j l h1 h2 h3
    omega
  | succ n ih =>
    intro lx176 lx177 lx178 lx179 lx180 lx181 lx182 lx183 lx184 lx185 lx186 lx187 lx188 j l h1 h2 h3 h4 h5
    rw [F_DR_exponent_L50.eq_2]
    by_cases z : j = 0
    · subst z
      rw [if_pos (show lx176 ≤ 0 from Int32.le_iff_toInt_le.mpr (by rw [h1, e0]; decide))]
      show yRt lx186 lx188 (l ++ [])
      rw [List.append_nil]
      exact h4
    · have h1' : lx176.toInt = ((yP5 j : Nat) : Int) := by
        rw [h1]
        unfold yTn
        rw [if_neg z]
      have p5 := yP5_b h2
      rw [if_neg (show ¬ lx176 ≤ 0 from fun c => by have := q_leI c; omega)]
      have w := V_rt (v := 48 + yLo v (j - 1)) h4 (by omega) (y_digQ hv h1' ⟨by omega, h2⟩)
      unfold F_DR_print F_DR_exponent_c64
      have nx : (lx176 / 10).toInt = ((yTn (j - 1) : Nat) : Int) := by
        rw [q_divI h1 e10 (by omega) (by omega), ← yTn_d ⟨by omega, h2⟩]
        rfl
      have r := ih (lx176 / 10) lx177 lx178 lx179 lx180 lx181 lx182 lx183 lx184 lx185 (lx186 + 1) lx187 _ (j - 1) _ nx (by omega) (by omega) w (by rw [List.length_append, List.length_singleton]; omega)
      rw [show l ++ yDs j v = l ++ [48 + yLo v (j - 1)] ++ yDs (j - 1) v from by
        rw [← yDs_app, show j - 1 + 1 = j from by omega]]
      exact r
theorem V_ex34 {x2 : Int32} {t0_0 : Int32} {t0_1 : Int32} {t0_2 : Int32} {t0_3 : Int64} {t0_4 : Int32} {t0_5 : Int32} {t0_6 : Int32} {t0_7 : Int32} {t0_8 : Int32} {t0_9 : Int32} {t0_10 : Int32} {t1_0 : (Nat → Int32)} {p62 : (Int32 × Int32 × Int32 × Int64 × Int32 × Int32 × Int32 × Int32 × Int32 × Int32 × Int32 × (Nat → Int32))} {y24 : Int32} {y25 : Int32} {y26 : Int32} {y27 : Int64} {y28 : Int32} {y29 : Int32} {y30 : Int32} {y31 : Int32} {y32 : Int32} {y33 : Int32} {y34 : Int32} {f35 : (Nat → Int32)} {lx81 : Int32} {p134 : (Int32 × Int32 × Int32 × Int64 × Int32 × Int32 × Int32 × Int32 × Int32 × Int32 × Int32 × (Nat → Int32))} {y96 : Int32} {y97 : Int32} {y98 : Int32} {y99 : Int64} {y100 : Int32} {y101 : Int32} {y102 : Int32} {y103 : Int32} {y104 : Int32} {y105 : Int32} {y106 : Int32} {f107 : (Nat → Int32)} {lx153 : Int32} {v c : Nat} (hv : lx153.toInt = (v : Int)) (hv5 : v < 100000) (hc : yDt v c) {l : List Nat} (hr : yRt y105 f107 l) (hl : l.length < 1000000000) : ∀ (n : Nat) (lx163 : Int32), ∀ (j : Nat), lx163.toInt = ((yP5 j : Nat) : Int) → 1 ≤ j → j ≤ max c 1 → 6 < n + j → yRt (F_DR_exponent_L34 x2 t0_0 t0_1 t0_2 t0_3 t0_4 t0_5 t0_6 t0_7 t0_8 t0_9 t0_10 t1_0 p62 y24 y25 y26 y27 y28 y29 y30 y31 y32 y33 y34 f35 lx81 p134 y96 y97 y98 y99 y100 y101 y102 y103 y104 y105 y106 f107 lx153 n lx163).2.2.2.2.2.2.2.2.2.1 (F_DR_exponent_L34 x2 t0_0 t0_1 t0_2 t0_3 t0_4 t0_5 t0_6 t0_7 t0_8 t0_9 t0_10 t1_0 p62 y24 y25 y26 y27 y28 y29 y30 y31 y32 y33 y34 f35 lx81 p134 y96 y97 y98 y99 y100 y101 y102 y103 y104 y105 y106 f107 lx153 n lx163).2.2.2.2.2.2.2.2.2.2.2 (l ++ yDs (max c 1) v) := by
  have e9 : (9 : Int32).toInt = 9 := rfl
  have e10 : (10 : Int32).toInt = 10 := rfl
  have c5 : c ≤ 5 := by
    rcases Nat.lt_or_ge 5 c with g | g
    · have := (y_ge10 (i := 5) hc).mpr g
      omega
    · exact g
  intro n
  induction n with
  | zero =>
    intro lx163 j h1 h2 h3 h4
    omega
  | succ n ih =>
    intro lx163 j h1 h2 h3 h4
    have p5 := yP5_b (k := j) (by omega)
    have hs := yP5_s (k := j) ⟨h2, by omega⟩
    rw [F_DR_exponent_L34.eq_2]
    have dv := q_divI hv h1 (by omega) (by omega)
    have ge := y_ge10 (i := j) hc
    have key : v / yP5 j ≤ 9 ↔ c ≤ j := by
      rw [hs]
      have hp : 0 < 10 ^ (j - 1) := Nat.pow_pos (by decide)
      have e : 10 ^ j = 10 * 10 ^ (j - 1) := by
        rw [Nat.mul_comm, ← Nat.pow_succ]
        rw [show (j - 1).succ = j from by omega]
      have d : v / 10 ^ (j - 1) < 10 ↔ v < 10 * 10 ^ (j - 1) := Nat.div_lt_iff_lt_mul hp
      rw [← e] at d
      constructor
      · intro k
        have k2 := d.mp (Nat.lt_succ_of_le k)
        rcases Nat.lt_or_ge j c with q | q
        · exact absurd (ge.mpr q) (Nat.not_le.mpr k2)
        · exact q
      · intro k
        exact Nat.le_of_lt_succ (d.mpr (Nat.not_le.mp (fun q => by have := ge.mp q; omega)))
    have dvN : (lx153 / lx163).toInt = ((v / yP5 j : Nat) : Int) := by
      rw [dv]
      rfl
    by_cases g : (lx153 / lx163) ≤ 9
    · rw [if_pos g]
      have g := q_leI g
      have cj := key.mp (by omega)
      have jm : j = max c 1 := by omega
      have tn : yTn j = yP5 j := by
        unfold yTn
        rw [if_neg (by omega)]
      have fu : j < (lx163.toInt - -1).toNat + 1 := by
        rw [h1]
        have : j = 1 ∨ j = 2 ∨ j = 3 ∨ j = 4 ∨ j = 5 := by omega
        rcases this with k | k | k | k | k <;> rw [k] <;> decide
      rw [← jm]
      exact V_ex50 hv ((lx163.toInt - -1).toNat + 1) lx163 y96 y97 y98 y99 y100 y101 y102 y103 y104 y105 y106 f107 j l (by rw [tn]; exact h1) (by omega) fu hr (by omega)
    · rw [if_neg g]
      have g := q_nleI g
      have cj : ¬ c ≤ j := fun k => by have := key.mpr k; omega
      have nx : (lx163 * 10).toInt = ((yP5 (j + 1) : Nat) : Int) := by
        rw [q_mulI h1 e10 (by omega) (by omega)]
        have : j = 1 ∨ j = 2 ∨ j = 3 ∨ j = 4 := by omega
        rcases this with k | k | k | k <;> rw [k] <;> rfl
      exact ih (lx163 * 10) (j + 1) nx (by omega) (by omega) (by omega)
theorem V_DRexp {x2 : Int32} {t0_0 : Int32} {t0_1 : Int32} {t0_2 : Int32} {t0_3 : Int64} {t0_4 : Int32} {t0_5 : Int32} {t0_6 : Int32} {t0_7 : Int32} {t0_8 : Int32} {t0_9 : Int32} {t0_10 : Int32} {t1_0 : (Nat → Int32)} {l : List Nat} (hr : yRt t0_9 t1_0 l) (hl : l.length < 900000000) (h2 : -99999 ≤ x2.toInt ∧ x2.toInt ≤ 99999) : yRt (F_DR_exponent x2 t0_0 t0_1 t0_2 t0_3 t0_4 t0_5 t0_6 t0_7 t0_8 t0_9 t0_10 t1_0).2.2.2.2.2.2.2.2.2.1 (F_DR_exponent x2 t0_0 t0_1 t0_2 t0_3 t0_4 t0_5 t0_6 t0_7 t0_8 t0_9 t0_10 t1_0).2.2.2.2.2.2.2.2.2.2.2 (l ++ yE x2.toInt) := by
  have e0 : (0 : Int32).toInt = 0 := rfl
  unfold F_DR_exponent yE
  have w1 := V_rt (x := 69) (v := 69) hr (by omega) rfl
  have l1 : (l ++ [69]).length = l.length + 1 := by rw [List.length_append, List.length_singleton]
  have ct := yCt5_t (n := x2.toInt.natAbs) (by omega)
  unfold F_DR_print F_DR_exponent_c3
  by_cases g : (0 : Int32) ≤ x2
  · rw [if_pos g]
    have gi := q_leI g
    have w2 := V_rt (x := 43) (v := 43) w1 (by omega) rfl
    have l2 : (l ++ [69] ++ [43]).length = l.length + 2 := by rw [List.length_append, l1, List.length_singleton]
    unfold F_DR_exponent_J18 F_DR_print F_DR_exponent_c18
    rw [if_pos g]
    unfold F_DR_exponent_J31
    unfold ySgn
    rw [if_neg (by omega), show l ++ (69 :: [43] ++ yDs (max (yCt5 x2.toInt.natAbs) 1) x2.toInt.natAbs) = l ++ [69] ++ [43] ++ yDs (max (yCt5 x2.toInt.natAbs) 1) x2.toInt.natAbs from by rw [List.append_assoc, List.append_assoc]; rfl]
    exact V_ex34 (v := x2.toInt.natAbs) (by omega) (by omega) ct w2 (by omega) 1000000 1 1 rfl (by omega) (by omega) (by omega)
  · rw [if_neg g]
    have gi := q_nleI g
    have w2 := V_rt (x := 45) (v := 45) w1 (by omega) rfl
    have l2 : (l ++ [69] ++ [45]).length = l.length + 2 := by rw [List.length_append, l1, List.length_singleton]
    unfold F_DR_exponent_J18 F_DR_print F_DR_exponent_c18
    rw [if_neg g]
    unfold F_DR_exponent_J31
    unfold ySgn
    rw [if_pos (by omega), show l ++ (69 :: [45] ++ yDs (max (yCt5 x2.toInt.natAbs) 1) x2.toInt.natAbs) = l ++ [69] ++ [45] ++ yDs (max (yCt5 x2.toInt.natAbs) 1) x2.toInt.natAbs from by rw [List.append_assoc, List.append_assoc]; rfl]
    exact V_ex34 (v := x2.toInt.natAbs) (by rw [q_negI rfl (by omega)]; omega) (by omega) ct w2 (by omega) 1000000 1 1 rfl (by omega) (by omega) (by omega)
theorem y_dn3 {x : Int32} (h : -100000 ≤ x.toInt) (h2 : x.toInt ≤ 100000) : (F_DR_down3 x).toInt = 3 * (x.toInt / 3) := by
  have e0 : (0 : Int32).toInt = 0 := rfl
  have e2 : (2 : Int32).toInt = 2 := rfl
  have e3 : (3 : Int32).toInt = 3 := rfl
  unfold F_DR_down3
  by_cases g : x < 0
  · rw [if_pos g]
    have g := q_ltI g
    have s := q_subI (b := x) e2 rfl (by omega) (by omega)
    have d := q_divI s e3 (by omega) (by omega)
    have m := q_mulI d e3 (by omega) (by omega)
    rw [q_negI m (by omega)]
    omega
  · rw [if_neg g]
    have g := q_nltI g
    have d := q_divI (a := x) rfl e3 (by omega) (by omega)
    rw [q_mulI d e3 (by omega) (by omega)]
    omega
