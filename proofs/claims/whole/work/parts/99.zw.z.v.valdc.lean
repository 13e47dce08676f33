/-! values, for whole: the reference's floats written: number, figure, shortestTop -/
theorem V_nu18 {K_F_FR_number_L2 : Int32 → (Int32 × Int32 × Int32 × Int32 × Int64 × Int32 × Int32 × Int64 × Int32 × Int64 × Int32 × (Nat → Int32))} {x2 : Int32} {t0_0 : Int32} {t0_1 : Int32} {t0_2 : Int32} {t0_3 : Int32} {t0_4 : Int64} {t0_5 : Int32} {t0_6 : Int32} {t0_7 : Int64} {t0_8 : Int32} {t0_9 : Int64} {t0_10 : Int32} {t1_0 : (Nat → Int32)} {lx18 : Int32} {v : Nat} (hv : x2.toInt = (v : Int)) : ∀ (n : Nat) (lx31 : Int32) (lx32 : Int32) (lx33 : Int32) (lx34 : Int32) (lx35 : Int32) (lx36 : Int64) (lx37 : Int32) (lx38 : Int32) (lx39 : Int64) (lx40 : Int32) (lx41 : Int64) (lx42 : Int32) (lx43 : (Nat → Int32)), ∀ (j : Nat) (l : List Nat), lx31.toInt = ((yTn j : Nat) : Int) → j ≤ 5 → j < n → yRt lx33 lx43 l → l.length + j < 1900000000 → (F_FR_number_L18 K_F_FR_number_L2 x2 t0_0 t0_1 t0_2 t0_3 t0_4 t0_5 t0_6 t0_7 t0_8 t0_9 t0_10 t1_0 lx18 n lx31 lx32 lx33 lx34 lx35 lx36 lx37 lx38 lx39 lx40 lx41 lx42 lx43).1 = lx32 ∧ yRt (F_FR_number_L18 K_F_FR_number_L2 x2 t0_0 t0_1 t0_2 t0_3 t0_4 t0_5 t0_6 t0_7 t0_8 t0_9 t0_10 t1_0 lx18 n lx31 lx32 lx33 lx34 lx35 lx36 lx37 lx38 lx39 lx40 lx41 lx42 lx43).2.1 (F_FR_number_L18 K_F_FR_number_L2 x2 t0_0 t0_1 t0_2 t0_3 t0_4 t0_5 t0_6 t0_7 t0_8 t0_9 t0_10 t1_0 lx18 n lx31 lx32 lx33 lx34 lx35 lx36 lx37 lx38 lx39 lx40 lx41 lx42 lx43).2.2.2.2.2.2.2.2.2.2.2 (l ++ yDs j v) := by
  have e0 : (0 : Int32).toInt = 0 := rfl
  have e10 : (10 : Int32).toInt = 10 := rfl
  intro n
  induction n with
  | zero =>
    intro lx31 lx32 lx33 lx34 lx35 lx36 lx37 lx38 lx39 lx40 lx41 lx42 lx43 j l h1 h2 h3
    omega
  | succ n ih =>
    intro lx31 lx32 lx33 lx34 lx35 lx36 lx37 lx38 lx39 lx40 lx41 lx42 lx43 j l h1 h2 h3 h4 h5
    rw [F_FR_number_L18.eq_2]
    by_cases z : j = 0
    · subst z
      rw [if_pos (show lx31 ≤ 0 from Int32.le_iff_toInt_le.mpr (by rw [h1, e0]; decide))]
      show lx32 = lx32 ∧ yRt lx33 lx43 (l ++ [])
      rw [List.append_nil]
      exact ⟨rfl, h4⟩
    · have h1' : lx31.toInt = ((yP5 j : Nat) : Int) := by
        rw [h1]
        unfold yTn
        rw [if_neg z]
      have p5 := yP5_b h2
      rw [if_neg (show ¬ lx31 ≤ 0 from fun c => by have := q_leI c; omega)]
      have w := V_rt (v := 48 + yLo v (j - 1)) h4 (by omega) (y_digQ hv h1' ⟨by omega, h2⟩)
      unfold F_FR_add F_FR_number_c32
      have nx : (lx31 / 10).toInt = ((yTn (j - 1) : Nat) : Int) := by
        rw [q_divI h1 e10 (by omega) (by omega), ← yTn_d ⟨by omega, h2⟩]
        rfl
      have r := ih (lx31 / 10) lx32 (lx33 + 1) lx34 lx35 lx36 lx37 lx38 lx39 lx40 lx41 lx42 _ (j - 1) _ nx (by omega) (by omega) w (by rw [List.length_append, List.length_singleton]; omega)
      rw [show l ++ yDs j v = l ++ [48 + yLo v (j - 1)] ++ yDs (j - 1) v from by
        rw [← yDs_app, show j - 1 + 1 = j from by omega]]
      exact r
theorem V_nu2 {x2 : Int32} {t0_0 : Int32} {t0_1 : Int32} {t0_2 : Int32} {t0_3 : Int32} {t0_4 : Int64} {t0_5 : Int32} {t0_6 : Int32} {t0_7 : Int64} {t0_8 : Int32} {t0_9 : Int64} {t0_10 : Int32} {t1_0 : (Nat → Int32)} {v c : Nat} (hv : x2.toInt = (v : Int)) (hv5 : v < 100000) (hc : yDt v c) {l : List Nat} (hr : yRt t0_1 t1_0 l) (hl : l.length < 1000000000) : ∀ (n : Nat) (lx18 : Int32), ∀ (j : Nat), lx18.toInt = ((yP5 j : Nat) : Int) → 1 ≤ j → j ≤ max c 1 → 6 < n + j → (F_FR_number_L2 x2 t0_0 t0_1 t0_2 t0_3 t0_4 t0_5 t0_6 t0_7 t0_8 t0_9 t0_10 t1_0 n lx18).1 = t0_0 ∧ yRt (F_FR_number_L2 x2 t0_0 t0_1 t0_2 t0_3 t0_4 t0_5 t0_6 t0_7 t0_8 t0_9 t0_10 t1_0 n lx18).2.1 (F_FR_number_L2 x2 t0_0 t0_1 t0_2 t0_3 t0_4 t0_5 t0_6 t0_7 t0_8 t0_9 t0_10 t1_0 n lx18).2.2.2.2.2.2.2.2.2.2.2 (l ++ yDs (max c 1) v) := by
  have e9 : (9 : Int32).toInt = 9 := rfl
  have e10 : (10 : Int32).toInt = 10 := rfl
  have c5 : c ≤ 5 := by
    rcases Nat.lt_or_ge 5 c with g | g
    · have := (y_ge10 (i := 5) hc).mpr g
      omega
    · exact g
  intro n
  induction n with
  | zero =>
    intro lx18 j h1 h2 h3 h4
    omega
  | succ n ih =>
    intro lx18 j h1 h2 h3 h4
    have p5 := yP5_b (k := j) (by omega)
    have hs := yP5_s (k := j) ⟨h2, by omega⟩
    rw [F_FR_number_L2.eq_2]
    have dv := q_divI hv h1 (by omega) (by omega)
    have ge := y_ge10 (i := j) hc
    have key : v / yP5 j ≤ 9 ↔ c ≤ j := by
      rw [hs]
      have hp : 0 < 10 ^ (j - 1) := Nat.pow_pos (by decide)
      have e : 10 ^ j = 10 * 10 ^ (j - 1) := by
        rw [Nat.mul_comm, ← Nat.pow_succ]
        rw [show (j - 1).succ = j from by omega]
      have d : v / 10 ^ (j - 1) < 10 ↔ v < 10 * 10 ^ (j - 1) := Nat.div_lt_iff_lt_mul hp
      rw [← e] at d
      constructor
      · intro k
        have k2 := d.mp (Nat.lt_succ_of_le k)
        rcases Nat.lt_or_ge j c with q | q
        · exact absurd (ge.mpr q) (Nat.not_le.mpr k2)
        · exact q
      · intro k
        exact Nat.le_of_lt_succ (d.mpr (Nat.not_le.mp (fun q => by have := ge.mp q; omega)))
    have dvN : (x2 / lx18).toInt = ((v / yP5 j : Nat) : Int) := by
      rw [dv]
      rfl
    by_cases g : (x2 / lx18) ≤ 9
    · rw [if_pos g]
      have g := q_leI g
      have cj := key.mp (by omega)
      have jm : j = max c 1 := by omega
      have tn : yTn j = yP5 j := by
        unfold yTn
        rw [if_neg (by omega)]
      have fu : j < (lx18.toInt - -1).toNat + 1 := by
        rw [h1]
        have : j = 1 ∨ j = 2 ∨ j = 3 ∨ j = 4 ∨ j = 5 := by omega
        rcases this with k | k | k | k | k <;> rw [k] <;> decide
      rw [← jm]
      exact V_nu18 hv ((lx18.toInt - -1).toNat + 1) lx18 t0_0 t0_1 t0_2 t0_3 t0_4 t0_5 t0_6 t0_7 t0_8 t0_9 t0_10 t1_0 j l (by rw [tn]; exact h1) (by omega) fu hr (by omega)
    · rw [if_neg g]
      have g := q_nleI g
      have cj : ¬ c ≤ j := fun k => by have := key.mpr k; omega
      have nx : (lx18 * 10).toInt = ((yP5 (j + 1) : Nat) : Int) := by
        rw [q_mulI h1 e10 (by omega) (by omega)]
        have : j = 1 ∨ j = 2 ∨ j = 3 ∨ j = 4 := by omega
        rcases this with k | k | k | k <;> rw [k] <;> rfl
      exact ih (lx18 * 10) (j + 1) nx (by omega) (by omega) (by omega)
theorem V_FRnuC {x2 : Int32} {t0_0 : Int32} {t0_1 : Int32} {t0_2 : Int32} {t0_3 : Int32} {t0_4 : Int64} {t0_5 : Int32} {t0_6 : Int32} {t0_7 : Int64} {t0_8 : Int32} {t0_9 : Int64} {t0_10 : Int32} {t1_0 : (Nat → Int32)} {v : Nat} {l : List Nat} (hv : x2.toInt = (v : Int)) (hv5 : v < 100000) (hr : yRt t0_1 t1_0 l) (hl : l.length < 1000000000) : (F_FR_number x2 t0_0 t0_1 t0_2 t0_3 t0_4 t0_5 t0_6 t0_7 t0_8 t0_9 t0_10 t1_0).1 = t0_0 ∧ yRt (F_FR_number x2 t0_0 t0_1 t0_2 t0_3 t0_4 t0_5 t0_6 t0_7 t0_8 t0_9 t0_10 t1_0).2.1 (F_FR_number x2 t0_0 t0_1 t0_2 t0_3 t0_4 t0_5 t0_6 t0_7 t0_8 t0_9 t0_10 t1_0).2.2.2.2.2.2.2.2.2.2.2 (l ++ yDs (max (yCt5 v) 1) v) := by
  unfold F_FR_number
  exact V_nu2 hv hv5 (yCt5_t hv5) hr hl 1000000 1 1 rfl (by omega) (by omega) (by omega)
theorem V_FRnum {x2 : Int32} {t0_0 : Int32} {t0_1 : Int32} {t0_2 : Int32} {t0_3 : Int32} {t0_4 : Int64} {t0_5 : Int32} {t0_6 : Int32} {t0_7 : Int64} {t0_8 : Int32} {t0_9 : Int64} {t0_10 : Int32} {t1_0 : (Nat → Int32)} {v : Nat} {l : List Nat} (hv : x2.toInt = (v : Int)) (hv5 : v < 100000) (hr : yRt t0_1 t1_0 l) (hl : l.length < 1000000000) : yRt (F_FR_number x2 t0_0 t0_1 t0_2 t0_3 t0_4 t0_5 t0_6 t0_7 t0_8 t0_9 t0_10 t1_0).2.1 (F_FR_number x2 t0_0 t0_1 t0_2 t0_3 t0_4 t0_5 t0_6 t0_7 t0_8 t0_9 t0_10 t1_0).2.2.2.2.2.2.2.2.2.2.2 (l ++ yDs (max (yCt5 v) 1) v) := (V_FRnuC hv hv5 hr hl).2
theorem V_fgF {x2 : Int32} {t0_0 : Int32} {t0_1 : Int32} {t0_2 : Int32} {t0_3 : Int32} {t0_4 : Int64} {t0_5 : Int32} {t0_6 : Int32} {t0_7 : Int64} {t0_8 : Int32} {t0_9 : Int64} {t0_10 : Int32} {a14 : Int32} {S q j : Nat} (hq : t0_10.toInt = (q : Int)) (hq2 : q ≤ 3000) (hj : a14.toInt = (j : Int)) (hj2 : j ≤ 5000) (hS : S < 1000000000000000000) : ∀ (n : Nat) (lx18 : Int32) (lx19 : Int64), ∀ (i : Nat), lx18.toInt = ((q + i : Nat) : Int) → (q + i ≤ j ∨ i = 0) → (1 ≤ n ∧ j < n + q + i) → lx19.toInt = ((S / 10 ^ i : Nat) : Int) → (F_FR_figure_L17 x2 t0_0 t0_1 t0_2 t0_3 t0_4 t0_5 t0_6 t0_7 t0_8 t0_9 t0_10 a14 n lx18 lx19).toInt = ((yFz S ((j : Int) - (q : Int)) : Nat) : Int) := by
  have e1 : (1 : Int32).toInt = 1 := rfl
  have e0L : (0 : Int64).toInt = 0 := rfl
  have e10L : (10 : Int64).toInt = 10 := rfl
  intro n
  induction n with
  | zero =>
    intro lx18 lx19 i g1 g2 g3
    omega
  | succ n ih =>
    intro lx18 lx19 i g1 g2 g3 g4
    rw [F_FR_figure_L17.eq_2]
    have sb : S / 10 ^ i ≤ S := Nat.div_le_self _ _
    have dig : ((lx19 - lx19 / 10 * 10 : Int64).toInt32).toInt = ((yLo S i : Nat) : Int) := by
      obtain ⟨u1, _⟩ := u_l10 (x := lx19)
      have r : (lx19 - lx19 / 10 * 10 : Int64).toInt = ((yLo S i : Nat) : Int) := by
        rw [u1, g4]
        unfold yLo
        rfl
      have := yLo_9 S i
      rw [s_l2i (by rw [r]; clear g4 sb; omega) (by rw [r]; clear g4 sb; omega), r]
    by_cases c : a14 ≤ lx18
    · rw [if_pos c]
      have c := q_leI c
      rw [hj, g1] at c
      by_cases d : t0_10 ≤ a14
      · rw [if_pos d]
        have d := q_leI d
        have ji : j = q + i := by clear g4 sb; omega
        rw [dig]
        unfold yFz
        rw [if_neg (by clear g4 sb; omega), show ((j : Int) - (q : Int)).toNat = i from by clear g4 sb; omega]
      · rw [if_neg d]
        have d := q_nleI d
        unfold yFz
        rw [if_pos (by clear g4 sb; omega)]
        rfl
    · rw [if_neg c]
      have c := q_nleI c
      rw [hj, g1] at c
      by_cases z : lg_cmp lx19 0 ≤ 0
      · rw [if_pos z]
        have z := g_lc3 z
        rw [g4, e0L] at z
        have s0 : S / 10 ^ i = 0 := by
          generalize S / 10 ^ i = y at z
          clear g4 sb
          omega
        rw [dig]
        unfold yFz
        rw [if_neg (by clear g4 sb; omega)]
        rw [y_lo0 (y_lt10z s0), y_lo0 (Nat.lt_of_lt_of_le (y_lt10z s0) (Nat.pow_le_pow_right (by decide) (by clear g4 sb; omega)))]
      · rw [if_neg z]
        refine ih (lx18 + 1) (lx19 / 10) (i + 1) (q_addI g1 e1 (by clear g4 sb; omega) (by clear g4 sb; omega)) (by clear g4 sb; omega) (by clear g4 sb; omega) ?_
        obtain ⟨_, u2⟩ := u_l10 (x := lx19)
        rw [u2, g4, ← y_divN]
        rfl
theorem V_FRfig {x2 : Int32} {t0_0 : Int32} {t0_1 : Int32} {t0_2 : Int32} {t0_3 : Int32} {t0_4 : Int64} {t0_5 : Int32} {t0_6 : Int32} {t0_7 : Int64} {t0_8 : Int32} {t0_9 : Int64} {t0_10 : Int32} {S q : Nat} {z : Int} (h2 : x2.toInt = z) (hz : -1080 ≤ z ∧ z ≤ 2000) (h9 : t0_9.toInt = (S : Int)) (hq : t0_10.toInt = (q : Int)) (hq2 : q ≤ 3000) (hS : S < 1000000000000000000) : (48 + (F_FR_figure x2 t0_0 t0_1 t0_2 t0_3 t0_4 t0_5 t0_6 t0_7 t0_8 t0_9 t0_10)).toInt = ((48 + yFz S (z - ((q : Int) - 1080)) : Nat) : Int) := by
  have e48 : (48 : Int32).toInt = 48 := rfl
  have eB : (1080 : Int32).toInt = 1080 := rfl
  have a := q_addI h2 eB (by omega) (by omega)
  have a' : (x2 + 1080).toInt = (((z + 1080).toNat : Nat) : Int) := by
    rw [a]
    omega
  unfold F_FR_figure
  have f := V_fgF (x2 := x2) (t0_0 := t0_0) (t0_1 := t0_1) (t0_2 := t0_2) (t0_3 := t0_3) (t0_4 := t0_4) (t0_5 := t0_5) (t0_6 := t0_6) (t0_7 := t0_7) (t0_8 := t0_8) (t0_9 := t0_9) hq hq2 a' (by omega) hS (((x2 + 1080).toInt - t0_10.toInt).toNat + 1) t0_10 t0_9 0 hq (Or.inr rfl) (by omega) (by rw [Nat.pow_zero, Nat.div_one]; exact h9)
  rw [show (((z + 1080).toNat : Nat) : Int) - (q : Int) = z - ((q : Int) - 1080) from by omega] at f
  have := yFz_9 S (z - ((q : Int) - 1080))
  exact q_addI e48 f (by omega) (by omega)
theorem V_shT {t0_0 : Int32} {t0_1 : Int32} {t0_2 : Int32} {t0_3 : Int32} {t0_4 : Int64} {t0_5 : Int32} {t0_6 : Int32} {t0_7 : Int64} {t0_8 : Int32} {t0_9 : Int64} {t0_10 : Int32} {S c : Nat} {e : Int} (hc : yDt S c) (hc0 : 1 ≤ c) (hc2 : c ≤ 20) (he : -2000 ≤ e ∧ e ≤ 2000) : ∀ (n : Nat) (lx18 : Int64) (lx19 : Int32), ∀ (i : Nat), lx18.toInt = ((S / 10 ^ i : Nat) : Int) → lx19.toInt = e + (i : Int) → i + 1 ≤ c → 20 < n + i → (F_FR_shortestTop_L14 t0_0 t0_1 t0_2 t0_3 t0_4 t0_5 t0_6 t0_7 t0_8 t0_9 t0_10 n lx18 lx19).toInt = e + ((c : Int) - 1) := by
  have e1 : (1 : Int32).toInt = 1 := rfl
  have e9L : (9 : Int64).toInt = 9 := rfl
  intro n
  induction n with
  | zero =>
    intro lx18 lx19 i g1 g2 g3 g4
    omega
  | succ n ih =>
    intro lx18 lx19 i g1 g2 g3 g4
    rw [F_FR_shortestTop_L14.eq_2]
    have key : S / 10 ^ i ≤ 9 ↔ c ≤ i + 1 := by
      have ge := y_ge10 (i := i + 1) hc
      have hp : 0 < 10 ^ i := Nat.pow_pos (by decide)
      have d : S / 10 ^ i < 10 ↔ S < 10 * 10 ^ i := Nat.div_lt_iff_lt_mul hp
      rw [Nat.mul_comm, ← Nat.pow_succ] at d
      constructor
      · intro k
        have k2 := d.mp (Nat.lt_succ_of_le k)
        rcases Nat.lt_or_ge (i + 1) c with w | w
        · exact absurd (ge.mpr w) (Nat.not_le.mpr k2)
        · exact w
      · intro k
        exact Nat.le_of_lt_succ (d.mpr (Nat.not_le.mp (fun w => by have := ge.mp w; omega)))
    by_cases g : lg_cmp lx18 9 ≤ 0
    · rw [if_pos g]
      have g := g_lc3 g
      rw [g1, e9L] at g
      have := key.mp (Int.ofNat_le.mp g)
      rw [g2]
      clear g1 g key
      omega
    · rw [if_neg g]
      have g := g_lc4 g
      rw [g1, e9L] at g
      have nk : ¬ c ≤ i + 1 := fun w => by
        have := key.mpr w
        generalize S / 10 ^ i = y at g this
        omega
      obtain ⟨_, u2⟩ := u_l10 (x := lx18)
      refine ih (lx18 / 10) (lx19 + 1) (i + 1) ?_ ?_ (by clear g1 g key; omega) (by clear g1 g key; omega)
      · rw [u2, g1, ← y_divN]
        rfl
      · rw [q_addI g2 e1 (by clear g1 g key; omega) (by clear g1 g key; omega)]
        clear g1 g key
        omega
theorem V_FRtop {t0_0 : Int32} {t0_1 : Int32} {t0_2 : Int32} {t0_3 : Int32} {t0_4 : Int64} {t0_5 : Int32} {t0_6 : Int32} {t0_7 : Int64} {t0_8 : Int32} {t0_9 : Int64} {t0_10 : Int32} {S q c : Nat} (hc : yDt S c) (hc0 : 1 ≤ c) (hc2 : c ≤ 20) (h9 : t0_9.toInt = (S : Int)) (hq : t0_10.toInt = (q : Int)) (hq2 : q ≤ 3000) : (F_FR_shortestTop t0_0 t0_1 t0_2 t0_3 t0_4 t0_5 t0_6 t0_7 t0_8 t0_9 t0_10).toInt = (c : Int) - 1 + ((q : Int) - 1080) := by
  have eB : (1080 : Int32).toInt = 1080 := rfl
  have s := q_subI hq eB (by omega) (by omega)
  unfold F_FR_shortestTop
  have r := V_shT (t0_0 := t0_0) (t0_1 := t0_1) (t0_2 := t0_2) (t0_3 := t0_3) (t0_4 := t0_4) (t0_5 := t0_5) (t0_6 := t0_6) (t0_7 := t0_7) (t0_8 := t0_8) (t0_9 := t0_9) (t0_10 := t0_10) (e := (q : Int) - 1080) hc hc0 hc2 (by omega) 1000000 t0_9 (t0_10 - 1080) 0 (by rw [Nat.pow_zero, Nat.div_one]; exact h9) (by rw [s]; omega) (by omega) (by omega)
  rw [r]
  omega
