/-! values, for whole: the reference's rows of figures -/
/-- a row of 1404 figures has the value X -/
def yRw (f : Nat → Int32) (X : Nat) : Prop := flO 10 f 1404 ∧ flV 10 f 1404 = (X : Int)
theorem y_flD {f : Nat → Int32} {X : Nat} : ∀ {n : Nat}, (∀ j, j < n → (f j).toInt = ((yLo X j : Nat) : Int)) → flV 10 f n = ((X % 10 ^ n : Nat) : Int) := by
  intro n
  induction n with
  | zero =>
    intro _
    rw [Nat.pow_zero, Nat.mod_one]
    rfl
  | succ n ih =>
    intro h
    show flV 10 f n + (f n).toInt * 10 ^ n = _
    rw [ih (fun j hj => h j (by omega)), h n (by omega), Nat.mod_pow_succ]
    unfold yLo
    rw [Int.natCast_add, Int.natCast_mul, Int.natCast_pow, Int.mul_comm]
    rfl
theorem y_flL {f : Nat → Int32} : ∀ {n X : Nat}, flO 10 f n → flV 10 f n = (X : Int) → X < 10 ^ n ∧ ∀ j, j < n → (f j).toInt = ((yLo X j : Nat) : Int) := by
  intro n
  induction n with
  | zero =>
    intro X _ h
    have : (0 : Int) = (X : Int) := h
    exact ⟨by rw [Nat.pow_zero]; omega, fun j hj => absurd hj (Nat.not_lt_zero _)⟩
  | succ n ih =>
    intro X ho h
    have h' : flV 10 f n + (f n).toInt * 10 ^ n = (X : Int) := h
    have on : flO 10 f n := fun i hi => ho i (by omega)
    have nn := fl_nn (B := 10) (by decide) on
    obtain ⟨W, hW⟩ : ∃ W : Nat, flV 10 f n = (W : Int) := ⟨(flV 10 f n).toNat, by omega⟩
    have d := ho n (by omega)
    obtain ⟨c, hc⟩ : ∃ c : Nat, (f n).toInt = (c : Int) := ⟨(f n).toInt.toNat, by omega⟩
    obtain ⟨w1, w2⟩ := ih on hW
    have e : X = W + c * 10 ^ n := by
      rw [hW, hc] at h'
      have : ((W + c * 10 ^ n : Nat) : Int) = (X : Int) := by
        rw [← h', Int.natCast_add, Int.natCast_mul, Int.natCast_pow]
        rfl
      exact (Int.ofNat.inj this).symm
    have c9 : c ≤ 9 := by omega
    have hp : 0 < 10 ^ n := Nat.pow_pos (by decide)
    refine ⟨?_, fun j hj => ?_⟩
    · rw [e, Nat.pow_succ]
      have : c * 10 ^ n ≤ 9 * 10 ^ n := Nat.mul_le_mul_right _ c9
      omega
    · by_cases q : j = n
      · rw [q, hc]
        unfold yLo
        rw [e, Nat.add_mul_div_right _ _ hp, Nat.div_eq_of_lt w1, Nat.zero_add, Nat.mod_eq_of_lt (by omega)]
      · rw [w2 j (by omega)]
        unfold yLo
        obtain ⟨i, rfl⟩ : ∃ i, n = j + (1 + i) := ⟨n - 1 - j, by omega⟩
        have e2 : c * 10 ^ (j + (1 + i)) = (10 * (c * 10 ^ i)) * 10 ^ j := by
          rw [Nat.pow_add, Nat.pow_add, Nat.pow_one]
          generalize 10 ^ j = a
          generalize 10 ^ i = b
          grind
        rw [e, e2, Nat.add_mul_div_right _ _ (Nat.pow_pos (by decide)), Nat.add_mul_mod_self_left]
theorem yRw.d {f : Nat → Int32} {X : Nat} (h : yRw f X) {j : Nat} (hj : j < 1404) : (f j).toInt = ((yLo X j : Nat) : Int) := (y_flL h.1 h.2).2 j hj
theorem yRw.lt {f : Nat → Int32} {X : Nat} (h : yRw f X) : X < 10 ^ 1404 := (y_flL h.1 h.2).1
theorem yRw_of {f : Nat → Int32} {X : Nat} (h : ∀ j, j < 1404 → (f j).toInt = ((yLo X j : Nat) : Int)) (hX : X < 10 ^ 1404) : yRw f X := by
  refine ⟨fun i hi => ?_, ?_⟩
  · rw [h i hi]
    have := yLo_9 X i
    omega
  · rw [y_flD h, Nat.mod_eq_of_lt hX]
theorem yRw_up {f : Nat → Int32} {X j c d : Nat} {x : Int32} (h : yRw f X) (hj : j < 1404) (hx : x.toInt = (d : Int)) (hd : d ≤ 9) (hc : (f j).toInt = (c : Int)) {Y : Nat} (hY : Y + c * 10 ^ j = X + d * 10 ^ j) : yRw (upd f j x) Y := by
  refine ⟨fun i hi => ?_, ?_⟩
  · rw [yu_pt]
    split
    · omega
    · exact h.1 i hi
  · rw [fl_upd hj, h.2, hx, hc]
    have : ((Y + c * 10 ^ j : Nat) : Int) = ((X + d * 10 ^ j : Nat) : Int) := by rw [hY]
    rw [Int.natCast_add, Int.natCast_add, Int.natCast_mul, Int.natCast_mul, Int.natCast_pow] at this
    rw [Int.sub_mul]
    have e : ((10 : Nat) : Int) = 10 := rfl
    rw [e] at this
    generalize (c : Int) * 10 ^ j = p at this ⊢
    generalize (d : Int) * 10 ^ j = q at this ⊢
    omega
/-- the figures from 10 ^ k on alone -/
theorem y_loK {V k j : Nat} : yLo (V / 10 ^ k * 10 ^ k) j = if j < k then 0 else yLo V j := by
  unfold yLo
  by_cases q : j < k
  · rw [if_pos q]
    obtain ⟨i, rfl⟩ : ∃ i, k = j + (1 + i) := ⟨k - 1 - j, by omega⟩
    generalize V / 10 ^ (j + (1 + i)) = t
    have e2 : t * 10 ^ (j + (1 + i)) = (10 * (t * 10 ^ i)) * 10 ^ j := by
      rw [Nat.pow_add, Nat.pow_add, Nat.pow_one]
      generalize 10 ^ j = a
      generalize 10 ^ i = b
      grind
    rw [e2, Nat.mul_div_cancel _ (Nat.pow_pos (by decide)), Nat.mul_mod_right]
  · rw [if_neg q]
    obtain ⟨i, rfl⟩ : ∃ i, j = k + i := ⟨j - k, by omega⟩
    rw [Nat.pow_add, ← Nat.div_div_eq_div_mul, ← Nat.div_div_eq_div_mul, Nat.mul_div_cancel _ (Nat.pow_pos (by decide))]
theorem V_cut41 {K_F_FR_cut_L2 : Int32 → (Nat → Int32) → (Nat → Int32)} {x2 : Int32} {x3 : Int32} {t0_0 : Int32} {t0_1 : Int32} {t0_2 : Int32} {t0_3 : Int32} {t0_4 : Int64} {t0_5 : Int32} {t0_6 : Int32} {t0_7 : Int64} {t0_8 : Int32} {t0_9 : Int64} {t0_10 : Int32} {t1_0 : (Nat → Int32)} {t2_0 : (Nat → Int32)} {lx21 : Int32} {lx22 : (Nat → Int32)} {Y : Nat} (hY : Y < 10 ^ 1400) : ∀ (n : Nat) (lx39 : Int32) (lx40 : Int32) (lx41 : (Nat → Int32)), ∀ (X j : Nat), yRw lx41 X → lx40.toInt = (j : Int) → j ≤ 1400 → 1401 < n + j → (lx39 = 0 → X = Y) → (lx39 ≠ 0 → X + 10 ^ j = Y) → yRw (F_FR_cut_L41 K_F_FR_cut_L2 x2 x3 t0_0 t0_1 t0_2 t0_3 t0_4 t0_5 t0_6 t0_7 t0_8 t0_9 t0_10 t1_0 t2_0 lx21 lx22 n lx39 lx40 lx41) Y := by
  have e0 : (0 : Int32).toInt = 0 := rfl
  have e1 : (1 : Int32).toInt = 1 := rfl
  have e9 : (9 : Int32).toInt = 9 := rfl
  intro n
  induction n with
  | zero =>
    intro lx39 lx40 lx41 X j g1 g2 g3 g4
    omega
  | succ n ih =>
    intro lx39 lx40 lx41 X j g1 g2 g3 g4 g5 g6
    rw [F_FR_cut_L41.eq_2]
    by_cases c : lx39 = 0
    · rw [if_pos c, ← g5 c]
      exact g1
    · rw [if_neg c]
      have hs := g6 c
      have j1 : j < 1400 := by
        rcases Nat.lt_or_ge j 1400 with q | q
        · exact q
        · have : 10 ^ 1400 ≤ 10 ^ j := Nat.pow_le_pow_right (by decide) q
          exact absurd hY (Nat.not_lt.mpr (Nat.le_trans this (by rw [← hs]; exact Nat.le_add_left _ _)))
      have jc : lx40.toNatClampNeg = j := by
        have := q_clI g2 (by clear hs; omega)
        clear hs
        omega
      rw [jc]
      have d := g1.d (j := j) (by omega)
      have d9 := yLo_9 X j
      have nx := q_addI g2 e1 (by clear hs; omega) (by clear hs; omega)
      by_cases w : lx41 j = 9
      · rw [if_pos w]
        unfold F_FR_cut_J74
        have l9 : yLo X j = 9 := by
          rw [w, e9] at d
          clear hs
          omega
        have big : 9 * 10 ^ j ≤ X := by
          have h1 : 9 ≤ X / 10 ^ j := by
            unfold yLo at l9
            generalize X / 10 ^ j = t at l9 ⊢
            clear hs
            omega
          exact Nat.le_trans (Nat.mul_le_mul_right _ h1) (Nat.div_mul_le_self _ _)
        have up := yRw_up (j := j) (x := 0) (d := 0) (c := 9) (Y := X - 9 * 10 ^ j) g1 (by omega) rfl (by decide) (by rw [w]; rfl) (by rw [Nat.zero_mul]; omega)
        rw [jc, if_pos (show upd lx41 j 0 j = 0 by rw [yu_pt, if_pos rfl])]
        refine ih 1 (lx40 + 1) _ (X - 9 * 10 ^ j) (j + 1) up nx (by omega) (by omega) (fun q => absurd q (by decide)) (fun _ => ?_)
        rw [Nat.pow_succ]
        omega
      · rw [if_neg w]
        unfold F_FR_cut_J74
        have l9 : yLo X j ≠ 9 := fun q => w (Int32.toInt_inj.mp (by rw [d, q]; rfl))
        have xd : (lx41 j + 1).toInt = ((yLo X j + 1 : Nat) : Int) := q_addI d e1 (by clear hs; omega) (by clear hs; omega)
        have up := yRw_up (j := j) (x := lx41 j + 1) (d := yLo X j + 1) (c := yLo X j) (Y := X + 10 ^ j) g1 (by omega) xd (by clear hs; omega) d (by rw [Nat.add_mul, Nat.one_mul]; omega)
        rw [jc, if_neg (show ¬ upd lx41 j (lx41 j + 1) j = 0 by rw [yu_pt, if_pos rfl]; intro q; rw [q, e0] at xd; clear hs; omega)]
        exact ih 0 (lx40 + 1) _ (X + 10 ^ j) (j + 1) up nx (by omega) (by omega) (fun _ => hs) (fun q => absurd rfl q)
theorem V_cut2 {x2 : Int32} {x3 : Int32} {t0_0 : Int32} {t0_1 : Int32} {t0_2 : Int32} {t0_3 : Int32} {t0_4 : Int64} {t0_5 : Int32} {t0_6 : Int32} {t0_7 : Int64} {t0_8 : Int32} {t0_9 : Int64} {t0_10 : Int32} {t1_0 : (Nat → Int32)} {t2_0 : (Nat → Int32)} {V k Y : Nat} (hv : yRw t1_0 V) (hk : x2.toInt = (k : Int)) (hk2 : k ≤ 1390) (hY : Y < 10 ^ 1400) (h3 : (x3 = 0 ∧ Y = V / 10 ^ k * 10 ^ k) ∨ (x3 = 1 ∧ Y = (V / 10 ^ k + 1) * 10 ^ k)) : ∀ (n : Nat) (lx21 : Int32) (lx22 : (Nat → Int32)), ∀ (i : Nat), lx21.toInt = (i : Int) → i ≤ 1404 → 1404 < n + i → (∀ j, j < i → (lx22 j).toInt = ((yLo (V / 10 ^ k * 10 ^ k) j : Nat) : Int)) → yRw (F_FR_cut_L2 x2 x3 t0_0 t0_1 t0_2 t0_3 t0_4 t0_5 t0_6 t0_7 t0_8 t0_9 t0_10 t1_0 t2_0 n lx21 lx22) Y := by
  have e0 : (0 : Int32).toInt = 0 := rfl
  have e1 : (1 : Int32).toInt = 1 := rfl
  have eM : (1404 : Int32).toInt = 1404 := rfl
  intro n
  induction n with
  | zero =>
    intro lx21 lx22 i g1 g2 g3
    omega
  | succ n ih =>
    intro lx21 lx22 i g1 g2 g3 g4
    rw [F_FR_cut_L2.eq_2]
    by_cases c : (1404 : Int32) ≤ lx21
    · rw [if_pos c]
      have c := q_leI c
      obtain rfl : i = 1404 := by clear hY h3; omega
      have rw0 : yRw lx22 (V / 10 ^ k * 10 ^ k) := yRw_of g4 (Nat.lt_of_le_of_lt (Nat.div_mul_le_self _ _) hv.lt)
      refine V_cut41 hY 1000000 x3 x2 lx22 (V / 10 ^ k * 10 ^ k) k rw0 hk (by omega) (by omega) (fun q => ?_) (fun q => ?_)
      · rcases h3 with ⟨_, h⟩ | ⟨h, _⟩
        · exact h.symm
        · rw [q] at h
          exact absurd h (by decide)
      · rcases h3 with ⟨h, _⟩ | ⟨_, h⟩
        · exact absurd h q
        · rw [h, Nat.add_mul, Nat.one_mul]
    · rw [if_neg c]
      have c := q_nleI c
      have ic : lx21.toNatClampNeg = i := by
        have := q_clI g1 (by clear hY h3; omega)
        clear hY h3
        omega
      rw [ic]
      have nx := q_addI g1 e1 (by clear hY h3; omega) (by clear hY h3; omega)
      have lk := y_loK (V := V) (k := k) (j := i)
      by_cases w : x2 ≤ lx21
      · rw [if_pos w]
        have w := q_leI w
        rw [if_neg (by clear hY h3; omega)] at lk
        refine ih (lx21 + 1) _ (i + 1) nx (by clear hY h3; omega) (by omega) (fun j hj => ?_)
        rw [yu_pt]
        by_cases q : j = i
        · rw [if_pos q, q, lk]
          exact hv.d (by clear hY h3; omega)
        · rw [if_neg q]
          exact g4 j (by omega)
      · rw [if_neg w]
        have w := q_nleI w
        rw [if_pos (by clear hY h3; omega)] at lk
        refine ih (lx21 + 1) _ (i + 1) nx (by clear hY h3; omega) (by omega) (fun j hj => ?_)
        rw [yu_pt]
        by_cases q : j = i
        · rw [if_pos q, q, lk]
          rfl
        · rw [if_neg q]
          exact g4 j (by omega)
theorem V_cut {x2 : Int32} {x3 : Int32} {t0_0 : Int32} {t0_1 : Int32} {t0_2 : Int32} {t0_3 : Int32} {t0_4 : Int64} {t0_5 : Int32} {t0_6 : Int32} {t0_7 : Int64} {t0_8 : Int32} {t0_9 : Int64} {t0_10 : Int32} {t1_0 : (Nat → Int32)} {t2_0 : (Nat → Int32)} {V k Y : Nat} (hv : yRw t1_0 V) (hk : x2.toInt = (k : Int)) (hk2 : k ≤ 1390) (hY : Y < 10 ^ 1400) (h3 : (x3 = 0 ∧ Y = V / 10 ^ k * 10 ^ k) ∨ (x3 = 1 ∧ Y = (V / 10 ^ k + 1) * 10 ^ k)) : yRw (F_FR_cut x2 x3 t0_0 t0_1 t0_2 t0_3 t0_4 t0_5 t0_6 t0_7 t0_8 t0_9 t0_10 t1_0 t2_0) Y := by
  unfold F_FR_cut
  exact V_cut2 hv hk hk2 hY h3 ((1404 - (0 : Int32).toInt).toNat + 1) 0 t2_0 0 rfl (by omega) (by decide) (fun j hj => absurd hj (Nat.not_lt_zero _))
