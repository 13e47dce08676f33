/-! values, for whole: s of the reference -/
def zTru : List Nat := [116, 114, 117, 101]
def zFal : List Nat := [102, 97, 108, 115, 101]
def zNul : List Nat := [110, 117, 108, 108]
theorem Z_tru : zWl 5 1702195828 = zTru := by decide
theorem Z_fal : zWl 5 435728179558 = zFal := by decide
theorem Z_nul : zWl 5 1819047278 = zNul := by decide
/-- an argument as a text -/
def zStr (a : yA) (u : List Nat) : Prop := (a.1 = 0 ∧ u = zNul) ∨ (a.1 = 1 ∧ u = if a.2.1 = 0 then zFal else zTru) ∨ (a.1 = 2 ∧ u = [a.2.1.toInt.toNat]) ∨ (a.1 = 4 ∧ u = a.2.2.2) ∨ ((a.1 = 3 ∨ a.1 = 5) ∧ ∃ v, zTf a.2.1.toInt.natAbs a.2.2.1 a.2.2.1 0 0 v ∧ u = yMin (a.2.1.toInt < 0) ++ v)
theorem zStr_U {a : yA} {u w : List Nat} (h : zStr a u) (g : zStr a w) : u = w := by
  rcases h with ⟨h1, h⟩ | ⟨h1, h⟩ | ⟨h1, h⟩ | ⟨h1, h⟩ | ⟨h1, v, h2, h⟩ <;> rcases g with ⟨g1, g⟩ | ⟨g1, g⟩ | ⟨g1, g⟩ | ⟨g1, g⟩ | ⟨g1, v2, g2, g⟩ <;> first | exact h.trans g.symm | (rw [h, g, zTf_U h2 g2]) | (exfalso; omega)
theorem Z_rdS {N s : Nat} : zRd N s s = N := by
  unfold zRd
  rw [if_pos (Nat.le_refl _), Nat.sub_self, Nat.pow_zero, Nat.mul_one]
/-- an argument of the reference -/
def zRa (kd sz : Int32) (va : Int64) (tx : Nat → Int32) (i : Nat) (a : yA) : Prop := kd.toInt = (a.1 : Int) ∧ va = a.2.1 ∧ (a.1 = 3 → sz = 64) ∧ (a.1 = 5 → sz.toInt = (a.2.2.1 : Int)) ∧ (a.1 = 4 → sz.toInt = (a.2.2.2.length : Int) ∧ ∀ j, j < a.2.2.2.length → (tx (64 * i + j)).toInt = ((a.2.2.2.getD j 0 : Nat) : Int)) ∧ yAw a
theorem yRA_z {n : Int32} {kd sz : Nat → Int32} {va : Nat → Int64} {tx : Nat → Int32} {A : List yA} (h : yRA n kd sz va tx A) {i : Nat} (hi : i < A.length) : zRa (kd i) (sz i) (va i) tx i (A.getD i yA0) := h.2.2 i hi
/-- digits without rounding -/
theorem Z_plT {N m s : Nat} {cm ap : Int32} (hn : zNf 10 N m) : zTf N s s cm ap (yPlA N ((m : Int) - ((m : Int) - s)) cm (max ((m : Int) - s) 1).toNat ++ yTail N ((m : Int) - ((m : Int) - s)) s ap) := by
  rw [show (m : Int) - ((m : Int) - s) = (s : Int) by omega]
  by_cases n0 : N = 0
  · have m1 : m = 1 := Z_nf0 (by rw [n0] at hn; exact hn)
    refine ⟨0, by rw [Z_rdS, n0]; exact Z_dt00, ?_⟩
    rw [Z_rdS, show (max ((m : Int) - s) 1).toNat = max (0 - s) 1 by omega]
  · refine ⟨m, by rw [Z_rdS]; exact Z_nf hn n0, ?_⟩
    rw [Z_rdS, show (max ((m : Int) - s) 1).toNat = max (m - s) 1 by omega]
theorem Z_m19 {x : Int32} : (x &&& -19) &&& 16 = 0 ∧ (x &&& -19) &&& 2 = 0 := by
  have a : (-19 : Int32) &&& 16 = 0 := by decide
  have b : (-19 : Int32) &&& 2 = 0 := by decide
  rw [Int32.and_assoc, Int32.and_assoc, a, b]
  exact ⟨Int32.and_zero, Int32.and_zero⟩

theorem Z_st149 {t0_0 : Int32} {t0_1 : Int32} {t0_2 : Int32} {t0_3 : Int32} {t0_4 : Int32} {t0_5 : Int32} {t0_6 : Int32} {t0_7 : Int32} {t0_8 : Int32} {t0_9 : Int32} {t0_10 : Int32} {t0_11 : Int32} {t0_12 : Int32} {t0_13 : Int32} {t0_14 : Int32} {t0_15 : Int32} {t0_16 : Int32} {t0_17 : Int32} {t0_18 : Int32} {t0_19 : Int32} {t0_20 : Int32} {t0_21 : Int32} {t1_0 : (Nat → Int32)} {t2_0 : (Nat → Int32)} {t3_0 : (Nat → Int64)} {t4_0 : (Nat → Int32)} {t5_0 : (Nat → Int32)} {t6_0 : (Nat → Int32)} {lx133 : Int32} {lx134 : (Nat → Int32)} {a : yA} {i : Nat} {l : List Nat} (h : zRa (t1_0 t0_14.toNatClampNeg) (t2_0 t0_14.toNatClampNeg) (t3_0 t0_14.toNatClampNeg) t4_0 i a) (hk : a.1 = 3 ∨ a.1 = 5) (hl : yRt lx133 lx134 l) (hl2 : l.length ≤ 500) : ∃ v, zTf a.2.1.toInt.natAbs a.2.2.1 a.2.2.1 0 0 v ∧ yRt (F_VR_string_J149 t0_0 t0_1 t0_2 t0_3 t0_4 t0_5 t0_6 t0_7 t0_8 t0_9 t0_10 t0_11 t0_12 t0_13 t0_14 t0_15 t0_16 t0_17 t0_18 t0_19 t0_20 t0_21 t1_0 t2_0 t3_0 t4_0 t5_0 t6_0 lx133 lx134).2.1 (F_VR_string_J149 t0_0 t0_1 t0_2 t0_3 t0_4 t0_5 t0_6 t0_7 t0_8 t0_9 t0_10 t0_11 t0_12 t0_13 t0_14 t0_15 t0_16 t0_17 t0_18 t0_19 t0_20 t0_21 t1_0 t2_0 t3_0 t4_0 t5_0 t6_0 lx133 lx134).2.2.2.2.1 (l ++ v) := by
  obtain ⟨h1, h2, h3, h4, h5, h6⟩ := h
  have e5 : (5 : Int32).toInt = 5 := rfl
  unfold F_VR_string_J149
  have sp := Z_spr (x2 := F_VR_size64 (t3_0 t0_14.toNatClampNeg)) (x3 := 10) (t0_0 := t0_0) (t0_1 := t0_1) (t0_2 := t0_2) (t0_3 := t0_3) (t0_4 := t0_4) (t0_5 := t0_5) (t0_6 := t0_6) (t0_7 := t0_7) (t0_8 := t0_8) (t0_9 := t0_9) (t0_10 := t0_10) (t0_11 := t0_11) (t0_12 := t0_12) (t0_13 := t0_13) (t0_14 := t0_14) (t0_15 := t0_15) (t0_16 := t0_16) (t0_17 := lx133) (t0_18 := t0_18) (t0_19 := t0_19) (t0_20 := t0_20) (t0_21 := t0_21) (t1_0 := t6_0) (b := 10) rfl (by decide)
  have ez : yu (F_VR_size64 (t3_0 t0_14.toNatClampNeg)) = a.2.1.toInt.natAbs := by rw [Z_size, h2]
  rw [ez] at sp
  revert sp
  generalize F_VR_spread (F_VR_size64 (t3_0 t0_14.toNatClampNeg)) 10 t0_0 t0_1 t0_2 t0_3 t0_4 t0_5 t0_6 t0_7 t0_8 t0_9 t0_10 t0_11 t0_12 t0_13 t0_14 t0_15 t0_16 lx133 t0_18 t0_19 t0_20 t0_21 t6_0 = q
  intro sp
  obtain ⟨m, s1, s2, s3, s4, s5⟩ := sp
  have sc : a.2.2.1 ≤ 40 := h6.2.1
  have J : ∀ pt : Int32, pt.toInt = (m : Int) - a.2.2.1 → ∃ v, zTf a.2.1.toInt.natAbs a.2.2.1 a.2.2.1 0 0 v ∧ yRt (F_VR_string_J202 t0_0 t0_1 t0_2 t0_3 t0_4 t0_5 t0_6 t0_7 t0_8 t0_9 t0_10 t0_11 t0_12 t0_13 t0_14 t0_15 t0_16 t0_17 t0_18 t0_19 t0_20 t0_21 t1_0 t2_0 t3_0 t4_0 t5_0 t6_0 lx133 lx134 q q.1 q.2.1 q.2.2 pt).2.1 (F_VR_string_J202 t0_0 t0_1 t0_2 t0_3 t0_4 t0_5 t0_6 t0_7 t0_8 t0_9 t0_10 t0_11 t0_12 t0_13 t0_14 t0_15 t0_16 t0_17 t0_18 t0_19 t0_20 t0_21 t1_0 t2_0 t3_0 t4_0 t5_0 t6_0 lx133 lx134 q q.1 q.2.1 q.2.2 pt).2.2.2.2.1 (l ++ v) := by
    intro pt hpt
    have fp : zFp q.1 pt q.2.2 a.2.1.toInt.natAbs m ((m : Int) - a.2.2.1) := ⟨s1, hpt, by omega, by omega, s5, s4.2.1⟩
    unfold F_VR_string_J202
    have bh : (q.1 - pt).toInt = (a.2.2.1 : Int) := by
      rw [q_subI s1 hpt (by omega) (by omega)]
      omega
    have w := Z_plain (x2 := q.1 - pt) (t0_0 := t0_0) (t0_1 := t0_1) (t0_2 := t0_2) (t0_3 := t0_3) (t0_4 := t0_4) (t0_5 := t0_5) (t0_6 := t0_6) (t0_7 := t0_7) (t0_8 := t0_8) (t0_9 := t0_9 &&& -19) (t0_10 := t0_10) (t0_11 := t0_11) (t0_12 := t0_12) (t0_13 := t0_13) (t0_14 := t0_14) (t0_15 := t0_15) (t0_16 := t0_16) (t0_17 := lx133) (t0_18 := t0_18) (t0_19 := t0_19) (t0_20 := q.1) (t0_21 := pt) (t1_0 := lx134) (t2_0 := q.2.2) fp (by omega) bh (by omega) hl (by omega)
    rw [Z_m19.1, Z_m19.2] at w
    revert w
    generalize F_VR_plain (q.1 - pt) t0_0 t0_1 t0_2 t0_3 t0_4 t0_5 t0_6 t0_7 t0_8 (t0_9 &&& -19) t0_10 t0_11 t0_12 t0_13 t0_14 t0_15 t0_16 lx133 t0_18 t0_19 q.1 pt lx134 q.2.2 = g
    intro w
    unfold F_VR_string_c226
    exact ⟨_, Z_plT s4, w⟩
  unfold F_VR_string_c164
  by_cases c : t1_0 t0_14.toNatClampNeg = 5
  · rw [if_pos c]
    have c' := q_eqI c
    exact J _ (q_subI s1 (h4 (by omega)) (by omega) (by omega))
  · rw [if_neg c]
    have c' := q_neI c
    have z : a.2.2.1 = 0 := h6.2.2.2.2.1 (by omega)
    exact J _ (by rw [s1, z]; omega)
theorem Z_st1492 {t0_0 : Int32} {t0_1 : Int32} {t0_2 : Int32} {t0_3 : Int32} {t0_4 : Int32} {t0_5 : Int32} {t0_6 : Int32} {t0_7 : Int32} {t0_8 : Int32} {t0_9 : Int32} {t0_10 : Int32} {t0_11 : Int32} {t0_12 : Int32} {t0_13 : Int32} {t0_14 : Int32} {t0_15 : Int32} {t0_16 : Int32} {t0_17 : Int32} {t0_18 : Int32} {t0_19 : Int32} {t0_20 : Int32} {t0_21 : Int32} {t1_0 : (Nat → Int32)} {t2_0 : (Nat → Int32)} {t3_0 : (Nat → Int64)} {t4_0 : (Nat → Int32)} {t5_0 : (Nat → Int32)} {t6_0 : (Nat → Int32)} {lx323 : Int32} {lx324 : (Nat → Int32)} {a : yA} {i : Nat} {l : List Nat} (h : zRa (t1_0 t0_14.toNatClampNeg) (t2_0 t0_14.toNatClampNeg) (t3_0 t0_14.toNatClampNeg) t4_0 i a) (hk : a.1 = 3 ∨ a.1 = 5) (hl : yRt lx323 lx324 l) (hl2 : l.length ≤ 500) : ∃ v, zTf a.2.1.toInt.natAbs a.2.2.1 a.2.2.1 0 0 v ∧ yRt (F_VR_string_J149_11 t0_0 t0_1 t0_2 t0_3 t0_4 t0_5 t0_6 t0_7 t0_8 t0_9 t0_10 t0_11 t0_12 t0_13 t0_14 t0_15 t0_16 t0_17 t0_18 t0_19 t0_20 t0_21 t1_0 t2_0 t3_0 t4_0 t5_0 t6_0 lx323 lx324).2.1 (F_VR_string_J149_11 t0_0 t0_1 t0_2 t0_3 t0_4 t0_5 t0_6 t0_7 t0_8 t0_9 t0_10 t0_11 t0_12 t0_13 t0_14 t0_15 t0_16 t0_17 t0_18 t0_19 t0_20 t0_21 t1_0 t2_0 t3_0 t4_0 t5_0 t6_0 lx323 lx324).2.2.2.2.1 (l ++ v) := by
  obtain ⟨h1, h2, h3, h4, h5, h6⟩ := h
  have e5 : (5 : Int32).toInt = 5 := rfl
  unfold F_VR_string_J149_11
  have sp := Z_spr (x2 := F_VR_size64 (t3_0 t0_14.toNatClampNeg)) (x3 := 10) (t0_0 := t0_0) (t0_1 := t0_1) (t0_2 := t0_2) (t0_3 := t0_3) (t0_4 := t0_4) (t0_5 := t0_5) (t0_6 := t0_6) (t0_7 := t0_7) (t0_8 := t0_8) (t0_9 := t0_9) (t0_10 := t0_10) (t0_11 := t0_11) (t0_12 := t0_12) (t0_13 := t0_13) (t0_14 := t0_14) (t0_15 := t0_15) (t0_16 := t0_16) (t0_17 := lx323) (t0_18 := t0_18) (t0_19 := t0_19) (t0_20 := t0_20) (t0_21 := t0_21) (t1_0 := t6_0) (b := 10) rfl (by decide)
  have ez : yu (F_VR_size64 (t3_0 t0_14.toNatClampNeg)) = a.2.1.toInt.natAbs := by rw [Z_size, h2]
  rw [ez] at sp
  revert sp
  generalize F_VR_spread (F_VR_size64 (t3_0 t0_14.toNatClampNeg)) 10 t0_0 t0_1 t0_2 t0_3 t0_4 t0_5 t0_6 t0_7 t0_8 t0_9 t0_10 t0_11 t0_12 t0_13 t0_14 t0_15 t0_16 lx323 t0_18 t0_19 t0_20 t0_21 t6_0 = q
  intro sp
  obtain ⟨m, s1, s2, s3, s4, s5⟩ := sp
  have sc : a.2.2.1 ≤ 40 := h6.2.1
  have J : ∀ pt : Int32, pt.toInt = (m : Int) - a.2.2.1 → ∃ v, zTf a.2.1.toInt.natAbs a.2.2.1 a.2.2.1 0 0 v ∧ yRt (F_VR_string_J202_13 t0_0 t0_1 t0_2 t0_3 t0_4 t0_5 t0_6 t0_7 t0_8 t0_9 t0_10 t0_11 t0_12 t0_13 t0_14 t0_15 t0_16 t0_17 t0_18 t0_19 t0_20 t0_21 t1_0 t2_0 t3_0 t4_0 t5_0 t6_0 lx323 lx324 q q.1 q.2.1 q.2.2 pt).2.1 (F_VR_string_J202_13 t0_0 t0_1 t0_2 t0_3 t0_4 t0_5 t0_6 t0_7 t0_8 t0_9 t0_10 t0_11 t0_12 t0_13 t0_14 t0_15 t0_16 t0_17 t0_18 t0_19 t0_20 t0_21 t1_0 t2_0 t3_0 t4_0 t5_0 t6_0 lx323 lx324 q q.1 q.2.1 q.2.2 pt).2.2.2.2.1 (l ++ v) := by
    intro pt hpt
    have fp : zFp q.1 pt q.2.2 a.2.1.toInt.natAbs m ((m : Int) - a.2.2.1) := ⟨s1, hpt, by omega, by omega, s5, s4.2.1⟩
    unfold F_VR_string_J202_13
    have bh : (q.1 - pt).toInt = (a.2.2.1 : Int) := by
      rw [q_subI s1 hpt (by omega) (by omega)]
      omega
    have w := Z_plain (x2 := q.1 - pt) (t0_0 := t0_0) (t0_1 := t0_1) (t0_2 := t0_2) (t0_3 := t0_3) (t0_4 := t0_4) (t0_5 := t0_5) (t0_6 := t0_6) (t0_7 := t0_7) (t0_8 := t0_8) (t0_9 := t0_9 &&& -19) (t0_10 := t0_10) (t0_11 := t0_11) (t0_12 := t0_12) (t0_13 := t0_13) (t0_14 := t0_14) (t0_15 := t0_15) (t0_16 := t0_16) (t0_17 := lx323) (t0_18 := t0_18) (t0_19 := t0_19) (t0_20 := q.1) (t0_21 := pt) (t1_0 := lx324) (t2_0 := q.2.2) fp (by omega) bh (by omega) hl (by omega)
    rw [Z_m19.1, Z_m19.2] at w
    revert w
    generalize F_VR_plain (q.1 - pt) t0_0 t0_1 t0_2 t0_3 t0_4 t0_5 t0_6 t0_7 t0_8 (t0_9 &&& -19) t0_10 t0_11 t0_12 t0_13 t0_14 t0_15 t0_16 lx323 t0_18 t0_19 q.1 pt lx324 q.2.2 = g
    intro w
    unfold F_VR_string_c226_14
    exact ⟨_, Z_plT s4, w⟩
  unfold F_VR_string_c164_12
  by_cases c : t1_0 t0_14.toNatClampNeg = 5
  · rw [if_pos c]
    have c' := q_eqI c
    exact J _ (q_subI s1 (h4 (by omega)) (by omega) (by omega))
  · rw [if_neg c]
    have c' := q_neI c
    have z : a.2.2.1 = 0 := h6.2.2.2.2.1 (by omega)
    exact J _ (by rw [s1, z]; omega)
theorem Z_stL {t0_0 : Int32} {t0_1 : Int32} {t0_2 : Int32} {t0_3 : Int32} {t0_4 : Int32} {t0_5 : Int32} {t0_6 : Int32} {t0_7 : Int32} {t0_8 : Int32} {t0_9 : Int32} {t0_10 : Int32} {t0_11 : Int32} {t0_12 : Int32} {t0_13 : Int32} {t0_14 : Int32} {t0_15 : Int32} {t0_16 : Int32} {t0_17 : Int32} {t0_18 : Int32} {t0_19 : Int32} {t0_20 : Int32} {t0_21 : Int32} {t1_0 : (Nat → Int32)} {t2_0 : (Nat → Int32)} {t3_0 : (Nat → Int64)} {t4_0 : (Nat → Int32)} {t5_0 : (Nat → Int32)} {t6_0 : (Nat → Int32)} {u : List Nat} {i : Nat} (hi : t0_14.toInt = (i : Int)) (hi2 : i ≤ 100) (hu : (t2_0 t0_14.toNatClampNeg).toInt = (u.length : Int)) (hu2 : u.length ≤ 64) (hx : ∀ j, j < u.length → (t4_0 (64 * i + j)).toInt = ((u.getD j 0 : Nat) : Int)) : ∀ (n : Nat) (lx258 : Int32) (lx259 : Int32) (lx260 : (Nat → Int32)), ∀ (j : Nat) (l : List Nat), lx258.toInt = (j : Int) → j ≤ u.length → u.length < n + j → yRt lx259 lx260 (l ++ ySb u 0 j) → l.length ≤ 1000 → yRt (F_VR_string_L89 t0_0 t0_1 t0_2 t0_3 t0_4 t0_5 t0_6 t0_7 t0_8 t0_9 t0_10 t0_11 t0_12 t0_13 t0_14 t0_15 t0_16 t0_17 t0_18 t0_19 t0_20 t0_21 t1_0 t2_0 t3_0 t4_0 t5_0 t6_0 n lx258 lx259 lx260).2.1 (F_VR_string_L89 t0_0 t0_1 t0_2 t0_3 t0_4 t0_5 t0_6 t0_7 t0_8 t0_9 t0_10 t0_11 t0_12 t0_13 t0_14 t0_15 t0_16 t0_17 t0_18 t0_19 t0_20 t0_21 t1_0 t2_0 t3_0 t4_0 t5_0 t6_0 n lx258 lx259 lx260).2.2.2.2.1 (l ++ u) := by
  intro n
  induction n with
  | zero =>
    intro _ _ _ j l _ q1 q2
    omega
  | succ n ih =>
    intro lx258 lx259 lx260 j l h1 h2 h3 h4 h5
    unfold F_VR_string_L89
    by_cases c : t2_0 t0_14.toNatClampNeg ≤ lx258
    · rw [if_pos c]
      have c' := q_leI c
      have : j = u.length := by omega
      rw [this, ySb_all] at h4
      exact h4
    · rw [if_neg c]
      have c' := q_nleI c
      have ix : ((64 * t0_14 : Int32) + lx258 : Int32).toNatClampNeg = 64 * i + j := by
        have m1 : (64 * t0_14 : Int32).toInt = 64 * (i : Int) := q_mulI (x := 64) rfl hi (by omega) (by omega)
        have m2 := q_addI m1 h1 (by omega) (by omega)
        show ((64 * t0_14 : Int32) + lx258 : Int32).toInt.toNat = _
        rw [m2]
        omega
      rw [ix]
      have w := Z_put (t0_0 := t0_0) (t0_1 := t0_1) (t0_2 := t0_2) (t0_3 := t0_3) (t0_4 := t0_4) (t0_5 := t0_5) (t0_6 := t0_6) (t0_7 := t0_7) (t0_8 := t0_8) (t0_9 := t0_9) (t0_10 := t0_10) (t0_11 := t0_11) (t0_12 := t0_12) (t0_13 := t0_13) (t0_14 := t0_14) (t0_15 := t0_15) (t0_16 := t0_16) (t0_17 := lx259) (t0_18 := t0_18) (t0_19 := t0_19) (t0_20 := t0_20) (t0_21 := t0_21) h4 (by rw [List.length_append, ySb_len (by omega)]; omega) (hx j (by omega))
      rw [List.append_assoc, ← ySb_s (Nat.zero_le _) (by omega)] at w
      revert w
      generalize F_VR_put (t4_0 (64 * i + j)) t0_0 t0_1 t0_2 t0_3 t0_4 t0_5 t0_6 t0_7 t0_8 t0_9 t0_10 t0_11 t0_12 t0_13 t0_14 t0_15 t0_16 lx259 t0_18 t0_19 t0_20 t0_21 lx260 = p
      intro w
      unfold F_VR_string_c117
      exact ih (lx258 + 1) p.1 p.2 (j + 1) l (by rw [q_addI (y := 1) h1 rfl (by omega) (by omega)]; omega) (by omega) (by omega) w h5
theorem Z_strg {t0_0 : Int32} {t0_1 : Int32} {t0_2 : Int32} {t0_3 : Int32} {t0_4 : Int32} {t0_5 : Int32} {t0_6 : Int32} {t0_7 : Int32} {t0_8 : Int32} {t0_9 : Int32} {t0_10 : Int32} {t0_11 : Int32} {t0_12 : Int32} {t0_13 : Int32} {t0_14 : Int32} {t0_15 : Int32} {t0_16 : Int32} {t0_17 : Int32} {t0_18 : Int32} {t0_19 : Int32} {t0_20 : Int32} {t0_21 : Int32} {t1_0 : (Nat → Int32)} {t2_0 : (Nat → Int32)} {t3_0 : (Nat → Int64)} {t4_0 : (Nat → Int32)} {t5_0 : (Nat → Int32)} {t6_0 : (Nat → Int32)} {a : yA} {i : Nat} {l : List Nat} (hi : t0_14.toInt = (i : Int)) (hi2 : i ≤ 8) (h : zRa (t1_0 t0_14.toNatClampNeg) (t2_0 t0_14.toNatClampNeg) (t3_0 t0_14.toNatClampNeg) t4_0 i a) (hk : a.1 ≠ 0) (hl : yRt t0_17 t5_0 l) (hl2 : l.length ≤ 400) : ∃ u, zStr a u ∧ yRt (F_VR_string t0_0 t0_1 t0_2 t0_3 t0_4 t0_5 t0_6 t0_7 t0_8 t0_9 t0_10 t0_11 t0_12 t0_13 t0_14 t0_15 t0_16 t0_17 t0_18 t0_19 t0_20 t0_21 t1_0 t2_0 t3_0 t4_0 t5_0 t6_0).2.1 (F_VR_string t0_0 t0_1 t0_2 t0_3 t0_4 t0_5 t0_6 t0_7 t0_8 t0_9 t0_10 t0_11 t0_12 t0_13 t0_14 t0_15 t0_16 t0_17 t0_18 t0_19 t0_20 t0_21 t1_0 t2_0 t3_0 t4_0 t5_0 t6_0).2.2.2.2.1 (l ++ u) := by
  have hh := h
  obtain ⟨h1, h2, h3, h4, h5, h6⟩ := h
  have e0 : (0 : Int32).toInt = 0 := rfl
  have e1 : (1 : Int32).toInt = 1 := rfl
  have e2 : (2 : Int32).toInt = 2 := rfl
  have e3 : (3 : Int32).toInt = 3 := rfl
  have e4 : (4 : Int32).toInt = 4 := rfl
  have e64 : (0 : Int64).toInt = 0 := rfl
  have k5 := h6.1
  unfold F_VR_string
  by_cases c1 : t1_0 t0_14.toNatClampNeg = 1
  · rw [if_pos c1]
    have c' := q_eqI c1
    have a1 : a.1 = 1 := by omega
    have v01 := h6.2.2.2.2.2.1 a1
    by_cases g : lg_cmp (t3_0 t0_14.toNatClampNeg) 1 = 0
    · rw [if_pos g]
      have g' := q_k9 g
      have v1 : ¬ a.2.1 = 0 := fun z => by rw [h2, z] at g'; exact absurd g' (by decide)
      have w := Z_word (x2 := 1702195828) (t0_0 := t0_0) (t0_1 := t0_1) (t0_2 := t0_2) (t0_3 := t0_3) (t0_4 := t0_4) (t0_5 := t0_5) (t0_6 := t0_6) (t0_7 := t0_7) (t0_8 := t0_8) (t0_9 := t0_9) (t0_10 := t0_10) (t0_11 := t0_11) (t0_12 := t0_12) (t0_13 := t0_13) (t0_14 := t0_14) (t0_15 := t0_15) (t0_16 := t0_16) (t0_17 := t0_17) (t0_18 := t0_18) (t0_19 := t0_19) (t0_20 := t0_20) (t0_21 := t0_21) (t1_0 := t5_0) (X := 1702195828) rfl (by decide) hl (by omega)
      rw [Z_tru] at w
      revert w
      generalize F_VR_word 1702195828 t0_0 t0_1 t0_2 t0_3 t0_4 t0_5 t0_6 t0_7 t0_8 t0_9 t0_10 t0_11 t0_12 t0_13 t0_14 t0_15 t0_16 t0_17 t0_18 t0_19 t0_20 t0_21 t5_0 = p
      intro w
      unfold F_VR_string_c64_2
      exact ⟨_, Or.inr (Or.inl ⟨a1, (if_neg v1).symm⟩), w⟩
    · rw [if_neg g]
      have g' := q_k10 g
      have v1 : a.2.1 = 0 := by
        rcases v01 with z | z
        · exact z
        · rw [h2, z] at g'
          exact absurd rfl g'
      have w := Z_word (x2 := 435728179558) (t0_0 := t0_0) (t0_1 := t0_1) (t0_2 := t0_2) (t0_3 := t0_3) (t0_4 := t0_4) (t0_5 := t0_5) (t0_6 := t0_6) (t0_7 := t0_7) (t0_8 := t0_8) (t0_9 := t0_9) (t0_10 := t0_10) (t0_11 := t0_11) (t0_12 := t0_12) (t0_13 := t0_13) (t0_14 := t0_14) (t0_15 := t0_15) (t0_16 := t0_16) (t0_17 := t0_17) (t0_18 := t0_18) (t0_19 := t0_19) (t0_20 := t0_20) (t0_21 := t0_21) (t1_0 := t5_0) (X := 435728179558) rfl (by decide) hl (by omega)
      rw [Z_fal] at w
      revert w
      generalize F_VR_word 435728179558 t0_0 t0_1 t0_2 t0_3 t0_4 t0_5 t0_6 t0_7 t0_8 t0_9 t0_10 t0_11 t0_12 t0_13 t0_14 t0_15 t0_16 t0_17 t0_18 t0_19 t0_20 t0_21 t5_0 = p
      intro w
      unfold F_VR_string_c64
      exact ⟨_, Or.inr (Or.inl ⟨a1, (if_pos v1).symm⟩), w⟩
  · rw [if_neg c1]
    have c1' := q_neI c1
    by_cases c2 : t1_0 t0_14.toNatClampNeg = 2
    · rw [if_pos c2]
      have c' := q_eqI c2
      have a2 : a.1 = 2 := by omega
      have vb := h6.2.2.2.2.2.2.1 a2
      have w := Z_put (x2 := (t3_0 t0_14.toNatClampNeg).toInt32) (v := a.2.1.toInt.toNat) (t0_0 := t0_0) (t0_1 := t0_1) (t0_2 := t0_2) (t0_3 := t0_3) (t0_4 := t0_4) (t0_5 := t0_5) (t0_6 := t0_6) (t0_7 := t0_7) (t0_8 := t0_8) (t0_9 := t0_9) (t0_10 := t0_10) (t0_11 := t0_11) (t0_12 := t0_12) (t0_13 := t0_13) (t0_14 := t0_14) (t0_15 := t0_15) (t0_16 := t0_16) (t0_17 := t0_17) (t0_18 := t0_18) (t0_19 := t0_19) (t0_20 := t0_20) (t0_21 := t0_21) hl (by omega) (by
        rw [h2, Int64.toInt_toInt32, Int.bmod_eq_of_le (by omega) (by omega)]
        omega)
      revert w
      generalize F_VR_put (t3_0 t0_14.toNatClampNeg).toInt32 t0_0 t0_1 t0_2 t0_3 t0_4 t0_5 t0_6 t0_7 t0_8 t0_9 t0_10 t0_11 t0_12 t0_13 t0_14 t0_15 t0_16 t0_17 t0_18 t0_19 t0_20 t0_21 t5_0 = p
      intro w
      unfold F_VR_string_c81
      exact ⟨_, Or.inr (Or.inr (Or.inl ⟨a2, rfl⟩)), w⟩
    · rw [if_neg c2]
      have c2' := q_neI c2
      by_cases c3 : t1_0 t0_14.toNatClampNeg = 3
      · rw [if_pos c3]
        have c' := q_eqI c3
        have a3 : a.1 = 3 := by omega
        by_cases g : 0 ≤ lg_cmp (t3_0 t0_14.toNatClampNeg) 0
        · rw [if_pos g]
          have g' := q_k7 g
          rw [h2] at g'
          obtain ⟨v, v1, v2⟩ := Z_st149 (t0_0 := t0_0) (t0_1 := t0_1) (t0_2 := t0_2) (t0_3 := t0_3) (t0_4 := t0_4) (t0_5 := t0_5) (t0_6 := t0_6) (t0_7 := t0_7) (t0_8 := t0_8) (t0_9 := t0_9) (t0_10 := t0_10) (t0_11 := t0_11) (t0_12 := t0_12) (t0_13 := t0_13) (t0_14 := t0_14) (t0_15 := t0_15) (t0_16 := t0_16) (t0_17 := t0_17) (t0_18 := t0_18) (t0_19 := t0_19) (t0_20 := t0_20) (t0_21 := t0_21) (t5_0 := t5_0) (t6_0 := t6_0) (lx133 := t0_17) (lx134 := t5_0) hh (Or.inl a3) hl (by omega)
          refine ⟨v, Or.inr (Or.inr (Or.inr (Or.inr ⟨Or.inl a3, v, v1, ?_⟩))), v2⟩
          rcases y_mnL (b := a.2.1.toInt < 0) with ⟨n, _⟩ | ⟨_, n⟩
          · omega
          · rw [n]; rfl
        · rw [if_neg g]
          have g' := q_k8 g
          rw [h2] at g'
          have w := Z_put (x2 := 45) (v := 45) (t0_0 := t0_0) (t0_1 := t0_1) (t0_2 := t0_2) (t0_3 := t0_3) (t0_4 := t0_4) (t0_5 := t0_5) (t0_6 := t0_6) (t0_7 := t0_7) (t0_8 := t0_8) (t0_9 := t0_9) (t0_10 := t0_10) (t0_11 := t0_11) (t0_12 := t0_12) (t0_13 := t0_13) (t0_14 := t0_14) (t0_15 := t0_15) (t0_16 := t0_16) (t0_17 := t0_17) (t0_18 := t0_18) (t0_19 := t0_19) (t0_20 := t0_20) (t0_21 := t0_21) hl (by omega) rfl
          revert w
          generalize F_VR_put 45 t0_0 t0_1 t0_2 t0_3 t0_4 t0_5 t0_6 t0_7 t0_8 t0_9 t0_10 t0_11 t0_12 t0_13 t0_14 t0_15 t0_16 t0_17 t0_18 t0_19 t0_20 t0_21 t5_0 = p
          intro w
          unfold F_VR_string_c146
          obtain ⟨v, v1, v2⟩ := Z_st149 (t0_0 := t0_0) (t0_1 := t0_1) (t0_2 := t0_2) (t0_3 := t0_3) (t0_4 := t0_4) (t0_5 := t0_5) (t0_6 := t0_6) (t0_7 := t0_7) (t0_8 := t0_8) (t0_9 := t0_9) (t0_10 := t0_10) (t0_11 := t0_11) (t0_12 := t0_12) (t0_13 := t0_13) (t0_14 := t0_14) (t0_15 := t0_15) (t0_16 := t0_16) (t0_17 := t0_17) (t0_18 := t0_18) (t0_19 := t0_19) (t0_20 := t0_20) (t0_21 := t0_21) (t5_0 := t5_0) (t6_0 := t6_0) (lx133 := p.1) (lx134 := p.2) hh (Or.inl a3) w (by rw [List.length_append]; show l.length + 1 ≤ _; omega)
          refine ⟨[45] ++ v, Or.inr (Or.inr (Or.inr (Or.inr ⟨Or.inl a3, v, v1, ?_⟩))), by rw [← List.append_assoc]; exact v2⟩
          rcases y_mnL (b := a.2.1.toInt < 0) with ⟨_, n⟩ | ⟨n, _⟩
          · rw [n]
          · omega
      · rw [if_neg c3]
        have c3' := q_neI c3
        by_cases c4 : t1_0 t0_14.toNatClampNeg = 4
        · rw [if_pos c4]
          have c' := q_eqI c4
          have a4 : a.1 = 4 := by omega
          obtain ⟨x1, x2⟩ := h5 a4
          refine ⟨a.2.2.2, Or.inr (Or.inr (Or.inr (Or.inl ⟨a4, rfl⟩))), ?_⟩
          have tl := h6.2.2.1
          exact Z_stL (u := a.2.2.2) hi (by omega) x1 tl x2 1000000 0 t0_17 t5_0 0 l rfl (Nat.zero_le _) (by omega) (by rw [ySb_n, List.append_nil]; exact hl) (by omega)
        · rw [if_neg c4]
          have c4' := q_neI c4
          have a5 : a.1 = 5 := by omega
          by_cases g : 0 ≤ lg_cmp (t3_0 t0_14.toNatClampNeg) 0
          · rw [if_pos g]
            have g' := q_k7 g
            rw [h2] at g'
            obtain ⟨v, v1, v2⟩ := Z_st1492 (t0_0 := t0_0) (t0_1 := t0_1) (t0_2 := t0_2) (t0_3 := t0_3) (t0_4 := t0_4) (t0_5 := t0_5) (t0_6 := t0_6) (t0_7 := t0_7) (t0_8 := t0_8) (t0_9 := t0_9) (t0_10 := t0_10) (t0_11 := t0_11) (t0_12 := t0_12) (t0_13 := t0_13) (t0_14 := t0_14) (t0_15 := t0_15) (t0_16 := t0_16) (t0_17 := t0_17) (t0_18 := t0_18) (t0_19 := t0_19) (t0_20 := t0_20) (t0_21 := t0_21) (t5_0 := t5_0) (t6_0 := t6_0) (lx323 := t0_17) (lx324 := t5_0) hh (Or.inr a5) hl (by omega)
            refine ⟨v, Or.inr (Or.inr (Or.inr (Or.inr ⟨Or.inr a5, v, v1, ?_⟩))), v2⟩
            rcases y_mnL (b := a.2.1.toInt < 0) with ⟨n, _⟩ | ⟨_, n⟩
            · omega
            · rw [n]; rfl
          · rw [if_neg g]
            have g' := q_k8 g
            rw [h2] at g'
            have w := Z_put (x2 := 45) (v := 45) (t0_0 := t0_0) (t0_1 := t0_1) (t0_2 := t0_2) (t0_3 := t0_3) (t0_4 := t0_4) (t0_5 := t0_5) (t0_6 := t0_6) (t0_7 := t0_7) (t0_8 := t0_8) (t0_9 := t0_9) (t0_10 := t0_10) (t0_11 := t0_11) (t0_12 := t0_12) (t0_13 := t0_13) (t0_14 := t0_14) (t0_15 := t0_15) (t0_16 := t0_16) (t0_17 := t0_17) (t0_18 := t0_18) (t0_19 := t0_19) (t0_20 := t0_20) (t0_21 := t0_21) hl (by omega) rfl
            revert w
            generalize F_VR_put 45 t0_0 t0_1 t0_2 t0_3 t0_4 t0_5 t0_6 t0_7 t0_8 t0_9 t0_10 t0_11 t0_12 t0_13 t0_14 t0_15 t0_16 t0_17 t0_18 t0_19 t0_20 t0_21 t5_0 = p
            intro w
            unfold F_VR_string_c146_15
            obtain ⟨v, v1, v2⟩ := Z_st1492 (t0_0 := t0_0) (t0_1 := t0_1) (t0_2 := t0_2) (t0_3 := t0_3) (t0_4 := t0_4) (t0_5 := t0_5) (t0_6 := t0_6) (t0_7 := t0_7) (t0_8 := t0_8) (t0_9 := t0_9) (t0_10 := t0_10) (t0_11 := t0_11) (t0_12 := t0_12) (t0_13 := t0_13) (t0_14 := t0_14) (t0_15 := t0_15) (t0_16 := t0_16) (t0_17 := t0_17) (t0_18 := t0_18) (t0_19 := t0_19) (t0_20 := t0_20) (t0_21 := t0_21) (t5_0 := t5_0) (t6_0 := t6_0) (lx323 := p.1) (lx324 := p.2) hh (Or.inr a5) w (by rw [List.length_append]; show l.length + 1 ≤ _; omega)
            refine ⟨[45] ++ v, Or.inr (Or.inr (Or.inr (Or.inr ⟨Or.inr a5, v, v1, ?_⟩))), by rw [← List.append_assoc]; exact v2⟩
            rcases y_mnL (b := a.2.1.toInt < 0) with ⟨_, n⟩ | ⟨n, _⟩
            · rw [n]
            · omega

