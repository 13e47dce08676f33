/-! values, for whole: what f, e and g print -/
/-- N with the scale s, rounded to bh places -/
def zRd (N s bh : Nat) : Nat := if s ≤ bh then N * 10 ^ (bh - s) else N / 10 ^ (s - bh) + yOut 2 N (s - bh)
theorem zRd_k {N s bh c : Nat} : yRk 2 N c ((c : Int) - s + bh) = zRd N s bh := by
  unfold yRk zRd
  by_cases h : s ≤ bh
  · rw [if_pos h, if_pos (by omega), show ((c : Int) - s + bh - c).toNat = bh - s by omega]
  · rw [if_neg h, if_neg (by omega), show ((c : Int) - ((c : Int) - s + bh)).toNat = s - bh by omega]
def zTf (N s bh : Nat) (cm ap : Int32) (t : List Nat) : Prop := ∃ d, yDt (zRd N s bh) d ∧ t = yPlA (zRd N s bh) bh cm (max (d - bh) 1) ++ yTail (zRd N s bh) bh bh ap
def zTe (N c s k : Nat) (ap : Int32) (t : List Nat) : Prop := (N = 0 ∧ t = yHead 0 0 k ap ++ yE2 0) ∨ (N ≠ 0 ∧ ∃ d, yDt (yRk 2 N c k) d ∧ t = yHead (yRk 2 N c k) d k ap ++ yE2 ((c : Int) - s + d - k - 1))
def zTg (N c s p : Nat) (cm ap : Int32) (t : List Nat) : Prop := (N = 0 ∧ t = yPlA 0 0 cm 1 ++ yTail 0 0 (p - 1) ap) ∨ (N ≠ 0 ∧ ∃ (d : Nat) (e : Int), yDt (yRk 2 N c p) d ∧ e = (c : Int) - s + d - p - 1 ∧ (((-4 ≤ e ∧ e < p) ∧ t = yPlA (yRk 2 N c p) ((d : Int) - 1 - e) cm (max (e + 1) 1).toNat ++ yTail (yRk 2 N c p) ((d : Int) - 1 - e) ((p : Int) - 1 - e).toNat ap) ∨ (¬ (-4 ≤ e ∧ e < p) ∧ t = yHead (yRk 2 N c p) d p ap ++ yE2 e)))
theorem zTf_U {N s bh : Nat} {cm ap : Int32} {t u : List Nat} (h : zTf N s bh cm ap t) (g : zTf N s bh cm ap u) : t = u := by
  obtain ⟨d, h1, h2⟩ := h
  obtain ⟨e, g1, g2⟩ := g
  rw [h2, g2, yDt_U h1 g1]
theorem zTe_U {N c s k : Nat} {ap : Int32} {t u : List Nat} (h : zTe N c s k ap t) (g : zTe N c s k ap u) : t = u := by
  rcases h with ⟨a, h⟩ | ⟨a, d, h1, h2⟩ <;> rcases g with ⟨b, g⟩ | ⟨b, e, g1, g2⟩
  · rw [h, g]
  · exact absurd a b
  · exact absurd b a
  · rw [h2, g2, yDt_U h1 g1]
theorem zTg_U {N c s p : Nat} {cm ap : Int32} {t u : List Nat} (h : zTg N c s p cm ap t) (g : zTg N c s p cm ap u) : t = u := by
  rcases h with ⟨a, h⟩ | ⟨a, d, e, h1, h2, h3⟩ <;> rcases g with ⟨b, g⟩ | ⟨b, d2, e2, g1, g2, g3⟩
  · rw [h, g]
  · exact absurd a b
  · exact absurd b a
  · have dd := yDt_U h1 g1
    subst dd
    rw [← h2] at g2
    subst g2
    rcases h3 with ⟨x, h3⟩ | ⟨x, h3⟩ <;> rcases g3 with ⟨y, g3⟩ | ⟨y, g3⟩
    · rw [h3, g3]
    · exact absurd x y
    · exact absurd y x
    · rw [h3, g3]
theorem Z_nf {N m : Nat} (h : zNf 10 N m) (h0 : N ≠ 0) : yDt N m := by
  refine ⟨h.2.1, fun q => ?_⟩
  intro z
  unfold yLt10 at z
  by_cases m1 : m = 1
  · rw [m1] at z
    have : N < 10 ^ 0 := z
    rw [Nat.pow_zero] at this
    omega
  · exact absurd (Nat.lt_of_le_of_lt (h.2.2 m1) z) (Nat.lt_irrefl _)
theorem Z_nf0 {m : Nat} (h : zNf 10 0 m) : m = 1 := by
  by_cases q : m = 1
  · exact q
  · have := h.2.2 q
    have : 0 < 10 ^ (m - 1) := Nat.pow_pos (by decide)
    omega
theorem Z_dt00 : yDt 0 0 := ⟨by unfold yLt10; decide, fun q => absurd rfl q⟩
theorem Z_fz0 {z : Int} : yFz 0 z = 0 := by
  unfold yFz
  rw [Z_lo00]
  split <;> rfl
theorem Z_dz0 : ∀ {n : Nat} {z w : Int}, yDz 0 z n = yDz 0 w n := by
  intro n
  induction n with
  | zero => intro z w; rfl
  | succ n ih =>
    intro z w
    show (48 + yFz 0 z) :: yDz 0 (z - 1) n = (48 + yFz 0 w) :: yDz 0 (w - 1) n
    rw [Z_fz0, Z_fz0, ih]
theorem Z_pl0 {s w : Int} {cm : Int32} : yPlA 0 s cm 1 = yPlA 0 w cm 1 := by
  show (48 + yFz 0 _) :: ((if cm ≠ 0 ∧ 0 < 0 ∧ 0 % 3 = 0 then [44] else []) ++ []) = (48 + yFz 0 _) :: ((if cm ≠ 0 ∧ 0 < 0 ∧ 0 % 3 = 0 then [44] else []) ++ [])
  rw [Z_fz0, Z_fz0]
theorem Z_tl0 {s w : Int} {n : Nat} {ap : Int32} : yTail 0 s n ap = yTail 0 w n ap := by
  unfold yTail
  rw [Z_dz0 (w := w - 1)]
theorem Z_hd0 {c d k : Nat} {ap : Int32} : yHead 0 c k ap = yHead 0 d k ap := by
  unfold yHead
  rw [Z_fz0, Z_fz0, Z_dz0 (w := (d : Int) - 2)]
theorem Z_rk0 {c : Nat} {k : Int} : yRk 2 0 c k = 0 := by
  unfold yRk
  split
  · rw [Nat.zero_mul]
  · unfold yOut
    rw [Nat.zero_div, Nat.zero_mod, if_neg (show ¬ (2 : Int32) = 0 by decide), if_pos rfl]
theorem Z_rd0 {s bh : Nat} : zRd 0 s bh = 0 := by
  rw [← zRd_k (c := 0)]
  exact Z_rk0
/-- how many figures are there when k are kept -/
theorem Z_kd {N m m2 : Nat} {k : Int} (h : yDt N m) (h0 : N ≠ 0) (hk : 0 ≤ k) (hkm : k < m) (hm : (m2 : Int) = k ∨ ((m2 : Int) = k + 1 ∧ yRk 2 N m k = 10 ^ k.toNat)) (hl : yRk 2 N m k < 10 ^ m2) : yDt (yRk 2 N m k) m2 := by
  refine ⟨hl, fun q z => ?_⟩
  unfold yLt10 at z
  rcases hm with w | ⟨w, e⟩
  · have a : 10 ^ (m - 1) ≤ N := Nat.not_lt.mp (h.2 (by omega))
    have b : 10 ^ (m2 - 1) ≤ N / 10 ^ (m - m2) := by
      rw [Nat.le_div_iff_mul_le (Nat.pow_pos (by decide)), ← Nat.pow_add, show m2 - 1 + (m - m2) = m - 1 by omega]
      exact a
    have c : N / 10 ^ (m - m2) ≤ yRk 2 N m k := by
      unfold yRk
      rw [if_neg (by omega), show ((m : Int) - k).toNat = m - m2 by omega]
      exact Nat.le_add_right _ _
    exact absurd (Nat.lt_of_le_of_lt (Nat.le_trans b c) z) (Nat.lt_irrefl _)
  · rw [e, show m2 - 1 = k.toNat by omega] at z
    exact absurd z (Nat.lt_irrefl _)
theorem Z_fixd {x2 : Int32} {t0_0 : Int32} {t0_1 : Int32} {t0_2 : Int32} {t0_3 : Int32} {t0_4 : Int32} {t0_5 : Int32} {t0_6 : Int32} {t0_7 : Int32} {t0_8 : Int32} {t0_9 : Int32} {t0_10 : Int32} {t0_11 : Int32} {t0_12 : Int32} {t0_13 : Int32} {t0_14 : Int32} {t0_15 : Int32} {t0_16 : Int32} {t0_17 : Int32} {t0_18 : Int32} {t0_19 : Int32} {t0_20 : Int32} {t0_21 : Int32} {t1_0 : (Nat → Int32)} {t2_0 : (Nat → Int32)} {N m s bh : Nat} {l : List Nat} (h : zFp t0_20 t0_21 t2_0 N m ((m : Int) - s)) (hn : zNf 10 N m) (hm : m ≤ 22) (hs : s ≤ 60) (hb : x2.toInt = (bh : Int)) (hb2 : bh ≤ 10000) (hl : yRt t0_17 t1_0 l) (hl2 : l.length ≤ 1000) : ∃ t, zTf N s bh (t0_9 &&& 16) (t0_9 &&& 2) t ∧ yRt (F_VR_fixed x2 t0_0 t0_1 t0_2 t0_3 t0_4 t0_5 t0_6 t0_7 t0_8 t0_9 t0_10 t0_11 t0_12 t0_13 t0_14 t0_15 t0_16 t0_17 t0_18 t0_19 t0_20 t0_21 t1_0 t2_0).1 (F_VR_fixed x2 t0_0 t0_1 t0_2 t0_3 t0_4 t0_5 t0_6 t0_7 t0_8 t0_9 t0_10 t0_11 t0_12 t0_13 t0_14 t0_15 t0_16 t0_17 t0_18 t0_19 t0_20 t0_21 t1_0 t2_0).2.2.2.1 (l ++ t) := by
  have pE := h.2.1
  unfold F_VR_fixed
  have r := Z_keep (x2 := t0_21 + x2) (t0_0 := t0_0) (t0_1 := t0_1) (t0_2 := t0_2) (t0_3 := t0_3) (t0_4 := t0_4) (t0_5 := t0_5) (t0_6 := t0_6) (t0_7 := t0_7) (t0_8 := t0_8) (t0_9 := t0_9) (t0_10 := t0_10) (t0_11 := t0_11) (t0_12 := t0_12) (t0_13 := t0_13) (t0_14 := t0_14) (t0_15 := t0_15) (t0_16 := t0_16) (t0_17 := t0_17) (t0_18 := t0_18) (t0_19 := t0_19) (t0_20 := t0_20) (t0_21 := t0_21) (t1_0 := t2_0) h (by omega) hn.1 (by omega) (q_addI pE hb (by omega) (by omega))
  revert r
  generalize F_VR_keep (t0_21 + x2) t0_0 t0_1 t0_2 t0_3 t0_4 t0_5 t0_6 t0_7 t0_8 t0_9 t0_10 t0_11 t0_12 t0_13 t0_14 t0_15 t0_16 t0_17 t0_18 t0_19 t0_20 t0_21 t2_0 = q
  intro r
  unfold F_VR_fixed_c7
  have W : yRk 2 N m ((m : Int) - s + bh) = zRd N s bh := zRd_k
  rcases r with ⟨r1, r2⟩ | ⟨r0, r1, m2, r2, r3⟩ | ⟨r1, r2, r3⟩
  · have w := Z_plain (x2 := x2) (t0_0 := t0_0) (t0_1 := t0_1) (t0_2 := t0_2) (t0_3 := t0_3) (t0_4 := t0_4) (t0_5 := t0_5) (t0_6 := t0_6) (t0_7 := t0_7) (t0_8 := t0_8) (t0_9 := t0_9) (t0_10 := t0_10) (t0_11 := t0_11) (t0_12 := t0_12) (t0_13 := t0_13) (t0_14 := t0_14) (t0_15 := t0_15) (t0_16 := t0_16) (t0_17 := t0_17) (t0_18 := t0_18) (t0_19 := t0_19) (t0_20 := q.1) (t0_21 := q.2.1) (t1_0 := t1_0) (t2_0 := q.2.2) r2 (by omega) hb (by omega) hl hl2
    revert w
    generalize F_VR_plain x2 t0_0 t0_1 t0_2 t0_3 t0_4 t0_5 t0_6 t0_7 t0_8 t0_9 t0_10 t0_11 t0_12 t0_13 t0_14 t0_15 t0_16 t0_17 t0_18 t0_19 q.1 q.2.1 t1_0 q.2.2 = p
    intro w
    unfold F_VR_fixed_c12
    refine ⟨_, ?_, w⟩
    have sb : s ≤ bh := by omega
    have e : zRd N s bh = N * 10 ^ (bh - s) := by unfold zRd; rw [if_pos sb]
    have ms : (m : Int) - ((m : Int) - s) = (s : Int) := by omega
    rw [ms]
    by_cases n0 : N = 0
    · subst n0
      have m1 := Z_nf0 hn
      refine ⟨0, by rw [Z_rd0]; exact Z_dt00, ?_⟩
      rw [Z_rd0, show (max ((m : Int) - s) 1).toNat = 1 by omega, show max (0 - bh) 1 = 1 by omega, Z_pl0 (w := (bh : Int)), Z_tl0 (w := (bh : Int))]
    · refine ⟨m + (bh - s), by rw [e]; exact yDt_sc (Z_nf hn n0) n0, ?_⟩
      rw [e, show max (m + (bh - s) - bh) 1 = (max ((m : Int) - s) 1).toNat by omega, show (bh : Int) = (s : Int) + ((bh - s : Nat) : Int) by omega, yPlA_sc, yTail_sc]
  · have w := Z_plain (x2 := x2) (t0_0 := t0_0) (t0_1 := t0_1) (t0_2 := t0_2) (t0_3 := t0_3) (t0_4 := t0_4) (t0_5 := t0_5) (t0_6 := t0_6) (t0_7 := t0_7) (t0_8 := t0_8) (t0_9 := t0_9) (t0_10 := t0_10) (t0_11 := t0_11) (t0_12 := t0_12) (t0_13 := t0_13) (t0_14 := t0_14) (t0_15 := t0_15) (t0_16 := t0_16) (t0_17 := t0_17) (t0_18 := t0_18) (t0_19 := t0_19) (t0_20 := q.1) (t0_21 := q.2.1) (t1_0 := t1_0) (t2_0 := q.2.2) r2 (by omega) hb (by omega) hl hl2
    revert w
    generalize F_VR_plain x2 t0_0 t0_1 t0_2 t0_3 t0_4 t0_5 t0_6 t0_7 t0_8 t0_9 t0_10 t0_11 t0_12 t0_13 t0_14 t0_15 t0_16 t0_17 t0_18 t0_19 q.1 q.2.1 t1_0 q.2.2 = p
    intro w
    unfold F_VR_fixed_c12
    refine ⟨_, ?_, w⟩
    rw [show (m2 : Int) - ((m : Int) - s + ((m2 : Int) - ((m : Int) - s + bh))) = (bh : Int) by omega, show (m : Int) - s + ((m2 : Int) - ((m : Int) - s + bh)) = (m2 : Int) - bh by omega, W]
    by_cases n0 : N = 0
    · subst n0
      have m1 := Z_nf0 hn
      rw [Z_rd0]
      refine ⟨0, by rw [Z_rd0]; exact Z_dt00, ?_⟩
      have mb : (m2 : Int) ≤ bh + 1 := by
        rcases r3 with z | z
        · omega
        · have := z.1; omega
      rw [Z_rd0, show (max ((m2 : Int) - bh) 1).toNat = 1 by omega, show max (0 - bh) 1 = 1 by omega]
    · have d := Z_kd (Z_nf hn n0) n0 r0 r1 r3 r2.2.2.2.2.2
      rw [W] at d
      refine ⟨m2, d, ?_⟩
      rw [show (max ((m2 : Int) - bh) 1).toNat = max (m2 - bh) 1 by omega]
  · have w := Z_plain (x2 := x2) (t0_0 := t0_0) (t0_1 := t0_1) (t0_2 := t0_2) (t0_3 := t0_3) (t0_4 := t0_4) (t0_5 := t0_5) (t0_6 := t0_6) (t0_7 := t0_7) (t0_8 := t0_8) (t0_9 := t0_9) (t0_10 := t0_10) (t0_11 := t0_11) (t0_12 := t0_12) (t0_13 := t0_13) (t0_14 := t0_14) (t0_15 := t0_15) (t0_16 := t0_16) (t0_17 := t0_17) (t0_18 := t0_18) (t0_19 := t0_19) (t0_20 := q.1) (t0_21 := q.2.1) (t1_0 := t1_0) (t2_0 := q.2.2) r3 (by omega) hb (by omega) hl hl2
    revert w
    generalize F_VR_plain x2 t0_0 t0_1 t0_2 t0_3 t0_4 t0_5 t0_6 t0_7 t0_8 t0_9 t0_10 t0_11 t0_12 t0_13 t0_14 t0_15 t0_16 t0_17 t0_18 t0_19 q.1 q.2.1 t1_0 q.2.2 = p
    intro w
    unfold F_VR_fixed_c12
    refine ⟨_, ?_, w⟩
    rw [W] at r2
    refine ⟨0, by rw [r2]; exact Z_dt00, ?_⟩
    rw [r2, show (max ((m : Int) - s) 1).toNat = 1 by omega, show max (0 - bh) 1 = 1 by omega, Z_pl0 (w := (bh : Int)), Z_tl0 (w := (bh : Int))]

