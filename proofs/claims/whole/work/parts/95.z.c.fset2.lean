/-! FloatRows: set -/
theorem fl_mlV {c b : Int64} {u g : Int32} (hc : 0 ≤ c.toInt ∧ c.toInt ≤ 1000000000) (hb : 0 ≤ b.toInt ∧ b.toInt < 1000000000) (hu : 0 ≤ u.toInt ∧ u.toInt < 1000000000) (hg : 0 ≤ g.toInt ∧ g.toInt < 1000000000) : (((c + b * u.toInt64 + g.toInt64) - (c + b * u.toInt64 + g.toInt64) / 1000000000 * 1000000000).toInt32).toInt + ((c + b * u.toInt64 + g.toInt64) / 1000000000).toInt * 1000000000 = c.toInt + b.toInt * u.toInt + g.toInt ∧ (0 ≤ (((c + b * u.toInt64 + g.toInt64) - (c + b * u.toInt64 + g.toInt64) / 1000000000 * 1000000000).toInt32).toInt ∧ (((c + b * u.toInt64 + g.toInt64) - (c + b * u.toInt64 + g.toInt64) / 1000000000 * 1000000000).toInt32).toInt < 1000000000) ∧ 0 ≤ ((c + b * u.toInt64 + g.toInt64) / 1000000000).toInt ∧ ((c + b * u.toInt64 + g.toInt64) / 1000000000).toInt ≤ 1000000000 := by
  have h1 : 0 ≤ b.toInt * u.toInt := Int.mul_nonneg hb.1 hu.1
  have h2 : b.toInt * u.toInt ≤ 999999999 * 999999999 := Int.mul_le_mul (by omega) (by omega) hu.1 (by decide)
  have e1 : (b * u.toInt64 : Int64).toInt = b.toInt * u.toInt := q_mulL rfl (q_i2l rfl) (by omega) (by omega)
  have e2 : (c + b * u.toInt64 : Int64).toInt = c.toInt + b.toInt * u.toInt := q_addL rfl e1 (by omega) (by omega)
  have e3 : (c + b * u.toInt64 + g.toInt64 : Int64).toInt = (c.toInt + b.toInt * u.toInt) + g.toInt := q_addL e2 (q_i2l rfl) (by omega) (by omega)
  clear e1 e2
  generalize b.toInt * u.toInt = W at *
  generalize (c + b * u.toInt64 + g.toInt64 : Int64) = v at e3 ⊢
  obtain ⟨q, eq⟩ := q_nm (v / 1000000000 : Int64)
  rw [eq]
  have e9 : (1000000000 : Int64).toInt = 1000000000 := rfl
  have e4 : q.toInt = v.toInt / 1000000000 := by rw [← eq]; exact v_divL (y := 1000000000) (by rw [e3]; omega) (by decide)
  clear eq
  obtain ⟨t, et⟩ := q_nm (q * 1000000000 : Int64)
  rw [et]
  have e5 : t.toInt = q.toInt * 1000000000 := by rw [← et]; exact q_mulL rfl e9 (by omega) (by omega)
  clear et
  obtain ⟨w, ew⟩ := q_nm (v - t : Int64)
  rw [ew]
  have e6 : w.toInt = v.toInt - t.toInt := by rw [← ew]; exact q_subL rfl rfl (by omega) (by omega)
  clear ew
  rw [s_l2i (by omega) (by omega)]
  omega
theorem flMl.go {u f g : Nat → Int32} {i j s x d : Int32} {b c c1 : Int64} (h : ∃ k : Nat, (k : Int) = i.toInt ∧ flMl u f g s.toNatClampNeg k b.toInt c.toInt) (h0 : 0 ≤ s.toInt) (ed : d.toInt = i.toInt - s.toInt) (hd : 0 ≤ d.toInt) (e : j.toInt = i.toInt + 1) (hx : x.toInt + c1.toInt * 1000000000 = c.toInt + b.toInt * (u d.toNatClampNeg).toInt + (g i.toNatClampNeg).toInt ∧ (0 ≤ x.toInt ∧ x.toInt < 1000000000) ∧ 0 ≤ c1.toInt ∧ c1.toInt ≤ 1000000000) : ∃ k : Nat, (k : Int) = j.toInt ∧ flMl u f (upd g i.toNatClampNeg x) s.toNatClampNeg k b.toInt c1.toInt := by
  obtain ⟨k, a, w⟩ := h
  have c := q_clI (i := i) rfl (by omega)
  have c2 := q_clI (i := s) rfl h0
  have c3 := q_clI (i := d) rfl hd
  have ek : i.toNatClampNeg = k := by omega
  have ed : d.toNatClampNeg = k - s.toNatClampNeg := by omega
  rw [ek, ed] at hx
  rw [ek]
  exact ⟨k + 1, by omega, w.step hx.1 hx.2.1 hx.2.2⟩
theorem flMl.fin {u f g : Nat → Int32} {s : Nat} {b c U : Int} (h : flMl u f g s 156 b c) (hz : flV 1000000000 u (156 - s) = U) (hlt : flV 1000000000 f 156 + b * (U * 1000000000 ^ s) < 1000000000 ^ 156) : flO 1000000000 g 156 ∧ flV 1000000000 g 156 = flV 1000000000 f 156 + b * (U * 1000000000 ^ s) := by
  obtain ⟨a, -, -, d, c0, -⟩ := h
  refine ⟨a, ?_⟩
  rw [hz] at d
  have nn := fl_nn (B := 1000000000) (by decide) a
  have p := fl_pos (B := 1000000000) (by decide) 156
  have z : c = 0 := by
    by_cases q : c = 0
    · exact q
    · have w := Int.mul_le_mul_of_nonneg_right (show 1 ≤ c by omega) (Int.le_of_lt p)
      rw [Int.one_mul] at w
      generalize (1000000000 : Int) ^ 156 = P at *
      generalize b * (U * 1000000000 ^ s) = W at *
      omega
  rw [z, Int.zero_mul, Int.add_zero] at d
  exact d
theorem fl_top {f : Nat → Int32} {n m : Nat} (ho : flO 1000000000 f n) (hm : m ≤ n) (h : flV 1000000000 f n < 1000000000 ^ m) : flV 1000000000 f m = flV 1000000000 f n := by
  refine (fl_low hm (fun i h1 h2 => ?_)).symm
  by_cases c : (f i).toInt = 0
  · exact c
  · exact absurd (Int.lt_of_le_of_lt (Int.le_trans (fl_mono (by decide) h1) (fl_ge (by decide) ho h2 c)) h) (Int.lt_irrefl _)
/-- what is left to be laid: at, left, the limbs; M is all of it -/
def flL (U M : Int) (s : Int32) (l : Int64) (r : Nat → Int32) : Prop := flO 1000000000 r 156 ∧ (0 ≤ s.toInt ∧ 0 ≤ l.toInt) ∧ (s.toInt = 0 ∨ (s.toInt = 1 ∧ l.toInt ≤ 9223372036) ∨ (s.toInt = 2 ∧ l.toInt ≤ 9) ∨ (s.toInt = 3 ∧ l.toInt = 0)) ∧ flV 1000000000 r 156 + l.toInt * (U * 1000000000 ^ s.toNatClampNeg) = M
theorem flL.up {U M : Int} {s : Int32} {l : Int64} {r : Nat → Int32} (h : flL U M s l r) (hl : 0 < l.toInt) (hU : 1 ≤ U) (hM : M < 1000000000 ^ 156) : U * 1000000000 ^ s.toNatClampNeg < 1000000000 ^ 156 ∧ s.toInt ≤ 2 := by
  obtain ⟨o, a, b, c⟩ := h
  have nn := fl_nn (B := 1000000000) (by decide) o
  have p := fl_pos (B := 1000000000) (by decide) s.toNatClampNeg
  have q := Int.mul_nonneg (show 0 ≤ U by omega) (Int.le_of_lt p)
  have w := Int.mul_le_mul_of_nonneg_right (show 1 ≤ l.toInt by omega) q
  rw [Int.one_mul] at w
  refine ⟨?_, by omega⟩
  generalize (1000000000 : Int) ^ 156 = P at *
  generalize U * 1000000000 ^ s.toNatClampNeg = W at *
  omega
theorem fl_lid {l q b W : Int} (h : l = q * 1000000000 + b) : l * W = b * W + q * (W * 1000000000) := by
  rw [h, Int.add_mul, Int.mul_comm W, ← Int.mul_assoc q, Int.add_comm]
theorem flL.go {U M : Int} {s s1 : Int32} {l q b : Int64} {r r1 : Nat → Int32} (h : flL U M s l r) (hl : 0 < l.toInt) (es : s1.toInt = s.toInt + 1) (eq : l.toInt = q.toInt * 1000000000 + b.toInt ∧ 0 ≤ b.toInt ∧ 0 ≤ q.toInt) (ho : flO 1000000000 r1 156) (e : flV 1000000000 r1 156 = flV 1000000000 r 156 + b.toInt * (U * 1000000000 ^ s.toNatClampNeg)) : flL U M s1 q r1 := by
  obtain ⟨o, a, d, c⟩ := h
  have hi : l.toInt < 9223372036854775808 := Int64.toInt_lt l
  refine ⟨ho, ⟨by omega, by omega⟩, by omega, ?_⟩
  have c1 := q_clI (i := s) rfl a.1
  have c2 := q_clI (i := s1) rfl (by omega)
  rw [show s1.toNatClampNeg = s.toNatClampNeg + 1 by omega, fl_pw, ← Int.mul_assoc U, e, ← c, fl_lid (W := U * 1000000000 ^ s.toNatClampNeg) eq.1]
  omega
theorem flL.lt {U M : Int} {s : Int32} {l q b : Int64} {r : Nat → Int32} (h : flL U M s l r) (eq : l.toInt = q.toInt * 1000000000 + b.toInt ∧ 0 ≤ b.toInt ∧ 0 ≤ q.toInt) (hU : 1 ≤ U) (hM : M < 1000000000 ^ 156) : flV 1000000000 r 156 + b.toInt * (U * 1000000000 ^ s.toNatClampNeg) < 1000000000 ^ 156 := by
  obtain ⟨o, a, d, c⟩ := h
  have p := fl_pos (B := 1000000000) (by decide) s.toNatClampNeg
  have w := Int.mul_nonneg (show 0 ≤ U by omega) (Int.le_of_lt p)
  have e := Int.mul_le_mul_of_nonneg_right (show b.toInt ≤ l.toInt by omega) w
  generalize (1000000000 : Int) ^ 156 = P at *
  generalize U * 1000000000 ^ s.toNatClampNeg = W at *
  omega
theorem fl_qr {l : Int64} (h : 0 ≤ l.toInt) : l.toInt = (l / 1000000000).toInt * 1000000000 + (l - l / 1000000000 * 1000000000).toInt ∧ (0 ≤ (l - l / 1000000000 * 1000000000).toInt ∧ (l - l / 1000000000 * 1000000000).toInt < 1000000000) ∧ 0 ≤ (l / 1000000000).toInt := by
  have hi : l.toInt < 9223372036854775808 := Int64.toInt_lt l
  have e9 : (1000000000 : Int64).toInt = 1000000000 := rfl
  obtain ⟨q, eq⟩ := q_nm (l / 1000000000 : Int64)
  rw [eq]
  have e4 : q.toInt = l.toInt / 1000000000 := by rw [← eq]; exact v_divL (y := 1000000000) h (by decide)
  clear eq
  obtain ⟨t, et⟩ := q_nm (q * 1000000000 : Int64)
  rw [et]
  have e5 : t.toInt = q.toInt * 1000000000 := by rw [← et]; exact q_mulL rfl e9 (by omega) (by omega)
  clear et
  obtain ⟨w, ew⟩ := q_nm (l - t : Int64)
  rw [ew]
  have e6 : w.toInt = l.toInt - t.toInt := by rw [← ew]; exact q_subL rfl rfl (by omega) (by omega)
  clear ew
  omega
theorem fl_9 {x : Int32} (h : 0 ≤ x.toInt ∧ x.toInt ≤ 155) : (9 * x : Int32).toInt = 9 * x.toInt := q_mulI (x := 9) (by decide) rfl (by omega) (by omega)
theorem fl_99 {x : Int32} (h : 0 ≤ x.toInt ∧ x.toInt ≤ 155) : (9 * x + 9 : Int32).toInt = 9 * x.toInt + 9 := q_addI (fl_9 h) (by decide) (by omega) (by omega)
theorem fl_9a {x y : Int32} (h : 0 ≤ x.toInt ∧ x.toInt ≤ 155) (g : (9 * x + 9 : Int32) ≤ y) : 9 * x.toInt + 9 ≤ y.toInt := by have := q_leI g; rw [fl_99 h] at this; exact this
theorem fl_9b {x y : Int32} (h : 0 ≤ x.toInt ∧ x.toInt ≤ 155) (g : ¬ (9 * x + 9 : Int32) ≤ y) : y.toInt < 9 * x.toInt + 9 := by have := q_nleI g; rw [fl_99 h] at this; exact this
theorem flFg.go {l f : Nat → Int32} {k : Nat} {i j v : Int32} (h : ∃ m : Nat, (m : Int) = i.toInt ∧ flFg l f k m v.toInt) (hk : i.toInt < 9 * (k : Int) + 9) (e : j.toInt = i.toInt + 1) : ∃ m : Nat, (m : Int) = j.toInt ∧ flFg l (upd f i.toNatClampNeg (v - v / 10 * 10)) k m (v / 10).toInt := by
  obtain ⟨m, a, w⟩ := h
  have c := q_clI (i := i) rfl (by omega)
  have hv := w.2.2.2.2.1
  have e1 : (v / 10).toInt = v.toInt / 10 := q_divI rfl (by decide) hv (by decide)
  have e2 := s_rem (x := v) (b := 10) hv (by decide)
  have e3 : (10 : Int32).toInt = 10 := rfl
  rw [e3] at e2
  rw [show i.toNatClampNeg = m by omega]
  exact ⟨m + 1, by omega, w.step (by omega) (by rw [e1, e2]; omega) (by rw [e2]; omega) (by rw [e1]; omega)⟩
def flR (l : Nat → Int32) (k : Nat) (r : Nat → Int32) : Prop := flO 10 r (9 * k) ∧ flV 10 r (9 * k) = flV 1000000000 l k
theorem flFg.end {l f : Nat → Int32} {k : Nat} {i v : Int32} (h : ∃ m : Nat, (m : Int) = i.toInt ∧ flFg l f k m v.toInt) (hk : 9 * (k : Int) + 9 ≤ i.toInt) : flR l (k + 1) f := by
  obtain ⟨m, a, w⟩ := h
  have := w.2.2.1
  rw [show m = 9 * (k + 1) by omega] at w
  exact w.fin
/-- the figures of a product -/
def flS (M : Int) (p : (Nat → Int32) × (Nat → Int32)) : Prop := flO 10 p.2 1404 ∧ flV 10 p.2 1404 = M
theorem fl_le156 {a : Int} {n : Nat} (h : a ≤ 2) (e : (n : Int) = a) : n ≤ 156 := by omega
theorem fl_pdiv {U : Int} {s n : Nat} (hs : s ≤ n) (h : U * 1000000000 ^ s < 1000000000 ^ n) : U < 1000000000 ^ (n - s) := by
  have e : (1000000000 : Int) ^ n = 1000000000 ^ (n - s) * 1000000000 ^ s := by rw [← Int.pow_add, show n - s + s = n by omega]
  rw [e] at h
  exact Int.lt_of_mul_lt_mul_right h (Int.le_of_lt (fl_pos (by decide) s))
theorem v_st5 {K_F_FR_set_L3 : Int32 → (Nat → Int32) → ((Nat → Int32) × (Nat → Int32))} {K_F_FR_set_L31 : Int32 → Int64 → (Nat → Int32) → ((Nat → Int32) × (Nat → Int32))} {K_F_FR_set_L134 : Int32 → (Nat → Int32) → ((Nat → Int32) × (Nat → Int32))} {N2 : Int32} {x3 : Int64} {t0_0 : Int32} {t0_1 : Int32} {t0_2 : Int32} {t0_3 : Int32} {t0_4 : Int64} {t0_5 : Int32} {t0_6 : Int32} {t0_7 : Int64} {t0_8 : Int32} {t0_9 : Int64} {t0_10 : Int32} {t1_0 : (Nat → Int32)} {t2_0 : (Nat → Int32)} {t3_0 : (Nat → Int32)} {lx24 : Int32} {lx25 : (Nat → Int32)} {lx43 : Int32} {lx44 : Int64} {lx45 : (Nat → Int32)} {lx63 : Int32} {lx64 : (Nat → Int32)} {K_S_FR_set_L3 : Int32 → (Nat → Int32) → Prop} {K_S_FR_set_L31 : Int32 → Int64 → (Nat → Int32) → Prop} {K_S_FR_set_L134 : Int32 → (Nat → Int32) → Prop} (hN : N2.toInt = 1404) (hu : flO 1000000000 t1_0 156) (hU : 1 ≤ flV 1000000000 t1_0 156) (hx : 0 ≤ x3.toInt) (hb : x3.toInt * flV 1000000000 t1_0 156 < 1000000000 ^ 156)(h63 : 0 ≤ lx63.toInt ∧ lx63.toInt ≤ 155) (hK : ∀ r : Nat → Int32, flR lx45 (lx63.toNatClampNeg + 1) r → K_S_FR_set_L134 (lx63 + 1) r ∧ flS (x3.toInt * flV 1000000000 t1_0 156) (K_F_FR_set_L134 (lx63 + 1) r)) : ∀ (n : Nat) (lx88 : Int32) (lx89 : Int32) (lx90 : (Nat → Int32)), (0 ≤ lx88.toInt ∧ lx88.toInt ≤ 1404) → (20200 - lx88.toInt < (n : Int)) → (∃ m : Nat, (m : Int) = lx88.toInt ∧ flFg lx45 lx90 lx63.toNatClampNeg m lx89.toInt) → (S_FR_set_L158 K_S_FR_set_L3 K_S_FR_set_L31 K_S_FR_set_L134 N2 x3 t0_0 t0_1 t0_2 t0_3 t0_4 t0_5 t0_6 t0_7 t0_8 t0_9 t0_10 t1_0 t2_0 t3_0 lx24 lx25 lx43 lx44 lx45 lx63 lx64 n lx88 lx89 lx90) ∧ flS (x3.toInt * flV 1000000000 t1_0 156) (F_FR_set_L158 K_F_FR_set_L3 K_F_FR_set_L31 K_F_FR_set_L134 N2 x3 t0_0 t0_1 t0_2 t0_3 t0_4 t0_5 t0_6 t0_7 t0_8 t0_9 t0_10 t1_0 t2_0 t3_0 lx24 lx25 lx43 lx44 lx45 lx63 lx64 n lx88 lx89 lx90) := by
  intro n
  induction n with
  | zero => intro lx88 lx89 lx90 h0 hm ho; exact absurd (show False by omega) id
  | succ n ih =>
    intro lx88 lx89 lx90 h0 hm ho
    have e0 : (0 : Int32).toInt = 0 := rfl
    have e1 : (1 : Int32).toInt = 1 := rfl
    have eL0 : (0 : Int64).toInt = 0 := rfl
    have e63 := q_clI (i := lx63) rfl h63.1
    rw [S_FR_set_L158.eq_2, F_FR_set_L158.eq_2]
    by_cases g1 : ((9 * lx63 : Int32) + 9 : Int32) ≤ lx88
    ·
      rw [if_pos g1, if_pos g1]
      have g1i := fl_9a h63 g1
      exact hK _ (flFg.end ho (by omega))
    ·
      rw [if_neg g1, if_neg g1]
      have g1i := fl_9b h63 g1
      refine v_cons (by omega) ?_
      obtain ⟨a2, e3⟩ := q_nm (lx88 + 1 : Int32)
      rw [e3]
      have a2i : a2.toInt = lx88.toInt + 1 := by rw [← e3]; exact q_addI (x := lx88.toInt) (y := 1) rfl (by decide) (by omega) (by omega)
      exact ih _ _ _ ⟨by omega, by omega⟩ (by omega) (flFg.go ho (by omega) (by omega))
theorem v_st4 {K_F_FR_set_L3 : Int32 → (Nat → Int32) → ((Nat → Int32) × (Nat → Int32))} {K_F_FR_set_L31 : Int32 → Int64 → (Nat → Int32) → ((Nat → Int32) × (Nat → Int32))} {N2 : Int32} {x3 : Int64} {t0_0 : Int32} {t0_1 : Int32} {t0_2 : Int32} {t0_3 : Int32} {t0_4 : Int64} {t0_5 : Int32} {t0_6 : Int32} {t0_7 : Int64} {t0_8 : Int32} {t0_9 : Int64} {t0_10 : Int32} {t1_0 : (Nat → Int32)} {t2_0 : (Nat → Int32)} {t3_0 : (Nat → Int32)} {lx24 : Int32} {lx25 : (Nat → Int32)} {lx43 : Int32} {lx44 : Int64} {lx45 : (Nat → Int32)} {K_S_FR_set_L3 : Int32 → (Nat → Int32) → Prop} {K_S_FR_set_L31 : Int32 → Int64 → (Nat → Int32) → Prop} (hN : N2.toInt = 1404) (hu : flO 1000000000 t1_0 156) (hU : 1 ≤ flV 1000000000 t1_0 156) (hx : 0 ≤ x3.toInt) (hb : x3.toInt * flV 1000000000 t1_0 156 < 1000000000 ^ 156)(h45 : flO 1000000000 lx45 156) (hM : flV 1000000000 lx45 156 = x3.toInt * flV 1000000000 t1_0 156) : ∀ (n : Nat) (lx63 : Int32) (lx64 : (Nat → Int32)), (0 ≤ lx63.toInt ∧ lx63.toInt ≤ 156) → (156 - lx63.toInt < (n : Int)) → (flR lx45 lx63.toNatClampNeg lx64) → (S_FR_set_L134 K_S_FR_set_L3 K_S_FR_set_L31 N2 x3 t0_0 t0_1 t0_2 t0_3 t0_4 t0_5 t0_6 t0_7 t0_8 t0_9 t0_10 t1_0 t2_0 t3_0 lx24 lx25 lx43 lx44 lx45 n lx63 lx64) ∧ flS (x3.toInt * flV 1000000000 t1_0 156) (F_FR_set_L134 K_F_FR_set_L3 K_F_FR_set_L31 N2 x3 t0_0 t0_1 t0_2 t0_3 t0_4 t0_5 t0_6 t0_7 t0_8 t0_9 t0_10 t1_0 t2_0 t3_0 lx24 lx25 lx43 lx44 lx45 n lx63 lx64) := by
  intro n
  induction n with
  | zero => intro lx63 lx64 h0 hm ho; exact absurd (show False by omega) id
  | succ n ih =>
    intro lx63 lx64 h0 hm ho
    have e0 : (0 : Int32).toInt = 0 := rfl
    have e1 : (1 : Int32).toInt = 1 := rfl
    have eL0 : (0 : Int64).toInt = 0 := rfl
    have e63 := q_clI (i := lx63) rfl h0.1
    rw [S_FR_set_L134.eq_2, F_FR_set_L134.eq_2]
    by_cases g1 : (156 : Int32) ≤ lx63
    ·
      rw [if_pos g1, if_pos g1]
      have g1i : 156 ≤ lx63.toInt := q_leI g1
      refine ⟨trivial, ?_⟩
      (rw [show lx63.toNatClampNeg = 156 by omega] at ho; exact ⟨ho.1, ho.2.trans hM⟩)
    ·
      rw [if_neg g1, if_neg g1]
      have g1i : lx63.toInt < 156 := q_nleI g1
      have e5 : (lx63 + 1 : Int32).toInt = lx63.toInt + 1 := q_addI (y := 1) rfl (by decide) (by omega) (by omega); have e6 := fl_9 (x := lx63) ⟨by omega, by omega⟩; exact v_st5 hN hu hU hx hb ⟨by omega, by omega⟩ (fun r h => ih _ r ⟨by omega, by omega⟩ (by omega) (by have := q_clI (i := lx63 + 1) rfl (by omega); rw [show (lx63 + 1 : Int32).toNatClampNeg = lx63.toNatClampNeg + 1 by omega]; exact h)) _ _ _ _ ⟨by omega, by omega⟩ (by omega) ⟨9 * lx63.toNatClampNeg, by omega, flFg.start ho.1 ho.2 (h45 _ (by omega))⟩
theorem v_st3 {K_F_FR_set_L3 : Int32 → (Nat → Int32) → ((Nat → Int32) × (Nat → Int32))} {K_F_FR_set_L31 : Int32 → Int64 → (Nat → Int32) → ((Nat → Int32) × (Nat → Int32))} {N2 : Int32} {x3 : Int64} {t0_0 : Int32} {t0_1 : Int32} {t0_2 : Int32} {t0_3 : Int32} {t0_4 : Int64} {t0_5 : Int32} {t0_6 : Int32} {t0_7 : Int64} {t0_8 : Int32} {t0_9 : Int64} {t0_10 : Int32} {t1_0 : (Nat → Int32)} {t2_0 : (Nat → Int32)} {t3_0 : (Nat → Int32)} {lx24 : Int32} {lx25 : (Nat → Int32)} {lx43 : Int32} {lx44 : Int64} {lx45 : (Nat → Int32)} {j134 : Int64} {j132 : Int64} {K_S_FR_set_L3 : Int32 → (Nat → Int32) → Prop} {K_S_FR_set_L31 : Int32 → Int64 → (Nat → Int32) → Prop} (hN : N2.toInt = 1404) (hu : flO 1000000000 t1_0 156) (hU : 1 ≤ flV 1000000000 t1_0 156) (hx : 0 ≤ x3.toInt) (hb : x3.toInt * flV 1000000000 t1_0 156 < 1000000000 ^ 156)(h43 : 0 ≤ lx43.toInt ∧ lx43.toInt ≤ 2) (hj : 0 ≤ j132.toInt ∧ j132.toInt < 1000000000) (hz : flV 1000000000 t1_0 (156 - lx43.toNatClampNeg) = flV 1000000000 t1_0 156) (hlt : flV 1000000000 lx45 156 + j132.toInt * (flV 1000000000 t1_0 156 * 1000000000 ^ lx43.toNatClampNeg) < 1000000000 ^ 156) (hK : ∀ r : Nat → Int32, flO 1000000000 r 156 → flV 1000000000 r 156 = flV 1000000000 lx45 156 + j132.toInt * (flV 1000000000 t1_0 156 * 1000000000 ^ lx43.toNatClampNeg) → K_S_FR_set_L31 (lx43 + 1) j134 r ∧ flS (x3.toInt * flV 1000000000 t1_0 156) (K_F_FR_set_L31 (lx43 + 1) j134 r)) : ∀ (n : Nat) (lx138 : Int32) (lx139 : Int64) (lx140 : (Nat → Int32)), (lx43.toInt ≤ lx138.toInt ∧ lx138.toInt ≤ 156) → (156 - lx138.toInt < (n : Int)) → (∃ k : Nat, (k : Int) = lx138.toInt ∧ flMl t1_0 lx45 lx140 lx43.toNatClampNeg k j132.toInt lx139.toInt) → (S_FR_set_L61 K_S_FR_set_L3 K_S_FR_set_L31 N2 x3 t0_0 t0_1 t0_2 t0_3 t0_4 t0_5 t0_6 t0_7 t0_8 t0_9 t0_10 t1_0 t2_0 t3_0 lx24 lx25 lx43 lx44 lx45 j134 j132 n lx138 lx139 lx140) ∧ flS (x3.toInt * flV 1000000000 t1_0 156) (F_FR_set_L61 K_F_FR_set_L3 K_F_FR_set_L31 N2 x3 t0_0 t0_1 t0_2 t0_3 t0_4 t0_5 t0_6 t0_7 t0_8 t0_9 t0_10 t1_0 t2_0 t3_0 lx24 lx25 lx43 lx44 lx45 j134 j132 n lx138 lx139 lx140) := by
  intro n
  induction n with
  | zero => intro lx138 lx139 lx140 h0 hm ho; exact absurd (show False by omega) id
  | succ n ih =>
    intro lx138 lx139 lx140 h0 hm ho
    have e0 : (0 : Int32).toInt = 0 := rfl
    have e1 : (1 : Int32).toInt = 1 := rfl
    have eL0 : (0 : Int64).toInt = 0 := rfl
    have hc : 0 ≤ lx139.toInt ∧ lx139.toInt ≤ 1000000000 := (fun ⟨_, _, h⟩ => h.2.2.2.2) ho
    rw [S_FR_set_L61.eq_2, F_FR_set_L61.eq_2]
    by_cases g1 : (156 : Int32) ≤ lx138
    ·
      rw [if_pos g1, if_pos g1]
      have g1i : 156 ≤ lx138.toInt := q_leI g1
      obtain ⟨k, a, b⟩ := ho; rw [show k = 156 by omega] at b; have w := b.fin hz hlt; exact hK _ w.1 w.2
    ·
      rw [if_neg g1, if_neg g1]
      have g1i : lx138.toInt < 156 := q_nleI g1
      obtain ⟨a2, e3⟩ := q_nm (lx138 - lx43 : Int32)
      rw [e3]
      have a2i : a2.toInt = lx138.toInt - lx43.toInt := by rw [← e3]; exact q_subI (x := lx138.toInt) (y := lx43.toInt) rfl rfl (by omega) (by omega)
      refine v_cons (by omega) ?_
      refine v_cons (by omega) ?_
      refine v_cons (by omega) ?_
      obtain ⟨a4, e5⟩ := q_nm (lx138 + 1 : Int32)
      rw [e5]
      have a4i : a4.toInt = lx138.toInt + 1 := by rw [← e5]; exact q_addI (x := lx138.toInt) (y := 1) rfl (by decide) (by omega) (by omega)
      exact ih _ _ _ ⟨by omega, by omega⟩ (by omega) (flMl.go ho h43.1 (by omega) (by omega) (by omega) (fl_mlV hc hj (fl_at hu (by omega) (by omega)) (fl_at (by obtain ⟨k, a, b⟩ := ho; exact b.1) (by omega) (by omega))))
theorem v_st2 {K_F_FR_set_L3 : Int32 → (Nat → Int32) → ((Nat → Int32) × (Nat → Int32))} {N2 : Int32} {x3 : Int64} {t0_0 : Int32} {t0_1 : Int32} {t0_2 : Int32} {t0_3 : Int32} {t0_4 : Int64} {t0_5 : Int32} {t0_6 : Int32} {t0_7 : Int64} {t0_8 : Int32} {t0_9 : Int64} {t0_10 : Int32} {t1_0 : (Nat → Int32)} {t2_0 : (Nat → Int32)} {t3_0 : (Nat → Int32)} {lx24 : Int32} {lx25 : (Nat → Int32)} {K_S_FR_set_L3 : Int32 → (Nat → Int32) → Prop} (hN : N2.toInt = 1404) (hu : flO 1000000000 t1_0 156) (hU : 1 ≤ flV 1000000000 t1_0 156) (hx : 0 ≤ x3.toInt) (hb : x3.toInt * flV 1000000000 t1_0 156 < 1000000000 ^ 156) : ∀ (n : Nat) (lx43 : Int32) (lx44 : Int64) (lx45 : (Nat → Int32)), (3 - lx43.toInt < (n : Int)) → (flL (flV 1000000000 t1_0 156) (x3.toInt * flV 1000000000 t1_0 156) lx43 lx44 lx45) → (S_FR_set_L31 K_S_FR_set_L3 N2 x3 t0_0 t0_1 t0_2 t0_3 t0_4 t0_5 t0_6 t0_7 t0_8 t0_9 t0_10 t1_0 t2_0 t3_0 lx24 lx25 n lx43 lx44 lx45) ∧ flS (x3.toInt * flV 1000000000 t1_0 156) (F_FR_set_L31 K_F_FR_set_L3 N2 x3 t0_0 t0_1 t0_2 t0_3 t0_4 t0_5 t0_6 t0_7 t0_8 t0_9 t0_10 t1_0 t2_0 t3_0 lx24 lx25 n lx43 lx44 lx45) := by
  intro n
  induction n with
  | zero => intro lx43 lx44 lx45 hm ho; have := ho.2.2.1; exact absurd (show False by omega) id
  | succ n ih =>
    intro lx43 lx44 lx45 hm ho
    have e0 : (0 : Int32).toInt = 0 := rfl
    have e1 : (1 : Int32).toInt = 1 := rfl
    have eL0 : (0 : Int64).toInt = 0 := rfl
    have hl := ho.2.1
    rw [S_FR_set_L31.eq_2, F_FR_set_L31.eq_2]
    by_cases g1 : (lg_cmp lx44 0 : Int32) ≤ (0 : Int32)
    ·
      rw [if_pos g1, if_pos g1]
      have g1l := g_lc3 g1
      exact v_st4 hN hu hU hx hb ho.1 (by have e := ho.2.2.2; rw [show lx44.toInt = 0 by omega, Int.zero_mul, Int.add_zero] at e; exact e) _ _ _ ⟨by decide, by decide⟩ (by decide) ⟨fun i hi => absurd hi (Nat.not_lt_zero _), rfl⟩
    ·
      rw [if_neg g1, if_neg g1]
      have g1l := g_lc4 g1
      have e5 : (lx43 + 1 : Int32).toInt = lx43.toInt + 1 := q_addI (y := 1) rfl (by decide) (by omega) (by have := ho.2.2.1; omega); have c43 := q_clI (i := lx43) rfl hl.1; obtain ⟨q1, eq1⟩ := q_nm (lx44 / 1000000000 : Int64); obtain ⟨b1, eb1⟩ := q_nm (lx44 - lx44 / 1000000000 * 1000000000 : Int64); have q := fl_qr hl.2; rw [eb1, eq1] at q; rw [eb1, eq1]; clear eb1 eq1; have up := ho.up (by omega) hU hb; exact v_st3 hN hu hU hx hb ⟨hl.1, up.2⟩ q.2.1 (fl_top hu (Nat.sub_le _ _) (fl_pdiv (fl_le156 up.2 c43) up.1)) (ho.lt ⟨q.1, q.2.1.1, q.2.2⟩ hU hb) (fun r h1 h2 => ih _ _ r (by omega) (ho.go (by omega) e5 ⟨q.1, q.2.1.1, q.2.2⟩ h1 h2)) _ _ _ _ ⟨by omega, by omega⟩ (by omega) ⟨lx43.toNatClampNeg, q_clI (i := lx43) rfl hl.1, ho.1, fun i hi => rfl, Nat.le_refl _, by rw [Nat.sub_self, eL0, Int.zero_mul, Int.add_zero]; show _ = _ + _ * (0 * _); rw [Int.zero_mul, Int.mul_zero, Int.add_zero], by decide, by decide⟩
theorem v_st1 {N2 : Int32} {x3 : Int64} {t0_0 : Int32} {t0_1 : Int32} {t0_2 : Int32} {t0_3 : Int32} {t0_4 : Int64} {t0_5 : Int32} {t0_6 : Int32} {t0_7 : Int64} {t0_8 : Int32} {t0_9 : Int64} {t0_10 : Int32} {t1_0 : (Nat → Int32)} {t2_0 : (Nat → Int32)} {t3_0 : (Nat → Int32)} (hN : N2.toInt = 1404) (hu : flO 1000000000 t1_0 156) (hU : 1 ≤ flV 1000000000 t1_0 156) (hx : 0 ≤ x3.toInt) (hb : x3.toInt * flV 1000000000 t1_0 156 < 1000000000 ^ 156) : ∀ (n : Nat) (lx24 : Int32) (lx25 : (Nat → Int32)), (0 ≤ lx24.toInt ∧ lx24.toInt ≤ 156) → (156 - lx24.toInt < (n : Int)) → (∀ i : Nat, (i : Int) < lx24.toInt → (lx25 i).toInt = 0) → (S_FR_set_L3 N2 x3 t0_0 t0_1 t0_2 t0_3 t0_4 t0_5 t0_6 t0_7 t0_8 t0_9 t0_10 t1_0 t2_0 t3_0 n lx24 lx25) ∧ flS (x3.toInt * flV 1000000000 t1_0 156) (F_FR_set_L3 N2 x3 t0_0 t0_1 t0_2 t0_3 t0_4 t0_5 t0_6 t0_7 t0_8 t0_9 t0_10 t1_0 t2_0 t3_0 n lx24 lx25) := by
  intro n
  induction n with
  | zero => intro lx24 lx25 h0 hm ho; exact absurd (show False by omega) id
  | succ n ih =>
    intro lx24 lx25 h0 hm ho
    have e0 : (0 : Int32).toInt = 0 := rfl
    have e1 : (1 : Int32).toInt = 1 := rfl
    have eL0 : (0 : Int64).toInt = 0 := rfl
    have e24 := q_clI (i := lx24) rfl h0.1
    rw [S_FR_set_L3.eq_2, F_FR_set_L3.eq_2]
    by_cases g1 : (156 : Int32) ≤ lx24
    ·
      rw [if_pos g1, if_pos g1]
      have g1i : 156 ≤ lx24.toInt := q_leI g1
      exact v_st2 hN hu hU hx hb _ _ _ _ (by decide) ⟨fun i hi => by rw [ho i (by omega)]; decide, ⟨by decide, hx⟩, Or.inl rfl, by rw [fl_low (Nat.zero_le 156) (fun i _ h2 => ho i (by omega))]; show (0 : Int) + x3.toInt * (_ * 1000000000 ^ 0) = _; rw [Int.pow_zero, Int.mul_one, Int.zero_add]⟩
    ·
      rw [if_neg g1, if_neg g1]
      have g1i : lx24.toInt < 156 := q_nleI g1
      obtain ⟨a2, e3⟩ := q_nm (lx24 + 1 : Int32)
      rw [e3]
      have a2i : a2.toInt = lx24.toInt + 1 := by rw [← e3]; exact q_addI (x := lx24.toInt) (y := 1) rfl (by decide) (by omega) (by omega)
      exact ih _ _ ⟨by omega, by omega⟩ (by omega) (fun i hi => by by_cases c : i = lx24.toNatClampNeg; (rw [c, v_eq]; rfl); rw [v_ne c]; exact ho i (by omega))
theorem T_FR_set {N2 : Int32} {x3 : Int64} {t0_0 : Int32} {t0_1 : Int32} {t0_2 : Int32} {t0_3 : Int32} {t0_4 : Int64} {t0_5 : Int32} {t0_6 : Int32} {t0_7 : Int64} {t0_8 : Int32} {t0_9 : Int64} {t0_10 : Int32} {t1_0 : (Nat → Int32)} {t2_0 : (Nat → Int32)} {t3_0 : (Nat → Int32)} (hN : N2.toInt = 1404) (hu : flO 1000000000 t1_0 156) (hU : 1 ≤ flV 1000000000 t1_0 156) (hx : 0 ≤ x3.toInt) (hb : x3.toInt * flV 1000000000 t1_0 156 < 1000000000 ^ 156) : (S_FR_set N2 x3 t0_0 t0_1 t0_2 t0_3 t0_4 t0_5 t0_6 t0_7 t0_8 t0_9 t0_10 t1_0 t2_0 t3_0) ∧ flS (x3.toInt * flV 1000000000 t1_0 156) (F_FR_set N2 x3 t0_0 t0_1 t0_2 t0_3 t0_4 t0_5 t0_6 t0_7 t0_8 t0_9 t0_10 t1_0 t2_0 t3_0) := by
  have e0 : (0 : Int32).toInt = 0 := rfl
  have e1 : (1 : Int32).toInt = 1 := rfl
  have eL0 : (0 : Int64).toInt = 0 := rfl
  unfold S_FR_set F_FR_set
  exact v_st1 hN hu hU hx hb _ _ _ ⟨by decide, by decide⟩ (by decide) (fun i hi => by omega)
