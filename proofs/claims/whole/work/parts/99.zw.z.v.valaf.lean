/-! values, for whole: the reference's TextRows: findHexadecimal -/
def yhV (f : Nat → Int32) : Nat → Nat
  | 0 => 0
  | n + 1 => yhV f n * 16 + (f n).toInt.toNat
def yhO (f : Nat → Int32) (n : Nat) : Prop := ∀ i, i < n → 0 ≤ (f i).toInt ∧ (f i).toInt ≤ 15
theorem yhV_d {f : Nat → Int32} : ∀ {n k : Nat}, yhO f n → k < n → yhV f n / 16 ^ k % 16 = (f (n - 1 - k)).toInt.toNat
  | 0, _, _, h => absurd h (Nat.not_lt_zero _)
  | n + 1, 0, h, _ => by
    have := h n (by omega)
    show (yhV f n * 16 + (f n).toInt.toNat) / 1 % 16 = (f n).toInt.toNat
    omega
  | n + 1, k + 1, h, hk => by
    have d := h n (by omega)
    have ih := yhV_d (n := n) (k := k) (fun i hi => h i (by omega)) (by omega)
    show (yhV f n * 16 + (f n).toInt.toNat) / 16 ^ (k + 1) % 16 = (f (n - (k + 1))).toInt.toNat
    rw [Nat.pow_succ, Nat.mul_comm (16 ^ k), ← Nat.div_div_eq_div_mul, show (yhV f n * 16 + (f n).toInt.toNat) / 16 = yhV f n by omega, ih, show n - 1 - k = n - (k + 1) by omega]
theorem yhV_b {f : Nat → Int32} : ∀ {n : Nat}, yhO f n → yhV f n < 16 ^ n
  | 0, _ => by
    show 0 < 1
    decide
  | n + 1, h => by
    have d := h n (by omega)
    have ih := yhV_b (n := n) (fun i hi => h i (by omega))
    show yhV f n * 16 + (f n).toInt.toNat < 16 ^ (n + 1)
    rw [Nat.pow_succ]
    omega
theorem yhV_bit {f : Nat → Int32} {n j : Nat} (h : yhO f n) : yhV f n / 2 ^ j % 2 = (if j / 4 < n then (f (n - 1 - j / 4)).toInt.toNat / 2 ^ (j % 4) % 2 else 0) := by
  have e : 2 ^ j = 16 ^ (j / 4) * 2 ^ (j % 4) := by
    rw [show (16 : Nat) = 2 ^ 4 from rfl, ← Nat.pow_mul, ← Nat.pow_add, show 4 * (j / 4) + j % 4 = j by omega]
  rw [e, ← Nat.div_div_eq_div_mul]
  by_cases c : j / 4 < n
  · rw [if_pos c, ← yhV_d h c]
    have r : j % 4 = 0 ∨ j % 4 = 1 ∨ j % 4 = 2 ∨ j % 4 = 3 := by omega
    generalize yhV f n / 16 ^ (j / 4) = x
    rcases r with r | r | r | r <;> rw [r]
    · show x / 1 % 2 = x % 16 / 1 % 2
      omega
    · show x / 2 % 2 = x % 16 / 2 % 2
      omega
    · show x / 4 % 2 = x % 16 / 4 % 2
      omega
    · show x / 8 % 2 = x % 16 / 8 % 2
      omega
  · rw [if_neg c, Nat.div_eq_of_lt (Nat.lt_of_lt_of_le (yhV_b h) (Nat.pow_le_pow_right (by decide) (by omega))), Nat.zero_div]
theorem y_sb0 : ∀ n : Fin 16, ∀ r : Fin 4, ((Int32.ofNat n.val >>> (Int32.ofNat r.val &&& 31)) &&& 1) = Int32.ofNat (n.val / 2 ^ r.val % 2) := by decide
theorem y_sb {v s : Int32} {n r : Nat} (hv : v.toInt = (n : Int)) (hn : n < 16) (hs : s.toInt = (r : Int)) (hr : r < 4) : ((v >>> (s &&& 31)) &&& 1).toInt = ((n / 2 ^ r % 2 : Nat) : Int) := by
  have e1 : v = Int32.ofNat n := Int32.toInt_inj.mp (by rw [hv, Int32.toInt_ofNat_of_lt (by omega)])
  have e2 : s = Int32.ofNat r := Int32.toInt_inj.mp (by rw [hs, Int32.toInt_ofNat_of_lt (by omega)])
  have h := y_sb0 ⟨n, hn⟩ ⟨r, hr⟩
  rw [e1, e2, h, Int32.toInt_ofNat_of_lt]
  show n / 2 ^ r % 2 < 2147483648
  omega
/-- bits of a value H * 2 ^ E -/
theorem y_hb {H : Nat} {E p : Int} : yfT p (H * 2 ^ E.toNat) (2 ^ (-E).toNat) % 2 = (if E ≤ p then H / 2 ^ (p - E).toNat % 2 else 0) := by
  obtain ⟨z1, z2⟩ := yf_ex2 (n := H) (pw := E)
  by_cases c : E ≤ p
  · rw [if_pos c]
    have := (yf_add (q := E) (k := (p - E).toNat) (N := H * 2 ^ E.toNat) (D := 2 ^ (-E).toNat)).1
    rw [show E + ((p - E).toNat : Int) = p by omega, z1] at this
    rw [this]
  · rw [if_neg c]
    obtain ⟨k, hk⟩ : ∃ k : Nat, E = p + ((k + 1 : Nat) : Int) := ⟨(E - p - 1).toNat, by omega⟩
    have := (yf_ex (q := p) (k := k + 1) (N := H * 2 ^ E.toNat) (D := 2 ^ (-E).toNat) (by rw [← hk]; exact z2)).1
    rw [this, Nat.pow_succ, ← Nat.mul_assoc]
    exact Nat.mul_mod_left _ _
theorem y_fl4 {x : Int64} {p : Int} (hx : x.toInt = p) (hb : -100000000000 ≤ p ∧ p ≤ 100000000000) : (if lg_cmp x 0 < 0 then -((3 - x) / 4) else x / 4 : Int64).toInt = p / 4 := by
  have e0 : (0 : Int64).toInt = 0 := rfl
  have e4 : (4 : Int64).toInt = 4 := rfl
  by_cases c : lg_cmp x 0 < 0
  · rw [if_pos c]
    have c2 := g_lc1 c
    have s1 : (3 - x : Int64).toInt = 3 - p := q_subL (x := 3) rfl hx (by omega) (by omega)
    have d1 : ((3 - x) / 4 : Int64).toInt = (3 - p) / 4 := by
      rw [Int64.toInt_div_of_ne_right _ _ (by decide), s1, e4, Int.tdiv_eq_ediv_of_nonneg (by omega)]
    rw [Int64.toInt_neg, d1, Int.bmod_eq_of_le (by omega) (by omega)]
    omega
  · rw [if_neg c]
    have c2 := g_lc2 c
    rw [Int64.toInt_div_of_ne_right _ _ (by decide), hx, e4, Int.tdiv_eq_ediv_of_nonneg (by omega)]
theorem V_TR_bitAt {x2 : Int64} {t0_0 : Int32} {t0_1 : Int32} {t0_2 : Int32} {t0_3 : Int32} {t0_4 : Int32} {t0_5 : Int32} {t0_6 : Int32} {t0_7 : Int64} {t0_8 : Int32} {t0_9 : Int32} {t0_10 : Int64} {t0_11 : Int64} {t0_12 : Int32} {t0_13 : Int32} {t1_0 : (Nat → Int32)} {M H : Nat} {p E : Int} (h5 : t0_5.toInt = (M : Int)) (hM : M ≤ 4100) (ho : yhO t1_0 M) (hH : yhV t1_0 M = H) (h6 : 0 ≤ t0_6.toInt ∧ t0_6.toInt ≤ 4100) (h7 : -20000000000 ≤ t0_7.toInt ∧ t0_7.toInt ≤ 20000000000) (hE : E = 4 * (t0_6.toInt - M) + t0_7.toInt) (hp : x2.toInt = p) (hpb : -1000000 ≤ p ∧ p ≤ 1000000) : (F_TR_bitAt x2 t0_0 t0_1 t0_2 t0_3 t0_4 t0_5 t0_6 t0_7 t0_8 t0_9 t0_10 t0_11 t0_12 t0_13 t1_0).toInt = ((yfT p (H * 2 ^ E.toNat) (2 ^ (-E).toNat) % 2 : Nat) : Int) := by
  have e0 : (0 : Int64).toInt = 0 := rfl
  have e4 : (4 : Int64).toInt = 4 := rfl
  have j1 : (x2 - t0_7 : Int64).toInt = p - t0_7.toInt := q_subL hp rfl (by omega) (by omega)
  have fl := y_fl4 j1 ⟨by omega, by omega⟩
  have key : ∀ lx27 : Int64, lx27.toInt = (p - t0_7.toInt) / 4 → (F_TR_bitAt_J31 x2 t0_0 t0_1 t0_2 t0_3 t0_4 t0_5 t0_6 t0_7 t0_8 t0_9 t0_10 t0_11 t0_12 t0_13 t1_0 (x2 - t0_7) lx27).toInt = ((yfT p (H * 2 ^ E.toNat) (2 ^ (-E).toNat) % 2 : Nat) : Int) := fun lx27 h27 => by
    rw [y_hb]
    unfold F_TR_bitAt_J31
    generalize x2 - t0_7 = j22 at j1 ⊢
    have i1 : (t0_6.toInt64 - 1 : Int64).toInt = t0_6.toInt - 1 := q_subL (y := 1) (q_i2l rfl) rfl (by omega) (by omega)
    have i2 : (t0_6.toInt64 - 1 - lx27 : Int64).toInt = t0_6.toInt - 1 - (p - t0_7.toInt) / 4 := q_subL i1 h27 (by omega) (by omega)
    generalize t0_6.toInt64 - 1 - lx27 = at_ at i2 ⊢
    by_cases g1 : lg_cmp at_ 0 < 0
    · rw [if_pos g1]
      have g2 := g_lc1 g1
      rw [if_pos (by omega), ← hH, yhV_bit ho, if_neg (by omega)]
      rfl
    · rw [if_neg g1]
      have g2 := g_lc2 g1
      by_cases g3 : lg_cmp at_ t0_5.toInt64 < 0
      · rw [if_pos g3]
        have g4 := g_lc1 g3
        rw [q_i2l h5] at g4
        have ge : E ≤ p := by omega
        obtain ⟨j, hj⟩ : ∃ j : Nat, p - E = (j : Int) := ⟨(p - E).toNat, by omega⟩
        have a1 : at_.toInt32.toInt = ((M - 1 - j / 4 : Nat) : Int) := by
          rw [s_l2i (by omega) (by omega), i2]
          omega
        have a2 := q_clI a1 (by omega)
        have a3 : at_.toInt32.toNatClampNeg = M - 1 - j / 4 := by omega
        have m1 : (4 * lx27 : Int64).toInt = 4 * ((p - t0_7.toInt) / 4) := q_mulL e4 h27 (by omega) (by omega)
        have m2 : (j22 - 4 * lx27 : Int64).toInt = ((j % 4 : Nat) : Int) := by
          rw [q_subL j1 m1 (by omega) (by omega)]
          omega
        have m3 : ((j22 - 4 * lx27 : Int64).toInt32).toInt = ((j % 4 : Nat) : Int) := by
          rw [s_l2i (by omega) (by omega), m2]
        have fg := ho (M - 1 - j / 4) (by omega)
        rw [if_pos ge, show (p - E).toNat = j by omega, ← hH, yhV_bit ho, if_pos (by omega), a3]
        exact y_sb (n := (t1_0 (M - 1 - j / 4)).toInt.toNat) (by omega) (by omega) m3 (by omega)
      · rw [if_neg g3]
        have g4 := g_lc2 g3
        rw [q_i2l h5] at g4
        rw [if_neg (by omega)]
        rfl
  unfold F_TR_bitAt
  by_cases c : lg_cmp (x2 - t0_7) 0 < 0
  · rw [if_pos c] at fl ⊢
    exact key _ fl
  · rw [if_neg c] at fl ⊢
    exact key _ fl
def QV_fhR (P T : Nat) (l : Int) (N D : Nat) (k2 k4 : Int32) (p : Int32 × Int32 × Int32 × Int32 × Int32 × Int32 × Int32 × Int64 × Int32 × Int32 × Int64 × Int64 × Int32 × Int32) : Prop := p.2.2.1 = k2 ∧ p.2.2.2.2.1 = k4 ∧ QV_fd P T l N D p.2.2.2.2.2.2.2.2.2.2.2.2.2 p.2.2.2.2.2.2.2.2.2.2.1 p.2.2.2.2.2.2.2.2.2.2.2.1 p.2.2.2.2.2.2.2.2.2.2.2.2.1
theorem V_fh2 {K_F_TR_findHexadecimal_L156 : Int64 → Int64 → (Int32 × Int32 × Int32 × Int32 × Int32 × Int32 × Int32 × Int64 × Int32 × Int32 × Int64 × Int64 × Int32 × Int32)} {x2 : Int32} {x3 : Int32} {x4 : Int32} {t0_0 : Int32} {t0_1 : Int32} {t0_2 : Int32} {t0_3 : Int32} {t0_4 : Int32} {t0_5 : Int32} {t0_6 : Int32} {t0_7 : Int64} {t0_8 : Int32} {t0_9 : Int32} {t0_10 : Int64} {t0_11 : Int64} {t0_12 : Int32} {t0_13 : Int32} {t1_0 : (Nat → Int32)} {lx26 : Int32} {j54 : Int64} {lx59 : Int32} {j74 : Int64} {lx102 : Int64} {lx114 : Int64} {lx115 : Int64} {j138 : Int64} {P T M H N D : Nat} {l q E : Int} (h5 : t0_5.toInt = (M : Int)) (hM : M ≤ 4100) (ho : yhO t1_0 M) (hH : yhV t1_0 M = H) (h6 : 0 ≤ t0_6.toInt ∧ t0_6.toInt ≤ 4100) (h7 : -20000000000 ≤ t0_7.toInt ∧ t0_7.toInt ≤ 20000000000) (hE : E = 4 * (t0_6.toInt - M) + t0_7.toInt) (hN : N = H * 2 ^ E.toNat) (hD : D = 2 ^ (-E).toNat) (hEb : -30000 ≤ E ∧ E ≤ 2100) (h138 : j138.toInt = E) (h59 : lx59 = 0) (h102 : lx102.toInt = q) (hqb : -2100 ≤ q ∧ q ≤ 2100) (hS : yfS P l N D q) (h115 : lx115.toInt = ((yfT (q - 1) N D / 2 : Nat) : Int)) : ∀ (n : Nat) (lx144 : Int64) (lx145 : Int32), ∀ p : Int, lx144.toInt = p → p ≤ q - 2 → E - 1 ≤ p ∨ p = q - 2 → (p + 1 < E → 0 < n) → p - E + 2 < (n : Int) ∨ p < E → 0 < n → ((lx145 = 0 ∧ (yfR (q - 1) N D = 0 ↔ yfR (p + 1) N D = 0)) ∨ (lx145 = 1 ∧ yfR (q - 1) N D ≠ 0)) → QV_fhR P T l N D t0_2 t0_4 (F_TR_findHexadecimal_L229 K_F_TR_findHexadecimal_L156 x2 x3 x4 t0_0 t0_1 t0_2 t0_3 t0_4 t0_5 t0_6 t0_7 t0_8 t0_9 t0_10 t0_11 t0_12 t0_13 t1_0 lx26 j54 lx59 j74 lx102 lx114 lx115 j138 n lx144 lx145) := by
  have fin : ∀ (mo : Int32) (pp : Int64), ((mo = 0 ∧ yfR (q - 1) N D = 0) ∨ (mo = 1 ∧ yfR (q - 1) N D ≠ 0)) → ∀ KK KL, QV_fhR P T l N D t0_2 t0_4 (F_TR_findHexadecimal_J268 KK KL x2 x3 x4 t0_0 t0_1 t0_2 t0_3 t0_4 t0_5 t0_6 t0_7 t0_8 t0_9 t0_10 t0_11 t0_12 t0_13 t1_0 lx26 j54 lx59 j74 lx102 lx114 lx115 j138 pp mo) := fun mo pp hmo KK KL => by
    have s1 : (lx102 - 1 : Int64).toInt = q - 1 := q_subL (y := 1) h102 rfl (by omega) (by omega)
    have hb := V_TR_bitAt (x2 := lx102 - 1) (t0_0 := t0_0) (t0_1 := t0_1) (t0_2 := t0_2) (t0_3 := t0_3) (t0_4 := t0_4) (t0_8 := t0_8) (t0_9 := t0_9) (t0_10 := lx115) (t0_11 := lx102) (t0_12 := 1) (t0_13 := lx59) h5 hM ho hH h6 h7 hE s1 ⟨by omega, by omega⟩
    rw [← hN, ← hD] at hb
    unfold F_TR_findHexadecimal_J268
    generalize F_TR_bitAt (lx102 - 1) t0_0 t0_1 t0_2 t0_3 t0_4 t0_5 t0_6 t0_7 t0_8 t0_9 lx115 lx102 1 lx59 t1_0 = bb at hb ⊢
    have ans : ∀ r : Int32, yRs r (yfT (q - 1) N D) (yfR (q - 1) N D) → QV_fhR P T l N D t0_2 t0_4 (t0_0, t0_1, t0_2, t0_3, t0_4, t0_5, t0_6, t0_7, t0_8, t0_9, lx115, lx102, r, lx59) := fun r hr => ⟨rfl, rfl, Or.inr ⟨h59, q, hS, h102, by omega, h115, hr⟩⟩
    by_cases c : bb = 1
    · rw [if_pos c]
      rw [c, show (1 : Int32).toInt = 1 from rfl] at hb
      rcases hmo with ⟨m1, m2⟩ | ⟨m1, m2⟩
      · rw [if_pos m1]
        exact ans 2 (Or.inr (Or.inr (Or.inl ⟨rfl, by omega, m2⟩)))
      · rw [if_neg (show ¬ mo = 0 by rw [m1]; decide)]
        exact ans 3 (Or.inr (Or.inr (Or.inr ⟨rfl, by omega, m2⟩)))
    · rw [if_neg c]
      have nb : yfT (q - 1) N D % 2 = 0 := by
        rcases Nat.mod_two_eq_zero_or_one (yfT (q - 1) N D) with z | z
        · exact z
        · exact absurd (Int32.toInt_inj.mp (by rw [hb, z]; rfl)) c
      rcases hmo with ⟨m1, m2⟩ | ⟨m1, m2⟩
      · rw [if_pos m1]
        exact ans 0 (Or.inl ⟨rfl, nb, m2⟩)
      · rw [if_neg (show ¬ mo = 0 by rw [m1]; decide)]
        exact ans 1 (Or.inr (Or.inl ⟨rfl, nb, m2⟩))
  have zE : ∀ p : Int, p + 1 ≤ E → yfR (p + 1) N D = 0 := fun p hp => by
    obtain ⟨z1, z2⟩ := yf_ex2 (n := H) (pw := E)
    rw [← hN, ← hD] at z2
    have := (yf_ex (q := p + 1) (k := (E - (p + 1)).toNat) (N := N) (D := D) (by rw [show p + 1 + ((E - (p + 1)).toNat : Int) = E by omega]; exact z2)).2
    exact this
  intro n
  induction n with
  | zero =>
    intro lx144 lx145 p h0 h1 h2 h3 h4 hp
    omega
  | succ n ih =>
    intro lx144 lx145 p h0 h1 h2 h3 h4 hp hmo
    rw [F_TR_findHexadecimal_L229.eq_2]
    by_cases g1 : lg_cmp lx144 j138 < 0
    · rw [if_pos g1]
      have g2 := g_lc1 g1
      refine fin _ _ ?_ _ _
      rcases hmo with ⟨m1, m2⟩ | m
      · exact Or.inl ⟨m1, m2.mpr (zE p (by omega))⟩
      · exact Or.inr m
    · rw [if_neg g1]
      have g2 := g_lc2 g1
      by_cases g3 : lx145 = 0
      · rw [if_pos g3]
        have hR : yfR (q - 1) N D = 0 ↔ yfR (p + 1) N D = 0 := by
          rcases hmo with m | m
          · exact m.2
          · exact absurd (g3.symm.trans m.1) (by decide)
        have hb := V_TR_bitAt (x2 := lx144) (t0_0 := t0_0) (t0_1 := t0_1) (t0_2 := t0_2) (t0_3 := t0_3) (t0_4 := t0_4) (t0_8 := t0_8) (t0_9 := t0_9) (t0_10 := lx115) (t0_11 := lx102) (t0_12 := 1) (t0_13 := lx59) h5 hM ho hH h6 h7 hE h0 ⟨by omega, by omega⟩
        rw [← hN, ← hD] at hb
        have ad := (yf_add (q := p) (k := 1) (N := N) (D := D)).2
        rw [Nat.pow_one, show p + ((1 : Nat) : Int) = p + 1 by omega] at ad
        have s1 : (lx144 - 1 : Int64).toInt = p - 1 := q_subL (y := 1) h0 rfl (by omega) (by omega)
        generalize F_TR_bitAt lx144 t0_0 t0_1 t0_2 t0_3 t0_4 t0_5 t0_6 t0_7 t0_8 t0_9 lx115 lx102 1 lx59 t1_0 = bb at hb ⊢
        by_cases c : bb = 1
        · rw [if_pos c]
          rw [c, show (1 : Int32).toInt = 1 from rfl] at hb
          refine ih _ _ (p - 1) s1 (by omega) (by omega) (by omega) (by omega) (by omega) (Or.inr ⟨rfl, fun h => ?_⟩)
          have := (ad.mp (hR.mp h)).2
          omega
        · rw [if_neg c]
          have nb : yfT p N D % 2 = 0 := by
            rcases Nat.mod_two_eq_zero_or_one (yfT p N D) with z | z
            · exact z
            · exact absurd (Int32.toInt_inj.mp (by rw [hb, z]; rfl)) c
          refine ih _ _ (p - 1) s1 (by omega) (by omega) (by omega) (by omega) (by omega) (Or.inl ⟨rfl, ?_⟩)
          rw [hR, ad, show p - 1 + 1 = p by omega]
          exact ⟨fun h => h.1, fun h => ⟨h, nb⟩⟩
      · rw [if_neg g3]
        refine fin _ _ ?_ _ _
        rcases hmo with m | m
        · exact absurd m.1 g3
        · exact Or.inr m
