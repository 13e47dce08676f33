/-! values, for whole: the reference's TextRows: findHexadecimal, find, sizeRead -/
theorem V_fh1 {x2 : Int32} {x3 : Int32} {x4 : Int32} {t0_0 : Int32} {t0_1 : Int32} {t0_2 : Int32} {t0_3 : Int32} {t0_4 : Int32} {t0_5 : Int32} {t0_6 : Int32} {t0_7 : Int64} {t0_8 : Int32} {t0_9 : Int32} {t0_10 : Int64} {t0_11 : Int64} {t0_12 : Int32} {t0_13 : Int32} {t1_0 : (Nat → Int32)} {lx26 : Int32} {j54 : Int64} {lx59 : Int32} {j74 : Int64} {lx102 : Int64} {P T M H N D : Nat} {l q E : Int} (h5 : t0_5.toInt = (M : Int)) (hM : M ≤ 4100) (ho : yhO t1_0 M) (hH : yhV t1_0 M = H) (h6 : 0 ≤ t0_6.toInt ∧ t0_6.toInt ≤ 4100) (h7 : -20000000000 ≤ t0_7.toInt ∧ t0_7.toInt ≤ 20000000000) (hE : E = 4 * (t0_6.toInt - M) + t0_7.toInt) (hN : N = H * 2 ^ E.toNat) (hD : D = 2 ^ (-E).toNat) (hEb : -30000 ≤ E ∧ E ≤ 2100) (h59 : lx59 = 0) (h102 : lx102.toInt = q) (hqb : -2100 ≤ q ∧ q ≤ 2100) (hS : yfS P l N D q) (hP : P ≤ 52) : ∀ (n : Nat) (lx114 : Int64) (lx115 : Int64), ∀ p : Int, lx114.toInt = p → (q - 1 ≤ p ∨ (p < q - 1 ∧ yfT (q - 1) N D / 2 = yfT (p + 1) N D)) → p ≤ 3000 → p - q + 1 < (n : Int) → 0 < n → lx115.toInt = ((yfT (p + 1) N D : Nat) : Int) → QV_fhR P T l N D t0_2 t0_4 (F_TR_findHexadecimal_L156 x2 x3 x4 t0_0 t0_1 t0_2 t0_3 t0_4 t0_5 t0_6 t0_7 t0_8 t0_9 t0_10 t0_11 t0_12 t0_13 t1_0 lx26 j54 lx59 j74 lx102 n lx114 lx115) := by
  have tq : yfT (q - 1) N D < 2 ^ 54 := Nat.lt_of_lt_of_le hS.2.1 (Nat.pow_le_pow_right (by decide) (by omega))
  have two54 : (2 : Nat) ^ 54 = 18014398509481984 := by decide
  intro n
  induction n with
  | zero =>
    intro lx114 lx115 p h0 h1 h2 h3 h3p
    omega
  | succ n ih =>
    intro lx114 lx115 p h0 h1 h2 h3 h3p h4
    rw [F_TR_findHexadecimal_L156.eq_2]
    by_cases g1 : lg_cmp lx114 lx102 < 0
    · rw [if_pos g1]
      have g2 := g_lc1 g1
      have h4e : lx115.toInt = ((yfT (q - 1) N D / 2 : Nat) : Int) := by
        rcases h1 with h1 | ⟨_, h1⟩
        · have ad := (yf_add (q := q - 1) (k := 1) (N := N) (D := D)).1
          rw [Nat.pow_one, show q - 1 + ((1 : Nat) : Int) = p + 1 by omega] at ad
          rw [ad] at h4
          exact h4
        · rw [h1]
          exact h4
      have j1 : ((4 * ((t0_6 - t0_5 : Int32).toInt64 : Int64) : Int64) + t0_7 : Int64).toInt = E := by
        rw [tr_j138 h6 ⟨by omega, by omega⟩ h7, hE, h5]
      have s2 : (lx102 - 2 : Int64).toInt = q - 2 := q_subL (y := 2) h102 rfl (by omega) (by omega)
      exact V_fh2 h5 hM ho hH h6 h7 hE hN hD hEb j1 h59 h102 hqb hS h4e 1000000 _ 0 (q - 2) s2 (by omega) (Or.inr rfl) (by omega) (by omega) (by omega) (Or.inl ⟨rfl, by rw [show q - 2 + 1 = q - 1 by omega]⟩)
    · rw [if_neg g1]
      have g2 := g_lc2 g1
      have hb := V_TR_bitAt (x2 := lx114) (t0_0 := t0_0) (t0_1 := t0_1) (t0_2 := t0_2) (t0_3 := t0_3) (t0_4 := t0_4) (t0_8 := t0_8) (t0_9 := t0_9) (t0_10 := lx115) (t0_11 := lx102) (t0_12 := 1) (t0_13 := lx59) h5 hM ho hH h6 h7 hE h0 ⟨by omega, by omega⟩
      rw [← hN, ← hD] at hb
      generalize F_TR_bitAt lx114 t0_0 t0_1 t0_2 t0_3 t0_4 t0_5 t0_6 t0_7 t0_8 t0_9 lx115 lx102 1 lx59 t1_0 = bb at hb ⊢
      have ad := (yf_add (q := p) (k := 1) (N := N) (D := D)).1
      rw [Nat.pow_one, show p + ((1 : Nat) : Int) = p + 1 by omega] at ad
      have tb : yfT p N D ≤ yfT (q - 1) N D := by
        have := (yf_add (q := q - 1) (k := (p - (q - 1)).toNat) (N := N) (D := D)).1
        rw [show q - 1 + ((p - (q - 1)).toNat : Int) = p by omega] at this
        rw [this]
        exact Nat.div_le_self _ _
      have m1 : (2 * lx115 : Int64).toInt = 2 * ((yfT (p + 1) N D : Nat) : Int) := q_mulL (show (2 : Int64).toInt = 2 from rfl) h4 (by omega) (by omega)
      have s1 : (lx114 - 1 : Int64).toInt = p - 1 := q_subL (y := 1) h0 rfl (by omega) (by omega)
      refine ih _ _ (p - 1) s1 (Or.inl (by omega)) (by omega) (by omega) (by omega) ?_
      rw [q_addL m1 (q_i2l hb) (by omega) (by omega), show p - 1 + 1 = p by omega]
      omega
theorem yhV_z {f : Nat → Int32} : ∀ {n : Nat}, (∀ i, i < n → f i = 0) → yhV f n = 0
  | 0, _ => rfl
  | n + 1, h => by
    show yhV f n * 16 + (f n).toInt.toNat = 0
    rw [yhV_z (fun i hi => h i (by omega)), h n (by omega)]
    rfl
theorem yhV_r {f : Nat → Int32} {a d : Nat} (hz : ∀ i, i < a → f i = 0) (hd : (f a).toInt = (d : Int)) : ∀ k : Nat, (∀ i, i < a + 1 + k → 0 ≤ (f i).toInt ∧ (f i).toInt ≤ 15) → d * 16 ^ k ≤ yhV f (a + 1 + k) ∧ yhV f (a + 1 + k) < (d + 1) * 16 ^ k
  | 0, h => by
    show d * 1 ≤ yhV f a * 16 + (f a).toInt.toNat ∧ yhV f a * 16 + (f a).toInt.toNat < (d + 1) * 1
    rw [yhV_z hz]
    omega
  | k + 1, h => by
    obtain ⟨i1, i2⟩ := yhV_r hz hd k (fun i hi => h i (by omega))
    have b := h (a + 1 + k) (by omega)
    show d * 16 ^ (k + 1) ≤ yhV f (a + 1 + k) * 16 + (f (a + 1 + k)).toInt.toNat ∧ yhV f (a + 1 + k) * 16 + (f (a + 1 + k)).toInt.toNat < (d + 1) * 16 ^ (k + 1)
    rw [Nat.pow_succ, ← Nat.mul_assoc, ← Nat.mul_assoc]
    omega
theorem V_fh44 {x2 : Int32} {x3 : Int32} {x4 : Int32} {t0_0 : Int32} {t0_1 : Int32} {t0_2 : Int32} {t0_3 : Int32} {t0_4 : Int32} {t0_5 : Int32} {t0_6 : Int32} {t0_7 : Int64} {t0_8 : Int32} {t0_9 : Int32} {t0_10 : Int64} {t0_11 : Int64} {t0_12 : Int32} {t0_13 : Int32} {t1_0 : (Nat → Int32)} {lx26 : Int32} {P T M H f b : Nat} {l E : Int} (hH : yH x3 x4 P T l) (h2 : x2.toInt = (f : Int)) (h5 : t0_5.toInt = (M : Int)) (hfM : f < M) (hM : M ≤ 4100) (ho : yhO t1_0 M) (hHv : yhV t1_0 M = H) (h6 : 0 ≤ t0_6.toInt ∧ t0_6.toInt ≤ 4100) (h7 : -20000000000 ≤ t0_7.toInt ∧ t0_7.toInt ≤ 20000000000) (hE : E = 4 * (t0_6.toInt - M) + t0_7.toInt) (h26 : lx26.toInt = (b : Int)) (hb : 1 ≤ b ∧ b ≤ 4) (hL : 2 ^ (4 * (M - f - 1) + b - 1) ≤ H) (hL2 : H < 2 ^ (4 * (M - f - 1) + b)) : QV_fhR P T l (H * 2 ^ E.toNat) (2 ^ (-E).toNat) t0_2 t0_4 (F_TR_findHexadecimal_J44 x2 x3 x4 t0_0 t0_1 t0_2 t0_3 t0_4 t0_5 t0_6 t0_7 t0_8 t0_9 t0_10 t0_11 t0_12 t0_13 t1_0 lx26) := by
  obtain ⟨k1, k2, k3, k4, ⟨A, B, C, k5⟩, k6, k7⟩ := hH.n
  have e2000 : (2000 : Int64).toInt = 2000 := rfl
  have em2000 : (-2000 : Int64).toInt = -2000 := rfl
  obtain ⟨L, hLe⟩ : ∃ L, 4 * (M - f - 1) + b = L + 1 := ⟨4 * (M - f - 1) + b - 1, by omega⟩
  rw [hLe] at hL2
  rw [hLe, Nat.add_sub_cancel] at hL
  have Hp : 0 < H := Nat.lt_of_lt_of_le (Nat.pow_pos (by decide)) hL
  obtain ⟨tp, htp⟩ : ∃ tp : Int, tp = L + E := ⟨_, rfl⟩
  have i1 : ((((4 * ((t0_6 - x2 : Int32).toInt64 : Int64) : Int64) - 5 : Int64) + (lx26.toInt64 : Int64) : Int64) + t0_7 : Int64).toInt = tp := by
    rw [tr_j54 h6 ⟨by omega, by omega⟩ ⟨by omega, by omega⟩ h7, h2, h26, htp, hE]
    omega
  have z := yf_ex2 (n := H) (pw := E)
  obtain ⟨N, hN⟩ : ∃ N, H * 2 ^ E.toNat = N := ⟨_, rfl⟩
  obtain ⟨D, hD⟩ : ∃ D, 2 ^ (-E).toNat = D := ⟨_, rfl⟩
  have Np : 0 < N := by
    rw [← hN]
    exact Nat.mul_pos Hp (Nat.pow_pos (by decide))
  have Dp : 0 < D := by
    rw [← hD]
    exact Nat.pow_pos (by decide)
  rw [hN, hD] at z ⊢
  have t1 : yfT tp N D = 1 := by
    have := (yf_add (q := E) (k := L) (N := N) (D := D)).1
    rw [show E + (L : Int) = tp by omega, z.1] at this
    rw [this]
    have p : 2 ^ (L + 1) = 2 ^ L * 2 := Nat.pow_succ _ _
    have h3 : 1 ≤ H / 2 ^ L := (Nat.le_div_iff_mul_le (Nat.pow_pos (by decide))).mpr (by omega)
    have h4 : H / 2 ^ L < 2 := (Nat.div_lt_iff_lt_mul (Nat.pow_pos (by decide))).mpr (by omega)
    omega
  unfold F_TR_findHexadecimal_J44
  generalize (((4 * ((t0_6 - x2 : Int32).toInt64 : Int64) : Int64) - 5 : Int64) + (lx26.toInt64 : Int64) : Int64) + t0_7 = j54 at i1 ⊢
  by_cases g1 : lg_cmp j54 2000 ≤ 0
  · rw [if_pos g1]
    have g2 := g_lc3 g1
    unfold F_TR_findHexadecimal_J87
    rw [if_pos rfl]
    by_cases g3 : 0 ≤ lg_cmp j54 (-2000)
    · rw [if_pos g3]
      have g4 := g_lc5 g3
      have go : ∀ (lx102 j74 : Int64) (q : Int), lx102.toInt = q → q = max (tp - P) l → QV_fhR P T l N D t0_2 t0_4 (F_TR_findHexadecimal_J149 x2 x3 x4 t0_0 t0_1 t0_2 t0_3 t0_4 t0_5 t0_6 t0_7 t0_8 t0_9 t0_10 t0_11 t0_12 t0_13 t1_0 lx26 j54 0 j74 lx102) := fun lx102 j74 q hq hqe => by
        have hS : yfS P l N D q := by
          rcases Int.le_total (q - 1) tp with c | c
          · have ad := (yf_add (q := q - 1) (k := (tp - (q - 1)).toNat) (N := N) (D := D)).1
            rw [show q - 1 + ((tp - (q - 1)).toNat : Int) = tp by omega, t1] at ad
            generalize hk : (tp - (q - 1)).toNat = k at ad
            have pk : 2 ^ (k + 1) = 2 ^ k * 2 := Nat.pow_succ _ _
            have pp : 0 < 2 ^ k := Nat.pow_pos (by decide)
            have b1 : 2 ^ k ≤ yfT (q - 1) N D := by
              have : 1 ≤ yfT (q - 1) N D / 2 ^ k := by omega
              have := (Nat.le_div_iff_mul_le pp).mp this
              omega
            have b2 : yfT (q - 1) N D < 2 ^ (k + 1) := by
              have : yfT (q - 1) N D / 2 ^ k < 2 := by omega
              have := (Nat.div_lt_iff_lt_mul pp).mp this
              omega
            refine ⟨by omega, Nat.lt_of_lt_of_le b2 (Nat.pow_le_pow_right (by decide) (by omega)), ?_⟩
            rcases Int.lt_or_le l q with d | d
            · exact Or.inr (Nat.le_trans (Nat.pow_le_pow_right (by decide) (by omega)) b1)
            · exact Or.inl (by omega)
          · have ad := (yf_add (q := tp) (k := (q - 1 - tp).toNat) (N := N) (D := D)).1
            rw [show tp + ((q - 1 - tp).toNat : Int) = q - 1 by omega, t1] at ad
            have b1 : yfT (q - 1) N D ≤ 1 := by
              rw [ad]
              exact Nat.div_le_self _ _
            refine ⟨by omega, Nat.lt_of_le_of_lt b1 (Nat.one_lt_two_pow (by omega)), Or.inl (by omega)⟩
        unfold F_TR_findHexadecimal_J149
        refine V_fh1 (q := q) h5 hM ho hHv h6 h7 hE hN.symm hD.symm ⟨by omega, by omega⟩ rfl hq ⟨by omega, by omega⟩ hS (by omega) 1000000 j54 0 tp i1 ?_ (by omega) (by omega) (by omega) ?_
        · rcases Int.le_total (q - 1) tp with c | c
          · exact Or.inl c
          · rcases Int.lt_or_le tp (q - 1) with d | d
            · refine Or.inr ⟨d, ?_⟩
              have a1 := (yf_add (q := tp) (k := (q - 1 - tp).toNat) (N := N) (D := D)).1
              rw [show tp + ((q - 1 - tp).toNat : Int) = q - 1 by omega, t1] at a1
              have a2 := (yf_add (q := tp) (k := 1) (N := N) (D := D)).1
              rw [show tp + ((1 : Nat) : Int) = tp + 1 by omega, t1] at a2
              rw [a1, a2, Nat.div_eq_of_lt (Nat.one_lt_two_pow (by omega))]
            · exact Or.inl d
        · have ad := (yf_add (q := tp) (k := 1) (N := N) (D := D)).1
          rw [show tp + ((1 : Nat) : Int) = tp + 1 by omega, t1] at ad
          rw [ad]
          rfl
      have x3l : x3.toInt64.toInt = (P : Int) + 1 := q_i2l k6
      have j1 : ((j54 - x3.toInt64 : Int64) + 1 : Int64).toInt = tp - P := by
        have := q_subL i1 x3l (by omega) (by omega)
        rw [q_addL (y := 1) this rfl (by omega) (by omega)]
        omega
      by_cases g5 : lg_cmp ((j54 - x3.toInt64 : Int64) + 1) x4.toInt64 ≤ 0
      · rw [if_pos g5]
        have g6 := g_lc3 g5
        rw [j1, q_i2l k2] at g6
        exact go _ _ l (q_i2l k2) (by omega)
      · rw [if_neg g5]
        have g6 := g_lc4 g5
        rw [j1, q_i2l k2] at g6
        exact go _ _ (tp - P) j1 (by omega)
    · rw [if_neg g3]
      have g4 := g_lc6 g3
      refine ⟨rfl, rfl, y_low (by omega) ?_ Np (q_i2l k2)⟩
      rw [← hN, ← hD, show E.toNat = 0 by omega, Nat.pow_zero, Nat.mul_one]
      refine Nat.lt_of_lt_of_le ((Nat.mul_lt_mul_right (Nat.pow_pos (by decide))).mpr hL2) ?_
      rw [← Nat.pow_add]
      exact Nat.pow_le_pow_right (by decide) (by omega)
  · rw [if_neg g1]
    have g2 := g_lc4 g1
    unfold F_TR_findHexadecimal_J87
    rw [if_neg (show ¬ (1 : Int32) = 0 by decide)]
    refine ⟨rfl, rfl, Or.inl ⟨rfl, ?_⟩⟩
    have bb : l + T - 1 - 1 + (P + 1) ≤ 1100 ∧ 0 ≤ l + T - 1 - 1 := by
      rcases hH with ⟨_, _, rfl, rfl, rfl⟩ | ⟨_, _, rfl, rfl, rfl⟩ <;> decide
    refine yfRnd_i (e := l + T - 1) (by omega) (by omega) (yf_big (k := 1100) (by omega) Dp ?_ (by omega))
    rw [← hN, ← hD]
    refine Nat.le_trans ?_ (Nat.mul_le_mul_right _ hL)
    rw [← Nat.pow_add, ← Nat.pow_add]
    exact Nat.pow_le_pow_right (by decide) (by omega)
theorem V_TR_findHexadecimal {x2 : Int32} {x3 : Int32} {x4 : Int32} {t0_0 : Int32} {t0_1 : Int32} {t0_2 : Int32} {t0_3 : Int32} {t0_4 : Int32} {t0_5 : Int32} {t0_6 : Int32} {t0_7 : Int64} {t0_8 : Int32} {t0_9 : Int32} {t0_10 : Int64} {t0_11 : Int64} {t0_12 : Int32} {t0_13 : Int32} {t1_0 : (Nat → Int32)} {P T M H f : Nat} {l E : Int} (hH : yH x3 x4 P T l) (h2 : x2.toInt = (f : Int)) (h5 : t0_5.toInt = (M : Int)) (hfM : f < M) (hM : M ≤ 4100) (ho : yhO t1_0 M) (hz : ∀ i, i < f → t1_0 i = 0) (hf : t1_0 f ≠ 0) (hHv : yhV t1_0 M = H) (h6 : 0 ≤ t0_6.toInt ∧ t0_6.toInt ≤ 4100) (h7 : -20000000000 ≤ t0_7.toInt ∧ t0_7.toInt ≤ 20000000000) (hE : E = 4 * (t0_6.toInt - M) + t0_7.toInt) : QV_fhR P T l (H * 2 ^ E.toNat) (2 ^ (-E).toNat) t0_2 t0_4 (F_TR_findHexadecimal x2 x3 x4 t0_0 t0_1 t0_2 t0_3 t0_4 t0_5 t0_6 t0_7 t0_8 t0_9 t0_10 t0_11 t0_12 t0_13 t1_0) := by
  have e8 : (8 : Int32).toInt = 8 := rfl
  have e4 : (4 : Int32).toInt = 4 := rfl
  have e2 : (2 : Int32).toInt = 2 := rfl
  have c2 := q_clI h2 (by omega)
  have x2c : x2.toNatClampNeg = f := by omega
  have fb := ho f hfM
  have f0 : (t1_0 f).toInt ≠ 0 := fun h => hf (Int32.toInt_inj.mp (by rw [h]; rfl))
  obtain ⟨d, hd⟩ : ∃ d : Nat, (t1_0 f).toInt = (d : Int) := ⟨(t1_0 f).toInt.toNat, by omega⟩
  obtain ⟨r1, r2⟩ := yhV_r hz hd (M - f - 1) (fun i hi => ho i (by omega))
  rw [show f + 1 + (M - f - 1) = M by omega, hHv] at r1 r2
  have go : ∀ (b : Nat) (lx26 : Int32), lx26.toInt = (b : Int) → 1 ≤ b ∧ b ≤ 4 → 2 ^ (b - 1) ≤ d → d < 2 ^ b → QV_fhR P T l (H * 2 ^ E.toNat) (2 ^ (-E).toNat) t0_2 t0_4 (F_TR_findHexadecimal_J44 x2 x3 x4 t0_0 t0_1 t0_2 t0_3 t0_4 t0_5 t0_6 t0_7 t0_8 t0_9 t0_10 t0_11 t0_12 t0_13 t1_0 lx26) := fun b lx26 h26 hb d1 d2 => by
    have p16 : (16 : Nat) ^ (M - f - 1) = 2 ^ (4 * (M - f - 1)) := by
      rw [show (16 : Nat) = 2 ^ 4 from rfl, Nat.pow_mul]
    rw [p16] at r1 r2
    refine V_fh44 hH h2 h5 hfM hM ho hHv h6 h7 hE h26 hb ?_ ?_
    · refine Nat.le_trans ?_ r1
      rw [show 4 * (M - f - 1) + b - 1 = (b - 1) + 4 * (M - f - 1) by omega, Nat.pow_add]
      exact Nat.mul_le_mul_right _ d1
    · refine Nat.lt_of_lt_of_le r2 ?_
      rw [Nat.add_comm (4 * (M - f - 1)) b, Nat.pow_add]
      exact Nat.mul_le_mul_right _ d2
  unfold F_TR_findHexadecimal
  rw [x2c]
  by_cases g1 : t1_0 f < 8
  · rw [if_pos g1]
    have g1i := q_ltI g1
    by_cases g2 : t1_0 f < 4
    · rw [if_pos g2]
      have g2i := q_ltI g2
      by_cases g3 : t1_0 f < 2
      · rw [if_pos g3]
        have g3i := q_ltI g3
        exact go 1 1 rfl (by decide) (by show 1 ≤ d; omega) (by show d < 2; omega)
      · rw [if_neg g3]
        have g3i := q_nltI g3
        exact go 2 2 rfl (by decide) (by show 2 ≤ d; omega) (by show d < 4; omega)
    · rw [if_neg g2]
      have g2i := q_nltI g2
      exact go 3 3 rfl (by decide) (by show 4 ≤ d; omega) (by show d < 8; omega)
  · rw [if_neg g1]
    have g1i := q_nltI g1
    exact go 4 4 rfl (by decide) (by show 8 ≤ d; omega) (by show d < 16; omega)
/-- the value that the figures say: N / D -/
def yTx (kind : Int32) (M : Nat) (pt ex : Int) (f : Nat → Int32) (N D : Nat) : Prop := (kind = 0 ∧ (∀ i, i < M → 0 ≤ (f i).toInt ∧ (f i).toInt ≤ 9) ∧ ∃ U : Nat, uV f M = (U : Int) ∧ N = U * 10 ^ (-((M : Int) - pt - ex)).toNat ∧ D = 10 ^ ((M : Int) - pt - ex).toNat) ∨ (kind = 1 ∧ yhO f M ∧ N = yhV f M * 2 ^ (4 * (pt - M) + ex).toNat ∧ D = 2 ^ (-(4 * (pt - M) + ex)).toNat)
theorem V_fi {x2 : Int32} {x3 : Int32} {t0_0 : Int32} {t0_1 : Int32} {t0_2 : Int32} {t0_3 : Int32} {t0_4 : Int32} {t0_5 : Int32} {t0_6 : Int32} {t0_7 : Int64} {t0_8 : Int32} {t0_9 : Int32} {t0_10 : Int64} {t0_11 : Int64} {t0_12 : Int32} {t0_13 : Int32} {t1_0 : (Nat → Int32)} {t2_0 : (Nat → Int32)} {P T M N D : Nat} {l : Int} (hH : yH x2 x3 P T l) (h5 : t0_5.toInt = (M : Int)) (hM : M ≤ 4100) (h6 : 0 ≤ t0_6.toInt ∧ t0_6.toInt ≤ 4100) (h7 : -20000000000 ≤ t0_7.toInt ∧ t0_7.toInt ≤ 20000000000) (hl1 : 0 ≤ t0_1.toInt ∧ t0_1.toInt ≤ 4100) (h4 : 0 ≤ t0_4.toInt ∧ t0_4.toInt ≤ 1) (hT : yTx t0_2 M t0_6.toInt t0_7.toInt t1_0 N D) : ∀ (n : Nat) (lx26 : Int32), ∀ k : Nat, lx26.toInt = (k : Int) → k ≤ M → M < n + k → (∀ i, i < k → t1_0 i = 0) → QV_fdR P T l N D t0_2 t0_4 (F_TR_find_L2 x2 x3 t0_0 t0_1 t0_2 t0_3 t0_4 t0_5 t0_6 t0_7 t0_8 t0_9 t0_10 t0_11 t0_12 t0_13 t1_0 t2_0 n lx26) := by
  obtain ⟨k1, k2, k3, k4, ⟨A, B, C, k5⟩, k6, k7⟩ := hH.n
  intro n
  induction n with
  | zero =>
    intro lx26 k h0 h1 h2
    omega
  | succ n ih =>
    intro lx26 k h0 h1 h2 h3
    have kc := q_clI h0 (by omega)
    have kx : lx26.toNatClampNeg = k := by omega
    rw [F_TR_find_L2.eq_2, kx]
    by_cases g1 : t0_5 ≤ lx26
    · rw [if_pos g1]
      have g2 := q_leI g1
      unfold F_TR_find_J25
      rw [if_pos (Int32.toInt_inj.mp (by omega))]
      have kM : k = M := by omega
      rw [kM] at h3
      have N0 : N = 0 ∧ 0 < D := by
        rcases hT with ⟨_, _, U, u1, u2, u3⟩ | ⟨_, _, u2, u3⟩
        · have : uV t1_0 M = 0 := u_zer h3
          rw [u2, u3, show U = 0 by omega, Nat.zero_mul]
          exact ⟨rfl, Nat.pow_pos (by decide)⟩
        · rw [u2, u3, yhV_z h3, Nat.zero_mul]
          exact ⟨rfl, Nat.pow_pos (by decide)⟩
      refine ⟨rfl, rfl, Or.inr ⟨rfl, l, ⟨Int.le_refl l, ?_, Or.inl rfl⟩, q_i2l k2, by omega, ?_, Or.inl ⟨rfl, ?_, ?_⟩⟩⟩
      · rw [N0.1, yfT_0]
        exact Nat.pow_pos (by decide)
      · rw [N0.1, yfT_0]
        rfl
      · rw [N0.1, yfT_0]
      · rw [N0.1]
        unfold yfR
        rw [Nat.zero_mul, Nat.zero_mod]
    · rw [if_neg g1]
      have g2 := q_nleI g1
      by_cases g3 : t1_0 k = 0
      · rw [if_pos g3]
        refine ih _ (k + 1) ?_ (by omega) (by omega) (fun i hi => ?_)
        · rw [q_addI (y := 1) h0 rfl (by omega) (by omega)]
          omega
        · by_cases c : i = k
          · rw [c]
            exact g3
          · exact h3 i (by omega)
      · rw [if_neg g3]
        unfold F_TR_find_J25
        rw [if_neg (fun h => by
          rw [h] at g2
          omega)]
        rcases hT with ⟨t0, t1, U, u1, u2, u3⟩ | ⟨t0, t1, u2, u3⟩
        · rw [if_pos t0]
          have dr := u_drop (f := t1_0) (z := k) h3 (M - k)
          rw [show k + (M - k) = M by omega, u1] at dr
          have dr2 : uV (fun i => t1_0 (k + i)) (M - k) = (U : Int) := by
            rw [dr]
            exact u_ext (fun i _ => by rw [Nat.add_comm])
          have hfd := V_TR_findDecimal (x2 := lx26) (x3 := x2) (x4 := x3) (t0_0 := t0_0) (t0_1 := t0_1) (t0_2 := t0_2) (t0_3 := t0_3) (t0_4 := t0_4) (t0_5 := t0_5) (t0_6 := t0_6) (t0_7 := t0_7) (t0_8 := t0_8) (t0_9 := t0_9) (t0_10 := t0_10) (t0_11 := t0_11) (t0_12 := t0_12) (t0_13 := t0_13) (t1_0 := t1_0) (t2_0 := t2_0) (pl := t0_6.toInt - k + t0_7.toInt) (f := k) (m := M - k) hH h0 (by omega) (by omega) (by omega) (fun i hi => t1 i (by omega)) g3 dr2 h6 h7 rfl hl1 h4
          generalize F_TR_findDecimal lx26 x2 x3 t0_0 t0_1 t0_2 t0_3 t0_4 t0_5 t0_6 t0_7 t0_8 t0_9 t0_10 t0_11 t0_12 t0_13 t1_0 t2_0 = y at hfd ⊢
          unfold F_TR_find_c68
          rw [u2, u3, show (M : Int) - t0_6.toInt - t0_7.toInt = ((M - k : Nat) : Int) - (t0_6.toInt - k + t0_7.toInt) by omega]
          exact hfd
        · rw [if_neg (show ¬ t0_2 = 0 by rw [t0]; decide)]
          have hfh := V_TR_findHexadecimal (x2 := lx26) (x3 := x2) (x4 := x3) (t0_0 := t0_0) (t0_1 := t0_1) (t0_2 := t0_2) (t0_3 := t0_3) (t0_4 := t0_4) (t0_5 := t0_5) (t0_6 := t0_6) (t0_7 := t0_7) (t0_8 := t0_8) (t0_9 := t0_9) (t0_10 := t0_10) (t0_11 := t0_11) (t0_12 := t0_12) (t0_13 := t0_13) (t1_0 := t1_0) (f := k) hH h0 h5 (by omega) hM t1 h3 g3 rfl h6 h7 rfl
          generalize F_TR_findHexadecimal lx26 x2 x3 t0_0 t0_1 t0_2 t0_3 t0_4 t0_5 t0_6 t0_7 t0_8 t0_9 t0_10 t0_11 t0_12 t0_13 t1_0 = y at hfh ⊢
          unfold F_TR_find_c78
          rw [u2, u3]
          exact hfh
theorem V_TR_find {x2 : Int32} {x3 : Int32} {t0_0 : Int32} {t0_1 : Int32} {t0_2 : Int32} {t0_3 : Int32} {t0_4 : Int32} {t0_5 : Int32} {t0_6 : Int32} {t0_7 : Int64} {t0_8 : Int32} {t0_9 : Int32} {t0_10 : Int64} {t0_11 : Int64} {t0_12 : Int32} {t0_13 : Int32} {t1_0 : (Nat → Int32)} {t2_0 : (Nat → Int32)} {P T M N D : Nat} {l : Int} (hH : yH x2 x3 P T l) (h5 : t0_5.toInt = (M : Int)) (hM : M ≤ 4100) (h6 : 0 ≤ t0_6.toInt ∧ t0_6.toInt ≤ 4100) (h7 : -20000000000 ≤ t0_7.toInt ∧ t0_7.toInt ≤ 20000000000) (hl1 : 0 ≤ t0_1.toInt ∧ t0_1.toInt ≤ 4100) (h4 : 0 ≤ t0_4.toInt ∧ t0_4.toInt ≤ 1) (hT : yTx t0_2 M t0_6.toInt t0_7.toInt t1_0 N D) : QV_fdR P T l N D t0_2 t0_4 (F_TR_find x2 x3 t0_0 t0_1 t0_2 t0_3 t0_4 t0_5 t0_6 t0_7 t0_8 t0_9 t0_10 t0_11 t0_12 t0_13 t1_0 t2_0) := by
  unfold F_TR_find
  exact V_fi hH h5 hM h6 h7 hl1 h4 hT _ 0 0 rfl (by omega) (by have : (0 : Int32).toInt = 0 := rfl; omega) (fun i hi => by omega)
theorem y_infS {x2 x3 : Int32} {P T : Nat} {l : Int} (hH : yH x2 x3 P T l) : ((if x2 = 53 then (2047 : Int64) else 255) <<< ((x2 - 1 : Int32).toInt64 &&& 63)).toInt = ((T * 2 ^ P : Nat) : Int) := by
  rcases hH with ⟨rfl, _, rfl, rfl, _⟩ | ⟨rfl, _, rfl, rfl, _⟩ <;> decide
/-- the size that a text says, as bits -/
theorem V_TR_sizeRead {x2 : Int32} {x3 : Int32} {t0_0 : Int32} {t0_1 : Int32} {t0_2 : Int32} {t0_3 : Int32} {t0_4 : Int32} {t0_5 : Int32} {t0_6 : Int32} {t0_7 : Int64} {t0_8 : Int32} {t0_9 : Int32} {t0_10 : Int64} {t0_11 : Int64} {t0_12 : Int32} {t0_13 : Int32} {t1_0 : (Nat → Int32)} {t2_0 : (Nat → Int32)} {P T M N D : Nat} {l : Int} (hH : yH x2 x3 P T l) (h5 : t0_5.toInt = (M : Int)) (hM : M ≤ 4100) (h6 : 0 ≤ t0_6.toInt ∧ t0_6.toInt ≤ 4100) (h7 : -20000000000 ≤ t0_7.toInt ∧ t0_7.toInt ≤ 20000000000) (hl1 : 0 ≤ t0_1.toInt ∧ t0_1.toInt ≤ 4100) (h4 : 0 ≤ t0_4.toInt ∧ t0_4.toInt ≤ 1) (hT : yTx t0_2 M t0_6.toInt t0_7.toInt t1_0 N D) : ∃ b : Nat, yfRnd P T l N D b ∧ (F_TR_sizeRead x2 x3 t0_0 t0_1 t0_2 t0_3 t0_4 t0_5 t0_6 t0_7 t0_8 t0_9 t0_10 t0_11 t0_12 t0_13 t1_0 t2_0).1.toInt = (b : Int) ∧ (F_TR_sizeRead x2 x3 t0_0 t0_1 t0_2 t0_3 t0_4 t0_5 t0_6 t0_7 t0_8 t0_9 t0_10 t0_11 t0_12 t0_13 t1_0 t2_0).2.2.2.1 = t0_2 ∧ (F_TR_sizeRead x2 x3 t0_0 t0_1 t0_2 t0_3 t0_4 t0_5 t0_6 t0_7 t0_8 t0_9 t0_10 t0_11 t0_12 t0_13 t1_0 t2_0).2.2.2.2.2.1 = t0_4 := by
  obtain ⟨k1, k2, k3, k4, ⟨A, B, C, k5⟩, k6, k7⟩ := hH.n
  have hfi := V_TR_find (t0_0 := t0_0) (t0_3 := t0_3) (t0_8 := t0_8) (t0_9 := t0_9) (t0_10 := t0_10) (t0_11 := t0_11) (t0_12 := t0_12) (t0_13 := t0_13) (t2_0 := t2_0) hH h5 hM h6 h7 hl1 h4 hT
  have le1 : t0_2 ≤ (1 : Int32) := by
    rcases hT with ⟨h, _⟩ | ⟨h, _⟩ <;> rw [h] <;> decide
  unfold F_TR_sizeRead
  rw [if_pos le1]
  generalize F_TR_find x2 x3 t0_0 t0_1 t0_2 t0_3 t0_4 t0_5 t0_6 t0_7 t0_8 t0_9 t0_10 t0_11 t0_12 t0_13 t1_0 t2_0 = p69 at hfi ⊢
  obtain ⟨q2, q4, hq⟩ := hfi
  unfold F_TR_sizeRead_c49
  rcases hq with ⟨h1, h2⟩ | ⟨h1, q, hS, h3, h3b, h4', h5'⟩
  · rw [if_neg (show ¬ p69.2.2.2.2.2.2.2.2.2.2.2.2.2.1 = 0 by rw [h1]; decide)]
    have inf := y_infS hH
    by_cases c : x2 = 53
    · rw [if_pos c] at inf ⊢
      exact ⟨_, h2, inf, q2, q4⟩
    · rw [if_neg c] at inf ⊢
      exact ⟨_, h2, inf, q2, q4⟩
  · rw [if_pos h1]
    have gu := V_TR_goesUp (t0_0 := p69.1) (t0_1 := p69.2.1) (t0_2 := p69.2.2.1) (t0_3 := p69.2.2.2.1) (t0_4 := p69.2.2.2.2.1) (t0_5 := p69.2.2.2.2.2.1) (t0_6 := p69.2.2.2.2.2.2.1) (t0_7 := p69.2.2.2.2.2.2.2.1) (t0_8 := p69.2.2.2.2.2.2.2.2.1) (t0_9 := p69.2.2.2.2.2.2.2.2.2.1) (t0_11 := p69.2.2.2.2.2.2.2.2.2.2.2.1) (t0_13 := p69.2.2.2.2.2.2.2.2.2.2.2.2.2.1) h5' h4'
    have p1 : 2 ^ (P + 1) = 2 ^ P * 2 := Nat.pow_succ _ _
    have p2 : 2 ^ (P + 2) = 2 ^ (P + 1) * 2 := Nat.pow_succ _ _
    obtain ⟨s1, s2, s3⟩ := hS
    have P52 : 2 ^ (P + 1) ≤ 9007199254740992 := by
      rcases k7 with rfl | rfl <;> decide
    rcases gu with ⟨g1, g2⟩ | ⟨g1, g2⟩
    · rw [if_pos g1]
      have pk := V_TR_pack (x2 := p69.2.2.2.2.2.2.2.2.2.2.1) (t0_0 := p69.1) (t0_1 := p69.2.1) (t0_2 := p69.2.2.1) (t0_3 := p69.2.2.2.1) (t0_4 := p69.2.2.2.2.1) (t0_5 := p69.2.2.2.2.2.1) (t0_6 := p69.2.2.2.2.2.2.1) (t0_7 := p69.2.2.2.2.2.2.2.1) (t0_8 := p69.2.2.2.2.2.2.2.2.1) (t0_9 := p69.2.2.2.2.2.2.2.2.2.1) (t0_10 := p69.2.2.2.2.2.2.2.2.2.2.1) (t0_12 := p69.2.2.2.2.2.2.2.2.2.2.2.2.1) hH h4' (by omega) h3 ⟨s1, h3b⟩ h1 (s3.imp id (fun h => by omega))
      exact ⟨_, ⟨q, ⟨s1, s2, s3⟩, by rw [g2]⟩, pk, q2, q4⟩
    · rw [g1, if_neg (show ¬ (1 : Int32) = 0 by decide)]
      have w1 : (p69.2.2.2.2.2.2.2.2.2.2.1 + 1 : Int64).toInt = ((yfT (q - 1) N D / 2 + 1 : Nat) : Int) := by
        rw [q_addL (y := 1) h4' rfl (by omega) (by omega)]
        omega
      have pk := V_TR_pack (x2 := p69.2.2.2.2.2.2.2.2.2.2.1 + 1) (t0_0 := p69.1) (t0_1 := p69.2.1) (t0_2 := p69.2.2.1) (t0_3 := p69.2.2.2.1) (t0_4 := p69.2.2.2.2.1) (t0_5 := p69.2.2.2.2.2.1) (t0_6 := p69.2.2.2.2.2.2.1) (t0_7 := p69.2.2.2.2.2.2.2.1) (t0_8 := p69.2.2.2.2.2.2.2.2.1) (t0_9 := p69.2.2.2.2.2.2.2.2.2.1) (t0_10 := p69.2.2.2.2.2.2.2.2.2.2.1) (t0_12 := p69.2.2.2.2.2.2.2.2.2.2.2.2.1) hH w1 (by omega) h3 ⟨s1, h3b⟩ h1 (s3.imp id (fun h => by omega))
      exact ⟨_, ⟨q, ⟨s1, s2, s3⟩, by rw [g2]⟩, pk, q2, q4⟩
