/-! values, for whole: the reference's TextRows: a row of words halved and doubled, exactly -/
/-- the words of a decimal, written out: none before fr, none behind to -/
def yW (fr to : Int32) (w : Nat → Int32) : Prop := (0 ≤ fr.toInt ∧ fr.toInt ≤ 54) ∧ (54 ≤ to.toInt ∧ to.toInt ≤ 799) ∧ trO w ∧ (∀ i : Nat, (i : Int) < fr.toInt → w i = 0) ∧ (fr.toInt = 54 ∨ w fr.toNatClampNeg ≠ 0) ∧ (∀ i : Nat, to.toInt < (i : Int) → i < 800 → w i = 0) ∧ (to.toInt = 54 ∨ w to.toNatClampNeg ≠ 0)
theorem yV_z {w : Nat → Int32} {k : Nat} : ∀ m : Nat, (∀ i, k ≤ i → i < k + m → w i = 0) → trV w (k + m) = trV w k * 100000000 ^ m
  | 0, _ => by
    rw [Nat.add_zero, Int.pow_zero, Int.mul_one]
  | m + 1, h => by
    show trV w (k + m) * 100000000 + (w (k + m)).toInt = _
    rw [yV_z m (fun i h1 h2 => h i h1 (by omega)), h (k + m) (by omega) (by omega), show (0 : Int32).toInt = 0 from rfl, Int.pow_succ]
    grind
theorem yV_u {w : Nat → Int32} {i : Nat} {x : Int32} : ∀ {n : Nat}, i < n → trV (upd w i x) n = trV w n + (x.toInt - (w i).toInt) * 100000000 ^ (n - 1 - i)
  | 0, h => absurd h (Nat.not_lt_zero _)
  | n + 1, h => by
    show trV (upd w i x) n * 100000000 + (upd w i x n).toInt = trV w n * 100000000 + (w n).toInt + _
    by_cases c : i = n
    · subst c
      have e1 : trV (upd w i x) i = trV w i := trV_cong (fun j hj => by
        unfold upd
        rw [if_neg (by omega)])
      rw [e1]
      unfold upd
      rw [if_pos rfl, show i + 1 - 1 - i = 0 by omega, Int.pow_zero]
      omega
    · rw [yV_u (n := n) (by omega)]
      have e2 : upd w i x n = w n := by
        unfold upd
        rw [if_neg (by omega)]
      rw [e2, show n + 1 - 1 - i = (n - 1 - i) + 1 by omega, Int.pow_succ]
      grind
theorem yV_ge {w : Nat → Int32} {i n : Nat} {x : Int32} (h : n ≤ i) : trV (upd w i x) n = trV w n := trV_cong (fun j hj => by
  unfold upd
  rw [if_neg (by omega)])
theorem V_hf71 {K_F_TR_half_L7 : Int32 → Int32 → (Nat → Int32) → (Int32 × Int32 × Int32 × Int32 × Int32 × Int32 × Int32 × Int64 × Int32 × Int32 × Int64 × Int64 × Int32 × Int32 × (Nat → Int32))} {t0_0 : Int32} {t0_1 : Int32} {t0_2 : Int32} {t0_3 : Int32} {t0_4 : Int32} {t0_5 : Int32} {t0_6 : Int32} {t0_7 : Int64} {t0_8 : Int32} {t0_9 : Int32} {t0_10 : Int64} {t0_11 : Int64} {t0_12 : Int32} {t0_13 : Int32} {t1_0 : (Nat → Int32)} {lx24 : Int32} {lx25 : Int32} {lx26 : (Nat → Int32)} {lx39 : Int32} {lx40 : (Nat → Int32)} {V : Int} (h39 : 54 ≤ lx39.toInt ∧ lx39.toInt ≤ 799) (ho : trO lx40) (hz : ∀ i : Nat, lx39.toInt < (i : Int) → i < 800 → lx40 i = 0) (hn : lx39.toInt = 54 ∨ lx40 lx39.toNatClampNeg ≠ 0) (hV : 2 * trV lx40 800 = V) : ∀ (n : Nat) (lx53 : Int32), 0 ≤ lx53.toInt → lx53.toInt ≤ 54 → 54 - lx53.toInt < (n : Int) → (∀ i : Nat, (i : Int) < lx53.toInt → lx40 i = 0) → ∃ fr to w, (F_TR_half_L71 K_F_TR_half_L7 t0_0 t0_1 t0_2 t0_3 t0_4 t0_5 t0_6 t0_7 t0_8 t0_9 t0_10 t0_11 t0_12 t0_13 t1_0 lx24 lx25 lx26 lx39 lx40 n lx53) = (t0_0, t0_1, t0_2, t0_3, t0_4, t0_5, t0_6, t0_7, fr, to, t0_10, t0_11, t0_12, t0_13, w) ∧ yW fr to w ∧ 2 * trV w 800 = V := by
  intro n
  induction n with
  | zero =>
    intro lx53 h0 h1 h2
    omega
  | succ n ih =>
    intro lx53 h0 h1 h2 h3
    have e54 : (54 : Int32).toInt = 54 := rfl
    have c := q_clI (i := lx53) rfl h0
    rw [F_TR_half_L71.eq_2]
    by_cases g1 : (54 : Int32) ≤ lx53
    · rw [if_pos g1]
      have g2 := q_leI g1
      exact ⟨_, _, _, rfl, ⟨⟨h0, h1⟩, h39, ho, h3, Or.inl (by omega), hz, hn⟩, hV⟩
    · rw [if_neg g1]
      have g2 := q_nleI g1
      by_cases g3 : lx40 lx53.toNatClampNeg = 0
      · rw [if_pos g3]
        have e1 : (lx53 + 1 : Int32).toInt = lx53.toInt + 1 := q_addI (y := 1) rfl rfl (by omega) (by omega)
        refine ih _ (by omega) (by omega) (by omega) (fun i hi => ?_)
        by_cases d : i = lx53.toNatClampNeg
        · rw [d]
          exact g3
        · exact h3 i (by omega)
      · rw [if_neg g3]
        exact ⟨_, _, _, rfl, ⟨⟨h0, h1⟩, h39, ho, h3, Or.inr g3, hz, hn⟩, hV⟩
theorem V_hf7 {t0_0 : Int32} {t0_1 : Int32} {t0_2 : Int32} {t0_3 : Int32} {t0_4 : Int32} {t0_5 : Int32} {t0_6 : Int32} {t0_7 : Int64} {t0_8 : Int32} {t0_9 : Int32} {t0_10 : Int64} {t0_11 : Int64} {t0_12 : Int32} {t0_13 : Int32} {t1_0 : (Nat → Int32)} (hW : yW t0_8 t0_9 t1_0) (h9 : t0_9.toInt ≤ 798) : ∀ (n : Nat) (lx24 : Int32) (lx25 : Int32) (lx26 : (Nat → Int32)), ∀ k : Nat, lx24.toInt = (k : Int) → t0_8.toInt ≤ (k : Int) → (k : Int) ≤ t0_9.toInt + 1 → t0_9.toInt + 1 < (n : Int) + (k : Int) → (lx25 = 0 ∨ lx25 = 1) → trO lx26 → (∀ i, k ≤ i → lx26 i = t1_0 i) → (∀ i : Nat, (i : Int) < t0_8.toInt → lx26 i = 0) → 2 * trV lx26 k + lx25.toInt = trV t1_0 k → (k = t0_9.toNatClampNeg + 1 → t0_9.toInt = 54 ∨ lx25 = 1 ∨ lx26 t0_9.toNatClampNeg ≠ 0) → ∃ fr to w, (F_TR_half_L7 t0_0 t0_1 t0_2 t0_3 t0_4 t0_5 t0_6 t0_7 t0_8 t0_9 t0_10 t0_11 t0_12 t0_13 t1_0 n lx24 lx25 lx26) = (t0_0, t0_1, t0_2, t0_3, t0_4, t0_5, t0_6, t0_7, fr, to, t0_10, t0_11, t0_12, t0_13, w) ∧ yW fr to w ∧ 2 * trV w 800 = trV t1_0 800 := by
  obtain ⟨w1, w2, w3, w4, w5, w6, w7⟩ := hW
  have c9 := q_clI (i := t0_9) rfl (by omega)
  have e0 : (0 : Int32).toInt = 0 := rfl
  have e1 : (1 : Int32).toInt = 1 := rfl
  have e54 : (54 : Int32).toInt = 54 := rfl
  intro n
  induction n with
  | zero =>
    intro lx24 lx25 lx26 k h0 h1 h2 h3
    omega
  | succ n ih =>
    intro lx24 lx25 lx26 k h0 h1 h2 h3 h4 h5 h6 h7 h8 h10
    have kc := q_clI h0 (by omega)
    have kx : lx24.toNatClampNeg = k := by omega
    rw [F_TR_half_L7.eq_2, kx]
    have tz : trV t1_0 800 = trV t1_0 (t0_9.toNatClampNeg + 1) * 100000000 ^ (799 - t0_9.toNatClampNeg) := by
      have := yV_z (w := t1_0) (k := t0_9.toNatClampNeg + 1) (799 - t0_9.toNatClampNeg) (fun i i1 i2 => w6 i (by omega) (by omega))
      rw [show t0_9.toNatClampNeg + 1 + (799 - t0_9.toNatClampNeg) = 800 by omega] at this
      exact this
    by_cases g1 : t0_9 < lx24
    · rw [if_pos g1]
      have g2 := q_ltI g1
      obtain rfl : k = t0_9.toNatClampNeg + 1 := by omega
      unfold F_TR_half_J71
      by_cases g3 : lx25 ≤ (0 : Int32)
      · rw [if_pos g3]
        have z : lx25 = 0 := by
          rcases h4 with z | z
          · exact z
          · rw [z] at g3
            exact absurd g3 (by decide)
        rw [z, e0, Int.add_zero] at h8
        have lz : trV lx26 800 = trV lx26 (t0_9.toNatClampNeg + 1) * 100000000 ^ (799 - t0_9.toNatClampNeg) := by
          have := yV_z (w := lx26) (k := t0_9.toNatClampNeg + 1) (799 - t0_9.toNatClampNeg) (fun i i1 i2 => by
            rw [h6 i (by omega)]
            exact w6 i (by omega) (by omega))
          rw [show t0_9.toNatClampNeg + 1 + (799 - t0_9.toNatClampNeg) = 800 by omega] at this
          exact this
        refine V_hf71 (V := trV t1_0 800) ⟨by omega, by omega⟩ h5 (fun i i1 i2 => by
          rw [h6 i (by omega)]
          exact w6 i i1 i2) ?_ ?_ _ t0_8 w1.1 w1.2 (by omega) h7
        · rcases h10 rfl with d | d | d
          · exact Or.inl d
          · rw [z] at d
            exact absurd d (by decide)
          · exact Or.inr d
        · rw [lz, tz, ← h8]
          grind
      · rw [if_neg g3]
        have z : lx25 = 1 := by
          rcases h4 with z | z
          · rw [z] at g3
            exact absurd (show (0 : Int32) ≤ 0 by decide) g3
          · exact z
        rw [z, e1] at h8
        have a1 : (t0_9 + 1 : Int32).toInt = t0_9.toInt + 1 := q_addI (y := 1) rfl rfl (by omega) (by omega)
        have a2 := q_clI a1 (by omega)
        have a3 : (t0_9 + 1 : Int32).toNatClampNeg = t0_9.toNatClampNeg + 1 := by omega
        rw [a3]
        have uz : trV (upd lx26 (t0_9.toNatClampNeg + 1) 50000000) 800 = trV (upd lx26 (t0_9.toNatClampNeg + 1) 50000000) (t0_9.toNatClampNeg + 1 + 1) * 100000000 ^ (798 - t0_9.toNatClampNeg) := by
          have := yV_z (w := upd lx26 (t0_9.toNatClampNeg + 1) 50000000) (k := t0_9.toNatClampNeg + 1 + 1) (798 - t0_9.toNatClampNeg) (fun i i1 i2 => by
            unfold upd
            rw [if_neg (by omega), h6 i (by omega)]
            exact w6 i (by omega) (by omega))
          rw [show t0_9.toNatClampNeg + 1 + 1 + (798 - t0_9.toNatClampNeg) = 800 by omega] at this
          exact this
        refine V_hf71 (V := trV t1_0 800) ⟨by omega, by omega⟩ (h5.upd (by decide)) (fun i i1 i2 => ?_) (Or.inr ?_) ?_ _ t0_8 w1.1 w1.2 (by omega) (fun i hi => ?_)
        · unfold upd
          rw [if_neg (by omega), h6 i (by omega)]
          exact w6 i (by omega) i2
        · rw [a3]
          unfold upd
          rw [if_pos rfl]
          decide
        · have u1 : trV (upd lx26 (t0_9.toNatClampNeg + 1) 50000000) (t0_9.toNatClampNeg + 1 + 1) = trV lx26 (t0_9.toNatClampNeg + 1) * 100000000 + 50000000 := by
            show trV (upd lx26 (t0_9.toNatClampNeg + 1) 50000000) (t0_9.toNatClampNeg + 1) * 100000000 + (upd lx26 (t0_9.toNatClampNeg + 1) 50000000 (t0_9.toNatClampNeg + 1)).toInt = _
            rw [yV_ge (Nat.le_refl _)]
            unfold upd
            rw [if_pos rfl]
            rfl
          rw [uz, u1, tz, ← h8, show 799 - t0_9.toNatClampNeg = (798 - t0_9.toNatClampNeg) + 1 by omega, Int.pow_succ]
          grind
        · unfold upd
          rw [if_neg (by omega)]
          exact h7 i hi
    · rw [if_neg g1]
      have g2 := q_nltI g1
      have f1 := w3 k (by omega)
      have hv := tr_hv (g := lx26 k) (c := lx25) (by rw [h6 k (Nat.le_refl _)]; exact f1) (by rcases h4 with z | z <;> rw [z] <;> decide)
      rw [h6 k (Nat.le_refl _)] at hv ⊢
      have ea : (lx24 + 1 : Int32).toInt = ((k + 1 : Nat) : Int) := by
        rw [q_addI (y := 1) h0 rfl (by omega) (by omega)]
        omega
      obtain ⟨v1, v2, v3⟩ := hv
      generalize (t1_0 k + lx25 * 100000000) / 2 = nv at v1 v2 v3 ⊢
      generalize t1_0 k + lx25 * 100000000 - nv * 2 = nc at v1 v3 ⊢
      refine ih _ _ _ (k + 1) ea (by omega) (by omega) (by omega) ?_ (h5.upd v2) ?_ ?_ ?_ ?_
      · rcases Int.lt_or_le nc.toInt 1 with d | d
        · exact Or.inl (Int32.toInt_inj.mp (by rw [e0]; omega))
        · exact Or.inr (Int32.toInt_inj.mp (by rw [e1]; omega))
      · intro i hi
        unfold upd
        rw [if_neg (by omega)]
        exact h6 i (by omega)
      · intro i hi
        unfold upd
        rw [if_neg (by omega)]
        exact h7 i hi
      · show 2 * (trV (upd lx26 k nv) k * 100000000 + (upd lx26 k nv k).toInt) + nc.toInt = trV t1_0 k * 100000000 + (t1_0 k).toInt
        rw [yV_ge (Nat.le_refl _), ← h8]
        have : upd lx26 k nv k = nv := if_pos rfl
        rw [this]
        omega
      · intro hk
        have kk : k = t0_9.toNatClampNeg := by omega
        rcases w7 with d | d
        · exact Or.inl d
        · refine Or.inr ?_
          rw [← kk] at d ⊢
          have : upd lx26 k nv k = nv := if_pos rfl
          rw [this]
          by_cases z : nv = 0
          · refine Or.inl (Int32.toInt_inj.mp ?_)
            rw [z, e0] at v1
            have d2 : (t1_0 k).toInt ≠ 0 := fun h => d (Int32.toInt_inj.mp (by rw [h]; rfl))
            have l0 : 0 ≤ lx25.toInt := by rcases h4 with z | z <;> rw [z] <;> decide
            rw [e1]
            omega
          · exact Or.inr z
theorem V_TR_half {t0_0 : Int32} {t0_1 : Int32} {t0_2 : Int32} {t0_3 : Int32} {t0_4 : Int32} {t0_5 : Int32} {t0_6 : Int32} {t0_7 : Int64} {t0_8 : Int32} {t0_9 : Int32} {t0_10 : Int64} {t0_11 : Int64} {t0_12 : Int32} {t0_13 : Int32} {t1_0 : (Nat → Int32)} (hW : yW t0_8 t0_9 t1_0) (h9 : t0_9.toInt ≤ 798) : ∃ fr to w, (F_TR_half t0_0 t0_1 t0_2 t0_3 t0_4 t0_5 t0_6 t0_7 t0_8 t0_9 t0_10 t0_11 t0_12 t0_13 t1_0) = (t0_0, t0_1, t0_2, t0_3, t0_4, t0_5, t0_6, t0_7, fr, to, t0_10, t0_11, t0_12, t0_13, w) ∧ yW fr to w ∧ 2 * trV w 800 = trV t1_0 800 := by
  have hW2 := hW
  obtain ⟨w1, w2, w3, w4, w5, w6, w7⟩ := hW2
  have c8 := q_clI (i := t0_8) rfl w1.1
  have c9 := q_clI (i := t0_9) rfl (by omega)
  unfold F_TR_half
  refine V_hf7 hW h9 _ t0_8 0 t1_0 t0_8.toNatClampNeg (by omega) (by omega) (by omega) (by omega) (Or.inl rfl) w3 (fun i _ => rfl) w4 ?_ (fun h => by omega)
  have z : trV t1_0 t0_8.toNatClampNeg = 0 := trV_0 (fun i hi => w4 i (by omega))
  rw [z]
  rfl
theorem V_tw71 {K_F_TR_twice_L7 : Int32 → Int32 → (Nat → Int32) → (Int32 × Int32 × Int32 × Int32 × Int32 × Int32 × Int32 × Int64 × Int32 × Int32 × Int64 × Int64 × Int32 × Int32 × (Nat → Int32))} {t0_0 : Int32} {t0_1 : Int32} {t0_2 : Int32} {t0_3 : Int32} {t0_4 : Int32} {t0_5 : Int32} {t0_6 : Int32} {t0_7 : Int64} {t0_8 : Int32} {t0_9 : Int32} {t0_10 : Int64} {t0_11 : Int64} {t0_12 : Int32} {t0_13 : Int32} {t1_0 : (Nat → Int32)} {lx27 : Int32} {lx28 : Int32} {lx29 : (Nat → Int32)} {lx44 : Int32} {lx45 : (Nat → Int32)} {V : Int} (h44 : 0 ≤ lx44.toInt ∧ lx44.toInt ≤ 54) (ho : trO lx45) (hz : ∀ i : Nat, (i : Int) < lx44.toInt → lx45 i = 0) (hn : lx44.toInt = 54 ∨ lx45 lx44.toNatClampNeg ≠ 0) (hV : trV lx45 800 = V) : ∀ (n : Nat) (lx58 : Int32), 54 ≤ lx58.toInt → lx58.toInt ≤ 799 → lx58.toInt - 54 < (n : Int) → (∀ i : Nat, lx58.toInt < (i : Int) → i < 800 → lx45 i = 0) → ∃ fr to w, (F_TR_twice_L71 K_F_TR_twice_L7 t0_0 t0_1 t0_2 t0_3 t0_4 t0_5 t0_6 t0_7 t0_8 t0_9 t0_10 t0_11 t0_12 t0_13 t1_0 lx27 lx28 lx29 lx44 lx45 n lx58) = (t0_0, t0_1, t0_2, t0_3, t0_4, t0_5, t0_6, t0_7, fr, to, t0_10, t0_11, t0_12, t0_13, w) ∧ yW fr to w ∧ trV w 800 = V := by
  intro n
  induction n with
  | zero =>
    intro lx58 h0 h1 h2
    omega
  | succ n ih =>
    intro lx58 h0 h1 h2 h3
    have e54 : (54 : Int32).toInt = 54 := rfl
    have c := q_clI (i := lx58) rfl (by omega)
    rw [F_TR_twice_L71.eq_2]
    by_cases g1 : lx58 ≤ (54 : Int32)
    · rw [if_pos g1]
      have g2 := q_leI g1
      exact ⟨_, _, _, rfl, ⟨h44, ⟨h0, h1⟩, ho, hz, hn, h3, Or.inl (by omega)⟩, hV⟩
    · rw [if_neg g1]
      have g2 := q_nleI g1
      by_cases g3 : lx45 lx58.toNatClampNeg = 0
      · rw [if_pos g3]
        have e1 : (lx58 - 1 : Int32).toInt = lx58.toInt - 1 := q_subI (y := 1) rfl rfl (by omega) (by omega)
        refine ih _ (by omega) (by omega) (by omega) (fun i hi hi2 => ?_)
        by_cases d : i = lx58.toNatClampNeg
        · rw [d]
          exact g3
        · exact h3 i (by omega) hi2
      · rw [if_neg g3]
        exact ⟨_, _, _, rfl, ⟨h44, ⟨h0, h1⟩, ho, hz, hn, h3, Or.inr g3⟩, hV⟩
theorem y_dbl {x c : Int32} (hx : 0 ≤ x.toInt ∧ x.toInt < 100000000) (hc : 0 ≤ c.toInt ∧ c.toInt ≤ 1) : (((2 * x) + c) / 100000000 : Int32).toInt = (2 * x.toInt + c.toInt) / 100000000 ∧ (((2 * x) + c) - ((2 * x) + c) / 100000000 * 100000000 : Int32).toInt = (2 * x.toInt + c.toInt) % 100000000 := by
  have m1 : (2 * x : Int32).toInt = 2 * x.toInt := q_mulI (show (2 : Int32).toInt = 2 from rfl) rfl (by omega) (by omega)
  have m2 : (2 * x + c : Int32).toInt = 2 * x.toInt + c.toInt := q_addI m1 rfl (by omega) (by omega)
  have m3 : ((2 * x + c) / 100000000 : Int32).toInt = (2 * x.toInt + c.toInt) / 100000000 := q_divI m2 (show (100000000 : Int32).toInt = 100000000 from rfl) (by omega) (by decide)
  refine ⟨m3, ?_⟩
  have m4 : ((2 * x + c) / 100000000 * 100000000 : Int32).toInt = (2 * x.toInt + c.toInt) / 100000000 * 100000000 := q_mulI m3 rfl (by omega) (by omega)
  rw [q_subI m2 m4 (by omega) (by omega)]
  omega
theorem V_tw7 {t0_0 : Int32} {t0_1 : Int32} {t0_2 : Int32} {t0_3 : Int32} {t0_4 : Int32} {t0_5 : Int32} {t0_6 : Int32} {t0_7 : Int64} {t0_8 : Int32} {t0_9 : Int32} {t0_10 : Int64} {t0_11 : Int64} {t0_12 : Int32} {t0_13 : Int32} {t1_0 : (Nat → Int32)} (hW : yW t0_8 t0_9 t1_0) (h8 : 1 ≤ t0_8.toInt) : ∀ (n : Nat) (lx27 : Int32) (lx28 : Int32) (lx29 : (Nat → Int32)), ∀ K : Nat, lx27.toInt + 1 = (K : Int) → t0_8.toInt ≤ (K : Int) → (K : Int) ≤ t0_9.toInt + 1 → K < n → (lx28 = 0 ∨ lx28 = 1) → trO lx29 → (∀ i, i < K → lx29 i = t1_0 i) → (∀ i : Nat, t0_9.toInt < (i : Int) → i < 800 → lx29 i = 0) → trV lx29 800 + lx28.toInt * 100000000 ^ (800 - K) = trV t1_0 800 + (trV t1_0 800 - trV t1_0 K * 100000000 ^ (800 - K)) → (K = t0_8.toNatClampNeg → t0_8.toInt = 54 ∨ lx28 = 1 ∨ lx29 t0_8.toNatClampNeg ≠ 0) → ∃ fr to w, (F_TR_twice_L7 t0_0 t0_1 t0_2 t0_3 t0_4 t0_5 t0_6 t0_7 t0_8 t0_9 t0_10 t0_11 t0_12 t0_13 t1_0 n lx27 lx28 lx29) = (t0_0, t0_1, t0_2, t0_3, t0_4, t0_5, t0_6, t0_7, fr, to, t0_10, t0_11, t0_12, t0_13, w) ∧ yW fr to w ∧ trV w 800 = 2 * trV t1_0 800 := by
  obtain ⟨w1, w2, w3, w4, w5, w6, w7⟩ := hW
  have c9 := q_clI (i := t0_9) rfl (by omega)
  have c8 := q_clI (i := t0_8) rfl (by omega)
  have e0 : (0 : Int32).toInt = 0 := rfl
  have e1 : (1 : Int32).toInt = 1 := rfl
  have em1 : (-1 : Int32).toInt = -1 := rfl
  intro n
  induction n with
  | zero =>
    intro lx27 lx28 lx29 K h0 h1 h2 h3
    omega
  | succ n ih =>
    intro lx27 lx28 lx29 K h0 h1 h2 h3 h4 h5 h6 h7 hv h10
    rw [F_TR_twice_L7.eq_2]
    by_cases g1 : lx27 < t0_8
    · rw [if_pos g1]
      have g2 := q_ltI g1
      obtain rfl : K = t0_8.toNatClampNeg := by omega
      have z0 : trV t1_0 t0_8.toNatClampNeg = 0 := trV_0 (fun i hi => w4 i (by omega))
      rw [z0, Int.zero_mul, Int.sub_zero] at hv
      have hz : ∀ i : Nat, (i : Int) < t0_8.toInt → lx29 i = 0 := fun i hi => by
        rw [h6 i (by omega)]
        exact w4 i hi
      unfold F_TR_twice_J71
      by_cases g3 : lx28 ≤ (0 : Int32)
      · rw [if_pos g3]
        have z : lx28 = 0 := by
          rcases h4 with z | z
          · exact z
          · rw [z] at g3
            exact absurd g3 (by decide)
        rw [z, e0, Int.zero_mul, Int.add_zero] at hv
        refine V_tw71 w1 h5 hz ?_ ?_ _ t0_9 (by omega) (by omega) (by omega) h7
        · rcases h10 rfl with d | d | d
          · exact Or.inl d
          · rw [z] at d
            exact absurd d (by decide)
          · exact Or.inr d
        · rw [hv]
          omega
      · rw [if_neg g3]
        have z : lx28 = 1 := by
          rcases h4 with z | z
          · rw [z] at g3
            exact absurd (show (0 : Int32) ≤ 0 by decide) g3
          · exact z
        have a1 : (t0_8 - 1 : Int32).toInt = t0_8.toInt - 1 := q_subI (y := 1) rfl rfl (by omega) (by omega)
        have a2 := q_clI a1 (by omega)
        have a3 : (t0_8 - 1 : Int32).toNatClampNeg = t0_8.toNatClampNeg - 1 := by omega
        rw [a3, z]
        refine V_tw71 ⟨by omega, by omega⟩ (h5.upd (by decide)) (fun i hi => ?_) (Or.inr ?_) ?_ _ t0_9 (by omega) (by omega) (by omega) (fun i hi hi2 => ?_)
        · unfold upd
          rw [if_neg (by omega)]
          exact hz i (by omega)
        · rw [a3]
          unfold upd
          rw [if_pos rfl]
          decide
        · rw [yV_u (by omega), hz _ (by omega), e1, e0, show 800 - 1 - (t0_8.toNatClampNeg - 1) = 800 - t0_8.toNatClampNeg by omega]
          rw [z, e1] at hv
          omega
        · unfold upd
          rw [if_neg (by omega)]
          exact h7 i hi hi2
    · rw [if_neg g1]
      have g2 := q_nltI g1
      obtain ⟨k, rfl⟩ : ∃ k, K = k + 1 := ⟨K - 1, by omega⟩
      have kc := q_clI (i := lx27) rfl (by omega)
      have kx : lx27.toNatClampNeg = k := by omega
      rw [kx, h6 k (by omega)]
      have f1 := w3 k (by omega)
      have lc : 0 ≤ lx28.toInt ∧ lx28.toInt ≤ 1 := by rcases h4 with z | z <;> rw [z] <;> decide
      obtain ⟨v1, v2⟩ := y_dbl f1 lc
      generalize ((2 * t1_0 k) + lx28) / 100000000 = nc at v1 v2 ⊢
      generalize (2 * t1_0 k) + lx28 - nc * 100000000 = nv at v2 ⊢
      have b1 : t0_8.toInt ≤ (k : Int) := by omega
      have b2 : (k : Int) ≤ t0_9.toInt + 1 := by omega
      have b3 : k < n := by omega
      have ea : (lx27 + (-1) : Int32).toInt + 1 = (k : Int) := by
        rw [q_addI (x := lx27.toInt) rfl em1 (by omega) (by omega)]
        omega
      generalize lx27 + (-1) = lxm at ea ⊢
      refine ih _ _ _ k ea b1 b2 b3 ?_ (h5.upd (by omega)) ?_ ?_ ?_ ?_
      · rcases Int.lt_or_le nc.toInt 1 with d | d
        · exact Or.inl (Int32.toInt_inj.mp (by rw [e0]; omega))
        · exact Or.inr (Int32.toInt_inj.mp (by rw [e1]; omega))
      · intro i hi
        unfold upd
        rw [if_neg (by omega)]
        exact h6 i (by omega)
      · intro i hi hi2
        unfold upd
        rw [if_neg (by omega)]
        exact h7 i hi hi2
      · have pE : (100000000 : Int) ^ (800 - k) = 100000000 ^ (800 - (k + 1)) * 100000000 := by
          rw [show 800 - k = (800 - (k + 1)) + 1 by omega, Int.pow_succ]
        have uS : trV t1_0 (k + 1) = trV t1_0 k * 100000000 + (t1_0 k).toInt := rfl
        rw [yV_u (by omega), h6 k (by omega), v1, v2, pE, show 800 - 1 - k = 800 - (k + 1) by omega]
        rw [uS] at hv
        have dm : 2 * (t1_0 k).toInt + lx28.toInt = 100000000 * ((2 * (t1_0 k).toInt + lx28.toInt) / 100000000) + (2 * (t1_0 k).toInt + lx28.toInt) % 100000000 := by omega
        generalize (2 * (t1_0 k).toInt + lx28.toInt) / 100000000 = qq at dm ⊢
        generalize (2 * (t1_0 k).toInt + lx28.toInt) % 100000000 = rr at dm ⊢
        generalize (100000000 : Int) ^ (800 - (k + 1)) = E at hv ⊢
        grind
      · intro hk
        rcases w5 with d | d
        · exact Or.inl d
        · refine Or.inr ?_
          rw [← hk] at d ⊢
          have : upd lx29 k nv k = nv := if_pos rfl
          rw [this]
          have d2 : (t1_0 k).toInt ≠ 0 := fun h => d (Int32.toInt_inj.mp (by rw [h]; rfl))
          by_cases z : nv = 0
          · refine Or.inl (Int32.toInt_inj.mp ?_)
            rw [z, e0] at v2
            rw [e1]
            omega
          · exact Or.inr z
theorem V_TR_twice {t0_0 : Int32} {t0_1 : Int32} {t0_2 : Int32} {t0_3 : Int32} {t0_4 : Int32} {t0_5 : Int32} {t0_6 : Int32} {t0_7 : Int64} {t0_8 : Int32} {t0_9 : Int32} {t0_10 : Int64} {t0_11 : Int64} {t0_12 : Int32} {t0_13 : Int32} {t1_0 : (Nat → Int32)} (hW : yW t0_8 t0_9 t1_0) (h8 : 1 ≤ t0_8.toInt) : ∃ fr to w, (F_TR_twice t0_0 t0_1 t0_2 t0_3 t0_4 t0_5 t0_6 t0_7 t0_8 t0_9 t0_10 t0_11 t0_12 t0_13 t1_0) = (t0_0, t0_1, t0_2, t0_3, t0_4, t0_5, t0_6, t0_7, fr, to, t0_10, t0_11, t0_12, t0_13, w) ∧ yW fr to w ∧ trV w 800 = 2 * trV t1_0 800 := by
  have hW2 := hW
  obtain ⟨w1, w2, w3, w4, w5, w6, w7⟩ := hW2
  have c9 := q_clI (i := t0_9) rfl (by omega)
  have c8 := q_clI (i := t0_8) rfl (by omega)
  unfold F_TR_twice
  refine V_tw7 hW h8 _ t0_9 0 t1_0 (t0_9.toNatClampNeg + 1) (by omega) (by omega) (by omega) (by omega) (Or.inl rfl) w3 (fun i _ => rfl) w6 ?_ (fun h => ?_)
  · have tz := yV_z (w := t1_0) (k := t0_9.toNatClampNeg + 1) (799 - t0_9.toNatClampNeg) (fun i i1 i2 => w6 i (by omega) (by omega))
    rw [show t0_9.toNatClampNeg + 1 + (799 - t0_9.toNatClampNeg) = 800 by omega] at tz
    rw [tz, show 800 - (t0_9.toNatClampNeg + 1) = 799 - t0_9.toNatClampNeg by omega, show (0 : Int32).toInt = 0 from rfl]
    omega
  · omega
