/-! values, for whole: the reference's DecimalRows: what division is made of -/
theorem V_luL {x2 : Int32} {x3 : Int32} {t0_0 : Int32} {t0_1 : Int32} {t0_2 : Int32} {t0_3 : Int64} {t0_4 : Int32} {t0_5 : Int32} {t0_6 : Int32} {t0_7 : Int32} {t0_8 : Int32} {t0_9 : Int32} {t0_10 : Int32} {t1_0 : (Nat → Int32)} {t2_0 : (Nat → Int32)} {t3_0 : (Nat → Int32)} {a30 : Int32} {D : Nat → Int × Int} {s c : Nat → Int32} {m z : Nat} (hD : dRv t1_0 t2_0 s c D) (hx : 0 ≤ x2.toInt ∧ x2.toInt ≤ 9) (hm : (t2_0 x2.toNatClampNeg).toInt = (m : Int)) (ha : a30.toInt = ((m + z : Nat) : Int)) (hz : m + z ≤ 2199) : ∀ (n : Nat) (lx35 : Int32) (lx36 : (Nat → Int32)), ∀ k : Nat, lx35.toInt = (k : Int) → k ≤ m + z → 4100 - k < n → (∀ i, i < k → lx36 i = pd t1_0 x2.toNatClampNeg m i) → (F_DR_loadUnder_L14 x2 x3 t0_0 t0_1 t0_2 t0_3 t0_4 t0_5 t0_6 t0_7 t0_8 t0_9 t0_10 t1_0 t2_0 t3_0 a30 n lx35 lx36).2.2.2.2.2.2.2.1 = a30 ∧ (∀ i, i < m + z → (F_DR_loadUnder_L14 x2 x3 t0_0 t0_1 t0_2 t0_3 t0_4 t0_5 t0_6 t0_7 t0_8 t0_9 t0_10 t1_0 t2_0 t3_0 a30 n lx35 lx36).2.2.2.2.2.2.2.2.2.2.2 i = pd t1_0 x2.toNatClampNeg m i) ∧ (F_DR_loadUnder_L14 x2 x3 t0_0 t0_1 t0_2 t0_3 t0_4 t0_5 t0_6 t0_7 t0_8 t0_9 t0_10 t1_0 t2_0 t3_0 a30 n lx35 lx36).1 = t0_0 ∧ (F_DR_loadUnder_L14 x2 x3 t0_0 t0_1 t0_2 t0_3 t0_4 t0_5 t0_6 t0_7 t0_8 t0_9 t0_10 t1_0 t2_0 t3_0 a30 n lx35 lx36).2.1 = t0_1 ∧ (F_DR_loadUnder_L14 x2 x3 t0_0 t0_1 t0_2 t0_3 t0_4 t0_5 t0_6 t0_7 t0_8 t0_9 t0_10 t1_0 t2_0 t3_0 a30 n lx35 lx36).2.2.1 = t0_2 ∧ (F_DR_loadUnder_L14 x2 x3 t0_0 t0_1 t0_2 t0_3 t0_4 t0_5 t0_6 t0_7 t0_8 t0_9 t0_10 t1_0 t2_0 t3_0 a30 n lx35 lx36).2.2.2.1 = t0_3 ∧ (F_DR_loadUnder_L14 x2 x3 t0_0 t0_1 t0_2 t0_3 t0_4 t0_5 t0_6 t0_7 t0_8 t0_9 t0_10 t1_0 t2_0 t3_0 a30 n lx35 lx36).2.2.2.2.1 = t0_4 ∧ (F_DR_loadUnder_L14 x2 x3 t0_0 t0_1 t0_2 t0_3 t0_4 t0_5 t0_6 t0_7 t0_8 t0_9 t0_10 t1_0 t2_0 t3_0 a30 n lx35 lx36).2.2.2.2.2.1 = t0_5 ∧ (F_DR_loadUnder_L14 x2 x3 t0_0 t0_1 t0_2 t0_3 t0_4 t0_5 t0_6 t0_7 t0_8 t0_9 t0_10 t1_0 t2_0 t3_0 a30 n lx35 lx36).2.2.2.2.2.2.1 = t0_6 ∧ (F_DR_loadUnder_L14 x2 x3 t0_0 t0_1 t0_2 t0_3 t0_4 t0_5 t0_6 t0_7 t0_8 t0_9 t0_10 t1_0 t2_0 t3_0 a30 n lx35 lx36).2.2.2.2.2.2.2.2.1 = t0_8 ∧ (F_DR_loadUnder_L14 x2 x3 t0_0 t0_1 t0_2 t0_3 t0_4 t0_5 t0_6 t0_7 t0_8 t0_9 t0_10 t1_0 t2_0 t3_0 a30 n lx35 lx36).2.2.2.2.2.2.2.2.2.1 = t0_9 ∧ (F_DR_loadUnder_L14 x2 x3 t0_0 t0_1 t0_2 t0_3 t0_4 t0_5 t0_6 t0_7 t0_8 t0_9 t0_10 t1_0 t2_0 t3_0 a30 n lx35 lx36).2.2.2.2.2.2.2.2.2.2.1 = t0_10 := by
  have hxc := q_clI (i := x2) rfl hx.1
  have hq := (hD.2 x2.toNatClampNeg (by omega)).1
  intro n
  induction n with
  | zero => intro _ _ k _ _ h; exact absurd h (Nat.not_lt_zero _)
  | succ n ih =>
    intro lx35 lx36 k hk hkN hkn ho
    have q0 := q_clI hk (by omega)
    have ix0 : lx35.toNatClampNeg = k := by omega
    rw [F_DR_loadUnder_L14.eq_2]
    by_cases c : a30 ≤ lx35
    · have c2 := q_leI c
      have ek : k = m + z := by omega
      subst ek
      rw [if_pos c]
      exact ⟨rfl, ho, rfl, rfl, rfl, rfl, rfl, rfl, rfl, rfl, rfl, rfl⟩
    · have c2 := q_nleI c
      have e1 : (lx35 + 1 : Int32).toInt = ((k + 1 : Nat) : Int) := by
        rw [q_addI (y := 1) hk rfl (by omega) (by omega)]
        omega
      rw [if_neg c]
      by_cases d : t2_0 x2.toNatClampNeg ≤ lx35
      · have d2 := q_leI d
        rw [if_pos d, ix0]
        refine ih _ _ (k + 1) e1 (by omega) (by omega) (fun i hi => ?_)
        by_cases ci : i = k
        · rw [ci, v_eq]
          exact (if_neg (by omega)).symm
        · rw [v_ne ci]
          exact ho i (by omega)
      · have d2 := q_nleI d
        have gx := (g_ix (k := lx35) hx ⟨by omega, by omega⟩).2
        rw [if_neg d, gx, ix0]
        refine ih _ _ (k + 1) e1 (by omega) (by omega) (fun i hi => ?_)
        by_cases ci : i = k
        · rw [ci, v_eq]
          exact (if_pos (by omega)).symm
        · rw [v_ne ci]
          exact ho i (by omega)
def QV_lu (U : Int) (Z : Nat) (a0 a1 a2 : Int32) (a3 : Int64) (a4 a5 a6 a8 a9 a10 : Int32) (p : Int32 × Int32 × Int32 × Int64 × Int32 × Int32 × Int32 × Int32 × Int32 × Int32 × Int32 × (Nat → Int32)) : Prop := p.2.2.2.2.2.2.2.1.toInt = (Z : Int) ∧ gO p.2.2.2.2.2.2.2.2.2.2.2 Z ∧ uV p.2.2.2.2.2.2.2.2.2.2.2 Z = U ∧ p.1 = a0 ∧ p.2.1 = a1 ∧ p.2.2.1 = a2 ∧ p.2.2.2.1 = a3 ∧ p.2.2.2.2.1 = a4 ∧ p.2.2.2.2.2.1 = a5 ∧ p.2.2.2.2.2.2.1 = a6 ∧ p.2.2.2.2.2.2.2.2.1 = a8 ∧ p.2.2.2.2.2.2.2.2.2.1 = a9 ∧ p.2.2.2.2.2.2.2.2.2.2.1 = a10
theorem V_DR_loadUnder {x2 : Int32} {x3 : Int32} {t0_0 : Int32} {t0_1 : Int32} {t0_2 : Int32} {t0_3 : Int64} {t0_4 : Int32} {t0_5 : Int32} {t0_6 : Int32} {t0_7 : Int32} {t0_8 : Int32} {t0_9 : Int32} {t0_10 : Int32} {t1_0 : (Nat → Int32)} {t2_0 : (Nat → Int32)} {t3_0 : (Nat → Int32)} {D : Nat → Int × Int} {s c : Nat → Int32} {z : Nat} (hD : dRv t1_0 t2_0 s c D) (hx : 0 ≤ x2.toInt ∧ x2.toInt ≤ 9) (h3 : x3.toInt = (z : Int)) (hz : (t2_0 x2.toNatClampNeg).toNatClampNeg + z ≤ 2199) : QV_lu (((D x2.toNatClampNeg).1.natAbs : Int) * 10 ^ z) ((t2_0 x2.toNatClampNeg).toNatClampNeg + z) t0_0 t0_1 t0_2 t0_3 t0_4 t0_5 t0_6 t0_8 t0_9 t0_10 (F_DR_loadUnder x2 x3 t0_0 t0_1 t0_2 t0_3 t0_4 t0_5 t0_6 t0_7 t0_8 t0_9 t0_10 t1_0 t2_0 t3_0) := by
  have hxc := q_clI (i := x2) rfl hx.1
  obtain ⟨a1, a2, _⟩ := hD.2 x2.toNatClampNeg (by omega)
  have ma := q_clI (i := t2_0 x2.toNatClampNeg) rfl (by omega)
  have ea : (t2_0 x2.toNatClampNeg + x3 : Int32).toInt = (((t2_0 x2.toNatClampNeg).toNatClampNeg + z : Nat) : Int) := by
    rw [q_addI rfl h3 (by omega) (by omega)]
    omega
  unfold F_DR_loadUnder
  obtain ⟨h7, h11, h0, h1, h2, h3, h4, h5, h6, h8, h9, h10⟩ := V_luL (t0_0 := t0_0) (t0_1 := t0_1) (t0_2 := t0_2) (t0_3 := t0_3) (t0_4 := t0_4) (t0_5 := t0_5) (t0_6 := t0_6) (t0_7 := t0_7) (t0_8 := t0_8) (t0_9 := t0_9) (t0_10 := t0_10) (x3 := x3) (t3_0 := t3_0) hD hx ma.symm ea hz (((4100 - (0 : Int32).toInt).toNat + 1)) 0 t3_0 0 rfl (Nat.zero_le _) (by decide) (fun i h => absurd h (Nat.not_lt_zero _))
  refine ⟨by rw [h7]; exact ea, fun i hi => ?_, ?_, h0, h1, h2, h3, h4, h5, h6, h8, h9, h10⟩
  · rw [h11 i hi]
    exact pd_gO hD.1 (by omega) (by omega) _ i hi
  · rw [u_ext h11, pd_V, a2]
theorem V_DR_append {x2 : Int32} {t0_0 : Int32} {t0_1 : Int32} {t0_2 : Int32} {t0_3 : Int64} {t0_4 : Int32} {t0_5 : Int32} {t0_6 : Int32} {t0_7 : Int32} {t0_8 : Int32} {t0_9 : Int32} {t0_10 : Int32} {t1_0 : (Nat → Int32)} {v : Int} (h2 : 0 ≤ t0_2.toInt ∧ t0_2.toInt ≤ 4398) (hg : gO t1_0 t0_2.toNatClampNeg) (hv : uV t1_0 t0_2.toNatClampNeg = v) (hx : 0 ≤ x2.toInt ∧ x2.toInt ≤ 9) (hz : t0_2.toInt = 0 ∨ t1_0 0 ≠ 0) : (t0_2.toInt ≤ (F_DR_append x2 t0_0 t0_1 t0_2 t0_3 t0_4 t0_5 t0_6 t0_7 t0_8 t0_9 t0_10 t1_0).2.2.1.toInt ∧ (F_DR_append x2 t0_0 t0_1 t0_2 t0_3 t0_4 t0_5 t0_6 t0_7 t0_8 t0_9 t0_10 t1_0).2.2.1.toInt ≤ t0_2.toInt + 1) ∧ gO (F_DR_append x2 t0_0 t0_1 t0_2 t0_3 t0_4 t0_5 t0_6 t0_7 t0_8 t0_9 t0_10 t1_0).2.2.2.2.2.2.2.2.2.2.2 (F_DR_append x2 t0_0 t0_1 t0_2 t0_3 t0_4 t0_5 t0_6 t0_7 t0_8 t0_9 t0_10 t1_0).2.2.1.toNatClampNeg ∧ ((F_DR_append x2 t0_0 t0_1 t0_2 t0_3 t0_4 t0_5 t0_6 t0_7 t0_8 t0_9 t0_10 t1_0).2.2.1.toInt = 0 ∨ (F_DR_append x2 t0_0 t0_1 t0_2 t0_3 t0_4 t0_5 t0_6 t0_7 t0_8 t0_9 t0_10 t1_0).2.2.2.2.2.2.2.2.2.2.2 0 ≠ 0) ∧ uV (F_DR_append x2 t0_0 t0_1 t0_2 t0_3 t0_4 t0_5 t0_6 t0_7 t0_8 t0_9 t0_10 t1_0).2.2.2.2.2.2.2.2.2.2.2 (F_DR_append x2 t0_0 t0_1 t0_2 t0_3 t0_4 t0_5 t0_6 t0_7 t0_8 t0_9 t0_10 t1_0).2.2.1.toNatClampNeg = v * 10 + x2.toInt ∧ (v ≠ 0 → (F_DR_append x2 t0_0 t0_1 t0_2 t0_3 t0_4 t0_5 t0_6 t0_7 t0_8 t0_9 t0_10 t1_0).2.2.1.toInt = t0_2.toInt + 1) := by
  have e0 : (0 : Int32).toInt = 0 := rfl
  have hn := q_clI (i := t0_2) rfl h2.1
  have e1 : (t0_2 + 1 : Int32).toInt = t0_2.toInt + 1 := q_addI (y := 1) rfl rfl (by omega) (by omega)
  have e1c := q_clI e1 (by omega)
  have en : (t0_2 + 1 : Int32).toNatClampNeg = t0_2.toNatClampNeg + 1 := by omega
  have vp : uV (upd t1_0 t0_2.toNatClampNeg x2) (t0_2 + 1 : Int32).toNatClampNeg = v * 10 + x2.toInt := by
    rw [en]
    show uV (upd t1_0 t0_2.toNatClampNeg x2) t0_2.toNatClampNeg * 10 + (upd t1_0 t0_2.toNatClampNeg x2 t0_2.toNatClampNeg).toInt = _
    rw [u_updge (Nat.le_refl _), v_eq, hv]
  have gp : gO (upd t1_0 t0_2.toNatClampNeg x2) (t0_2 + 1 : Int32).toNatClampNeg := by
    rw [en]
    exact gO_push hg hx
  unfold F_DR_append
  by_cases c : 0 < t0_2
  · have c2 := q_ltI c
    rw [if_pos c]
    refine ⟨⟨by show _ ≤ (t0_2 + 1 : Int32).toInt; omega, by show (t0_2 + 1 : Int32).toInt ≤ _; omega⟩, gp, Or.inr ?_, vp, fun _ => e1⟩
    show upd t1_0 t0_2.toNatClampNeg x2 0 ≠ 0
    rw [v_ne (by omega)]
    exact hz.resolve_left (by omega)
  · have c2 := q_nltI c
    have z0 : t0_2.toInt = 0 := by omega
    have n0 : t0_2.toNatClampNeg = 0 := by omega
    have v0 : v = 0 := by
      rw [← hv, n0]
      rfl
    rw [if_neg c]
    by_cases d : x2 ≤ 0
    · have d2 := q_leI d
      have x0 : x2.toInt = 0 := by omega
      rw [if_pos d]
      refine ⟨⟨Int.le_refl _, by show t0_2.toInt ≤ _; omega⟩, hg, Or.inl z0, ?_, fun h => absurd v0 h⟩
      show uV t1_0 t0_2.toNatClampNeg = _
      rw [hv, v0, x0]
      rfl
    · have d2 := q_nleI d
      rw [if_neg d]
      refine ⟨⟨by show _ ≤ (t0_2 + 1 : Int32).toInt; omega, by show (t0_2 + 1 : Int32).toInt ≤ _; omega⟩, gp, Or.inr ?_, vp, fun _ => e1⟩
      show ¬ upd t1_0 t0_2.toNatClampNeg x2 0 = 0
      rw [n0, v_eq]
      intro h
      rw [h] at d2
      omega
theorem V_ilL {t0_0 : Int32} {t0_1 : Int32} {t0_2 : Int32} {t0_3 : Int64} {t0_4 : Int32} {t0_5 : Int32} {t0_6 : Int32} {t0_7 : Int32} {t0_8 : Int32} {t0_9 : Int32} {t0_10 : Int32} {t1_0 : (Nat → Int32)} {z : Nat} (h7 : t0_7.toInt = (z : Int)) (hz : z ≤ 2200) : ∀ (n : Nat) (lx22 : Int32) (lx23 : Int32), ∀ k : Nat, lx22.toInt = (k : Int) → k ≤ z + 1 → z + 1 - k < n → (lx23 = 0 ∨ lx23 = 1) → ((F_DR_isLeft_L4 t0_0 t0_1 t0_2 t0_3 t0_4 t0_5 t0_6 t0_7 t0_8 t0_9 t0_10 t1_0 n lx22 lx23) = 0 ∨ (F_DR_isLeft_L4 t0_0 t0_1 t0_2 t0_3 t0_4 t0_5 t0_6 t0_7 t0_8 t0_9 t0_10 t1_0 n lx22 lx23) = 1) ∧ ((F_DR_isLeft_L4 t0_0 t0_1 t0_2 t0_3 t0_4 t0_5 t0_6 t0_7 t0_8 t0_9 t0_10 t1_0 n lx22 lx23) = 0 ↔ (lx23 = 0 ∧ ∀ i, k ≤ i → i < z + 1 → t1_0 i = 0)) := by
  have z1 : ¬ (1 : Int32) = 0 := by decide
  intro n
  induction n with
  | zero => intro _ _ k _ _ h; exact absurd h (Nat.not_lt_zero _)
  | succ n ih =>
    intro lx22 lx23 k hk hkz hkn hf
    have q0 := q_clI hk (by omega)
    have ix0 : lx22.toNatClampNeg = k := by omega
    rw [F_DR_isLeft_L4.eq_2, ix0]
    by_cases c : t0_7 < lx22
    · have c2 := q_ltI c
      rw [if_pos c]
      exact ⟨hf, fun h => ⟨h, fun i h1 h2 => by omega⟩, fun h => h.1⟩
    · have c2 := q_nltI c
      have e1 : (lx22 + 1 : Int32).toInt = ((k + 1 : Nat) : Int) := by
        rw [q_addI (y := 1) hk rfl (by omega) (by omega)]
        omega
      rw [if_neg c]
      by_cases d : lx23 = 0
      · rw [if_pos d]
        by_cases f : t1_0 k = 0
        · rw [if_pos f]
          obtain ⟨r1, r2⟩ := ih (lx22 + 1) 0 (k + 1) e1 (by omega) (by omega) (Or.inl rfl)
          refine ⟨r1, fun h => ⟨d, fun i i1 i2 => ?_⟩, fun h => r2.mpr ⟨rfl, fun i i1 i2 => h.2 i (by omega) i2⟩⟩
          by_cases ci : i = k
          · rw [ci]
            exact f
          · exact (r2.mp h).2 i (by omega) i2
        · rw [if_neg f]
          obtain ⟨r1, r2⟩ := ih (lx22 + 1) 1 (k + 1) e1 (by omega) (by omega) (Or.inr rfl)
          exact ⟨r1, fun h => absurd (r2.mp h).1 z1, fun h => absurd (h.2 k (Nat.le_refl _) (by omega)) f⟩
      · rw [if_neg d]
        obtain ⟨r1, r2⟩ := ih (lx22 + 1) 1 (k + 1) e1 (by omega) (by omega) (Or.inr rfl)
        exact ⟨r1, fun h => absurd (r2.mp h).1 z1, fun h => absurd h.1 d⟩
theorem V_DR_isLeft {t0_0 : Int32} {t0_1 : Int32} {t0_2 : Int32} {t0_3 : Int64} {t0_4 : Int32} {t0_5 : Int32} {t0_6 : Int32} {t0_7 : Int32} {t0_8 : Int32} {t0_9 : Int32} {t0_10 : Int32} {t1_0 : (Nat → Int32)} {z : Nat} (h7 : t0_7.toInt = (z : Int)) (hz : z ≤ 2200) (hg : gO t1_0 (z + 1)) : ((F_DR_isLeft t0_0 t0_1 t0_2 t0_3 t0_4 t0_5 t0_6 t0_7 t0_8 t0_9 t0_10 t1_0) = 0 ∨ (F_DR_isLeft t0_0 t0_1 t0_2 t0_3 t0_4 t0_5 t0_6 t0_7 t0_8 t0_9 t0_10 t1_0) = 1) ∧ ((F_DR_isLeft t0_0 t0_1 t0_2 t0_3 t0_4 t0_5 t0_6 t0_7 t0_8 t0_9 t0_10 t1_0) = 0 ↔ uV t1_0 (z + 1) = 0) := by
  unfold F_DR_isLeft
  obtain ⟨r1, r2⟩ := V_ilL (t0_0 := t0_0) (t0_1 := t0_1) (t0_2 := t0_2) (t0_3 := t0_3) (t0_4 := t0_4) (t0_5 := t0_5) (t0_6 := t0_6) (t0_8 := t0_8) (t0_9 := t0_9) (t0_10 := t0_10) (t1_0 := t1_0) h7 hz 1000000 0 0 0 rfl (Nat.zero_le _) (by omega) (Or.inl rfl)
  refine ⟨r1, fun h => u_zer (fun i hi => (r2.mp h).2 i (Nat.zero_le _) hi), fun h => r2.mpr ⟨rfl, fun i _ i2 => u_zerI hg h i i2⟩⟩
