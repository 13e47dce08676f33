/-! values, for whole: the reference's DecimalRows: compareSizes, compare -/
def pd (k : Nat → Int32) (r m : Nat) : Nat → Int32 := fun i => if i < m then k (1000 * r + i) else 0
theorem pd_gO {k : Nat → Int32} {r m : Nat} (hk : gO k 10000) (hr : r < 10) (hm : m ≤ 1000) (L : Nat) : gO (pd k r m) L := fun i _ => by
  unfold pd
  split
  · exact hk _ (by omega)
  · exact ⟨by decide, by decide⟩
theorem pd_V {k : Nat → Int32} {r m : Nat} (j : Nat) : uV (pd k r m) (m + j) = uV (fun i => k (1000 * r + i)) m * 10 ^ j := by
  have e : uV (pd k r m) (m + j) = uV (pd k r m) m * 10 ^ j := u_tail (fun i i1 _ => if_neg (by omega))
  rw [e, u_ext (f := pd k r m) (g := fun i => k (1000 * r + i)) (fun i hi => if_pos hi)]
theorem V_csL {x2 : Int32} {x3 : Int32} {t0_0 : Int32} {t0_1 : Int32} {t0_2 : Int32} {t0_3 : Int64} {t0_4 : Int32} {t0_5 : Int32} {t0_6 : Int32} {t0_7 : Int32} {t0_8 : Int32} {t0_9 : Int32} {t0_10 : Int32} {t1_0 : (Nat → Int32)} {t2_0 : (Nat → Int32)} {t3_0 : (Nat → Int32)} {ma mb : Nat} (hk : gO t1_0 10000) (hx2 : 0 ≤ x2.toInt ∧ x2.toInt ≤ 9) (hx3 : 0 ≤ x3.toInt ∧ x3.toInt ≤ 9) (hma : (t2_0 x2.toNatClampNeg).toInt = (ma : Int)) (hmb : (t2_0 x3.toNatClampNeg).toInt = (mb : Int)) (ha : ma ≤ 1000) (hb : mb ≤ 1000) : ∀ (n : Nat) (lx62 : Int32), ∀ k : Nat, lx62.toInt = (k : Int) → k ≤ 1000 → 1001 - k < n → uV (pd t1_0 x2.toNatClampNeg ma) k = uV (pd t1_0 x3.toNatClampNeg mb) k → ((F_DR_compareSizes_L56 x2 x3 t0_0 t0_1 t0_2 t0_3 t0_4 t0_5 t0_6 t0_7 t0_8 t0_9 t0_10 t1_0 t2_0 t3_0 n lx62) = -1 ∧ ∀ L, ma ≤ L → mb ≤ L → uV (pd t1_0 x2.toNatClampNeg ma) L < uV (pd t1_0 x3.toNatClampNeg mb) L) ∨ ((F_DR_compareSizes_L56 x2 x3 t0_0 t0_1 t0_2 t0_3 t0_4 t0_5 t0_6 t0_7 t0_8 t0_9 t0_10 t1_0 t2_0 t3_0 n lx62) = 0 ∧ ∀ L, ma ≤ L → mb ≤ L → uV (pd t1_0 x2.toNatClampNeg ma) L = uV (pd t1_0 x3.toNatClampNeg mb) L) ∨ ((F_DR_compareSizes_L56 x2 x3 t0_0 t0_1 t0_2 t0_3 t0_4 t0_5 t0_6 t0_7 t0_8 t0_9 t0_10 t1_0 t2_0 t3_0 n lx62) = 1 ∧ ∀ L, ma ≤ L → mb ≤ L → uV (pd t1_0 x3.toNatClampNeg mb) L < uV (pd t1_0 x2.toNatClampNeg ma) L) := by
  have h2c := q_clI (i := x2) rfl hx2.1
  have h3c := q_clI (i := x3) rfl hx3.1
  have ga := pd_gO (r := x2.toNatClampNeg) hk (by omega) ha
  have gb := pd_gO (r := x3.toNatClampNeg) hk (by omega) hb
  intro n
  induction n with
  | zero => intro _ k _ _ h; exact absurd h (Nat.not_lt_zero _)
  | succ n ih =>
    intro lx62 k hk0 hk1 hkn hv
    have q0 := q_clI hk0 (by omega)
    have ix0 : lx62.toNatClampNeg = k := by omega
    have g2 := (g_ix (k := lx62) hx2 ⟨by omega, by omega⟩).2
    have g3 := (g_ix (k := lx62) hx3 ⟨by omega, by omega⟩).2
    rw [ix0] at g2 g3
    -- the two figures
    have key : (k < ma ∨ k < mb) → ∀ (a b : Int32), a = pd t1_0 x2.toNatClampNeg ma k → b = pd t1_0 x3.toNatClampNeg mb k → ((F_DR_compareSizes_J136 (F_DR_compareSizes_L56 x2 x3 t0_0 t0_1 t0_2 t0_3 t0_4 t0_5 t0_6 t0_7 t0_8 t0_9 t0_10 t1_0 t2_0 t3_0 n) x2 x3 t0_0 t0_1 t0_2 t0_3 t0_4 t0_5 t0_6 t0_7 t0_8 t0_9 t0_10 t1_0 t2_0 t3_0 lx62 a b) = -1 ∧ ∀ L, ma ≤ L → mb ≤ L → uV (pd t1_0 x2.toNatClampNeg ma) L < uV (pd t1_0 x3.toNatClampNeg mb) L) ∨ ((F_DR_compareSizes_J136 (F_DR_compareSizes_L56 x2 x3 t0_0 t0_1 t0_2 t0_3 t0_4 t0_5 t0_6 t0_7 t0_8 t0_9 t0_10 t1_0 t2_0 t3_0 n) x2 x3 t0_0 t0_1 t0_2 t0_3 t0_4 t0_5 t0_6 t0_7 t0_8 t0_9 t0_10 t1_0 t2_0 t3_0 lx62 a b) = 0 ∧ ∀ L, ma ≤ L → mb ≤ L → uV (pd t1_0 x2.toNatClampNeg ma) L = uV (pd t1_0 x3.toNatClampNeg mb) L) ∨ ((F_DR_compareSizes_J136 (F_DR_compareSizes_L56 x2 x3 t0_0 t0_1 t0_2 t0_3 t0_4 t0_5 t0_6 t0_7 t0_8 t0_9 t0_10 t1_0 t2_0 t3_0 n) x2 x3 t0_0 t0_1 t0_2 t0_3 t0_4 t0_5 t0_6 t0_7 t0_8 t0_9 t0_10 t1_0 t2_0 t3_0 lx62 a b) = 1 ∧ ∀ L, ma ≤ L → mb ≤ L → uV (pd t1_0 x3.toNatClampNeg mb) L < uV (pd t1_0 x2.toNatClampNeg ma) L) := fun hlt a b ea eb => by
      have e1 : (lx62 + 1 : Int32).toInt = ((k + 1 : Nat) : Int) := by
        rw [q_addI (y := 1) hk0 rfl (by omega) (by omega)]
        omega
      unfold F_DR_compareSizes_J136
      by_cases c : a = b
      · rw [if_pos c]
        refine ih _ (k + 1) e1 (by omega) (by omega) ?_
        show uV (pd t1_0 x2.toNatClampNeg ma) k * 10 + (pd t1_0 x2.toNatClampNeg ma k).toInt = uV (pd t1_0 x3.toNatClampNeg mb) k * 10 + (pd t1_0 x3.toNatClampNeg mb k).toInt
        rw [hv, ← ea, ← eb, c]
      · rw [if_neg c]
        by_cases d : b ≤ a
        · have d2 := q_leI d
          have d3 : b.toInt ≠ a.toInt := fun e => c (Int32.toInt_inj.mp e).symm
          rw [if_pos d]
          exact Or.inr (Or.inr ⟨rfl, fun L l1 l2 => u_cmp hv.symm (by rw [← ea, ← eb]; omega) (by omega) (gb L) (ga L)⟩)
        · have d2 := q_nleI d
          rw [if_neg d]
          exact Or.inl ⟨rfl, fun L l1 l2 => u_cmp hv (by rw [← ea, ← eb]; omega) (by omega) (ga L) (gb L)⟩
    have key2 : (k < ma ∨ k < mb) → ((F_DR_compareSizes_J78 (F_DR_compareSizes_L56 x2 x3 t0_0 t0_1 t0_2 t0_3 t0_4 t0_5 t0_6 t0_7 t0_8 t0_9 t0_10 t1_0 t2_0 t3_0 n) x2 x3 t0_0 t0_1 t0_2 t0_3 t0_4 t0_5 t0_6 t0_7 t0_8 t0_9 t0_10 t1_0 t2_0 t3_0 lx62) = -1 ∧ ∀ L, ma ≤ L → mb ≤ L → uV (pd t1_0 x2.toNatClampNeg ma) L < uV (pd t1_0 x3.toNatClampNeg mb) L) ∨ ((F_DR_compareSizes_J78 (F_DR_compareSizes_L56 x2 x3 t0_0 t0_1 t0_2 t0_3 t0_4 t0_5 t0_6 t0_7 t0_8 t0_9 t0_10 t1_0 t2_0 t3_0 n) x2 x3 t0_0 t0_1 t0_2 t0_3 t0_4 t0_5 t0_6 t0_7 t0_8 t0_9 t0_10 t1_0 t2_0 t3_0 lx62) = 0 ∧ ∀ L, ma ≤ L → mb ≤ L → uV (pd t1_0 x2.toNatClampNeg ma) L = uV (pd t1_0 x3.toNatClampNeg mb) L) ∨ ((F_DR_compareSizes_J78 (F_DR_compareSizes_L56 x2 x3 t0_0 t0_1 t0_2 t0_3 t0_4 t0_5 t0_6 t0_7 t0_8 t0_9 t0_10 t1_0 t2_0 t3_0 n) x2 x3 t0_0 t0_1 t0_2 t0_3 t0_4 t0_5 t0_6 t0_7 t0_8 t0_9 t0_10 t1_0 t2_0 t3_0 lx62) = 1 ∧ ∀ L, ma ≤ L → mb ≤ L → uV (pd t1_0 x3.toNatClampNeg mb) L < uV (pd t1_0 x2.toNatClampNeg ma) L) := fun hlt => by
      unfold F_DR_compareSizes_J78
      by_cases c : t2_0 x2.toNatClampNeg ≤ lx62
      · have c2 := q_leI c
        rw [if_pos c]
        unfold F_DR_compareSizes_J106
        by_cases d : t2_0 x3.toNatClampNeg ≤ lx62
        · have d2 := q_leI d
          omega
        · have d2 := q_nleI d
          rw [if_neg d, g3]
          exact key hlt _ _ (if_neg (by omega)).symm (if_pos (by omega)).symm
      · have c2 := q_nleI c
        rw [if_neg c, g2]
        unfold F_DR_compareSizes_J106
        by_cases d : t2_0 x3.toNatClampNeg ≤ lx62
        · have d2 := q_leI d
          rw [if_pos d]
          exact key hlt _ _ (if_pos (by omega)).symm (if_neg (by omega)).symm
        · have d2 := q_nleI d
          rw [if_neg d, g3]
          exact key hlt _ _ (if_pos (by omega)).symm (if_pos (by omega)).symm
    rw [F_DR_compareSizes_L56.eq_2]
    by_cases c : lx62 < t2_0 x2.toNatClampNeg
    · have c2 := q_ltI c
      rw [if_pos c]
      exact key2 (Or.inl (by omega))
    · have c2 := q_nltI c
      rw [if_neg c]
      by_cases d : t2_0 x3.toNatClampNeg ≤ lx62
      · have d2 := q_leI d
        rw [if_pos d]
        refine Or.inr (Or.inl ⟨rfl, fun L l1 l2 => ?_⟩)
        obtain ⟨j, hj⟩ : ∃ j, L = k + j ∨ L + j = k := ⟨if k ≤ L then L - k else k - L, by split <;> omega⟩
        rcases hj with hj | hj
        · rw [hj, u_tail (f := pd t1_0 x2.toNatClampNeg ma) (fun i i1 _ => if_neg (by omega)), u_tail (f := pd t1_0 x3.toNatClampNeg mb) (fun i i1 _ => if_neg (by omega)), hv]
        · rw [← hj, u_tail (f := pd t1_0 x2.toNatClampNeg ma) (fun i i1 _ => if_neg (by omega)), u_tail (f := pd t1_0 x3.toNatClampNeg mb) (fun i i1 _ => if_neg (by omega))] at hv
          exact Int.eq_of_mul_eq_mul_right (Int.ne_of_gt (u_pos j)) hv
      · have d2 := q_nleI d
        rw [if_neg d]
        exact key2 (Or.inr (by omega))
theorem d_bd {v : Int} {m d : Nat} (h : vG v m) (hv : v ≠ 0) : (10 : Int) ^ (m - 1 + d) ≤ (v.natAbs : Int) * 10 ^ d ∧ (v.natAbs : Int) * 10 ^ d < 10 ^ (m + d) := by
  obtain ⟨⟨h1, h2, h3⟩, _⟩ := h
  have a1 : (10 : Int) ^ (m - 1) ≤ (v.natAbs : Int) := by
    have := Int.ofNat_le.mpr (h3 hv)
    rw [Int.natCast_pow] at this
    exact this
  have a2 : (v.natAbs : Int) < 10 ^ m := by
    have := Int.ofNat_lt.mpr h2
    rw [Int.natCast_pow] at this
    exact this
  rw [Int.pow_add, Int.pow_add]
  exact ⟨Int.mul_le_mul_of_nonneg_right a1 (Int.le_of_lt (u_pos d)), Int.mul_lt_mul_of_pos_right a2 (u_pos d)⟩
theorem u_00 (f g : Nat → Int32) : uV f 0 = uV g 0 := by
  show (0 : Int) = 0
  rfl
theorem V_DR_compareSizes {x2 : Int32} {x3 : Int32} {t0_0 : Int32} {t0_1 : Int32} {t0_2 : Int32} {t0_3 : Int64} {t0_4 : Int32} {t0_5 : Int32} {t0_6 : Int32} {t0_7 : Int32} {t0_8 : Int32} {t0_9 : Int32} {t0_10 : Int32} {t1_0 : (Nat → Int32)} {t2_0 : (Nat → Int32)} {t3_0 : (Nat → Int32)} {D : Nat → Int × Int} {s : Nat → Int32} {dX dY : Nat} (hD : dRv t1_0 t2_0 s t3_0 D) (hx2 : 0 ≤ x2.toInt ∧ x2.toInt ≤ 9) (hx3 : 0 ≤ x3.toInt ∧ x3.toInt ≤ 9) (ha : (D x2.toNatClampNeg).1 ≠ 0) (hb : (D x3.toNatClampNeg).1 ≠ 0) (hd : (D x2.toNatClampNeg).2 + dX = (D x3.toNatClampNeg).2 + dY) : wC (F_DR_compareSizes x2 x3 t0_0 t0_1 t0_2 t0_3 t0_4 t0_5 t0_6 t0_7 t0_8 t0_9 t0_10 t1_0 t2_0 t3_0) (((D x2.toNatClampNeg).1.natAbs : Int) * 10 ^ dX) (((D x3.toNatClampNeg).1.natAbs : Int) * 10 ^ dY) := by
  have e0 : (0 : Int32).toInt = 0 := rfl
  have h2c := q_clI (i := x2) rfl hx2.1
  have h3c := q_clI (i := x3) rfl hx3.1
  obtain ⟨a1, a2, a3, a4, a5, a6⟩ := hD.2 x2.toNatClampNeg (by omega)
  obtain ⟨b1, b2, b3, b4, b5, b6⟩ := hD.2 x3.toNatClampNeg (by omega)
  have ma := q_clI (i := t2_0 x2.toNatClampNeg) rfl (by omega)
  have mb := q_clI (i := t2_0 x3.toNatClampNeg) rfl (by omega)
  have s1 : ((t2_0 x2.toNatClampNeg).toInt64 - (t3_0 x2.toNatClampNeg).toInt64 : Int64).toInt = (t2_0 x2.toNatClampNeg).toInt - (D x2.toNatClampNeg).2 := q_subL (Int32.toInt_toInt64 _) ((Int32.toInt_toInt64 _).trans a5) (by omega) (by omega)
  have s2 : ((t2_0 x3.toNatClampNeg).toInt64 - (t3_0 x3.toNatClampNeg).toInt64 : Int64).toInt = (t2_0 x3.toNatClampNeg).toInt - (D x3.toNatClampNeg).2 := q_subL (Int32.toInt_toInt64 _) ((Int32.toInt_toInt64 _).trans b5) (by omega) (by omega)
  unfold F_DR_compareSizes
  generalize (t2_0 x2.toNatClampNeg).toInt64 - (t3_0 x2.toNatClampNeg).toInt64 = P at s1 ⊢
  generalize (t2_0 x3.toNatClampNeg).toInt64 - (t3_0 x3.toNatClampNeg).toInt64 = Q at s2 ⊢
  have lc := s_lcmp (a := P) (b := Q)
  by_cases c : lg_cmp P Q = 0
  · have c2 := q_eqI c
    have eq : P.toInt = Q.toInt := by omega
    rw [if_pos c]
    have T1 : (t2_0 x2.toNatClampNeg).toNatClampNeg + dX = (t2_0 x3.toNatClampNeg).toNatClampNeg + dY := by omega
    have h := V_csL (t0_0 := t0_0) (t0_1 := t0_1) (t0_2 := t0_2) (t0_3 := t0_3) (t0_4 := t0_4) (t0_5 := t0_5) (t0_6 := t0_6) (t0_7 := t0_7) (t0_8 := t0_8) (t0_9 := t0_9) (t0_10 := t0_10) (t3_0 := t3_0) hD.1 hx2 hx3 ma.symm mb.symm (by omega) (by omega) 1000000 0 0 rfl (by omega) (by omega) (u_00 _ _)
    have vx := pd_V (k := t1_0) (r := x2.toNatClampNeg) (m := (t2_0 x2.toNatClampNeg).toNatClampNeg) dX
    have vy := pd_V (k := t1_0) (r := x3.toNatClampNeg) (m := (t2_0 x3.toNatClampNeg).toNatClampNeg) dY
    rw [a2] at vx
    rw [b2] at vy
    generalize F_DR_compareSizes_L56 x2 x3 t0_0 t0_1 t0_2 t0_3 t0_4 t0_5 t0_6 t0_7 t0_8 t0_9 t0_10 t1_0 t2_0 t3_0 1000000 0 = cc at h ⊢
    rcases h with ⟨h1, h2⟩ | ⟨h1, h2⟩ | ⟨h1, h2⟩
    · have h3 := h2 _ (Nat.le_add_right _ dX) (by omega)
      rw [vx, T1, vy] at h3
      exact Or.inr (Or.inr ⟨h1, h3⟩)
    · have h3 := h2 _ (Nat.le_add_right _ dX) (by omega)
      rw [vx, T1, vy] at h3
      exact Or.inl ⟨h1, h3⟩
    · have h3 := h2 _ (Nat.le_add_right _ dX) (by omega)
      rw [vx, T1, vy] at h3
      exact Or.inr (Or.inl ⟨h1, h3⟩)
  · rw [if_neg c]
    have c2 := q_neI c
    by_cases d : 0 ≤ lg_cmp P Q
    · have d2 := g_lc5 d
      rw [if_pos d]
      have ne : P.toInt ≠ Q.toInt := by
        have := q_leI d
        omega
      have h4 : (10 : Int) ^ ((t2_0 x3.toNatClampNeg).toNatClampNeg + dY) ≤ 10 ^ ((t2_0 x2.toNatClampNeg).toNatClampNeg - 1 + dX) := u_pwle (by omega)
      exact Or.inr (Or.inl ⟨rfl, Int.lt_of_lt_of_le (d_bd (d := dY) b3 hb).2 (Int.le_trans h4 (d_bd (d := dX) a3 ha).1)⟩)
    · have d2 := g_lc6 d
      rw [if_neg d]
      have h4 : (10 : Int) ^ ((t2_0 x2.toNatClampNeg).toNatClampNeg + dX) ≤ 10 ^ ((t2_0 x3.toNatClampNeg).toNatClampNeg - 1 + dY) := u_pwle (by omega)
      exact Or.inr (Or.inr ⟨rfl, Int.lt_of_lt_of_le (d_bd (d := dX) a3 ha).2 (Int.le_trans h4 (d_bd (d := dY) b3 hb).1)⟩)
theorem d_z0 {k m s c : Nat → Int32} {D : Nat → Int × Int} {x : Int32} (hD : dRv k m s c D) (hx : 0 ≤ x.toInt ∧ x.toInt ≤ 9) : k (1000 * x : Int32).toNatClampNeg = 0 ↔ (D x.toNatClampNeg).1 = 0 := by
  have hc := q_clI (i := x) rfl hx.1
  obtain ⟨a1, a2, a3, _⟩ := hD.2 x.toNatClampNeg (by omega)
  have hm := q_clI (i := m x.toNatClampNeg) rfl (by omega)
  have hg : gO (fun j => k (1000 * x.toNatClampNeg + j)) (m x.toNatClampNeg).toNatClampNeg := fun j hj => hD.1 _ (by omega)
  have e : (1000 * x : Int32).toNatClampNeg = 1000 * x.toNatClampNeg + 0 := by
    have := q_clI (i := 1000 * x) (g_i0 hx) (by omega)
    omega
  rw [e]
  constructor
  · intro h
    by_cases z : (D x.toNatClampNeg).1 = 0
    · exact z
    · exfalso
      refine u_ld hg (by omega) ?_ ?_ h
      · rw [a2]
        exact vG_abs a3 (Int.natAbs_natCast _)
      · rw [a2]
        omega
  · intro h
    exact u_hd hg (by omega) (by rw [a2, h]; rfl)
theorem d_iz {k m s c : Nat → Int32} {D : Nat → Int × Int} {x t0_0 t0_1 t0_2 : Int32} {t0_3 : Int64} {t0_4 t0_5 t0_6 t0_7 t0_8 t0_9 t0_10 : Int32} (hD : dRv k m s c D) (hx : 0 ≤ x.toInt ∧ x.toInt ≤ 9) : F_DR_isZero x t0_0 t0_1 t0_2 t0_3 t0_4 t0_5 t0_6 t0_7 t0_8 t0_9 t0_10 k = (if (D x.toNatClampNeg).1 = 0 then 1 else 0) := by
  unfold F_DR_isZero
  by_cases c : k (1000 * x : Int32).toNatClampNeg = 0
  · rw [if_pos c, if_pos ((d_z0 hD hx).mp c)]
  · rw [if_neg c, if_neg (fun h => c ((d_z0 hD hx).mpr h))]
/-- a flag that says the sign -/
def sgP (v : Int) (x : Int32) : Prop := (v = 0 ∧ x = 0) ∨ (v < 0 ∧ x = -1) ∨ (0 < v ∧ x = 1)
theorem V_cpJ97 {x2 : Int32} {x3 : Int32} {t0_0 : Int32} {t0_1 : Int32} {t0_2 : Int32} {t0_3 : Int64} {t0_4 : Int32} {t0_5 : Int32} {t0_6 : Int32} {t0_7 : Int32} {t0_8 : Int32} {t0_9 : Int32} {t0_10 : Int32} {t1_0 : (Nat → Int32)} {t2_0 : (Nat → Int32)} {t3_0 : (Nat → Int32)} {t4_0 : (Nat → Int32)} {lx36 : Int32} {lx62 : Int32} {lx84 : Int32} {a b : Int} (h1 : sgP a lx62) (h2 : sgP b lx84) (h : lx62 ≠ lx84 ∨ lx62 = 0) : wC (F_DR_compare_J97 x2 x3 t0_0 t0_1 t0_2 t0_3 t0_4 t0_5 t0_6 t0_7 t0_8 t0_9 t0_10 t1_0 t2_0 t3_0 t4_0 lx36 lx62 lx84).1 a b ∧ (F_DR_compare_J97 x2 x3 t0_0 t0_1 t0_2 t0_3 t0_4 t0_5 t0_6 t0_7 t0_8 t0_9 t0_10 t1_0 t2_0 t3_0 t4_0 lx36 lx62 lx84).2.1 = lx36 := by
  unfold F_DR_compare_J97
  rcases h1 with ⟨a0, e1⟩ | ⟨a0, e1⟩ | ⟨a0, e1⟩ <;> rcases h2 with ⟨b0, e2⟩ | ⟨b0, e2⟩ | ⟨b0, e2⟩ <;> rw [e1, e2] at h <;> rw [e1, e2] <;> first | (rw [if_pos (by decide), if_pos (by decide)]; exact ⟨Or.inl ⟨rfl, by omega⟩, rfl⟩) | (rw [if_pos (by decide), if_neg (by decide)]; exact ⟨Or.inr (Or.inl ⟨rfl, by omega⟩), rfl⟩) | (rw [if_neg (by decide)]; exact ⟨Or.inr (Or.inr ⟨rfl, by omega⟩), rfl⟩) | exact absurd h (by decide)
theorem wC_ng {c : Int32} {a b : Int} (h : wC c a b) : wC (-1 * c) (-a) (-b) := by
  rcases h with ⟨h1, h2⟩ | ⟨h1, h2⟩ | ⟨h1, h2⟩ <;> rw [h1]
  · exact Or.inl ⟨rfl, by omega⟩
  · exact Or.inr (Or.inr ⟨rfl, by omega⟩)
  · exact Or.inr (Or.inl ⟨rfl, by omega⟩)
theorem wC_one {c : Int32} {a b : Int} (h : wC c a b) : wC (1 * c) a b := by
  rcases h with ⟨h1, h2⟩ | ⟨h1, h2⟩ | ⟨h1, h2⟩ <;> rw [h1]
  · exact Or.inl ⟨rfl, h2⟩
  · exact Or.inr (Or.inl ⟨rfl, h2⟩)
  · exact Or.inr (Or.inr ⟨rfl, h2⟩)
theorem V_cpJ85 {x2 : Int32} {x3 : Int32} {t0_0 : Int32} {t0_1 : Int32} {t0_2 : Int32} {t0_3 : Int64} {t0_4 : Int32} {t0_5 : Int32} {t0_6 : Int32} {t0_7 : Int32} {t0_8 : Int32} {t0_9 : Int32} {t0_10 : Int32} {t1_0 : (Nat → Int32)} {t2_0 : (Nat → Int32)} {t3_0 : (Nat → Int32)} {t4_0 : (Nat → Int32)} {lx36 : Int32} {lx62 : Int32} {lx84 : Int32} {D : Nat → Int × Int} {dX dY : Nat} (hD : dRv t1_0 t2_0 t3_0 t4_0 D) (hx2 : 0 ≤ x2.toInt ∧ x2.toInt ≤ 9) (hx3 : 0 ≤ x3.toInt ∧ x3.toInt ≤ 9) (hd : (D x2.toNatClampNeg).2 + dX = (D x3.toNatClampNeg).2 + dY) (h1 : sgP (D x2.toNatClampNeg).1 lx62) (h2 : sgP (D x3.toNatClampNeg).1 lx84) : wC (F_DR_compare_J85 x2 x3 t0_0 t0_1 t0_2 t0_3 t0_4 t0_5 t0_6 t0_7 t0_8 t0_9 t0_10 t1_0 t2_0 t3_0 t4_0 lx36 lx62 lx84).1 ((D x2.toNatClampNeg).1 * 10 ^ dX) ((D x3.toNatClampNeg).1 * 10 ^ dY) ∧ (F_DR_compare_J85 x2 x3 t0_0 t0_1 t0_2 t0_3 t0_4 t0_5 t0_6 t0_7 t0_8 t0_9 t0_10 t1_0 t2_0 t3_0 t4_0 lx36 lx62 lx84).2.1 = lx36 := by
  have pX := u_pos dX
  have pY := u_pos dY
  have sg : ∀ {v : Int} {x : Int32} {d : Nat}, sgP v x → sgP (v * 10 ^ d) x := fun {v x d} h => by
    rcases h with ⟨a, b⟩ | ⟨a, b⟩ | ⟨a, b⟩
    · exact Or.inl ⟨by rw [a, Int.zero_mul], b⟩
    · exact Or.inr (Or.inl ⟨Int.mul_neg_of_neg_of_pos a (u_pos d), b⟩)
    · exact Or.inr (Or.inr ⟨Int.mul_pos a (u_pos d), b⟩)
  unfold F_DR_compare_J85
  by_cases c : lx62 = lx84
  · rw [if_pos c]
    by_cases z : lx62 = 0
    · rw [if_pos z]
      exact V_cpJ97 (sg h1) (sg h2) (Or.inr z)
    · rw [if_neg z]
      have na : (D x2.toNatClampNeg).1 ≠ 0 := fun e => by
        rcases h1 with ⟨a, b⟩ | ⟨a, b⟩ | ⟨a, b⟩
        · exact z b
        · omega
        · omega
      have nb : (D x3.toNatClampNeg).1 ≠ 0 := fun e => by
        rcases h2 with ⟨a, b⟩ | ⟨a, b⟩ | ⟨a, b⟩
        · exact z (c.trans b)
        · omega
        · omega
      have hc := V_DR_compareSizes (t0_0 := lx36) (t0_1 := t0_1) (t0_2 := t0_2) (t0_3 := t0_3) (t0_4 := t0_4) (t0_5 := t0_5) (t0_6 := t0_6) (t0_7 := t0_7) (t0_8 := t0_8) (t0_9 := t0_9) (t0_10 := t0_10) hD hx2 hx3 na nb hd
      generalize F_DR_compareSizes x2 x3 lx36 t0_1 t0_2 t0_3 t0_4 t0_5 t0_6 t0_7 t0_8 t0_9 t0_10 t1_0 t2_0 t4_0 = r at hc ⊢
      refine ⟨?_, rfl⟩
      show wC (lx62 * r) _ _
      rcases h1 with ⟨a, b⟩ | ⟨a, b⟩ | ⟨a, b⟩
      · exact absurd b z
      · have e3 : (D x3.toNatClampNeg).1 < 0 := by
          rcases h2 with ⟨a2, b2⟩ | ⟨a2, b2⟩ | ⟨a2, b2⟩
          · exact absurd (c.trans b2) z
          · exact a2
          · exact absurd (b.symm.trans (c.trans b2)) (by decide)
        have f1 : -(((D x2.toNatClampNeg).1.natAbs : Int) * 10 ^ dX) = (D x2.toNatClampNeg).1 * 10 ^ dX := by
          rw [← Int.neg_mul]
          congr 1
          omega
        have f2 : -(((D x3.toNatClampNeg).1.natAbs : Int) * 10 ^ dY) = (D x3.toNatClampNeg).1 * 10 ^ dY := by
          rw [← Int.neg_mul]
          congr 1
          omega
        rw [b, ← f1, ← f2]
        exact wC_ng hc
      · have e3 : 0 < (D x3.toNatClampNeg).1 := by
          rcases h2 with ⟨a2, b2⟩ | ⟨a2, b2⟩ | ⟨a2, b2⟩
          · exact absurd (c.trans b2) z
          · exact absurd (b.symm.trans (c.trans b2)) (by decide)
          · exact a2
        rw [Int.natAbs_of_nonneg (by omega), Int.natAbs_of_nonneg (by omega)] at hc
        rw [b]
        exact wC_one hc
  · rw [if_neg c]
    exact V_cpJ97 (sg h1) (sg h2) (Or.inl c)
theorem V_DR_compare {x2 : Int32} {x3 : Int32} {t0_0 : Int32} {t0_1 : Int32} {t0_2 : Int32} {t0_3 : Int64} {t0_4 : Int32} {t0_5 : Int32} {t0_6 : Int32} {t0_7 : Int32} {t0_8 : Int32} {t0_9 : Int32} {t0_10 : Int32} {t1_0 : (Nat → Int32)} {t2_0 : (Nat → Int32)} {t3_0 : (Nat → Int32)} {t4_0 : (Nat → Int32)} {D : Nat → Int × Int} {dX dY : Nat} (hD : dRv t1_0 t2_0 t3_0 t4_0 D) (hx2 : 0 ≤ x2.toInt ∧ x2.toInt ≤ 9) (hx3 : 0 ≤ x3.toInt ∧ x3.toInt ≤ 9) (hd : (D x2.toNatClampNeg).2 + dX = (D x3.toNatClampNeg).2 + dY) : wC (F_DR_compare x2 x3 t0_0 t0_1 t0_2 t0_3 t0_4 t0_5 t0_6 t0_7 t0_8 t0_9 t0_10 t1_0 t2_0 t3_0 t4_0).1 ((D x2.toNatClampNeg).1 * 10 ^ dX) ((D x3.toNatClampNeg).1 * 10 ^ dY) ∧ (F_DR_compare x2 x3 t0_0 t0_1 t0_2 t0_3 t0_4 t0_5 t0_6 t0_7 t0_8 t0_9 t0_10 t1_0 t2_0 t3_0 t4_0).2.1 = 0 := by
  have h2c := q_clI (i := x2) rfl hx2.1
  have h3c := q_clI (i := x3) rfl hx3.1
  have s2 := (hD.2 x2.toNatClampNeg (by omega)).2.2.2.1
  have s3 := (hD.2 x3.toNatClampNeg (by omega)).2.2.2.1
  unfold F_DR_compare
  rw [if_pos (g_no0 hx2), if_pos (g_no0 hx3)]
  unfold F_DR_compare_J20
  rw [if_pos (by decide), d_iz hD hx2, s2]
  have k58 : ∀ l : Int32, sgP (D x2.toNatClampNeg).1 l → wC (F_DR_compare_J58 x2 x3 t0_0 t0_1 t0_2 t0_3 t0_4 t0_5 t0_6 t0_7 t0_8 t0_9 t0_10 t1_0 t2_0 t3_0 t4_0 0 l).1 ((D x2.toNatClampNeg).1 * 10 ^ dX) ((D x3.toNatClampNeg).1 * 10 ^ dY) ∧ (F_DR_compare_J58 x2 x3 t0_0 t0_1 t0_2 t0_3 t0_4 t0_5 t0_6 t0_7 t0_8 t0_9 t0_10 t1_0 t2_0 t3_0 t4_0 0 l).2.1 = 0 := fun l hl => by
    unfold F_DR_compare_J58
    rw [d_iz hD hx3, s3]
    by_cases z : (D x3.toNatClampNeg).1 = 0
    · rw [if_pos z, if_neg (by decide)]
      exact V_cpJ85 hD hx2 hx3 hd hl (Or.inl ⟨z, rfl⟩)
    · rw [if_neg z, if_pos rfl]
      by_cases g : (D x3.toNatClampNeg).1 < 0
      · rw [if_pos g, if_neg (by decide)]
        exact V_cpJ85 hD hx2 hx3 hd hl (Or.inr (Or.inl ⟨g, rfl⟩))
      · rw [if_neg g, if_pos rfl]
        exact V_cpJ85 hD hx2 hx3 hd hl (Or.inr (Or.inr ⟨by omega, rfl⟩))
  by_cases z : (D x2.toNatClampNeg).1 = 0
  · rw [if_pos z, if_neg (by decide)]
    exact k58 0 (Or.inl ⟨z, rfl⟩)
  · rw [if_neg z, if_pos rfl]
    by_cases g : (D x2.toNatClampNeg).1 < 0
    · rw [if_pos g, if_neg (by decide)]
      exact k58 (-1) (Or.inr (Or.inl ⟨g, rfl⟩))
    · rw [if_neg g, if_pos rfl]
      exact k58 1 (Or.inr (Or.inr ⟨by omega, rfl⟩))
