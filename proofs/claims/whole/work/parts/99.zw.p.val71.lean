/-! values, for whole: the reference's root -/
theorem w_sz2k {f : Nat → Int32} {v : Int} (h : wK v f) (hv : v < 65536 ^ 128) : ∃ s : Nat, (F_WR_size 264 f).toInt = (s : Int) ∧ s ≤ 128 ∧ v.natAbs < 2 ^ (16 * s) := by
  have e128 : (128 : Int32).toInt = 128 := rfl
  have ev : wV f 264 = v := h.2
  have v0 := h.nn
  have hz := R_size (N := 264) (f := f) (by decide)
  have hs := R_size4 (f := f)
  have hc := q_clI (i := F_WR_size 264 f) rfl hs.1
  have hle : F_WR_size 264 f ≤ 128 := Classical.byContradiction fun h9 => by
    have := (w_szV h).2 h9
    omega
  have h2 := q_leI hle
  have h1 := hz.lt h.1
  rw [show (264 : Int32).toNatClampNeg = 264 from rfl, ev, w_p16] at h1
  refine ⟨(F_WR_size 264 f).toNatClampNeg, hc.symm, by omega, ?_⟩
  have e : (2 : Int) ^ (16 * (F_WR_size 264 f).toNatClampNeg) = ((2 ^ (16 * (F_WR_size 264 f).toNatClampNeg) : Nat) : Int) := by rw [Int.natCast_pow]; rfl
  rw [e] at h1
  generalize 2 ^ (16 * (F_WR_size 264 f).toNatClampNeg) = Z at h1 ⊢
  omega
theorem nw_st16 {N s A : Nat} (h : A < 2 ^ (16 * s)) : A < (2 ^ (16 * s / (N + 1) + 1) * 0 + 2 ^ (16 * s / (N + 1) + 1)) ^ (N + 1) := by
  have h1 : 16 * s ≤ (16 * s / (N + 1) + 1) * (N + 1) := by
    have h2 := Nat.div_add_mod (16 * s) (N + 1)
    have h3 := Nat.mod_lt (16 * s) (show 0 < N + 1 by omega)
    have h4 : (16 * s / (N + 1) + 1) * (N + 1) = (N + 1) * (16 * s / (N + 1)) + (N + 1) := by rw [Nat.add_mul, Nat.one_mul, Nat.mul_comm (16 * s / (N + 1))]
    omega
  rw [Nat.mul_zero, Nat.zero_add, ← Nat.pow_mul]
  exact Nat.lt_of_lt_of_le h (Nat.pow_le_pow_right (by decide) h1)
theorem V_WR_root {x2 : Int32} {x3 : Int32} {x4 : Int32} {t0_0 : Int32} {t0_1 : Int32} {t0_2 : Int32} {t0_3 : Int32} {t0_4 : Int32} {t0_5 : Int32} {t0_6 : Int32} {t1_0 : (Nat → Int32)} {t2_0 : (Nat → Int32)} {t3_0 : (Nat → Int32)} {t4_0 : (Nat → Int32)} {t5_0 : (Nat → Int32)} {t6_0 : (Nat → Int32)} {W : Nat → Int} {N ρ : Nat} (hr : wRv t1_0 t2_0 W) (hx2 : 0 ≤ x2.toInt ∧ x2.toInt ≤ 10) (hx4 : 0 ≤ x4.toInt ∧ x4.toInt ≤ 10) (hn : x3.toInt = ((N + 1 : Nat) : Int)) (hN2 : N + 1 ≤ 64) (hρ : nwR N (W x2.toNatClampNeg).natAbs ρ) : wAn x4 W (if W x2.toNatClampNeg < 0 then none else some (ρ : Int)) (F_WR_root x2 x3 x4 t0_0 t0_1 t0_2 t0_3 t0_4 t0_5 t0_6 t1_0 t2_0 t3_0 t4_0 t5_0 t6_0).1 (F_WR_root x2 x3 x4 t0_0 t0_1 t0_2 t0_3 t0_4 t0_5 t0_6 t1_0 t2_0 t3_0 t4_0 t5_0 t6_0).2.2.2.2.2.2.2.1 (F_WR_root x2 x3 x4 t0_0 t0_1 t0_2 t0_3 t0_4 t0_5 t0_6 t1_0 t2_0 t3_0 t4_0 t5_0 t6_0).2.2.2.2.2.2.2.2.1 := by
  have e1 := v_e1
  have e64 : (64 : Int32).toInt = 64 := rfl
  have e16 : (16 : Int32).toInt = 16 := rfl
  have c2 := q_clI (i := x2) rfl hx2.1
  have hb := wVk_nn hx2 hr.1
  have A := hr.2 x2.toNatClampNeg (by omega)
  have ka : wVi t1_0 x2.toNatClampNeg = wVk t1_0 x2 := rfl
  rw [ka] at A
  have g1 : ¬ x3 < 1 := fun h => by
    have := q_ltI h
    omega
  have g2 : x3 ≤ 64 := Int32.le_iff_toInt_le.mpr (by omega)
  unfold F_WR_root
  rw [if_pos (w_no0 hx2), if_pos (w_no0 hx4), if_neg g1, if_pos g2]
  by_cases c : t2_0 x2.toNatClampNeg = 0
  · rw [if_pos c]
    have hW : W x2.toNatClampNeg = wVk t1_0 x2 := by
      rcases A with ⟨_, a⟩ | ⟨a, _⟩
      · exact a
      · rw [c] at a
        exact absurd a (by decide)
    rw [hW, if_neg (by omega)]
    rw [hW] at hρ
    have t1 := (R_take (x2 := x2) (t0_0 := 0) (t0_1 := 2) (t0_2 := t0_2) (t0_3 := t0_3) (t0_4 := t0_4) (t0_5 := t0_5) (t0_6 := t0_6) (t1_0 := t1_0) (t2_0 := t6_0) hx2 hr.1).2
    obtain ⟨s, s1, s2, s3⟩ := w_sz2k t1 hb.2
    have eA : ((wVk t1_0 x2).natAbs : Int) = wVk t1_0 x2 := Int.natAbs_of_nonneg hb.1
    have k1 : (16 * F_WR_size 264 (F_WR_take x2 264 0 2 t0_2 t0_3 t0_4 t0_5 t0_6 t1_0 t6_0) : Int32).toInt = 16 * (s : Int) := q_mulI e16 s1 (by omega) (by omega)
    have k2 : (16 * F_WR_size 264 (F_WR_take x2 264 0 2 t0_2 t0_3 t0_4 t0_5 t0_6 t1_0 t6_0) / x3 : Int32).toInt = ((16 * s / (N + 1) : Nat) : Int) := by
      rw [q_divI k1 hn (by omega) (by omega), Int.natCast_ediv, Int.natCast_mul]
      rfl
    have k3 : 16 * s / (N + 1) ≤ 2048 := Nat.le_trans (Nat.div_le_self _ _) (by omega)
    have hst := nw_st16 (N := N) s3
    unfold F_WR_root_J44
    rw [if_pos (by decide)]
    refine V_rtL (A := (wVk t1_0 x2).natAbs) hr hx4 hn hN2 (by rw [eA]; exact t1) (by rw [eA]; exact hb.2) hρ rfl _ _ _ _ _ (16 * s / (N + 1) + 1) (by rw [k2, Int.natCast_add]; omega) (by omega) (by rw [k2]; omega) ⟨0, ?_, ?_, hst⟩
    · rw [Nat.mul_zero]
      exact R_clear4
    · rw [Nat.mul_zero, Nat.zero_pow (by omega)]
      exact Nat.zero_le _
  · rw [if_neg c]
    have hW : W x2.toNatClampNeg < 0 := by
      rcases A with ⟨a, _⟩ | ⟨_, a, b⟩
      · exact absurd a c
      · omega
    rw [if_pos hW]
    unfold F_WR_root_J44
    rw [if_neg (by decide)]
    exact Or.inr ⟨Or.inl rfl, rfl, hr.w⟩
