/-! values: the lowest bit of a number; floats exactly -/
theorem t_ofn : ∀ b : Fin 32, (Int32.ofNat (2 ^ b.val - 1)).toInt = 2 ^ b.val - 1 := by decide +kernel
theorem v_bc {l : Int32} (hl : 0 < l.toInt) : ∃ t : Nat, F_jInt_bitCount ((l &&& (-l)) - 1) = Int32.ofNat t ∧ t < 31 ∧ 2 ^ t ≤ l.toInt.toNat := by
  have h1 := v_natI (x := l) (by omega)
  have h2 := Int32.toInt_lt l
  obtain ⟨t, m, e⟩ := v_odd l.toBitVec.toNat (by omega)
  have hp : 0 < 2 ^ t := Nat.pow_pos (by decide)
  have hn : l.toBitVec.toNat < 2 ^ 31 := by omega
  have hle : 2 ^ t ≤ l.toBitVec.toNat := by
    rw [e]
    have : 2 ^ t * 1 ≤ 2 ^ t * (2 * m + 1) := Nat.mul_le_mul_left _ (by omega)
    omega
  have ht : t < 31 := by
    apply (Nat.pow_lt_pow_iff_right (a := 2) (by decide)).mp
    omega
  have hb := v_lowbit e hn
  have h3 : (l &&& (-l) : Int32).toBitVec.toNat = 2 ^ t := by
    rw [Int32.toBitVec_and, BitVec.toNat_and, Int32.toBitVec_neg, BitVec.toNat_neg, Nat.mod_eq_of_lt (by omega)]
    exact hb
  have h4 : (l &&& (-l) : Int32).toInt = ((2 ^ t : Nat) : Int) := by
    have h5 : (l &&& (-l) : Int32).toInt = ((l &&& (-l) : Int32).toBitVec).toInt := rfl
    rw [BitVec.toInt_eq_toNat_cond, h3] at h5
    have h6 : 2 ^ t < 2 ^ 31 := Nat.pow_lt_pow_right (by decide) ht
    rw [if_pos (by omega)] at h5
    exact h5
  have h6 : 2 ^ t < 2 ^ 31 := Nat.pow_lt_pow_right (by decide) ht
  have h7 : ((l &&& (-l)) - 1 : Int32) = Int32.ofNat (2 ^ t - 1) := by
    apply Int32.toInt_inj.mp
    rw [q_subI h4 v_e1 (by omega) (by omega), t_ofn ⟨t, by omega⟩]
    have : ((2 ^ t : Nat) : Int) = 2 ^ t := by rw [Int.natCast_pow]; rfl
    rw [this]
  refine ⟨t, ?_, ht, by omega⟩
  rw [h7]
  exact t_cnt ⟨t, by omega⟩
theorem v_vBge {f : Nat → Int32} : ∀ {n j : Nat}, okL f n → j < n → (f j).toInt * 2147483648 ^ j ≤ vB f n
  | 0, j, _, h => absurd h (by omega)
  | n + 1, j, ok, h => by
    have h1 : vB f (n + 1) = vB f n + (f n).toInt * 2147483648 ^ n := rfl
    have h2 : 0 ≤ (f n).toInt * 2147483648 ^ n := Int.mul_nonneg (ok n (by omega)) (Int.le_of_lt (Int.pow_pos (by decide)))
    have ok2 : okL f n := fun i hi => ok i (by omega)
    rw [h1]
    by_cases h3 : j = n
    · subst h3
      have := v_nn ok2
      omega
    · have := v_vBge (j := j) ok2 (by omega)
      omega
theorem v_l1L {R s n : Int32} {f : Nat → Int32} (h : bN s f) (hs : 0 < s.toInt) (hs2 : s.toInt ≤ 220) : ∀ (m : Nat) (j : Int32), 0 ≤ j.toInt → j.toInt < s.toInt → s.toInt - j.toInt < (m : Int) → ∃ b : Nat, (F_Big_lowestOne_L2 R s n f m j).toInt = (b : Int) ∧ b ≤ 6820 ∧ (2 : Int) ^ b ≤ bV s f := by
  intro m
  induction m with
  | zero => intros; omega
  | succ m ih =>
    intro j h1 h2 h3
    rw [F_Big_lowestOne_L2.eq_2, if_neg (fun hh => by have := q_leI hh; omega)]
    have c1 := q_clI (i := j) rfl h1
    have c2 := q_clI (i := s) rfl h.1
    by_cases h4 : f j.toNatClampNeg = 0
    · rw [if_pos h4]
      have ej := v_sc h1 (by omega)
      by_cases h5 : j.toInt + 1 = s.toInt
      · exfalso
        apply h.2.2 hs
        rw [show s.toNatClampNeg - 1 = j.toNatClampNeg by omega]
        exact h4
      · exact ih _ (by omega) (by omega) (by omega)
    · rw [if_neg h4]
      have hp : 0 < (f j.toNatClampNeg).toInt := by
        have a1 := h.2.1 j.toNatClampNeg (by omega)
        have a2 : (f j.toNatClampNeg).toInt ≠ 0 := fun h9 => h4 (Int32.toInt_inj.mp h9)
        omega
      obtain ⟨t, t1, t2, t3⟩ := v_bc hp
      have e31 : (31 : Int32).toInt = 31 := rfl
      have et : (Int32.ofNat t).toInt = (t : Int) := by
        rw [Int32.toInt_ofNat_of_lt (by omega)]
      have q1 : (j * 31 : Int32).toInt = j.toInt * 31 := q_mulI rfl e31 (by omega) (by omega)
      rw [t1]
      refine ⟨31 * j.toNatClampNeg + t, ?_, by omega, ?_⟩
      · rw [q_addI q1 et (by omega) (by omega)]
        omega
      · have g1 := v_vBge (j := j.toNatClampNeg) h.2.1 (by omega)
        show (2 : Int) ^ (31 * j.toNatClampNeg + t) ≤ vB f s.toNatClampNeg
        have e : (2147483648 : Int) ^ j.toNatClampNeg = 2 ^ (31 * j.toNatClampNeg) := by rw [Int.pow_mul]; rfl
        rw [e] at g1
        rw [Int.pow_add, Int.mul_comm]
        have g2 : (2 : Int) ^ t ≤ (f j.toNatClampNeg).toInt := by
          have g3 := Int.ofNat_le.mpr t3
          rw [Int.natCast_pow] at g3
          have g4 : ((f j.toNatClampNeg).toInt.toNat : Int) = (f j.toNatClampNeg).toInt := by omega
          rw [g4] at g3
          exact g3
        exact Int.le_trans (Int.mul_le_mul_of_nonneg_right g2 (Int.le_of_lt (Int.pow_pos (by decide)))) g1
theorem W_low1 {R s n : Int32} {f : Nat → Int32} {v : Int} (h : bO R s n f v) (hv : v ≠ 0) : ∃ b : Nat, (F_Big_lowestOne R s n f).toInt = (b : Int) ∧ b ≤ 6820 ∧ 2 ^ b ≤ v.natAbs := by
  have hs := h.pos.mpr hv
  have hf := h.fit
  unfold F_Big_lowestOne
  obtain ⟨b, b1, b2, b3⟩ := v_l1L (R := R) (n := n) h.1 hs h.fit ((220 - (0 : Int32).toInt).toNat + 1) 0 (by decide) hs (by rw [show (0 : Int32).toInt = 0 from rfl]; omega)
  refine ⟨b, b1, b2, ?_⟩
  apply Int.ofNat_le.mp
  rw [Int.natCast_pow, ← h.abs]
  exact b3
/-- to the right, exactly -/
theorem W_shrE {R x s neg : Int32} {f : Nat → Int32} {v : Int} (h : bO R s neg f v) : ∃ w : Int, w.natAbs = v.natAbs / 2 ^ x.toNatClampNeg ∧ (0 ≤ v → 0 ≤ w) ∧ bO R (F_Big_shiftRight R x s neg f).2.1 (F_Big_shiftRight R x s neg f).2.2.1 (F_Big_shiftRight R x s neg f).2.2.2 w := by
  have e0 : (0 : Int32).toInt = 0 := rfl
  by_cases hx : x.toInt ≤ 0
  · unfold F_Big_shiftRight
    rw [if_pos (Int32.le_iff_toInt_le.mpr (by rw [e0]; exact hx))]
    refine ⟨v, ?_, id, h⟩
    rw [v_cn, show x.toInt.toNat = 0 by omega, Nat.pow_zero, Nat.div_one]
  · by_cases hs : s = 0
    · unfold F_Big_shiftRight
      rw [if_neg (fun hh => by have := q_leI hh; omega), if_pos hs]
      refine ⟨v, ?_, id, h⟩
      rw [h.nil.mp hs]
      exact (Nat.zero_div _).symm
    · have hs2 : 0 < s.toInt := by
        have h1 : s.toInt ≠ (0 : Int32).toInt := fun h9 => hs (Int32.toInt_inj.mp h9)
        have h2 := h.s0
        omega
      have hx2 : 0 < x.toInt := by omega
      obtain ⟨lost, z, g, c1, c2, c3, c4⟩ := V_shrB (R := R) (x := x) (neg := neg) h.1 hx2 hs2 h.fit
      rw [c1]
      have hR := h.2.2.2.1
      have nn := c3.nn
      refine ⟨_, ?_, ?_, bO.mkI c3 h.sg rfl (by show z.toInt ≤ _; omega) h.2.2.2.2⟩
      · have h4 : (bS neg z g).natAbs = (bV z g).natAbs := by
          unfold bS
          split
          · rfl
          · rw [Int.natAbs_neg]
        rw [h4, c4, h.abs]
        have : ((2 : Int) ^ x.toNatClampNeg) = ((2 ^ x.toNatClampNeg : Nat) : Int) := by rw [Int.natCast_pow]; rfl
        rw [this, ← Int.natCast_ediv, Int.natAbs_natCast]
      · intro hv
        rcases h.sgn with h5 | h5
        · rw [h5.1, bS_0]
          exact nn
        · omega
theorem v_negI {x : Int32} (h : -1000000 ≤ x.toInt) (h2 : x.toInt ≤ 1000000) : (-x : Int32).toInt = -x.toInt := by
  have e0 : (0 : Int32).toInt = 0 := rfl
  have := q_subI (a := 0) (b := x) e0 rfl (by omega) (by omega)
  rw [Int32.zero_sub] at this
  omega
theorem v_fpw {A B C : Int32} {x : Int64} (hB : 150 ≤ B.toInt ∧ B.toInt ≤ 1075) (hC : 255 ≤ C.toInt ∧ C.toInt ≤ 2047) (hCB : C.toInt ≤ B.toInt + 972) : -1075 ≤ (F_Flo_power A B C x).toInt ∧ (F_Flo_power A B C x).toInt ≤ 972 := by
  have e1 := v_e1
  unfold F_Flo_power
  have h1 : 0 ≤ (F_Flo_exponent A B C x).toInt ∧ (F_Flo_exponent A B C x).toInt ≤ C.toInt := by
    unfold F_Flo_exponent
    exact s_and (by omega)
  generalize F_Flo_exponent A B C x = y at h1 ⊢
  have h2 : (if y < 1 then 1 else y : Int32).toInt = (if y.toInt < 1 then 1 else y.toInt) := by
    split
    · rename_i h
      have := q_ltI h
      rw [if_pos (by omega)]
      rfl
    · rename_i h
      have := q_nltI h
      rw [if_neg (by omega)]
  rw [q_subI h2 rfl (by split <;> omega) (by split <;> omega)]
  split <;> omega
theorem bB3 {x : Int64} : bB 3 x.toInt := by
  have h1 := Int64.le_toInt x
  have h2 := Int64.toInt_lt x
  show x.toInt.natAbs < 2147483648 ^ 3
  omega
theorem v_p2B {v : Int} {M k : Nat} (h : bB M v) : bB (M + (k / 31 + 1)) (v * 2 ^ k) := by
  refine h.mul ?_
  unfold bB
  rw [Int.natAbs_pow]
  have e : (2147483648 : Nat) ^ (k / 31 + 1) = 2 ^ (31 * (k / 31 + 1)) := by rw [Nat.pow_mul]
  rw [e]
  exact Nat.pow_lt_pow_right (by decide) (by omega)
theorem T_towards {A : Int32} {B : Int32} {C : Int32} {x2 : Int64} {t0_0 : Int32} {t0_1 : Int32} {t1_0 : (Nat → Int32)} (hB : 150 ≤ B.toInt ∧ B.toInt ≤ 1075) (hC : 255 ≤ C.toInt ∧ C.toInt ≤ 2047) (hCB : C.toInt ≤ B.toInt + 972) : G1 bK (F_Flo_towardsZero A B C x2 t0_0 t0_1 t1_0) := by
  have e := e220
  have hp := v_fpw (A := A) (x := x2) hB hC hCB
  unfold F_Flo_towardsZero
  have h1 : P1 220 (F_Flo_number A B C x2).toInt (F_Big_setLong 220 (F_Flo_number A B C x2) t0_0 t0_1 t1_0) := W_setLong (by decide) (by decide)
  have b1 := bB3 (x := F_Flo_number A B C x2)
  generalize (F_Flo_number A B C x2).toInt = v at h1 b1
  generalize F_Big_setLong 220 (F_Flo_number A B C x2) t0_0 t0_1 t1_0 = p40 at h1 ⊢
  generalize F_Flo_power A B C x2 = a15 at hp ⊢
  unfold F_Flo_towardsZero_c18
  have s1 := h1.sB b1
  have h2 := W_shl (x := a15) h1 (fun _ _ => by omega)
  have b2 : bB 60 (v * 2 ^ a15.toNatClampNeg) := (v_p2B b1).mono (by rw [v_cn]; omega)
  generalize v * 2 ^ a15.toNatClampNeg = w at h2 b2
  generalize F_Big_shiftLeft 220 a15 p40.1 p40.2.1 p40.2.2 = p64 at h2 ⊢
  unfold F_Flo_towardsZero_c29
  obtain ⟨u, u1, u2⟩ := W_shr (x := -a15) h2
  generalize F_Big_shiftRight 220 (-a15) p64.1 p64.2.1 p64.2.2 = p94 at u2 ⊢
  have b3 : bB 60 u := b2.le u1
  unfold F_Flo_towardsZero_c41
  split
  · exact ⟨_, u2.abs0, b3.a0.mono (by decide)⟩
  · rename_i g
    split
    · exact ⟨_, u2.abs0, b3.a0.mono (by decide)⟩
    · exact ⟨_, u2.abs1 (v_nle0 g), b3.a1.mono (by decide)⟩
theorem T_exactly {A : Int32} {B : Int32} {C : Int32} {x2 : Int64} {t0_0 : Int32} {t0_1 : Int32} {t1_0 : (Nat → Int32)} (hB : 150 ≤ B.toInt ∧ B.toInt ≤ 1075) (hC : 255 ≤ C.toInt ∧ C.toInt ≤ 2047) (hCB : C.toInt ≤ B.toInt + 972) : G1 bK (F_Flo_exactly A B C x2 t0_0 t0_1 t1_0).2 := by
  have e := e220
  have e0 : (0 : Int32).toInt = 0 := rfl
  have hp := v_fpw (A := A) (x := x2) hB hC hCB
  unfold F_Flo_exactly
  have h1 : P1 220 (F_Flo_number A B C x2).toInt (F_Big_setLong 220 (F_Flo_number A B C x2) t0_0 t0_1 t1_0) := W_setLong (by decide) (by decide)
  have b1 := bB3 (x := F_Flo_number A B C x2)
  generalize (F_Flo_number A B C x2).toInt = v at h1 b1
  generalize F_Big_setLong 220 (F_Flo_number A B C x2) t0_0 t0_1 t1_0 = p40 at h1 ⊢
  generalize F_Flo_power A B C x2 = a15 at hp ⊢
  unfold F_Flo_exactly_c22
  by_cases g : p40.1 = 0
  · rw [if_pos g]
    exact ⟨_, h1, b1.mono (by decide)⟩
  rw [if_neg g]
  have hv : v ≠ 0 := fun h9 => g (h1.nil.mpr h9)
  obtain ⟨b, l1, l2, l3⟩ := W_low1 h1 hv
  have qn := v_negI (x := a15) (by omega) (by omega)
  generalize F_Big_lowestOne 220 p40.1 p40.2.1 p40.2.2 = lo at l1 ⊢
  generalize (-a15 : Int32) = na at qn ⊢
  obtain ⟨mx, em⟩ := q_nm (if 0 < na then na else 0 : Int32)
  have hmx : 0 ≤ mx.toInt := by
    rw [← em]
    split
    · rename_i h11
      have := q_ltI h11
      omega
    · decide
  rw [em]
  obtain ⟨ev, ee⟩ := q_nm (if mx < lo then mx else lo : Int32)
  have hev : 0 ≤ ev.toInt ∧ ev.toInt ≤ (b : Int) := by
    rw [← ee]
    split
    · rename_i h9
      have h10 := q_ltI h9
      omega
    · omega
  rw [ee]
  obtain ⟨w, w1, w2, w3⟩ := W_shrE (x := ev) h1
  have hw0 : w ≠ 0 := by
    have : 0 < v.natAbs / 2 ^ ev.toNatClampNeg := by
      apply Nat.div_pos
      · exact Nat.le_trans (Nat.pow_le_pow_right (by decide) (by rw [v_cn]; omega)) l3
      · exact Nat.pow_pos (by decide)
    omega
  generalize F_Big_shiftRight 220 ev p40.1 p40.2.1 p40.2.2 = p85 at w3 ⊢
  have bw : bB 3 w := b1.le (by rw [w1]; exact Nat.div_le_self _ _)
  have sw := w3.sB bw
  unfold F_Flo_exactly_c55
  have h2 := W_shl (x := a15) w3 (fun _ _ => by omega)
  have b2 : bB 60 (w * 2 ^ a15.toNatClampNeg) := (v_p2B bw).mono (by rw [v_cn]; omega)
  have n2 : w * 2 ^ a15.toNatClampNeg ≠ 0 := Int.mul_ne_zero hw0 (by have := v_p2 a15.toNatClampNeg; omega)
  generalize w * 2 ^ a15.toNatClampNeg = z at h2 b2 n2
  generalize F_Big_shiftLeft 220 a15 p85.2.1 p85.2.2.1 p85.2.2.2 = p110 at h2 ⊢
  unfold F_Flo_exactly_c62
  have q2 : (-a15 - ev : Int32).toInt = -a15.toInt - ev.toInt := q_subI (v_negI (by omega) (by omega)) rfl (by omega) (by omega)
  obtain ⟨sc, es⟩ := q_nm (if 0 < (-a15 - ev : Int32) then (-a15 - ev : Int32) else 0 : Int32)
  have hsc : 0 ≤ sc.toInt ∧ sc.toInt ≤ 1075 := by
    rw [← es]
    split
    · rename_i h9
      have := q_ltI h9
      omega
    · decide
  rw [es]
  have m1 : z.natAbs * 5 ^ sc.toNatClampNeg < 2147483648 ^ 176 := by
    have k1 : 5 ^ sc.toNatClampNeg ≤ 10 ^ 1075 := Nat.le_trans (Nat.pow_le_pow_left (by decide) _) (Nat.pow_le_pow_right (by decide) (by rw [v_cn]; omega))
    have k2 : (10 : Nat) ^ 1075 ≤ 2147483648 ^ 116 := v_tB (by decide)
    have k3 := Nat.mul_lt_mul_of_lt_of_le b2 (Nat.le_trans k1 k2) (Nat.pow_pos (by decide))
    rw [← Nat.pow_add] at k3
    exact k3
  have h3 := W_five (M := 176) (x := sc) h2 (by decide) m1
  have b3 : bB 176 (z * 5 ^ sc.toNatClampNeg) := by
    unfold bB
    rw [Int.natAbs_mul, Int.natAbs_pow]
    exact m1
  have n3 : z * 5 ^ sc.toNatClampNeg ≠ 0 := Int.mul_ne_zero n2 (by have := v_t5 sc.toNatClampNeg; omega)
  generalize z * 5 ^ sc.toNatClampNeg = y at h3 b3 n3
  generalize F_Big_timesFive 220 sc p110.1 p110.2.1 p110.2.2 = p142 at h3 ⊢
  unfold F_Flo_exactly_c80 F_Flo_isNegative
  split
  · exact ⟨_, h3.abs0, b3.a0.mono (by decide)⟩
  · exact ⟨_, h3.abs1 (h3.pos.mpr n3), b3.a1.mono (by decide)⟩
