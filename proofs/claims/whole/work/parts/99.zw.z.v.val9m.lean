/-! values, for whole: the reference's DecimalRows: round, and what a quotient of p figures is -/
theorem s_sc {N U Z W P Q : Int} (hP : 0 < P) (hQ : 0 < Q) (k1 : N * P = Z * Q) (k2 : U * P = W * Q) : N / U = Z / W ∧ (N % U = 0 ↔ Z % W = 0) := by
  have e : N / U = Z / W := by
    rw [← Int.mul_ediv_mul_of_pos_left N U hP, k1, k2, Int.mul_ediv_mul_of_pos_left Z W hQ]
  have h3 : (N % U) * P = (Z % W) * Q := by
    rw [Int.emod_def, Int.emod_def, ← e, Int.sub_mul, Int.sub_mul, k1, show U * (N / U) * P = (U * P) * (N / U) by ac_rfl, k2, show W * Q * (N / U) = W * (N / U) * Q by ac_rfl]
  refine ⟨e, ?_, ?_⟩
  · intro h
    rw [h, Int.zero_mul] at h3
    exact (Int.mul_eq_zero.mp h3.symm).resolve_right (Int.ne_of_gt hQ)
  · intro h
    rw [h, Int.zero_mul] at h3
    exact (Int.mul_eq_zero.mp h3).resolve_right (Int.ne_of_gt hP)
/-- ten times the quotient out of a quotient with i figures behind the point -/
theorem q_tz {a b v r z : Int} {i e1 e2 : Nat} (b0 : b ≠ 0) (hY : (a.natAbs : Int) * 10 ^ i = v * (b.natAbs : Int) + r) (hr : 0 ≤ r ∧ r < (b.natAbs : Int)) (he : z = (i : Int) + (e1 : Int) - (e2 : Int)) (h12 : e1 = 0 ∨ e2 = 0) (hre : r = 0 ∨ (e1 = 0 ∧ 1 ≤ e2)) : dvN a z / dvU b z = (10 * v * 10 ^ e1) / 10 ^ e2 ∧ (dvN a z % dvU b z = 0 ↔ ((10 * v) % 10 ^ e2 = 0 ∧ r = 0)) := by
  have hB : 0 < (b.natAbs : Int) := by omega
  unfold dvN dvU
  generalize (a.natAbs : Int) = A at *
  generalize (b.natAbs : Int) = B at *
  have hz : z.toNat + e2 = i + e1 + (-z).toNat := by omega
  generalize z.toNat = zp at *
  generalize (-z).toNat = zn at *
  have pw : (10 : Int) ^ zp * 10 ^ e2 = 10 ^ i * 10 ^ e1 * 10 ^ zn := by
    rw [← Int.pow_add, hz, Int.pow_add, Int.pow_add]
  have k1 : 10 * (A * 10 ^ zp) * 10 ^ e2 = (10 * (v * B + r) * 10 ^ e1) * 10 ^ zn := by
    rw [← hY, show 10 * (A * 10 ^ zp) * 10 ^ e2 = 10 * A * (10 ^ zp * 10 ^ e2) by ac_rfl, pw]
    ac_rfl
  have k2 : B * 10 ^ zn * 10 ^ e2 = (B * 10 ^ e2) * 10 ^ zn := by ac_rfl
  obtain ⟨s1, s2⟩ := s_sc (u_pos e2) (u_pos zn) k1 k2
  rw [s1, s2]
  by_cases hr0 : r = 0
  · have k3 : (10 * (v * B + r) * 10 ^ e1) * 1 = (10 * v * 10 ^ e1) * B := by
      rw [hr0, Int.add_zero, Int.mul_one]
      ac_rfl
    have k4 : (B * 10 ^ e2) * 1 = 10 ^ e2 * B := by
      rw [Int.mul_one, Int.mul_comm]
    obtain ⟨s3, s4⟩ := s_sc (by decide) hB k3 k4
    rw [s3, s4]
    refine ⟨rfl, ?_⟩
    rcases h12 with h | h
    · rw [h, Int.pow_zero, Int.mul_one]
      exact ⟨fun g => ⟨g, hr0⟩, fun g => g.1⟩
    · rw [h, Int.pow_zero, Int.emod_one, Int.emod_one]
      exact ⟨fun g => ⟨rfl, hr0⟩, fun g => rfl⟩
  · obtain ⟨h1, h2⟩ := hre.resolve_left hr0
    obtain ⟨f, rfl⟩ : ∃ f, e2 = f + 1 := ⟨e2 - 1, by omega⟩
    subst h1
    have k3 : (10 * (v * B + r) * 10 ^ 0) * 1 = (v * B + r) * 10 := by
      rw [Int.pow_zero, Int.mul_one, Int.mul_one, Int.mul_comm]
    have k4 : (B * 10 ^ (f + 1)) * 1 = (B * 10 ^ f) * 10 := by
      rw [Int.mul_one, u_pw, Int.mul_assoc]
    obtain ⟨s3, s4⟩ := s_sc (by decide) (by decide) k3 k4
    obtain ⟨t1, t2⟩ := u_dvT (Q := v) (U := B) (L := r) rfl hr.1 hr.2
    rw [s3, s4, ← Int.ediv_ediv_of_nonneg (Int.le_of_lt hB), t1, Int.pow_zero, Int.mul_one, (u_10d (v := v) (m := f)).1]
    refine ⟨rfl, fun g => ?_, fun g => absurd g.2 hr0⟩
    exfalso
    apply hr0
    rw [← t2, ← Int.emod_emod_of_dvd (v * B + r) (Int.dvd_mul_right B (10 ^ f)), g]
    exact Int.zero_emod _
theorem q_rng {v : Int} {n p : Nat} (hv : vG v n) (v0 : 0 < v) : (10 : Int) ^ p ≤ (10 * v * 10 ^ (p - n)) / 10 ^ (n - p) ∧ (10 * v * 10 ^ (p - n)) / 10 ^ (n - p) < 10 ^ (p + 1) := by
  obtain ⟨h1, h2⟩ := d_bdI hv (by omega)
  have n1 := hv.1.1
  rw [Int.natAbs_of_nonneg (by omega)] at h1 h2
  have e1 : (10 : Int) ^ n = 10 ^ (n - 1) * 10 := by
    obtain ⟨k, rfl⟩ : ∃ k, n = k + 1 := ⟨n - 1, by omega⟩
    rw [Nat.add_sub_cancel]
    exact u_pw k
  have lo : (10 : Int) ^ n ≤ 10 * v := by omega
  have hi : 10 * v < 10 ^ (n + 1) := by
    rw [u_pw]
    omega
  rcases Nat.le_total n p with h | h
  · rw [show n - p = 0 by omega, Int.pow_zero, Int.ediv_one]
    have p1 := u_pos (p - n)
    have l2 := Int.mul_le_mul_of_nonneg_right lo (Int.le_of_lt p1)
    have l3 := Int.mul_lt_mul_of_pos_right hi p1
    rw [← Int.pow_add] at l2 l3
    rw [show n + (p - n) = p by omega] at l2
    rw [show n + 1 + (p - n) = p + 1 by omega] at l3
    exact ⟨l2, l3⟩
  · rw [show p - n = 0 by omega, Int.pow_zero, Int.mul_one]
    refine ⟨(Int.le_ediv_iff_mul_le (u_pos _)).mpr ?_, Int.ediv_lt_of_lt_mul (u_pos _) ?_⟩
    · rw [← Int.pow_add, show p + (n - p) = n by omega]
      exact lo
    · rw [← Int.pow_add, show p + 1 + (n - p) = n + 1 by omega]
      exact hi
/-- a quotient of p figures by the mode m -/
def sQ (p : Nat) (m : Int32) (a b : Int × Int) (o : Option (Int × Int)) : Prop := (b.1 = 0 ∧ o = none) ∨ (b.1 ≠ 0 ∧ a.1 = 0 ∧ o = some (0, a.2 - b.2)) ∨ (b.1 ≠ 0 ∧ a.1 ≠ 0 ∧ ∃ z : Int, (10 : Int) ^ p ≤ dvN a.1 z / dvU b.1 z ∧ dvN a.1 z / dvU b.1 z < 10 ^ (p + 1) ∧ o = (sSht m (sXor (sF a.1) (sF b.1)) (if dvN a.1 z % dvU b.1 z = 0 then 0 else 1) p (dvN a.1 z / dvU b.1 z) (a.2 - b.2) (a.2 - b.2 + z)).map (fun q => (sgI (sXor (sF a.1) (sF b.1)) q.1, q.2)))
theorem dv_up {a b z : Int} (b0 : b ≠ 0) : ∀ k : Nat, dvN a z / dvU b z * 10 ^ k ≤ dvN a (z + k) / dvU b (z + k) := fun k => by
  have hB : 0 < (b.natAbs : Int) := by omega
  have hU : 0 < dvU b (z + k) := Int.mul_pos hB (u_pos _)
  have hV : 0 < dvU b z := Int.mul_pos hB (u_pos _)
  refine (Int.le_ediv_iff_mul_le hU).mpr ?_
  have h1 := Int.ediv_mul_le (dvN a z) (Int.ne_of_gt hV)
  generalize hq : dvN a z / dvU b z = q at h1
  have pw : (10 : Int) ^ z.toNat * 10 ^ k * 10 ^ (-(z + k)).toNat = 10 ^ (z + k).toNat * 10 ^ (-z).toNat := by
    rw [← Int.pow_add, ← Int.pow_add, ← Int.pow_add]
    exact congrArg _ (by omega)
  have h2 : q * 10 ^ k * dvU b (z + k) * 10 ^ (-z).toNat ≤ dvN a (z + k) * 10 ^ (-z).toNat := by
    have h3 := Int.mul_le_mul_of_nonneg_right h1 (Int.le_of_lt (Int.mul_pos (u_pos k) (u_pos (-(z + k)).toNat)))
    unfold dvN dvU at *
    rw [show q * 10 ^ k * ((b.natAbs : Int) * 10 ^ (-(z + k)).toNat) * 10 ^ (-z).toNat = q * ((b.natAbs : Int) * 10 ^ (-z).toNat) * (10 ^ k * 10 ^ (-(z + k)).toNat) by ac_rfl]
    refine Int.le_trans h3 (Int.le_of_eq ?_)
    rw [show 10 * ((a.natAbs : Int) * 10 ^ z.toNat) * (10 ^ k * 10 ^ (-(z + k)).toNat) = 10 * (a.natAbs : Int) * (10 ^ z.toNat * 10 ^ k * 10 ^ (-(z + k)).toNat) by ac_rfl, pw]
    ac_rfl
  exact Int.le_of_mul_le_mul_right h2 (u_pos _)
theorem dv_U {a b z y : Int} {p : Nat} (b0 : b ≠ 0) (h1 : (10 : Int) ^ p ≤ dvN a z / dvU b z) (h2 : dvN a z / dvU b z < 10 ^ (p + 1)) (g1 : (10 : Int) ^ p ≤ dvN a y / dvU b y) (g2 : dvN a y / dvU b y < 10 ^ (p + 1)) : z = y := by
  have key : ∀ {z y : Int}, (10 : Int) ^ p ≤ dvN a z / dvU b z → dvN a y / dvU b y < 10 ^ (p + 1) → y ≤ z := fun {z y} h g => by
    by_cases c : y ≤ z
    · exact c
    · exfalso
      have k := dv_up (a := a) (b := b) (z := z) b0 (y - z).toNat
      rw [show z + ((y - z).toNat : Int) = y by omega] at k
      obtain ⟨d, hd⟩ : ∃ d, (y - z).toNat = d + 1 := ⟨(y - z).toNat - 1, by omega⟩
      rw [hd] at k
      have l1 : (10 : Int) ^ p * 10 ^ (d + 1) ≤ dvN a z / dvU b z * 10 ^ (d + 1) := Int.mul_le_mul_of_nonneg_right h (Int.le_of_lt (u_pos _))
      have l2 : (10 : Int) ^ (p + 1) ≤ 10 ^ p * 10 ^ (d + 1) := by
        rw [← Int.pow_add]
        exact u_pwle (by omega)
      exact absurd (Int.lt_of_lt_of_le g (Int.le_trans l2 (Int.le_trans l1 k))) (Int.lt_irrefl _)
  have k1 := key h1 g2
  have k2 := key g1 h2
  omega
theorem sQ_U {p : Nat} {m : Int32} {a b : Int × Int} {o o' : Option (Int × Int)} (h : sQ p m a b o) (g : sQ p m a b o') : o = o' := by
  rcases h with ⟨h1, h2⟩ | ⟨h1, h2, h3⟩ | ⟨h1, h2, z, h3, h4, h5⟩
  · rcases g with ⟨g1, g2⟩ | ⟨g1, _⟩ | ⟨g1, _⟩
    · rw [h2, g2]
    · exact absurd h1 g1
    · exact absurd h1 g1
  · rcases g with ⟨g1, g2⟩ | ⟨_, g2, g3⟩ | ⟨_, g2, _⟩
    · exact absurd g1 h1
    · rw [h3, g3]
    · exact absurd h2 g2
  · rcases g with ⟨g1, g2⟩ | ⟨_, g2, g3⟩ | ⟨_, _, y, g3, g4, g5⟩
    · exact absurd g1 h1
    · exact absurd g2 h2
    · rw [h5, g5, dv_U h1 h3 h4 g3 g4]
/-- a state with v figures of a quotient, and what toPrecision makes of it -/
theorem q_sht {m g st : Int32} {p n i : Nat} {a b v r w wish z : Int} (b0 : b ≠ 0) (hY : (a.natAbs : Int) * 10 ^ i = v * (b.natAbs : Int) + r) (hr : 0 ≤ r ∧ r < (b.natAbs : Int)) (hz : z = (i : Int) + (p : Int) - (n : Int)) (hst : st = 0 ↔ r = 0) (hn : r = 0 ∨ p + 1 ≤ n) : sSht m g (rSt v (n - p) st) p ((10 * v * 10 ^ (p - n)) / 10 ^ (n - p)) wish (w + (i : Int) + (p : Int) - (n : Int)) = sSht m g (if dvN a z % dvU b z = 0 then 0 else 1) p (dvN a z / dvU b z) wish (w + z) := by
  obtain ⟨s1, s2⟩ := q_tz (z := z) (e1 := p - n) (e2 := n - p) b0 hY hr (by omega) (by omega) (hn.imp id (fun h => ⟨by omega, by omega⟩))
  have e1 : rSt v (n - p) st = (if dvN a z % dvU b z = 0 then 0 else 1) := by
    unfold rSt
    exact r_co (by rw [s2, hst]) _ _
  rw [e1, s1, show w + (i : Int) + (p : Int) - (n : Int) = w + z by omega]
theorem sXor_z {v : Int} : sXor (sF v) (sF 1) = sF v := by
  have e : sF 1 = 0 := rfl
  rw [e]
  unfold sXor
  rcases sF_01 (v := v) with h | h <;> rw [h] <;> rfl
theorem V_DR_round {x2 : Int32} {x3 : Int32} {x4 : Int32} {x5 : Int32} {t0_0 : Int32} {t0_1 : Int32} {t0_2 : Int32} {t0_3 : Int64} {t0_4 : Int32} {t0_5 : Int32} {t0_6 : Int32} {t0_7 : Int32} {t0_8 : Int32} {t0_9 : Int32} {t0_10 : Int32} {t1_0 : (Nat → Int32)} {t2_0 : (Nat → Int32)} {t3_0 : (Nat → Int32)} {t4_0 : (Nat → Int32)} {t5_0 : (Nat → Int32)} {D : Nat → Int × Int} (hD : dRv t1_0 t2_0 t3_0 t4_0 D) (hx2 : 0 ≤ x2.toInt ∧ x2.toInt ≤ 9) (hx3 : 0 ≤ x3.toInt ∧ x3.toInt ≤ 9) (h4 : 1 ≤ x4.toInt ∧ x4.toInt ≤ 1000) (h5 : F_DR_noMode x5 = 0) : ∃ o, sQ x4.toNatClampNeg x5 (D x2.toNatClampNeg) (1, 0) o ∧ dAn x3 D o 0 2 (F_DR_round x2 x3 x4 x5 t0_0 t0_1 t0_2 t0_3 t0_4 t0_5 t0_6 t0_7 t0_8 t0_9 t0_10 t1_0 t2_0 t3_0 t4_0 t5_0).1 (F_DR_round x2 x3 x4 x5 t0_0 t0_1 t0_2 t0_3 t0_4 t0_5 t0_6 t0_7 t0_8 t0_9 t0_10 t1_0 t2_0 t3_0 t4_0 t5_0).2.2.2.2.2.2.2.2.2.2.2.1 (F_DR_round x2 x3 x4 x5 t0_0 t0_1 t0_2 t0_3 t0_4 t0_5 t0_6 t0_7 t0_8 t0_9 t0_10 t1_0 t2_0 t3_0 t4_0 t5_0).2.2.2.2.2.2.2.2.2.2.2.2.1 (F_DR_round x2 x3 x4 x5 t0_0 t0_1 t0_2 t0_3 t0_4 t0_5 t0_6 t0_7 t0_8 t0_9 t0_10 t1_0 t2_0 t3_0 t4_0 t5_0).2.2.2.2.2.2.2.2.2.2.2.2.2.1 (F_DR_round x2 x3 x4 x5 t0_0 t0_1 t0_2 t0_3 t0_4 t0_5 t0_6 t0_7 t0_8 t0_9 t0_10 t1_0 t2_0 t3_0 t4_0 t5_0).2.2.2.2.2.2.2.2.2.2.2.2.2.2.1 := by
  have e1 : (1 : Int32).toInt = 1 := rfl
  have eK : (1000 : Int32).toInt = 1000 := rfl
  have h2c := q_clI (i := x2) rfl hx2.1
  obtain ⟨a1, a2, a3, a4, a5, a6⟩ := hD.2 x2.toNatClampNeg (by omega)
  have pc := q_clI (i := x4) rfl (by omega)
  unfold F_DR_round
  rw [if_pos (g_no0 hx2), if_pos (g_no0 hx3), if_pos h5, if_neg (fun c => by have := q_ltI c; omega), if_pos (Int32.le_iff_toInt_le.mpr (by omega))]
  unfold F_DR_round_J40
  rw [if_pos rfl]
  have hl := V_DR_load (x2 := x2) (t0_0 := 0) (t0_1 := t0_1) (t0_2 := t0_2) (t0_3 := t0_3) (t0_4 := t0_4) (t0_5 := t0_5) (t0_6 := t0_6) (t0_7 := t0_7) (t0_8 := t0_8) (t0_9 := t0_9) (t0_10 := 2) (t5_0 := t5_0) hD hx2
  generalize F_DR_load x2 0 t0_1 t0_2 t0_3 t0_4 t0_5 t0_6 t0_7 t0_8 t0_9 2 t1_0 t2_0 t3_0 t4_0 t5_0 = y at hl ⊢
  unfold F_DR_round_c57
  obtain ⟨⟨l1, l2, l3, l4⟩, l5, l6, l7, l8, l9, l10, l11, l12, l13, l14, l15⟩ := hl
  have l8' : y.2.2.2.2.2.1 = sF (D x2.toNatClampNeg).1 := l8
  have ew : ((t4_0 x2.toNatClampNeg).toInt64).toInt = (D x2.toNatClampNeg).2 := (Int32.toInt_toInt64 _).trans a5
  have b5 : y.2.2.2.2.2.1 = 0 ∨ y.2.2.2.2.2.1 = 1 := by
    rw [l8']
    exact sF_01
  obtain ⟨k1, k2⟩ := V_DR_toPrecision (x2 := x4) (x3 := (t4_0 x2.toNatClampNeg).toInt64) (x4 := x5) (x5 := x3) (t0_0 := y.1) (t0_1 := y.2.1) (t0_2 := y.2.2.1) (t0_3 := y.2.2.2.1) (t0_4 := y.2.2.2.2.1) (t0_5 := y.2.2.2.2.2.1) (t0_6 := y.2.2.2.2.2.2.1) (t0_7 := y.2.2.2.2.2.2.2.1) (t0_8 := y.2.2.2.2.2.2.2.2.1) (t0_9 := y.2.2.2.2.2.2.2.2.2.1) (t0_10 := y.2.2.2.2.2.2.2.2.2.2.1) (t5_0 := y.2.2.2.2.2.2.2.2.2.2.2) (p := x4.toNatClampNeg) hD hx3 pc.symm ⟨by omega, by omega⟩ ⟨by omega, by omega⟩ l2 l3 ⟨by omega, by omega⟩ ⟨by omega, by omega⟩ (Or.inl l7) b5
  generalize F_DR_toPrecision x4 (t4_0 x2.toNatClampNeg).toInt64 x5 x3 y.1 y.2.1 y.2.2.1 y.2.2.2.1 y.2.2.2.2.1 y.2.2.2.2.2.1 y.2.2.2.2.2.2.1 y.2.2.2.2.2.2.2.1 y.2.2.2.2.2.2.2.2.1 y.2.2.2.2.2.2.2.2.2.1 y.2.2.2.2.2.2.2.2.2.2.1 t1_0 t2_0 t3_0 t4_0 y.2.2.2.2.2.2.2.2.2.2.2 = u at k1 k2 ⊢
  unfold F_DR_round_c72
  rw [l9, l15, ew] at k1
  rw [l9, l15, ew, l8', l6, l7] at k2
  by_cases za : (D x2.toNatClampNeg).1 = 0
  · refine ⟨_, Or.inr (Or.inl ⟨by decide, za, rfl⟩), ?_⟩
    show dAn x3 D (some (0, (D x2.toNatClampNeg).2 - 0)) 0 2 _ _ _ _ _
    rw [Int.sub_zero]
    exact k1 (by rw [za]; rfl)
  · have k3 := k2 (by omega) _ l4
    have r1 := q_rng (p := x4.toNatClampNeg) l4 (by omega)
    have hY : ((D x2.toNatClampNeg).1.natAbs : Int) * 10 ^ 0 = ((D x2.toNatClampNeg).1.natAbs : Int) * ((1 : Int).natAbs : Int) + 0 := by
      rw [Int.pow_zero]
      show _ * 1 = _ * 1 + 0
      omega
    have hr : (0 : Int) ≤ 0 ∧ (0 : Int) < ((1 : Int).natAbs : Int) := ⟨by decide, by decide⟩
    obtain ⟨s1, s2⟩ := q_tz (z := (x4.toNatClampNeg : Int) - (y.2.2.1.toNatClampNeg : Int)) (e1 := x4.toNatClampNeg - y.2.2.1.toNatClampNeg) (e2 := y.2.2.1.toNatClampNeg - x4.toNatClampNeg) (by decide) hY hr (by omega) (by omega) (Or.inl rfl)
    refine ⟨_, Or.inr (Or.inr ⟨by decide, za, (x4.toNatClampNeg : Int) - (y.2.2.1.toNatClampNeg : Int), by rw [s1]; exact r1.1, by rw [s1]; exact r1.2, rfl⟩), ?_⟩
    refine dAn_o k3 ?_
    rw [sXor_z, ← q_sht (m := x5) (g := sF (D x2.toNatClampNeg).1) (st := 0) (p := x4.toNatClampNeg) (n := y.2.2.1.toNatClampNeg) (w := (D x2.toNatClampNeg).2 - 0) (wish := (D x2.toNatClampNeg).2 - 0) (by decide) hY hr (by omega) ⟨fun _ => rfl, fun _ => rfl⟩ (Or.inl rfl), Int.sub_zero, show (D x2.toNatClampNeg).2 + ((0 : Nat) : Int) = (D x2.toNatClampNeg).2 by omega]
