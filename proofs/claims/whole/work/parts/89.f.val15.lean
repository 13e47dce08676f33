/-! values: one figure of a quotient -/
theorem v_knuth {P lu lv U3 V2 t U V : Int} (hP : 0 < P) (u0 : 0 ≤ lu) (u1 : lu < P) (w0 : 0 ≤ lv) (w1 : lv < P) (hU : U = lu + U3 * P) (hV : V = lv + V2 * P) (t0 : 0 ≤ t) (t1 : t ≤ 2147483647) (h1 : t * V2 ≤ U3) (h2 : U3 < (t + 1) * V2 ∨ t = 2147483647) (hB : 2147483648 ≤ V2) (hUV : U < V * 2147483648) : 0 ≤ U - t * V + V ∧ U - t * V < V := by
  have U30 : 0 ≤ U3 := by
    have : 0 ≤ t * V2 := Int.mul_nonneg t0 (by omega)
    omega
  have hU3P : 0 ≤ U3 * P := Int.mul_nonneg U30 (by omega)
  have hV2P : 0 ≤ V2 * P := Int.mul_nonneg (by omega) (by omega)
  constructor
  · by_cases h : t = 0
    · rw [h, Int.zero_mul]
      omega
    · have a1 : (t - 1) * lv ≤ (t - 1) * P := Int.mul_le_mul_of_nonneg_left (by omega) (by omega)
      have a2 : ((t - 1) * V2 + (t - 1)) * P ≤ U3 * P := Int.mul_le_mul_of_nonneg_right (by rw [Int.sub_mul]; omega) (by omega)
      have a3 : t * V = t * lv + t * (V2 * P) := by rw [hV, Int.mul_add]
      simp only [Int.sub_mul, Int.add_mul, Int.one_mul, Int.mul_assoc] at a1 a2
      omega
  · rcases h2 with h2 | h2
    · have a1 : (U3 + 1) * P ≤ (t + 1) * V2 * P := Int.mul_le_mul_of_nonneg_right (by omega) (by omega)
      have a2 : 0 ≤ (t + 1) * lv := Int.mul_nonneg (by omega) w0
      have a3 : t * V = t * lv + t * (V2 * P) := by rw [hV, Int.mul_add]
      have a4 : (t + 1) * V2 * P = (t + 1) * (V2 * P) := Int.mul_assoc _ _ _
      rw [a4, Int.add_mul, Int.add_mul] at a1
      rw [Int.add_mul] at a2
      omega
    · rw [h2]
      omega
theorem v_top2 {f : Nat → Int32} {M : Nat} : vB f (M + 2) = vB f M + ((f (M + 1)).toInt * 2147483648 + (f M).toInt) * 2147483648 ^ M := by
  show vB f M + (f M).toInt * 2147483648 ^ M + (f (M + 1)).toInt * 2147483648 ^ (M + 1) = _
  rw [v_pw, Int.add_mul]
  have e : (f (M + 1)).toInt * (2147483648 ^ M * 2147483648) = (f (M + 1)).toInt * 2147483648 * 2147483648 ^ M := by ac_rfl
  omega
theorem v_top3 {f : Nat → Int32} {M : Nat} : vB f (M + 3) = vB f M + (((f (M + 2)).toInt * 2147483648 + (f (M + 1)).toInt) * 2147483648 + (f M).toInt) * 2147483648 ^ M := by
  show vB f (M + 2) + (f (M + 2)).toInt * 2147483648 ^ (M + 2) = _
  rw [v_top2, v_pw, v_pw]
  have e : (f (M + 2)).toInt * (2147483648 ^ M * 2147483648 * 2147483648) = (f (M + 2)).toInt * 2147483648 * 2147483648 * 2147483648 ^ M := by ac_rfl
  rw [e]
  simp only [Int.add_mul]
  omega
theorem v_u2 {f d : Nat → Int32} {M : Nat} (okf : okL f (M + 3)) (okd : okL d (M + 2)) (hU : vB f (M + 3) < vB d (M + 2) * 2147483648) : (f (M + 2)).toInt ≤ (d (M + 1)).toInt := by
  apply Int.le_of_not_gt
  intro h
  have h1 := v_nn (okf.mono (show M + 2 ≤ M + 3 by omega))
  have h2 := v_lt (okd.mono (show M + 1 ≤ M + 2 by omega))
  have h3 : vB f (M + 3) = vB f (M + 2) + (f (M + 2)).toInt * 2147483648 ^ (M + 2) := rfl
  have h4 : vB d (M + 2) = vB d (M + 1) + (d (M + 1)).toInt * 2147483648 ^ (M + 1) := rfl
  have h5 : ((d (M + 1)).toInt + 1) * 2147483648 ^ (M + 2) ≤ (f (M + 2)).toInt * 2147483648 ^ (M + 2) := Int.mul_le_mul_of_nonneg_right (by omega) (Int.le_of_lt (v_pos _))
  rw [h3, h4, v_pw, Int.add_mul] at hU
  rw [v_pw, Int.add_mul] at h5
  have e : (d (M + 1)).toInt * 2147483648 ^ (M + 1) * 2147483648 = (d (M + 1)).toInt * (2147483648 ^ (M + 1) * 2147483648) := by ac_rfl
  omega
theorem V_take {R p R2 s neg s2 neg2 : Int32} {f d : Nat → Int32} (hp : 0 ≤ p.toInt) (h2 : 2 ≤ s2.toInt) (hps : p.toInt + s2.toInt < s.toInt) (hsR : s.toInt ≤ R.toInt) (hR : R.toInt ≤ 220) (okd : okL d s2.toNatClampNeg) (okf : okL f s.toNatClampNeg) (hn : 1073741824 ≤ (d (s2.toNatClampNeg - 1)).toInt)
    (hU : vB (fun i => f (p.toNatClampNeg + i)) (s2.toNatClampNeg + 1) < vB d s2.toNatClampNeg * 2147483648) :
    ∃ (q : Int32) (h : Nat → Int32), F_Big_takeTimes R p R2 s neg f s2 neg2 d = (q, h) ∧ 0 ≤ q.toInt ∧ okL h s.toNatClampNeg ∧ (∀ k, k < p.toNatClampNeg ∨ p.toNatClampNeg + s2.toNatClampNeg < k → h k = f k) ∧
      vB (fun i => h (p.toNatClampNeg + i)) (s2.toNatClampNeg + 1) = vB (fun i => f (p.toNatClampNeg + i)) (s2.toNatClampNeg + 1) - q.toInt * vB d s2.toNatClampNeg ∧ vB (fun i => h (p.toNatClampNeg + i)) (s2.toNatClampNeg + 1) < vB d s2.toNatClampNeg := by
  have ep := q_clI (i := p) rfl hp
  have e2 := q_clI (i := s2) rfl (by omega)
  have es := q_clI (i := s) rfl (by omega)
  have e0 : (0 : Int32).toInt = 0 := rfl
  have e00 : (0 : Int64).toInt = 0 := rfl
  have e01 : (0 : Int32).toNatClampNeg = 0 := rfl
  obtain ⟨M, hM⟩ : ∃ M, s2.toNatClampNeg = M + 2 := ⟨s2.toNatClampNeg - 2, by omega⟩
  obtain ⟨c1, c2⟩ := v_cl2 hp (show 0 ≤ s2.toInt by omega) (by omega)
  have k1 : (p + s2 - 1 : Int32).toInt = p.toInt + s2.toInt - 1 := q_subI (y := 1) c1 rfl (by omega) (by omega)
  have k2 : (p + s2 - 2 : Int32).toInt = p.toInt + s2.toInt - 2 := q_subI (y := 2) c1 rfl (by omega) (by omega)
  have k3 : (s2 - 1 : Int32).toInt = s2.toInt - 1 := q_subI (y := 1) rfl rfl (by omega) (by omega)
  have k4 : (s2 - 2 : Int32).toInt = s2.toInt - 2 := q_subI (y := 2) rfl rfl (by omega) (by omega)
  have n1 := q_clI (i := p + s2 - 1) k1 (by omega)
  have n2 := q_clI (i := p + s2 - 2) k2 (by omega)
  have n3 := q_clI (i := s2 - 1) k3 (by omega)
  have n4 := q_clI (i := s2 - 2) k4 (by omega)
  have a2 := v_limb (R := R) (i := p + s2) (s := s) (neg := neg) (f := f) (by omega) (by omega)
  rw [if_pos (by omega), show (p + s2 : Int32).toNatClampNeg = p.toNatClampNeg + (M + 2) by omega] at a2
  have a1 := v_limb (R := R) (i := p + s2 - 1) (s := s) (neg := neg) (f := f) (by omega) (by omega)
  rw [if_pos (by omega), show (p + s2 - 1 : Int32).toNatClampNeg = p.toNatClampNeg + (M + 1) by omega] at a1
  have a0 := v_limb (R := R) (i := p + s2 - 2) (s := s) (neg := neg) (f := f) (by omega) (by omega)
  rw [if_pos (by omega), show (p + s2 - 2 : Int32).toNatClampNeg = p.toNatClampNeg + M by omega] at a0
  have b1 := v_limb (R := R2) (i := s2 - 1) (s := s2) (neg := neg2) (f := d) (by omega) (by omega)
  rw [if_pos (by omega), show (s2 - 1 : Int32).toNatClampNeg = M + 1 by omega] at b1
  have b0 := v_limb (R := R2) (i := s2 - 2) (s := s2) (neg := neg2) (f := d) (by omega) (by omega)
  rw [if_pos (by omega), show (s2 - 2 : Int32).toNatClampNeg = M by omega] at b0
  rw [hM] at okd hn hU ⊢
  rw [show M + 2 - 1 = M + 1 by omega] at hn
  rw [show M + 2 + 1 = M + 3 by omega] at hU ⊢
  have oka : okL (fun i => f (p.toNatClampNeg + i)) (M + 3) := fun i hi => okf _ (by omega)
  have u2 := v_u2 oka okd hU
  obtain ⟨t, g1, g2, g3, g4, g5⟩ := V_guess (R2 := R2) a2 a1 a0 b1 b0 (okf _ (by omega)) (okf _ (by omega)) (okf _ (by omega)) hn (okd _ (by omega)) u2
  have kn := v_knuth (v_pos M) (v_nn (oka.mono (show M ≤ M + 3 by omega))) (v_lt (oka.mono (show M ≤ M + 3 by omega))) (v_nn (okd.mono (show M ≤ M + 2 by omega))) (v_lt (okd.mono (show M ≤ M + 2 by omega))) v_top3 v_top2 g2 g3 g4 g5 (by have h9 := okd M (by omega); omega) hU
  have okd2 : okL d s2.toNatClampNeg := by rw [hM]; exact okd
  obtain ⟨h, y, o', r1, r2, r3, r4, r5, r6, r7⟩ := V_tkL (R := R) (p := p) (R2 := R2) (s := s) (neg := neg) (s2 := s2) (neg2 := neg2) (g0 := f) (d := d) (t := t) hp (by omega) hps hsR hR okd2 g2 g3 ((220 - (0 : Int32).toInt).toNat + 1) 0 0 f (by omega) (by omega) (by omega) (by omega) okf (by omega)
  unfold F_Big_takeTimes
  rw [g1, r1]
  rw [hM] at r3 r4 r7 ⊢
  rw [e00, e01, Int.zero_mul, Int.sub_zero, show vB d 0 = 0 from rfl, Int.sub_zero] at r7
  have t32 : t.toInt32.toInt = t.toInt := s_l2i (by omega) (by omega)
  have okh : okL (fun i => h (p.toNatClampNeg + i)) (M + 2) := fun i hi => r2 _ (by omega)
  have L0 := v_nn okh
  have L1 := v_lt okh
  have u0 : 0 ≤ (f (p.toNatClampNeg + (M + 2))).toInt := okf _ (by omega)
  have u1 := Int32.toInt_lt (f (p.toNatClampNeg + (M + 2)))
  have top : vB (fun i => f (p.toNatClampNeg + i)) (M + 3) = vB (fun i => f (p.toNatClampNeg + i)) (M + 2) + (f (p.toNatClampNeg + (M + 2))).toInt * 2147483648 ^ (M + 2) := rfl
  have U0 := v_nn oka
  have V0 := v_nn okd
  have V1 := v_lt okd
  have hPP := v_pos (M + 2)
  have main : vB (fun i => f (p.toNatClampNeg + i)) (M + 3) - t.toInt * vB d (M + 2) = vB (fun i => h (p.toNatClampNeg + i)) (M + 2) + y.toInt * 2147483648 ^ (M + 2) := by
    rw [r4, Int.sub_mul, top]
    omega
  have y31 := v_and31J (x := y)
  have m7 : (y &&& 2147483647).toInt32.toInt = (y &&& 2147483647).toInt := s_l2i (by omega) (by omega)
  obtain ⟨m, em⟩ := q_nm (y &&& 2147483647).toInt32
  rw [em, y31.2] at m7
  rw [em]
  by_cases hy : y.toInt < 0
  · rw [if_pos hy]
    have hm : m.toInt = y.toInt + 2147483648 := by omega
    have neg1 : y.toInt * 2147483648 ^ (M + 2) ≤ (-1) * 2147483648 ^ (M + 2) := Int.mul_le_mul_of_nonneg_right (by omega) (by omega)
    have t1 : 1 ≤ t.toInt := by
      apply Int.le_of_not_gt
      intro h9
      have : t.toInt = 0 := by omega
      rw [this, Int.zero_mul] at main
      omega
    obtain ⟨h', w, q1, q2, q3, q4, q5, q6⟩ := V_gbL (R := R) (p := p) (R2 := R2) (s := s) (neg := neg) (s2 := s2) (neg2 := neg2) (g0 := upd h (p.toNatClampNeg + (M + 2)) m) (d := d) hp (by omega) hps hsR hR okd2 ((220 - (0 : Int32).toInt).toNat + 1) 0 0 (upd h (p.toNatClampNeg + (M + 2)) m) (by omega) (by omega) (by omega) (by omega) (okL_upd r2 (by omega)) (by omega)
    have eg : F_Big_giveBack R p R2 s neg (upd h (p.toNatClampNeg + (M + 2)) m) s2 neg2 d = h' := by
      unfold F_Big_giveBack
      exact q1
    rw [eg]
    rw [hM] at q3 q6
    rw [e0, e01, Int.zero_mul, Int.add_zero, show vB d 0 = 0 from rfl, Int.sub_zero, v_shu, v_upd_in, hm, Int.add_mul] at q6
    have okh' : okL (fun i => h' (p.toNatClampNeg + i)) (M + 3) := fun i hi => q2 _ (by omega)
    have H0 := v_nn okh'
    have H1 := v_lt okh'
    rw [show M + 2 + 1 = M + 3 by omega] at q6
    have pw : (2147483648 : Int) ^ (M + 3) = 2147483648 ^ (M + 2) * 2147483648 := v_pw _
    have w1 : w = 1 := by
      apply Int.le_antisymm q5
      apply Int.le_of_not_gt
      intro h9
      have : w = 0 := by omega
      rw [this, Int.zero_mul] at q6
      omega
    rw [w1, Int.one_mul] at q6
    have s1 : (t.toInt32 - 1 : Int32).toInt = t.toInt - 1 := q_subI (y := 1) t32 rfl (by omega) (by omega)
    have fin : vB (fun i => h' (p.toNatClampNeg + i)) (M + 3) = vB (fun i => f (p.toNatClampNeg + i)) (M + 3) - (t.toInt - 1) * vB d (M + 2) := by
      rw [Int.sub_mul]
      omega
    refine ⟨_, h', rfl, by omega, q2, fun k hk => ?_, ?_, ?_⟩
    · rw [q3 k hk, v_ne (by omega), r3 k (by omega)]
    · rw [s1]
      exact fin
    · rw [fin, Int.sub_mul]
      omega
  · rw [if_neg hy]
    have hm : m.toInt = y.toInt := by omega
    have val : vB (fun i => upd h (p.toNatClampNeg + (M + 2)) m (p.toNatClampNeg + i)) (M + 3) = vB (fun i => f (p.toNatClampNeg + i)) (M + 3) - t.toInt * vB d (M + 2) := by
      rw [v_shu, show M + 3 = M + 2 + 1 by omega, v_upd_in, hm]
      exact main.symm
    refine ⟨_, _, rfl, by omega, okL_upd r2 (by omega), fun k hk => ?_, ?_, ?_⟩
    · rw [v_ne (by omega), r3 k (by omega)]
    · rw [t32]
      exact val
    · rw [val]
      omega
