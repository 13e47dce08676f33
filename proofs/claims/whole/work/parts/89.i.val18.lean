/-! values: shifts of normalized numbers -/
theorem V_prodN {R R2 R3 s0 n0 sa na sb nb : Int32} {g0 ga gb : Nat → Int32} (ha : bN sa ga) (hb : bN sb gb) (hR : R.toInt ≤ 220) (hf : sa.toInt + sb.toInt ≤ R.toInt) :
    ∃ (z : Int32) (h : Nat → Int32), F_Big_product R R2 R3 s0 n0 g0 sa na ga sb nb gb = (z, if na = nb then 0 else if z ≤ 0 then 0 else 1, h) ∧ z.toInt ≤ sa.toInt + sb.toInt ∧ bN z h ∧ bV z h = bV sa ga * bV sb gb := by
  obtain ⟨z, h, r1, r2, r3, r4, r5, r6⟩ := V_product (R := R) (R2 := R2) (R3 := R3) (s0 := s0) (n0 := n0) (na := na) (nb := nb) (g0 := g0) ha.1 hb.1 hR hf ha.2.1 hb.2.1
  exact ⟨z, h, r1, r3, ⟨r2, r4, r5⟩, r6⟩
theorem V_shlB {R x s neg : Int32} {f : Nat → Int32} (h : bN s f) (hx : 0 < x.toInt) (hs : 0 < s.toInt) (hR : R.toInt ≤ 220) (hfit : s.toInt + x.toInt / 31 + 1 ≤ R.toInt) :
    ∃ (z : Int32) (g : Nat → Int32), F_Big_shiftLeft R x s neg f = (z, if neg = 0 then 0 else if z ≤ 0 then 0 else 1, g) ∧ z.toInt ≤ s.toInt + x.toInt / 31 + 1 ∧ bN z g ∧ bV z g = bV s f * 2 ^ x.toNatClampNeg := by
  obtain ⟨z, g, r1, r2, r3, r4, r5, r6⟩ := V_shl (neg := neg) hx hs hR hfit h.2.1
  exact ⟨z, g, r1, r3, ⟨r2, r4, r5⟩, r6⟩
theorem V_shrB {R x s neg : Int32} {f : Nat → Int32} (h : bN s f) (hx : 0 < x.toInt) (hs : 0 < s.toInt) (hs2 : s.toInt ≤ 220) :
    ∃ (lost z : Int32) (g : Nat → Int32), F_Big_shiftRight R x s neg f = (lost, z, if neg = 0 then 0 else if z ≤ 0 then 0 else 1, g) ∧ z.toInt ≤ s.toInt ∧ bN z g ∧ bV z g = bV s f / 2 ^ x.toNatClampNeg := by
  obtain ⟨lost, z, g, r1, r2, r3, r4, r5, r6⟩ := V_shr (R := R) (neg := neg) hx hs hs2 h.2.1
  exact ⟨lost, z, g, r1, r3, ⟨r2, r4, r5⟩, r6⟩
/-- up to a shift that leaves the size as it is -/
theorem V_shlR {R x neg : Int32} {f : Nat → Int32} {k : Nat} (h : bN R f) (hk : x.toInt = (k : Int)) (k0 : 0 < k) (k1 : k < 31) (hs : 0 < R.toInt) (hR : R.toInt ≤ 220) (ht : (f (R.toNatClampNeg - 1)).toInt < 2 ^ (31 - k)) :
    ∃ (z : Int32) (g : Nat → Int32), F_Big_shiftLeft R x R neg f = (z, if neg = 0 then 0 else if z ≤ 0 then 0 else 1, g) ∧ z.toInt ≤ R.toInt ∧ bN z g ∧ bV z g = bV R f * 2 ^ k := by
  have e0 : (0 : Int32).toInt = 0 := rfl
  have d1 : (x / 31 : Int32).toInt = x.toInt / 31 := q_divI (y := 31) rfl rfl (by omega) (by omega)
  have d2 : (x - x / 31 * 31 : Int32).toInt = x.toInt % 31 := s_rem (b := 31) (by omega) (by decide)
  have es := q_clI (i := R) rfl (by omega)
  unfold F_Big_shiftLeft
  rw [if_neg (fun hh => by have := q_leI hh; omega), if_neg (fun hh => by rw [hh] at hs; omega)]
  obtain ⟨far, efar⟩ := q_nm (x / 31 : Int32)
  rw [efar] at d1 d2 ⊢
  obtain ⟨a, ea⟩ := q_nm (x - far * 31 : Int32)
  rw [ea] at d2 ⊢
  rw [if_pos (Int32.lt_iff_toInt_lt.mpr (by omega))]
  have f0 : far.toInt = 0 := by omega
  have ef := q_clI (i := far) rfl (by omega)
  have t1 : (R + far : Int32).toInt = R.toInt + far.toInt := q_addI rfl rfl (by omega) (by omega)
  have t2 : (R + far + 1 : Int32).toInt = R.toInt + far.toInt + 1 := q_addI (y := 1) t1 rfl (by omega) (by omega)
  rw [if_neg (fun hh => by have := q_ltI hh; omega)]
  have t4 : (R - 1 : Int32).toInt = R.toInt - 1 := q_subI (y := 1) rfl rfl (by omega) (by omega)
  obtain ⟨tm, etm⟩ := q_nm (R - 1 : Int32)
  rw [etm] at t4 ⊢
  obtain ⟨g, r1, r2⟩ := V_shlL (R := R) (x2 := x) (s := R) (neg := neg) (top := R) (a := a) (far := far) (g0 := f) (f := f) (k := k) (by omega) (by omega) (by omega) (by omega) hR h.2.1 ((tm.toInt - (-1)).toNat + 1) tm f (by omega) (by omega) (by omega) (fun _ _ => rfl) (fun m hm hm2 => by omega)
  rw [r1]
  have fz : F_jArr_fill R 0 far 0 g = g := by
    funext j
    rw [V_fill0 (by omega) (by omega), if_neg (by omega)]
  rw [fz]
  have g1 : ∀ m, m < R.toNatClampNeg → (g m).toInt = v_T f R.toNatClampNeg k m := fun m hm => by
    have := r2 m (by omega)
    rw [show far.toNatClampNeg + m = m by omega] at this
    exact this
  have g2 := v_shlV (f := f) (h := g) (s := R.toNatClampNeg) (k := k) (by omega) (n := R.toNatClampNeg) g1
  have g3 : v_lm f R.toNatClampNeg (R.toNatClampNeg - 1) / 2 ^ (31 - k) = 0 := by
    unfold v_lm
    rw [if_pos (by omega)]
    exact Int.ediv_eq_zero_of_lt (h.2.1 _ (by omega)) ht
  rw [if_neg (by omega), g3, Int.zero_mul, Int.sub_zero, vL_ge (by omega)] at g2
  have okg : okL g R.toNatClampNeg := fun m hm => by
    rw [g1 m hm]
    unfold v_T
    have h1 := Int.emod_nonneg (v_lm f R.toNatClampNeg m * 2 ^ k) (show (2147483648 : Int) ≠ 0 by decide)
    have h2 : 0 ≤ (if m = 0 then 0 else v_lm f R.toNatClampNeg (m - 1) / 2 ^ (31 - k) : Int) := by
      split
      · exact Int.le_refl 0
      · exact Int.ediv_nonneg (v_lm0 h.2.1) (Int.le_of_lt (v_p2 _))
    omega
  obtain ⟨z, w1, w2, w3, w4, w5⟩ := V_trimT (R := R) (s := R) (neg := neg) (f := g) (by omega) (by omega)
  rw [w1]
  refine ⟨z, g, rfl, w3, ⟨w2, okg.mono (by have := q_clI (i := z) rfl w2; omega), w4⟩, ?_⟩
  unfold bV
  rw [w5, g2, Int.mul_comm]
theorem v_nrmId {t k F P v : Int} (h1 : v < (t + 1) * P) (hk : 0 ≤ k) (hF : (t + 1) * k ≤ F) (hP : 0 ≤ P) : v * k ≤ F * P := by
  have h2 : v * k ≤ (t + 1) * P * k := Int.mul_le_mul_of_nonneg_right (by omega) hk
  have h3 : (t + 1) * k * P ≤ F * P := Int.mul_le_mul_of_nonneg_right hF hP
  have e : (t + 1) * P * k = (t + 1) * k * P := by ac_rfl
  omega
/-- the divisor's shift: its first limb has all its bits then -/
theorem V_shlD {R x s neg : Int32} {f : Nat → Int32} {b : Nat} (h : bN s f) (hs : 0 < s.toInt) (hsR : s.toInt ≤ R.toInt) (hR : R.toInt ≤ 220) (b1 : 1 ≤ b) (b2 : b ≤ 31) (hx : x.toInt = ((31 - b : Nat) : Int)) (l1 : (2 : Int) ^ (b - 1) ≤ (f (s.toNatClampNeg - 1)).toInt) (l2 : (f (s.toNatClampNeg - 1)).toInt < 2 ^ b) (hneg : neg = 0 ∨ neg = 1) :
    ∃ g : Nat → Int32, F_Big_shiftLeft R x s neg f = (s, neg, g) ∧ bN s g ∧ bV s g = bV s f * 2 ^ (31 - b) ∧ 1073741824 ≤ (g (s.toNatClampNeg - 1)).toInt := by
  have e0 : (0 : Int32).toInt = 0 := rfl
  have es := q_clI (i := s) rfl h.1
  obtain ⟨n, hn⟩ : ∃ n : Nat, s.toNatClampNeg = n + 1 := ⟨s.toNatClampNeg - 1, by omega⟩
  have eB : (2 : Int) ^ b * 2 ^ (31 - b) = 2147483648 := v_iB (by omega)
  have eB2 : (2 : Int) ^ (b - 1) * 2 ^ (31 - b) = 1073741824 := by
    have h1 : (2 : Int) ^ b = 2 ^ (b - 1) * 2 := by
      have : b = b - 1 + 1 := by omega
      rw [this, Int.pow_succ, show b - 1 + 1 - 1 = b - 1 by omega]
    rw [h1] at eB
    have e : (2 : Int) ^ (b - 1) * 2 * 2 ^ (31 - b) = 2 * (2 ^ (b - 1) * 2 ^ (31 - b)) := by ac_rfl
    omega
  have top : bV s f = vB f n + (f n).toInt * 2147483648 ^ n := by
    unfold bV
    rw [hn]
    rfl
  rw [hn, show n + 1 - 1 = n by omega] at l1 l2 ⊢
  have okf := h.2.1
  rw [hn] at okf
  have f1 := v_lt (okf.mono (Nat.le_succ n))
  have f0 := v_nn (okf.mono (Nat.le_succ n))
  have key : ∀ (z : Int32) (g : Nat → Int32), bN z g → bV z g = bV s f * 2 ^ (31 - b) → z = s ∧ 1073741824 ≤ (g n).toInt := fun z g hz hv => by
    have P0 := v_pos n
    have up : bV s f * 2 ^ (31 - b) ≤ 2147483648 * 2147483648 ^ n := by
      refine v_nrmId (t := (f n).toInt) ?_ (Int.le_of_lt (v_p2 _)) ?_ (Int.le_of_lt P0)
      · rw [top, Int.add_mul]
        omega
      · rw [← eB]
        exact Int.mul_le_mul_of_nonneg_right (by omega) (Int.le_of_lt (v_p2 _))
    have lo : 1073741824 * 2147483648 ^ n ≤ bV s f * 2 ^ (31 - b) := by
      have h1 : 2 ^ (b - 1) * 2147483648 ^ n ≤ (f n).toInt * 2147483648 ^ n := Int.mul_le_mul_of_nonneg_right l1 (Int.le_of_lt P0)
      have h2 : 2 ^ (b - 1) * 2147483648 ^ n * 2 ^ (31 - b) ≤ bV s f * 2 ^ (31 - b) := Int.mul_le_mul_of_nonneg_right (by omega) (Int.le_of_lt (v_p2 _))
      have e : 2 ^ (b - 1) * 2147483648 ^ n * 2 ^ (31 - b) = 2 ^ (b - 1) * 2 ^ (31 - b) * (2147483648 : Int) ^ n := by ac_rfl
      rw [e, eB2] at h2
      exact h2
    have ne : bV s f * 2 ^ (31 - b) < 2147483648 ^ (n + 1) := by
      have h1 : bV s f + 1 ≤ ((f n).toInt + 1) * 2147483648 ^ n := by rw [top, Int.add_mul]; omega
      have h2 : (bV s f + 1) * 2 ^ (31 - b) ≤ ((f n).toInt + 1) * 2147483648 ^ n * 2 ^ (31 - b) := Int.mul_le_mul_of_nonneg_right h1 (Int.le_of_lt (v_p2 _))
      have h3 : ((f n).toInt + 1) * 2 ^ (31 - b) ≤ 2 ^ b * 2 ^ (31 - b) := Int.mul_le_mul_of_nonneg_right (by omega) (Int.le_of_lt (v_p2 _))
      have h4 : ((f n).toInt + 1) * 2 ^ (31 - b) * 2147483648 ^ n ≤ 2147483648 * 2147483648 ^ n := Int.mul_le_mul_of_nonneg_right (by omega) (Int.le_of_lt P0)
      have e : ((f n).toInt + 1) * 2147483648 ^ n * 2 ^ (31 - b) = ((f n).toInt + 1) * 2 ^ (31 - b) * 2147483648 ^ n := by ac_rfl
      have p := v_p2 (31 - b)
      rw [Int.add_mul, Int.one_mul] at h2
      rw [v_pw]
      omega
    have z1 := hz.sz (n := n + 1) (by rw [hv]; exact ne)
    have ez := q_clI (i := z) rfl hz.1
    have z2 : (n : Int) + 1 ≤ z.toInt := by
      apply Int.le_of_not_gt
      intro h9
      have h1 := hz.lt
      have h2 := v_pwMono (show z.toNatClampNeg ≤ n by omega)
      omega
    have zs : z = s := Int32.toInt_inj.mp (by omega)
    subst zs
    refine ⟨rfl, ?_⟩
    have okg := hz.2.1
    rw [hn] at okg
    have g1 := v_lt (okg.mono (Nat.le_succ n))
    have gt : bV z g = vB g n + (g n).toInt * 2147483648 ^ n := by
      unfold bV
      rw [hn]
      rfl
    apply Int.le_of_not_gt
    intro h9
    have h10 : ((g n).toInt + 1) * 2147483648 ^ n ≤ 1073741824 * 2147483648 ^ n := Int.mul_le_mul_of_nonneg_right (by omega) (Int.le_of_lt P0)
    rw [Int.add_mul] at h10
    omega
  have negs : ∀ z : Int32, z = s → (if neg = 0 then 0 else if z ≤ 0 then 0 else 1 : Int32) = neg := fun z hz => by
    subst hz
    rcases hneg with rfl | rfl
    · rw [if_pos rfl]
    · rw [if_neg (by decide), if_neg (fun hh => by have := q_leI hh; omega)]
  by_cases hb : b = 31
  · subst hb
    have : F_Big_shiftLeft R x s neg f = (s, neg, f) := by
      unfold F_Big_shiftLeft
      rw [if_pos (Int32.le_iff_toInt_le.mpr (by omega))]
    rw [this]
    have hv : bV s f = bV s f * 2 ^ (31 - 31) := by rw [show (31 - 31 : Nat) = 0 from rfl, show (2 : Int) ^ 0 = 1 from rfl, Int.mul_one]
    exact ⟨f, rfl, h, hv, (key s f h hv).2⟩
  · have ex := q_clI (i := x) rfl (by omega)
    have exb : x.toNatClampNeg = 31 - b := by omega
    by_cases hsR2 : s.toInt + 1 ≤ R.toInt
    · obtain ⟨z, g, r1, r2, r3, r4⟩ := V_shlB (R := R) (x := x) (neg := neg) h (by omega) hs hR (by omega)
      rw [exb] at r4
      obtain ⟨k1, k2⟩ := key z g r3 r4
      subst k1
      rw [negs z rfl] at r1
      exact ⟨g, r1, r3, r4, k2⟩
    · have sR : s = R := Int32.toInt_inj.mp (by omega)
      subst sR
      obtain ⟨z, g, r1, r2, r3, r4⟩ := V_shlR (R := s) (x := x) (neg := neg) (k := 31 - b) h hx (by omega) (by omega) hs hR (by rw [hn, show n + 1 - 1 = n by omega, show 31 - (31 - b) = b by omega]; exact l2)
      obtain ⟨k1, k2⟩ := key z g r3 r4
      subst k1
      rw [negs z rfl] at r1
      exact ⟨g, r1, r3, r4, k2⟩
