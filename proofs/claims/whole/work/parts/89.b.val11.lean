/-! values: the shift down -/
theorem v_shrId {V W K q r a x b P c : Int} (h1 : V * K = W - c + x * P) (h2 : q * K = a - x) (h3 : r * K = b * 2147483648) : (V + (q + r) * P) * K = W + a * P - c + b * (P * 2147483648) := by
  have e1 : q * K * P = (a - x) * P := by rw [h2]
  have e2 : r * K * P = b * 2147483648 * P := by rw [h3]
  have e3 : q * P * K = q * K * P := by ac_rfl
  have e4 : r * P * K = r * K * P := by ac_rfl
  have e5 : b * (P * 2147483648) = b * 2147483648 * P := by ac_rfl
  simp only [Int.add_mul, Int.sub_mul] at e1 ⊢
  omega
theorem v_lmS {f : Nat → Int32} {s far m : Nat} : v_lm (fun i => f (far + i)) (s - far) m = v_lm f s (far + m) := by
  unfold v_lm
  by_cases h : m < s - far
  · rw [if_pos h, if_pos (by omega)]
  · rw [if_neg h, if_neg (by omega)]
def v_U (f : Nat → Int32) (s far k m : Nat) : Int := v_lm f s (far + m) / 2 ^ k + v_lm f s (far + (m + 1)) * 2 ^ (31 - k) % 2147483648
theorem v_shrV {f h : Nat → Int32} {s far k : Nat} (hk : k ≤ 31) : ∀ {n : Nat}, (∀ m, m < n → (h m).toInt = v_U f s far k m) → vB h n * 2 ^ k = vL (fun i => f (far + i)) (s - far) n - v_lm f s (far + 0) % 2 ^ k + v_lm f s (far + n) % 2 ^ k * 2147483648 ^ n
  | 0, _ => by
    show 0 * (2 : Int) ^ k = 0 - v_lm f s (far + 0) % 2 ^ k + v_lm f s (far + 0) % 2 ^ k * 1
    rw [Int.zero_mul]
    omega
  | n + 1, hh => by
    have ih := v_shrV (f := f) (h := h) (s := s) (far := far) hk (n := n) (fun m hm => hh m (by omega))
    show (vB h n + (h n).toInt * _) * _ = _
    rw [hh n (by omega), vL_lm, v_lmS, v_pw]
    unfold v_U
    exact v_shrId ih v_c3 (v_c2 hk)
theorem V_shrL {R x2 s neg lost top a far : Int32} {g0 f : Nat → Int32} {k : Nat} (hs : 0 ≤ s.toInt) (hs2 : s.toInt ≤ 220) (hf : 0 ≤ far.toInt) (hf2 : far.toInt ≤ 100000000) (hk : k ≤ 30) (ha : a.toInt = (k : Int)) (ht0 : 0 ≤ top.toInt) (ht : top.toInt ≤ 220) (ok : okL f s.toNatClampNeg) :
    ∀ (n : Nat) (i : Int32) (g : Nat → Int32), 0 ≤ i.toInt → i.toInt ≤ top.toInt → (top.toInt - i.toInt).toNat < n → (∀ j : Nat, i.toInt ≤ (j : Int) → g j = f j) →
    (∀ m : Nat, (m : Int) < i.toInt → (g m).toInt = v_U f s.toNatClampNeg far.toNatClampNeg k m) →
    ∃ h : Nat → Int32, F_Big_shiftRight_L53 R x2 s neg g0 lost top a far n i g = (lost, (F_Big_trim R top neg h).1, (F_Big_trim R top neg h).2, h) ∧ ∀ m : Nat, (m : Int) < top.toInt → (h m).toInt = v_U f s.toNatClampNeg far.toNatClampNeg k m := by
  have ef := q_clI (i := far) rfl hf
  have es := q_clI (i := s) rfl hs
  have s31 : (31 - a : Int32).toInt = ((31 - k : Nat) : Int) := by
    have := q_subI (a := 31) (b := a) (x := 31) (y := (k : Int)) rfl ha (by omega) (by omega)
    rw [this]
    omega
  intro n
  induction n with
  | zero => intro i g h1 h2 h3; omega
  | succ n ih =>
    intro i g h1 h2 h3 h4 h5
    have ei := q_clI (i := i) rfl h1
    rw [F_Big_shiftRight_L53.eq_2]
    by_cases hc : top ≤ i
    · rw [if_pos hc]
      have := q_leI hc
      exact ⟨g, rfl, fun m hm => h5 m (by omega)⟩
    · rw [if_neg hc]
      have hc2 := q_nleI hc
      have s1 : (i + far : Int32).toInt = i.toInt + far.toInt := q_addI rfl rfl (by omega) (by omega)
      have s2 : (i + far + 1 : Int32).toInt = i.toInt + far.toInt + 1 := q_addI (y := 1) s1 (by decide) (by omega) (by omega)
      have s3 := q_clI (i := i + far) s1 (by omega)
      have s4 := q_clI (i := i + far + 1) s2 (by omega)
      obtain ⟨u, eu⟩ := q_nm (i + far : Int32)
      rw [eu] at s1 s2 s3 s4 ⊢
      obtain ⟨w, ew⟩ := q_nm (u + 1 : Int32)
      rw [ew] at s2 s4 ⊢
      have la := v_limb (R := R) (i := u) (s := s) (neg := neg) (f := g) (by omega) hs
      rw [h4 _ (by omega), show u.toNatClampNeg = far.toNatClampNeg + i.toNatClampNeg by omega] at la
      have lb := v_limb (R := R) (i := w) (s := s) (neg := neg) (f := g) (by omega) hs
      rw [h4 _ (by omega), show w.toNatClampNeg = far.toNatClampNeg + (i.toNatClampNeg + 1) by omega] at lb
      obtain ⟨A, eA⟩ := q_nm (F_Big_limb R u s neg g)
      obtain ⟨B, eB⟩ := q_nm (F_Big_limb R w s neg g)
      rw [eA] at la ⊢
      rw [eB] at lb ⊢
      have la2 : A.toInt = v_lm f s.toNatClampNeg (far.toNatClampNeg + i.toNatClampNeg) := la
      have lb2 : B.toInt = v_lm f s.toNatClampNeg (far.toNatClampNeg + (i.toNatClampNeg + 1)) := lb
      have A0 : 0 ≤ A.toInt := by rw [la2]; exact v_lm0 ok
      have B0 : 0 ≤ B.toInt := by rw [lb2]; exact v_lm0 ok
      have q := v_shrI (L := A) (M := B) (a := a) (b := 31 - a) (k := k) A0 B0 ha s31 (by omega)
      obtain ⟨x, ex⟩ := q_nm ((((A.toUInt32 >>> (a.toUInt32 &&& Int32.toUInt32 31)).toInt32) ||| (B <<< ((31 - a : Int32) &&& 31))) &&& 2147483647 : Int32)
      rw [ex] at q ⊢
      obtain ⟨e1, e2⟩ := v_sc h1 (by omega)
      refine ih (i + 1) (upd g i.toNatClampNeg x) (by omega) (by omega) (by omega) (fun j hj => by rw [v_ne (by omega)]; exact h4 j (by omega)) (fun m hm => ?_)
      by_cases hmM : m = i.toNatClampNeg
      · rw [hmM, v_eq, q, la2, lb2]
        rfl
      · rw [v_ne hmM]
        exact h5 m (by omega)
theorem v_edivU {a q r d : Int} (h : a = r + q * d) (h0 : 0 ≤ r) (h1 : r < d) : a / d = q := by
  rw [h, Int.add_mul_ediv_right _ _ (by omega), Int.ediv_eq_zero_of_lt h0 h1, Int.zero_add]
theorem V_shr {R x s neg : Int32} {f : Nat → Int32} (hx : 0 < x.toInt) (hs : 0 < s.toInt) (hs2 : s.toInt ≤ 220) (ok : okL f s.toNatClampNeg) :
    ∃ (lost z : Int32) (h : Nat → Int32), F_Big_shiftRight R x s neg f = (lost, z, if neg = 0 then 0 else if z ≤ 0 then 0 else 1, h) ∧ 0 ≤ z.toInt ∧ z.toInt ≤ s.toInt ∧ okL h z.toNatClampNeg ∧ (0 < z.toInt → h (z.toNatClampNeg - 1) ≠ 0) ∧ vB h z.toNatClampNeg = vB f s.toNatClampNeg / 2 ^ x.toNatClampNeg := by
  have e0 : (0 : Int32).toInt = 0 := rfl
  have d1 : (x / 31 : Int32).toInt = x.toInt / 31 := q_divI (y := 31) rfl rfl (by omega) (by omega)
  have d2 : (x - x / 31 * 31 : Int32).toInt = x.toInt % 31 := s_rem (b := 31) (by omega) (by decide)
  have ex := q_clI (i := x) rfl (by omega)
  have es := q_clI (i := s) rfl (by omega)
  have hx2 := Int32.toInt_lt x
  have key : ∀ lost : Int32, ∃ (z : Int32) (h : Nat → Int32), F_Big_shiftRight_J26 R x s neg f lost = (lost, z, if neg = 0 then 0 else if z ≤ 0 then 0 else 1, h) ∧ 0 ≤ z.toInt ∧ z.toInt ≤ s.toInt ∧ okL h z.toNatClampNeg ∧ (0 < z.toInt → h (z.toNatClampNeg - 1) ≠ 0) ∧ vB h z.toNatClampNeg = vB f s.toNatClampNeg / 2 ^ x.toNatClampNeg := by
    intro lost
    unfold F_Big_shiftRight_J26
    obtain ⟨far, efar⟩ := q_nm (x / 31 : Int32)
    rw [efar] at d1 d2 ⊢
    obtain ⟨a, ea⟩ := q_nm (x - far * 31 : Int32)
    rw [ea] at d2 ⊢
    have t1 : (s - far : Int32).toInt = s.toInt - far.toInt := q_subI rfl rfl (by omega) (by omega)
    obtain ⟨df, edf⟩ := q_nm (s - far : Int32)
    rw [edf] at t1 ⊢
    have ef := q_clI (i := far) rfl (by omega)
    obtain ⟨k, hk⟩ : ∃ k : Nat, a.toInt = (k : Int) := ⟨a.toInt.toNat, by omega⟩
    have t2 : (if 0 < df then df else 0 : Int32).toInt = ((s.toNatClampNeg - far.toNatClampNeg : Nat) : Int) := by
      split
      · have := q_ltI ‹_›
        omega
      · have := q_nltI ‹_›
        omega
    obtain ⟨top, etop⟩ := q_nm (if 0 < df then df else 0 : Int32)
    rw [etop] at t2 ⊢
    have et := q_clI (i := top) rfl (by omega)
    obtain ⟨h, r1, r2⟩ := V_shrL (R := R) (x2 := x) (s := s) (neg := neg) (lost := lost) (top := top) (a := a) (far := far) (g0 := f) (f := f) (k := k) (by omega) hs2 (by omega) (by omega) (by omega) hk (by omega) (by omega) ok ((220 - (0 : Int32).toInt).toNat + 1) 0 f (by omega) (by omega) (by omega) (fun _ _ => rfl) (fun m hm => by omega)
    rw [r1]
    have okh : okL h top.toNatClampNeg := fun j hj => by
      rw [r2 j (by omega)]
      unfold v_U
      have h1 := Int.emod_nonneg (v_lm f s.toNatClampNeg (far.toNatClampNeg + (j + 1)) * 2 ^ (31 - k)) (show (2147483648 : Int) ≠ 0 by decide)
      have h2 : 0 ≤ v_lm f s.toNatClampNeg (far.toNatClampNeg + j) / 2 ^ k := Int.ediv_nonneg (v_lm0 ok) (Int.le_of_lt (v_p2 _))
      omega
    obtain ⟨z, w1, w2, w3, w4, w5⟩ := V_trimT (R := R) (s := top) (neg := neg) (f := h) (by omega) (by omega)
    rw [w1]
    refine ⟨z, h, rfl, w2, by omega, okh.mono (by have := q_clI (i := z) rfl w2; omega), w4, ?_⟩
    rw [w5]
    have hx3 : x.toNatClampNeg = 31 * far.toNatClampNeg + k := by omega
    by_cases hfar : far.toNatClampNeg ≤ s.toNatClampNeg
    · have g2 := v_shrV (f := f) (h := h) (s := s.toNatClampNeg) (far := far.toNatClampNeg) (k := k) (by omega) (n := top.toNatClampNeg) (fun m hm => r2 m (by omega))
      have g3 : v_lm f s.toNatClampNeg (far.toNatClampNeg + top.toNatClampNeg) = 0 := by
        unfold v_lm
        rw [if_neg (by omega)]
      rw [g3, Int.zero_emod, Int.zero_mul, Int.add_zero, vL_le (by omega), show top.toNatClampNeg = s.toNatClampNeg - far.toNatClampNeg by omega] at g2
      have g4 := v_split (f := f) (p := far.toNatClampNeg) (n := s.toNatClampNeg - far.toNatClampNeg)
      rw [show far.toNatClampNeg + (s.toNatClampNeg - far.toNatClampNeg) = s.toNatClampNeg by omega] at g4
      rw [show top.toNatClampNeg = s.toNatClampNeg - far.toNatClampNeg by omega]
      obtain ⟨S, eS⟩ := q_nm (vB h (s.toNatClampNeg - far.toNatClampNeg))
      obtain ⟨W, eW⟩ := q_nm (vB (fun i => f (far.toNatClampNeg + i)) (s.toNatClampNeg - far.toNatClampNeg))
      obtain ⟨c, ec⟩ := q_nm (v_lm f s.toNatClampNeg (far.toNatClampNeg + 0))
      rw [eS, eW, ec] at g2
      rw [eW] at g4
      rw [eS]
      have c1 := Int.emod_lt_of_pos c (v_p2 k)
      have c2 := Int.emod_nonneg c (Int.ne_of_gt (v_p2 k))
      obtain ⟨y, ey⟩ := q_nm (c % 2 ^ k)
      rw [ey] at g2 c1 c2
      have f1 := v_lt (f := f) (n := far.toNatClampNeg) (ok.mono hfar)
      have f2 := v_nn (f := f) (n := far.toNatClampNeg) (ok.mono hfar)
      have hP := v_pos far.toNatClampNeg
      rw [hx3, Int.pow_add, v_p31]
      refine (v_edivU (r := 2147483648 ^ far.toNatClampNeg * y + vB f far.toNatClampNeg) ?_ ?_ ?_).symm
      · have e1 : W = S * 2 ^ k + y := by omega
        rw [g4, e1, Int.mul_add]
        have e2 : 2147483648 ^ far.toNatClampNeg * (S * 2 ^ k) = S * (2147483648 ^ far.toNatClampNeg * 2 ^ k) := by ac_rfl
        omega
      · have := Int.mul_nonneg (Int.le_of_lt hP) c2
        omega
      · have h9 : 2147483648 ^ far.toNatClampNeg * (y + 1) ≤ 2147483648 ^ far.toNatClampNeg * 2 ^ k := Int.mul_le_mul_of_nonneg_left (by omega) (Int.le_of_lt hP)
        rw [Int.mul_add, Int.mul_one] at h9
        omega
    · have t0 : top.toNatClampNeg = 0 := by omega
      rw [t0]
      show (0 : Int) = _
      symm
      apply Int.ediv_eq_zero_of_lt (v_nn ok)
      have h1 := v_lt ok
      have h2 : (2147483648 : Int) ^ s.toNatClampNeg ≤ 2 ^ x.toNatClampNeg := by
        rw [← v_p31]
        have := Nat.pow_le_pow_right (n := 2) (by omega) (show 31 * s.toNatClampNeg ≤ x.toNatClampNeg by omega)
        exact_mod_cast this
      omega
  unfold F_Big_shiftRight
  rw [if_neg (fun hh => by have := q_leI hh; omega), if_neg (fun hh => by rw [hh] at hs; omega)]
  split
  · obtain ⟨z, h, r⟩ := key 0
    exact ⟨0, z, h, r⟩
  · obtain ⟨z, h, r⟩ := key 1
    exact ⟨1, z, h, r⟩
