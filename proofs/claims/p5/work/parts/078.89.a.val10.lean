/-! values: shifts -/
theorem t_amt : ∀ k : Fin 32, ((Int32.ofNat k.val) &&& 31).toBitVec.smod 32 = BitVec.ofNat 32 k.val := by decide +kernel
theorem t_amt2 : ∀ k : Fin 32, (((Int32.ofNat k.val).toUInt32 &&& Int32.toUInt32 31).toBitVec % 32).toNat = k.val := by decide +kernel
theorem v_amt {a : Int32} {k : Nat} (ha : a.toInt = (k : Int)) : a = Int32.ofNat k := by
  have h1 := s_len (R := a) (by omega)
  have h2 := q_clI (i := a) ha (by omega)
  have h3 : a.toNatClampNeg = k := by omega
  rw [h3] at h1
  exact h1.symm
theorem v_shlN {x a : Int32} {k : Nat} (ha : a.toInt = (k : Int)) (hk : k ≤ 31) : (x <<< (a &&& 31)).toBitVec.toNat = x.toBitVec.toNat * 2 ^ k % 4294967296 := by
  rw [v_amt ha, Int32.toBitVec_shiftLeft, t_amt ⟨k, by omega⟩, BitVec.shiftLeft_eq', BitVec.toNat_shiftLeft, Nat.shiftLeft_eq, BitVec.toNat_ofNat, Nat.mod_eq_of_lt (show k < 2 ^ 32 by omega)]
theorem v_ushrN {x a : Int32} {k : Nat} (ha : a.toInt = (k : Int)) (hk : k ≤ 31) : ((x.toUInt32 >>> (a.toUInt32 &&& Int32.toUInt32 31)).toInt32).toBitVec.toNat = x.toBitVec.toNat / 2 ^ k := by
  rw [v_amt ha]
  show (x.toUInt32 >>> ((Int32.ofNat k).toUInt32 &&& Int32.toUInt32 31)).toBitVec.toNat = _
  rw [UInt32.toBitVec_shiftRight, BitVec.ushiftRight_eq', BitVec.toNat_ushiftRight, t_amt2 ⟨k, by omega⟩, Nat.shiftRight_eq_div_pow]
  rfl
theorem v_nB {k : Nat} (hk : k ≤ 31) : (2 : Nat) ^ k * 2 ^ (31 - k) = 2147483648 := by
  rw [← Nat.pow_add, Nat.add_sub_cancel' hk]
theorem v_iB {k : Nat} (hk : k ≤ 31) : (2 : Int) ^ k * 2 ^ (31 - k) = 2147483648 := by
  rw [← Int.pow_add, Nat.add_sub_cancel' hk]
  rfl
/-- bits of two neighbours put together -/
theorem v_join {L M k : Nat} (hk : k ≤ 31) (hM : M < 2 ^ k) : (L * 2 ^ k % 4294967296 ||| M) % 2147483648 = L * 2 ^ k % 2147483648 + M := by
  have h1 := v_nB hk
  have h2 : (2 : Nat) ^ k ≤ 2147483648 := by
    have : (2 : Nat) ^ k ≤ 2 ^ 31 := Nat.pow_le_pow_right (by omega) hk
    exact this
  have e := Nat.or_mod_two_pow (a := L * 2 ^ k % 4294967296) (b := M) (n := 31)
  have e2 : (2 : Nat) ^ 31 = 2147483648 := rfl
  rw [e2] at e
  rw [e, Nat.mod_eq_of_lt (show M < 2147483648 by omega), show L * 2 ^ k % 4294967296 % 2147483648 = L * 2 ^ k % 2147483648 by omega]
  have e3 : L * 2 ^ k % 2147483648 = 2 ^ k * (L % 2 ^ (31 - k)) := by
    rw [← h1, Nat.mul_comm L, Nat.mul_mod_mul_left]
  rw [e3]
  exact (Nat.two_pow_add_eq_or_of_lt hM _).symm
theorem v_shlI {L M a b : Int32} {k : Nat} (hL : 0 ≤ L.toInt) (hM : 0 ≤ M.toInt) (ha : a.toInt = (k : Int)) (hb : b.toInt = ((31 - k : Nat) : Int)) (hk : k ≤ 31) : (((L <<< (a &&& 31)) ||| ((M.toUInt32 >>> (b.toUInt32 &&& Int32.toUInt32 31)).toInt32)) &&& 2147483647).toInt = L.toInt * 2 ^ k % 2147483648 + M.toInt / 2 ^ (31 - k) := by
  obtain ⟨l1, l2, -⟩ := s_nn hL
  obtain ⟨m1, m2, -⟩ := s_nn hM
  have e1 := v_shlN (x := L) ha hk
  have e2 := v_ushrN (x := M) hb (by omega)
  have h1 := v_nB hk
  have hlt : M.toBitVec.toNat / 2 ^ (31 - k) < 2 ^ k := by
    rw [Nat.div_lt_iff_lt_mul (Nat.two_pow_pos _), h1]
    exact m2
  have e3 : (((L <<< (a &&& 31)) ||| ((M.toUInt32 >>> (b.toUInt32 &&& Int32.toUInt32 31)).toInt32)) &&& 2147483647).toBitVec.toNat = L.toBitVec.toNat * 2 ^ k % 2147483648 + M.toBitVec.toNat / 2 ^ (31 - k) := by
    rw [Int32.toBitVec_and, BitVec.toNat_and, Int32.toBitVec_or, BitVec.toNat_or, e1, e2, ← v_join hk hlt]
    exact Nat.and_two_pow_sub_one_eq_mod _ 31
  have h2 : 2 ^ k * (L.toBitVec.toNat % 2 ^ (31 - k)) = L.toBitVec.toNat * 2 ^ k % 2147483648 := by
    rw [← h1, Nat.mul_comm L.toBitVec.toNat, Nat.mul_mod_mul_left]
  have h3 : L.toBitVec.toNat % 2 ^ (31 - k) + 1 ≤ 2 ^ (31 - k) := Nat.mod_lt _ (Nat.two_pow_pos _)
  have h4 : 2 ^ k * (L.toBitVec.toNat % 2 ^ (31 - k) + 1) ≤ 2 ^ k * 2 ^ (31 - k) := Nat.mul_le_mul_left _ h3
  rw [h1, Nat.mul_add, Nat.mul_one, h2] at h4
  have h5 := s_of e3 (by omega)
  rw [h5, l1, m1]
  simp only [Int.natCast_add, Int.natCast_emod, Int.natCast_mul, Int.natCast_pow, Int.natCast_ediv]
  rfl
theorem v_shrI {L M a b : Int32} {k : Nat} (hL : 0 ≤ L.toInt) (hM : 0 ≤ M.toInt) (ha : a.toInt = (k : Int)) (hb : b.toInt = ((31 - k : Nat) : Int)) (hk : k ≤ 31) : (((L.toUInt32 >>> (a.toUInt32 &&& Int32.toUInt32 31)).toInt32 ||| (M <<< (b &&& 31))) &&& 2147483647).toInt = L.toInt / 2 ^ k + M.toInt * 2 ^ (31 - k) % 2147483648 := by
  have h := v_shlI (L := M) (M := L) (a := b) (b := a) (k := 31 - k) hM hL hb (by rw [ha]; omega) (by omega)
  have e : 31 - (31 - k) = k := by omega
  rw [e] at h
  rw [Int32.or_comm, h, Int.add_comm]
theorem v_p2 (k : Nat) : (0 : Int) < 2 ^ k := Int.pow_pos (by decide)
theorem v_c1 {x : Int} {k : Nat} (hk : k ≤ 31) : x * 2 ^ k = 2147483648 * (x / 2 ^ (31 - k)) + x * 2 ^ k % 2147483648 := by
  have h1 : x * 2 ^ k / 2147483648 = x / 2 ^ (31 - k) := by
    rw [← v_iB hk, Int.mul_comm x]
    exact Int.mul_ediv_mul_of_pos _ _ (v_p2 k)
  have h2 := Int.emod_add_mul_ediv (x * 2 ^ k) 2147483648
  rw [h1] at h2
  omega
theorem v_c2 {x : Int} {k : Nat} (hk : k ≤ 31) : x * 2 ^ (31 - k) % 2147483648 * 2 ^ k = x % 2 ^ k * 2147483648 := by
  have h1 : x * 2 ^ (31 - k) % 2147483648 = 2 ^ (31 - k) * (x % 2 ^ k) := by
    rw [← v_iB hk, Int.mul_comm x, Int.mul_comm (2 ^ k)]
    exact Int.mul_emod_mul_of_pos _ _ (v_p2 _)
  rw [h1, ← v_iB hk]
  ac_rfl
theorem v_c3 {x : Int} {k : Nat} : x / 2 ^ k * 2 ^ k = x - x % 2 ^ k := by
  have h2 := Int.emod_add_mul_ediv x (2 ^ k)
  rw [Int.mul_comm]
  omega
/-- limb m of a number of s limbs -/
def v_lm (f : Nat → Int32) (s m : Nat) : Int := if m < s then (f m).toInt else 0
theorem v_lm0 {f : Nat → Int32} {s m : Nat} (ok : okL f s) : 0 ≤ v_lm f s m := by
  unfold v_lm
  split
  · exact ok _ ‹_›
  · exact Int.le_refl 0
theorem vL_lm {f : Nat → Int32} {s n : Nat} : vL f s (n + 1) = vL f s n + v_lm f s n * 2147483648 ^ n := rfl
def v_T (f : Nat → Int32) (s k m : Nat) : Int := v_lm f s m * 2 ^ k % 2147483648 + (if m = 0 then 0 else v_lm f s (m - 1) / 2 ^ (31 - k))
theorem v_shlId {V a k t c P r : Int} (h : a * k = 2147483648 * t + r) : (k * V - c * P) + (r + c) * P = k * (V + a * P) - t * (P * 2147483648) := by
  have h2 : a * k * P = (2147483648 * t + r) * P := by rw [h]
  have e1 : k * (a * P) = a * k * P := by ac_rfl
  have e2 : t * (P * 2147483648) = 2147483648 * t * P := by ac_rfl
  simp only [Int.add_mul, Int.mul_add] at h2 ⊢
  omega
theorem v_shlV {f h : Nat → Int32} {s k : Nat} (hk : k ≤ 31) : ∀ {n : Nat}, (∀ m, m < n → (h m).toInt = v_T f s k m) → vB h n = 2 ^ k * vL f s n - (if n = 0 then 0 else v_lm f s (n - 1) / 2 ^ (31 - k)) * 2147483648 ^ n
  | 0, _ => by
    show (0 : Int) = 2 ^ k * 0 - 0 * 1
    rw [Int.mul_zero]
    rfl
  | n + 1, hh => by
    have ih := v_shlV (f := f) (h := h) (s := s) hk (n := n) (fun m hm => hh m (by omega))
    show vB h n + (h n).toInt * _ = _
    rw [ih, hh n (by omega), vL_lm, v_pw, if_neg (show ¬ n + 1 = 0 by omega), show n + 1 - 1 = n by omega]
    unfold v_T
    exact v_shlId (v_c1 hk)
theorem v_limbN {R i s neg : Int32} {f : Nat → Int32} (h : i.toInt < 0) : (F_Big_limb R i s neg f).toInt = 0 := by
  unfold F_Big_limb
  rw [if_pos (Int32.lt_iff_toInt_lt.mpr h)]
  rfl
theorem v_split {f : Nat → Int32} {p : Nat} : ∀ {n : Nat}, vB f (p + n) = vB f p + 2147483648 ^ p * vB (fun i => f (p + i)) n
  | 0 => by
    show vB f p = vB f p + 2147483648 ^ p * 0
    rw [Int.mul_zero, Int.add_zero]
  | n + 1 => by
    have ih := v_split (f := f) (p := p) (n := n)
    show vB f (p + n) + (f (p + n)).toInt * 2147483648 ^ (p + n) = vB f p + 2147483648 ^ p * (vB (fun i => f (p + i)) n + (f (p + n)).toInt * 2147483648 ^ n)
    rw [ih, Int.pow_add, Int.mul_add]
    have e : 2147483648 ^ p * ((f (p + n)).toInt * 2147483648 ^ n) = (f (p + n)).toInt * (2147483648 ^ p * 2147483648 ^ n) := by ac_rfl
    omega
theorem V_shlL {R x2 s neg top a far : Int32} {g0 f : Nat → Int32} {k : Nat} (hs : 0 ≤ s.toInt) (hf : 0 ≤ far.toInt) (hk : k ≤ 30) (ha : a.toInt = (k : Int)) (ht : top.toInt ≤ 220) (ok : okL f s.toNatClampNeg) :
    ∀ (n : Nat) (i : Int32) (g : Nat → Int32), far.toInt - 1 ≤ i.toInt → i.toInt < top.toInt → (i.toInt - far.toInt + 1).toNat < n → (∀ j : Nat, (j : Int) ≤ i.toInt → g j = f j) →
    (∀ m : Nat, i.toInt < far.toInt + m → far.toInt + m < top.toInt → (g (far.toNatClampNeg + m)).toInt = v_T f s.toNatClampNeg k m) →
    ∃ h : Nat → Int32, F_Big_shiftLeft_L55 R x2 s neg g0 top a far n i g = ((F_Big_trim R top neg (F_jArr_fill R 0 far 0 h)).1, (F_Big_trim R top neg (F_jArr_fill R 0 far 0 h)).2, F_jArr_fill R 0 far 0 h) ∧ ∀ m : Nat, far.toInt + m < top.toInt → (h (far.toNatClampNeg + m)).toInt = v_T f s.toNatClampNeg k m := by
  have ef := q_clI (i := far) rfl hf
  have es := q_clI (i := s) rfl hs
  have s31 : (31 - a : Int32).toInt = ((31 - k : Nat) : Int) := by
    have := q_subI (a := 31) (b := a) (x := 31) (y := (k : Int)) rfl ha (by omega) (by omega)
    rw [this]
    omega
  intro n
  induction n with
  | zero => intro i g h1 h2 h3; omega
  | succ n ih =>
    intro i g h1 h2 h3 h4 h5
    rw [F_Big_shiftLeft_L55.eq_2]
    by_cases hc : i < far
    · rw [if_pos hc]
      have := q_ltI hc
      exact ⟨g, rfl, fun m hm => h5 m (by omega) hm⟩
    · rw [if_neg hc]
      have hc2 := q_nltI hc
      have ei := q_clI (i := i) rfl (by omega)
      have s1 : (i - far : Int32).toInt = i.toInt - far.toInt := q_subI rfl rfl (by omega) (by omega)
      have s2 : (i - far - 1 : Int32).toInt = i.toInt - far.toInt - 1 := q_subI (y := 1) s1 (by decide) (by omega) (by omega)
      have s3 := q_clI (i := i - far) s1 (by omega)
      obtain ⟨u, eu⟩ := q_nm (i - far : Int32)
      rw [eu] at s1 s2 s3 ⊢
      obtain ⟨w, ew⟩ := q_nm (u - 1 : Int32)
      rw [ew] at s2 ⊢
      obtain ⟨M, eM⟩ := q_nm u.toNatClampNeg
      have la := v_limb (R := R) (i := u) (s := s) (neg := neg) (f := g) (by omega) hs
      rw [h4 _ (by omega), eM] at la
      have lb : (F_Big_limb R w s neg g).toInt = if M = 0 then 0 else v_lm f s.toNatClampNeg (M - 1) := by
        by_cases hM : M = 0
        · rw [if_pos hM]
          exact v_limbN (by omega)
        · rw [if_neg hM]
          have lb := v_limb (R := R) (i := w) (s := s) (neg := neg) (f := g) (by omega) hs
          have e9 := q_clI (i := w) s2 (by omega)
          rw [h4 _ (by omega), show w.toNatClampNeg = M - 1 by omega] at lb
          exact lb
      obtain ⟨A, eA⟩ := q_nm (F_Big_limb R u s neg g)
      obtain ⟨B, eB⟩ := q_nm (F_Big_limb R w s neg g)
      rw [eA] at la ⊢
      rw [eB] at lb ⊢
      have la2 : A.toInt = v_lm f s.toNatClampNeg M := la
      have A0 : 0 ≤ A.toInt := by rw [la2]; exact v_lm0 ok
      have B0 : 0 ≤ B.toInt := by
        rw [lb]
        split
        · exact Int.le_refl 0
        · exact v_lm0 ok
      have q := v_shlI (L := A) (M := B) (a := a) (b := 31 - a) (k := k) A0 B0 ha s31 (by omega)
      obtain ⟨x, ex⟩ := q_nm (((A <<< (a &&& 31)) ||| ((B.toUInt32 >>> ((31 - a : Int32).toUInt32 &&& Int32.toUInt32 31)).toInt32)) &&& 2147483647 : Int32)
      rw [ex] at q ⊢
      have p1 : (i + (-1) : Int32).toInt = i.toInt + (-1) := q_addI (y := -1) rfl (by decide) (by omega) (by omega)
      obtain ⟨i', ei'⟩ := q_nm (i + (-1) : Int32)
      rw [ei'] at p1 ⊢
      refine ih i' (upd g i.toNatClampNeg x) (by omega) (by omega) (by omega) (fun j hj => by rw [v_ne (by omega)]; exact h4 j (by omega)) (fun m hm hm2 => ?_)
      by_cases hmM : far.toNatClampNeg + m = i.toNatClampNeg
      · rw [hmM, v_eq, q, la2, lb]
        have : m = M := by omega
        subst this
        unfold v_T
        congr 1
        split
        · exact Int.zero_ediv _
        · rfl
      · rw [v_ne hmM]
        exact h5 m (by omega) hm2
theorem v_p31 : ∀ n : Nat, (2 : Int) ^ (31 * n) = 2147483648 ^ n
  | 0 => rfl
  | n + 1 => by rw [v_pw, ← v_p31 n, Nat.mul_add, Int.pow_add]; rfl
theorem V_shl {R x s neg : Int32} {f : Nat → Int32} (hx : 0 < x.toInt) (hs : 0 < s.toInt) (hR : R.toInt ≤ 220) (hfit : s.toInt + x.toInt / 31 + 1 ≤ R.toInt) (ok : okL f s.toNatClampNeg) :
    ∃ (z : Int32) (h : Nat → Int32), F_Big_shiftLeft R x s neg f = (z, if neg = 0 then 0 else if z ≤ 0 then 0 else 1, h) ∧ 0 ≤ z.toInt ∧ z.toInt ≤ s.toInt + x.toInt / 31 + 1 ∧ okL h z.toNatClampNeg ∧ (0 < z.toInt → h (z.toNatClampNeg - 1) ≠ 0) ∧ vB h z.toNatClampNeg = vB f s.toNatClampNeg * 2 ^ x.toNatClampNeg := by
  have e0 : (0 : Int32).toInt = 0 := rfl
  have d1 : (x / 31 : Int32).toInt = x.toInt / 31 := q_divI (y := 31) rfl rfl (by omega) (by omega)
  have d2 : (x - x / 31 * 31 : Int32).toInt = x.toInt % 31 := s_rem (b := 31) (by omega) (by decide)
  have ex := q_clI (i := x) rfl (by omega)
  have es := q_clI (i := s) rfl (by omega)
  unfold F_Big_shiftLeft
  rw [if_neg (fun hh => by have := q_leI hh; omega), if_neg (fun hh => by rw [hh] at hs; omega)]
  obtain ⟨far, efar⟩ := q_nm (x / 31 : Int32)
  rw [efar] at d1 d2 ⊢
  obtain ⟨a, ea⟩ := q_nm (x - far * 31 : Int32)
  rw [ea] at d2 ⊢
  rw [if_pos (Int32.lt_iff_toInt_lt.mpr (by omega))]
  have t1 : (s + far : Int32).toInt = s.toInt + far.toInt := q_addI rfl rfl (by omega) (by omega)
  have t2 : (s + far + 1 : Int32).toInt = s.toInt + far.toInt + 1 := q_addI (y := 1) t1 rfl (by omega) (by omega)
  have t3 : (if (s + far + 1 : Int32) < R then (s + far + 1 : Int32) else R) = s + far + 1 := by
    split
    · rfl
    · have := q_nltI ‹_›
      exact Int32.toInt_inj.mp (by omega)
  rw [t3]
  obtain ⟨top, etop⟩ := q_nm (s + far + 1 : Int32)
  rw [etop] at t2 ⊢
  have t4 : (top - 1 : Int32).toInt = top.toInt - 1 := q_subI (y := 1) rfl rfl (by omega) (by omega)
  obtain ⟨tm, etm⟩ := q_nm (top - 1 : Int32)
  rw [etm] at t4 ⊢
  have ef := q_clI (i := far) rfl (by omega)
  have et := q_clI (i := top) rfl (by omega)
  obtain ⟨k, hk⟩ : ∃ k : Nat, a.toInt = (k : Int) := ⟨a.toInt.toNat, by omega⟩
  obtain ⟨h, r1, r2⟩ := V_shlL (R := R) (x2 := x) (s := s) (neg := neg) (top := top) (a := a) (far := far) (g0 := f) (f := f) (k := k) (by omega) (by omega) (by omega) hk (by omega) ok ((tm.toInt - (-1)).toNat + 1) tm f (by omega) (by omega) (by omega) (fun _ _ => rfl) (fun m hm hm2 => by omega)
  rw [r1]
  have fz := fun j => V_fill0 (R := R) (x2 := far) (f := h) (by omega) (by omega) j
  obtain ⟨g, eg⟩ := q_nm (F_jArr_fill R 0 far 0 h)
  rw [eg] at fz ⊢
  have g1 : ∀ m, m < s.toNatClampNeg + 1 → (g (far.toNatClampNeg + m)).toInt = v_T f s.toNatClampNeg k m := fun m hm => by
    rw [fz, if_neg (by omega)]
    exact r2 m (by omega)
  have g2 := v_shlV (f := f) (h := fun i => g (far.toNatClampNeg + i)) (s := s.toNatClampNeg) (k := k) (by omega) (n := s.toNatClampNeg + 1) g1
  have g3 : v_lm f s.toNatClampNeg (s.toNatClampNeg + 1 - 1) = 0 := by
    unfold v_lm
    rw [if_neg (by omega)]
  rw [if_neg (by omega), g3, Int.zero_ediv, Int.zero_mul, Int.sub_zero, vL_ge (by omega)] at g2
  have g4 := v_split (f := g) (p := far.toNatClampNeg) (n := s.toNatClampNeg + 1)
  rw [g2, v_zero (n := far.toNatClampNeg) (fun j hj => by rw [fz, if_pos hj]), Int.zero_add, show far.toNatClampNeg + (s.toNatClampNeg + 1) = top.toNatClampNeg by omega] at g4
  have okg : okL g top.toNatClampNeg := fun j hj => by
    rw [fz]
    split
    · exact Int.le_refl 0
    · obtain ⟨m, hm⟩ : ∃ m, j = far.toNatClampNeg + m := ⟨j - far.toNatClampNeg, by omega⟩
      subst hm
      rw [r2 m (by omega)]
      unfold v_T
      have h1 := Int.emod_nonneg (v_lm f s.toNatClampNeg m * 2 ^ k) (show (2147483648 : Int) ≠ 0 by decide)
      have h2 : 0 ≤ (if m = 0 then 0 else v_lm f s.toNatClampNeg (m - 1) / 2 ^ (31 - k) : Int) := by
        split
        · exact Int.le_refl 0
        · exact Int.ediv_nonneg (v_lm0 ok) (Int.le_of_lt (v_p2 _))
      omega
  obtain ⟨z, w1, w2, w3, w4, w5⟩ := V_trimT (R := R) (s := top) (neg := neg) (f := g) (by omega) (by omega)
  rw [w1]
  refine ⟨z, g, rfl, w2, by omega, okg.mono (by have := q_clI (i := z) rfl w2; omega), w4, ?_⟩
  rw [w5, g4, ← v_p31, show x.toNatClampNeg = 31 * far.toNatClampNeg + k by omega, Int.pow_add]
  ac_rfl

/-! values: the shift down -/
theorem v_shrId {V W K q r a x b P c : Int} (h1 : V * K = W - c + x * P) (h2 : q * K = a - x) (h3 : r * K = b * 2147483648) : (V + (q + r) * P) * K = W + a * P - c + b * (P * 2147483648) := by
  have e1 : q * K * P = (a - x) * P := by rw [h2]
  have e2 : r * K * P = b * 2147483648 * P := by rw [h3]
  have e3 : q * P * K = q * K * P := by ac_rfl
  have e4 : r * P * K = r * K * P := by ac_rfl
  have e5 : b * (P * 2147483648) = b * 2147483648 * P := by ac_rfl
  simp only [Int.add_mul, Int.sub_mul] at e1 ⊢
  omega
theorem v_lmS {f : Nat → Int32} {s far m : Nat} : v_lm (fun i => f (far + i)) (s - far) m = v_lm f s (far + m) := by
  unfold v_lm
  by_cases h : m < s - far
  · rw [if_pos h, if_pos (by omega)]
  · rw [if_neg h, if_neg (by omega)]
def v_U (f : Nat → Int32) (s far k m : Nat) : Int := v_lm f s (far + m) / 2 ^ k + v_lm f s (far + (m + 1)) * 2 ^ (31 - k) % 2147483648
theorem v_shrV {f h : Nat → Int32} {s far k : Nat} (hk : k ≤ 31) : ∀ {n : Nat}, (∀ m, m < n → (h m).toInt = v_U f s far k m) → vB h n * 2 ^ k = vL (fun i => f (far + i)) (s - far) n - v_lm f s (far + 0) % 2 ^ k + v_lm f s (far + n) % 2 ^ k * 2147483648 ^ n
  | 0, _ => by
    show 0 * (2 : Int) ^ k = 0 - v_lm f s (far + 0) % 2 ^ k + v_lm f s (far + 0) % 2 ^ k * 1
    rw [Int.zero_mul]
    omega
  | n + 1, hh => by
    have ih := v_shrV (f := f) (h := h) (s := s) (far := far) hk (n := n) (fun m hm => hh m (by omega))
    show (vB h n + (h n).toInt * _) * _ = _
    rw [hh n (by omega), vL_lm, v_lmS, v_pw]
    unfold v_U
    exact v_shrId ih v_c3 (v_c2 hk)
theorem V_shrL {R x2 s neg lost top a far : Int32} {g0 f : Nat → Int32} {k : Nat} (hs : 0 ≤ s.toInt) (hs2 : s.toInt ≤ 220) (hf : 0 ≤ far.toInt) (hf2 : far.toInt ≤ 100000000) (hk : k ≤ 30) (ha : a.toInt = (k : Int)) (ht0 : 0 ≤ top.toInt) (ht : top.toInt ≤ 220) (ok : okL f s.toNatClampNeg) :
    ∀ (n : Nat) (i : Int32) (g : Nat → Int32), 0 ≤ i.toInt → i.toInt ≤ top.toInt → (top.toInt - i.toInt).toNat < n → (∀ j : Nat, i.toInt ≤ (j : Int) → g j = f j) →
    (∀ m : Nat, (m : Int) < i.toInt → (g m).toInt = v_U f s.toNatClampNeg far.toNatClampNeg k m) →
    ∃ h : Nat → Int32, F_Big_shiftRight_L53 R x2 s neg g0 lost top a far n i g = (lost, (F_Big_trim R top neg h).1, (F_Big_trim R top neg h).2, h) ∧ ∀ m : Nat, (m : Int) < top.toInt → (h m).toInt = v_U f s.toNatClampNeg far.toNatClampNeg k m := by
  have ef := q_clI (i := far) rfl hf
  have es := q_clI (i := s) rfl hs
  have s31 : (31 - a : Int32).toInt = ((31 - k : Nat) : Int) := by
    have := q_subI (a := 31) (b := a) (x := 31) (y := (k : Int)) rfl ha (by omega) (by omega)
    rw [this]
    omega
  intro n
  induction n with
  | zero => intro i g h1 h2 h3; omega
  | succ n ih =>
    intro i g h1 h2 h3 h4 h5
    have ei := q_clI (i := i) rfl h1
    rw [F_Big_shiftRight_L53.eq_2]
    by_cases hc : top ≤ i
    · rw [if_pos hc]
      have := q_leI hc
      exact ⟨g, rfl, fun m hm => h5 m (by omega)⟩
    · rw [if_neg hc]
      have hc2 := q_nleI hc
      have s1 : (i + far : Int32).toInt = i.toInt + far.toInt := q_addI rfl rfl (by omega) (by omega)
      have s2 : (i + far + 1 : Int32).toInt = i.toInt + far.toInt + 1 := q_addI (y := 1) s1 (by decide) (by omega) (by omega)
      have s3 := q_clI (i := i + far) s1 (by omega)
      have s4 := q_clI (i := i + far + 1) s2 (by omega)
      obtain ⟨u, eu⟩ := q_nm (i + far : Int32)
      rw [eu] at s1 s2 s3 s4 ⊢
      obtain ⟨w, ew⟩ := q_nm (u + 1 : Int32)
      rw [ew] at s2 s4 ⊢
      have la := v_limb (R := R) (i := u) (s := s) (neg := neg) (f := g) (by omega) hs
      rw [h4 _ (by omega), show u.toNatClampNeg = far.toNatClampNeg + i.toNatClampNeg by omega] at la
      have lb := v_limb (R := R) (i := w) (s := s) (neg := neg) (f := g) (by omega) hs
      rw [h4 _ (by omega), show w.toNatClampNeg = far.toNatClampNeg + (i.toNatClampNeg + 1) by omega] at lb
      obtain ⟨A, eA⟩ := q_nm (F_Big_limb R u s neg g)
      obtain ⟨B, eB⟩ := q_nm (F_Big_limb R w s neg g)
      rw [eA] at la ⊢
      rw [eB] at lb ⊢
      have la2 : A.toInt = v_lm f s.toNatClampNeg (far.toNatClampNeg + i.toNatClampNeg) := la
      have lb2 : B.toInt = v_lm f s.toNatClampNeg (far.toNatClampNeg + (i.toNatClampNeg + 1)) := lb
      have A0 : 0 ≤ A.toInt := by rw [la2]; exact v_lm0 ok
      have B0 : 0 ≤ B.toInt := by rw [lb2]; exact v_lm0 ok
      have q := v_shrI (L := A) (M := B) (a := a) (b := 31 - a) (k := k) A0 B0 ha s31 (by omega)
      obtain ⟨x, ex⟩ := q_nm ((((A.toUInt32 >>> (a.toUInt32 &&& Int32.toUInt32 31)).toInt32) ||| (B <<< ((31 - a : Int32) &&& 31))) &&& 2147483647 : Int32)
      rw [ex] at q ⊢
      obtain ⟨e1, e2⟩ := v_sc h1 (by omega)
      refine ih (i + 1) (upd g i.toNatClampNeg x) (by omega) (by omega) (by omega) (fun j hj => by rw [v_ne (by omega)]; exact h4 j (by omega)) (fun m hm => ?_)
      by_cases hmM : m = i.toNatClampNeg
      · rw [hmM, v_eq, q, la2, lb2]
        rfl
      · rw [v_ne hmM]
        exact h5 m (by omega)
theorem v_edivU {a q r d : Int} (h : a = r + q * d) (h0 : 0 ≤ r) (h1 : r < d) : a / d = q := by
  rw [h, Int.add_mul_ediv_right _ _ (by omega), Int.ediv_eq_zero_of_lt h0 h1, Int.zero_add]
theorem V_shr {R x s neg : Int32} {f : Nat → Int32} (hx : 0 < x.toInt) (hs : 0 < s.toInt) (hs2 : s.toInt ≤ 220) (ok : okL f s.toNatClampNeg) :
    ∃ (lost z : Int32) (h : Nat → Int32), F_Big_shiftRight R x s neg f = (lost, z, if neg = 0 then 0 else if z ≤ 0 then 0 else 1, h) ∧ 0 ≤ z.toInt ∧ z.toInt ≤ s.toInt ∧ okL h z.toNatClampNeg ∧ (0 < z.toInt → h (z.toNatClampNeg - 1) ≠ 0) ∧ vB h z.toNatClampNeg = vB f s.toNatClampNeg / 2 ^ x.toNatClampNeg := by
  have e0 : (0 : Int32).toInt = 0 := rfl
  have d1 : (x / 31 : Int32).toInt = x.toInt / 31 := q_divI (y := 31) rfl rfl (by omega) (by omega)
  have d2 : (x - x / 31 * 31 : Int32).toInt = x.toInt % 31 := s_rem (b := 31) (by omega) (by decide)
  have ex := q_clI (i := x) rfl (by omega)
  have es := q_clI (i := s) rfl (by omega)
  have hx2 := Int32.toInt_lt x
  have key : ∀ lost : Int32, ∃ (z : Int32) (h : Nat → Int32), F_Big_shiftRight_J26 R x s neg f lost = (lost, z, if neg = 0 then 0 else if z ≤ 0 then 0 else 1, h) ∧ 0 ≤ z.toInt ∧ z.toInt ≤ s.toInt ∧ okL h z.toNatClampNeg ∧ (0 < z.toInt → h (z.toNatClampNeg - 1) ≠ 0) ∧ vB h z.toNatClampNeg = vB f s.toNatClampNeg / 2 ^ x.toNatClampNeg := by
    intro lost
    unfold F_Big_shiftRight_J26
    obtain ⟨far, efar⟩ := q_nm (x / 31 : Int32)
    rw [efar] at d1 d2 ⊢
    obtain ⟨a, ea⟩ := q_nm (x - far * 31 : Int32)
    rw [ea] at d2 ⊢
    have t1 : (s - far : Int32).toInt = s.toInt - far.toInt := q_subI rfl rfl (by omega) (by omega)
    obtain ⟨df, edf⟩ := q_nm (s - far : Int32)
    rw [edf] at t1 ⊢
    have ef := q_clI (i := far) rfl (by omega)
    obtain ⟨k, hk⟩ : ∃ k : Nat, a.toInt = (k : Int) := ⟨a.toInt.toNat, by omega⟩
    have t2 : (if 0 < df then df else 0 : Int32).toInt = ((s.toNatClampNeg - far.toNatClampNeg : Nat) : Int) := by
      split
      · have := q_ltI ‹_›
        omega
      · have := q_nltI ‹_›
        omega
    obtain ⟨top, etop⟩ := q_nm (if 0 < df then df else 0 : Int32)
    rw [etop] at t2 ⊢
    have et := q_clI (i := top) rfl (by omega)
    obtain ⟨h, r1, r2⟩ := V_shrL (R := R) (x2 := x) (s := s) (neg := neg) (lost := lost) (top := top) (a := a) (far := far) (g0 := f) (f := f) (k := k) (by omega) hs2 (by omega) (by omega) (by omega) hk (by omega) (by omega) ok ((220 - (0 : Int32).toInt).toNat + 1) 0 f (by omega) (by omega) (by omega) (fun _ _ => rfl) (fun m hm => by omega)
    rw [r1]
    have okh : okL h top.toNatClampNeg := fun j hj => by
      rw [r2 j (by omega)]
      unfold v_U
      have h1 := Int.emod_nonneg (v_lm f s.toNatClampNeg (far.toNatClampNeg + (j + 1)) * 2 ^ (31 - k)) (show (2147483648 : Int) ≠ 0 by decide)
      have h2 : 0 ≤ v_lm f s.toNatClampNeg (far.toNatClampNeg + j) / 2 ^ k := Int.ediv_nonneg (v_lm0 ok) (Int.le_of_lt (v_p2 _))
      omega
    obtain ⟨z, w1, w2, w3, w4, w5⟩ := V_trimT (R := R) (s := top) (neg := neg) (f := h) (by omega) (by omega)
    rw [w1]
    refine ⟨z, h, rfl, w2, by omega, okh.mono (by have := q_clI (i := z) rfl w2; omega), w4, ?_⟩
    rw [w5]
    have hx3 : x.toNatClampNeg = 31 * far.toNatClampNeg + k := by omega
    by_cases hfar : far.toNatClampNeg ≤ s.toNatClampNeg
    · have g2 := v_shrV (f := f) (h := h) (s := s.toNatClampNeg) (far := far.toNatClampNeg) (k := k) (by omega) (n := top.toNatClampNeg) (fun m hm => r2 m (by omega))
      have g3 : v_lm f s.toNatClampNeg (far.toNatClampNeg + top.toNatClampNeg) = 0 := by
        unfold v_lm
        rw [if_neg (by omega)]
      rw [g3, Int.zero_emod, Int.zero_mul, Int.add_zero, vL_le (by omega), show top.toNatClampNeg = s.toNatClampNeg - far.toNatClampNeg by omega] at g2
      have g4 := v_split (f := f) (p := far.toNatClampNeg) (n := s.toNatClampNeg - far.toNatClampNeg)
      rw [show far.toNatClampNeg + (s.toNatClampNeg - far.toNatClampNeg) = s.toNatClampNeg by omega] at g4
      rw [show top.toNatClampNeg = s.toNatClampNeg - far.toNatClampNeg by omega]
      obtain ⟨S, eS⟩ := q_nm (vB h (s.toNatClampNeg - far.toNatClampNeg))
      obtain ⟨W, eW⟩ := q_nm (vB (fun i => f (far.toNatClampNeg + i)) (s.toNatClampNeg - far.toNatClampNeg))
      obtain ⟨c, ec⟩ := q_nm (v_lm f s.toNatClampNeg (far.toNatClampNeg + 0))
      rw [eS, eW, ec] at g2
      rw [eW] at g4
      rw [eS]
      have c1 := Int.emod_lt_of_pos c (v_p2 k)
      have c2 := Int.emod_nonneg c (Int.ne_of_gt (v_p2 k))
      obtain ⟨y, ey⟩ := q_nm (c % 2 ^ k)
      rw [ey] at g2 c1 c2
      have f1 := v_lt (f := f) (n := far.toNatClampNeg) (ok.mono hfar)
      have f2 := v_nn (f := f) (n := far.toNatClampNeg) (ok.mono hfar)
      have hP := v_pos far.toNatClampNeg
      rw [hx3, Int.pow_add, v_p31]
      refine (v_edivU (r := 2147483648 ^ far.toNatClampNeg * y + vB f far.toNatClampNeg) ?_ ?_ ?_).symm
      · have e1 : W = S * 2 ^ k + y := by omega
        rw [g4, e1, Int.mul_add]
        have e2 : 2147483648 ^ far.toNatClampNeg * (S * 2 ^ k) = S * (2147483648 ^ far.toNatClampNeg * 2 ^ k) := by ac_rfl
        omega
      · have := Int.mul_nonneg (Int.le_of_lt hP) c2
        omega
      · have h9 : 2147483648 ^ far.toNatClampNeg * (y + 1) ≤ 2147483648 ^ far.toNatClampNeg * 2 ^ k := Int.mul_le_mul_of_nonneg_left (by omega) (Int.le_of_lt hP)
        rw [Int.mul_add, Int.mul_one] at h9
        omega
    · have t0 : top.toNatClampNeg = 0 := by omega
      rw [t0]
      show (0 : Int) = _
      symm
      apply Int.ediv_eq_zero_of_lt (v_nn ok)
      have h1 := v_lt ok
      have h2 : (2147483648 : Int) ^ s.toNatClampNeg ≤ 2 ^ x.toNatClampNeg := by
        rw [← v_p31]
        have := Nat.pow_le_pow_right (n := 2) (by omega) (show 31 * s.toNatClampNeg ≤ x.toNatClampNeg by omega)
        exact_mod_cast this
      omega
  unfold F_Big_shiftRight
  rw [if_neg (fun hh => by have := q_leI hh; omega), if_neg (fun hh => by rw [hh] at hs; omega)]
  split
  · obtain ⟨z, h, r⟩ := key 0
    exact ⟨0, z, h, r⟩
  · obtain ⟨z, h, r⟩ := key 1
    exact ⟨1, z, h, r⟩

/-! values: how many bits a limb has -/
theorem v_smQ {x b w : Nat} (h1 : ∀ i, i < b → b ≤ i + w → x.testBit i = true) (h2 : ∀ i, b ≤ i → x.testBit i = false) : (∀ i, i < b → b ≤ i + 2 * w → (x ||| x / 2 ^ w).testBit i = true) ∧ (∀ i, b ≤ i → (x ||| x / 2 ^ w).testBit i = false) := by
  have e : x / 2 ^ w = x >>> w := (Nat.shiftRight_eq_div_pow x w).symm
  rw [e]
  refine ⟨fun i hi hb => ?_, fun i hi => ?_⟩
  · rw [Nat.testBit_or, Nat.testBit_shiftRight]
    by_cases h : b ≤ i + w
    · rw [h1 i hi h, Bool.true_or]
    · rw [h1 (w + i) (by omega) (by omega), Bool.or_true]
  · rw [Nat.testBit_or, Nat.testBit_shiftRight, h2 i hi, h2 (w + i) (by omega), Bool.or_false]
theorem v_sm32 {x : Int32} {n k : Nat} {a : Int32} (hx : x.toBitVec.toNat = n) (ha : a.toInt = (k : Int)) (hk : k ≤ 31) : (x ||| (x.toUInt32 >>> (a.toUInt32 &&& Int32.toUInt32 31)).toInt32).toBitVec.toNat = n ||| n / 2 ^ k := by
  rw [Int32.toBitVec_or, BitVec.toNat_or, v_ushrN ha hk, hx]
theorem t_cnt : ∀ b : Fin 32, F_jInt_bitCount (Int32.ofNat (2 ^ b.val - 1)) = Int32.ofNat b.val := by decide +kernel
theorem t_ofN : ∀ b : Fin 32, (Int32.ofNat b.val).toInt = (b.val : Int) := by decide +kernel
theorem v_bits {x : Int32} (h : 0 < x.toInt) : ∃ b : Nat, 1 ≤ b ∧ b ≤ 31 ∧ (F_Big_bitsOf x).toInt = (b : Int) ∧ (2 : Int) ^ (b - 1) ≤ x.toInt ∧ x.toInt < 2 ^ b := by
  obtain ⟨x1, x2, -⟩ := s_nn (x := x) (by omega)
  obtain ⟨n, hn⟩ := q_nm x.toBitVec.toNat
  rw [hn] at x1 x2
  have n0 : n ≠ 0 := by omega
  have l1 := Nat.log2_self_le n0
  have l2 := Nat.lt_log2_self (n := n)
  obtain ⟨c, hc⟩ := q_nm n.log2
  rw [hc] at l1 l2
  have c31 : c < 31 := by
    apply Nat.lt_of_not_le
    intro h9
    have := Nat.pow_le_pow_right (n := 2) (by omega) h9
    have e : (2 : Nat) ^ 31 = 2147483648 := rfl
    omega
  have a1 : ∀ i, i < c + 1 → c + 1 ≤ i + 1 → n.testBit i = true := fun i h1 h2 => by
    have e : i = c := by omega
    subst e
    rw [Nat.testBit_eq_decide_div_mod_eq]
    have h3 : n / 2 ^ i = 1 := by
      rw [Nat.pow_succ] at l2
      have h4 : n / 2 ^ i < 2 := by rw [Nat.div_lt_iff_lt_mul (Nat.two_pow_pos i)]; omega
      have h5 : 1 ≤ n / 2 ^ i := by rw [Nat.le_div_iff_mul_le (Nat.two_pow_pos i)]; omega
      omega
    rw [h3]
    rfl
  have a2 : ∀ i, c + 1 ≤ i → n.testBit i = false := fun i h1 => Nat.testBit_lt_two_pow (Nat.lt_of_lt_of_le l2 (Nat.pow_le_pow_right (by omega) h1))
  unfold F_Big_bitsOf
  obtain ⟨e0, h0⟩ := q_nm (x ||| ((x.toUInt32 >>> ((1 : Int32).toUInt32 &&& Int32.toUInt32 31)).toInt32))
  have b0 := v_sm32 (a := 1) (k := 1) hn rfl (by omega)
  rw [h0] at b0 ⊢
  obtain ⟨p1, p2⟩ := v_smQ a1 a2
  obtain ⟨n0', m0⟩ := q_nm (n ||| n / 2 ^ 1)
  rw [m0] at b0 p1 p2
  obtain ⟨e1, h1⟩ := q_nm (e0 ||| ((e0.toUInt32 >>> ((2 : Int32).toUInt32 &&& Int32.toUInt32 31)).toInt32))
  have b1 := v_sm32 (a := 2) (k := 2) b0 rfl (by omega)
  rw [h1] at b1 ⊢
  obtain ⟨p3, p4⟩ := v_smQ p1 p2
  obtain ⟨n1', m1⟩ := q_nm (n0' ||| n0' / 2 ^ (2 * 1))
  rw [m1] at p3 p4
  rw [show n0' ||| n0' / 2 ^ 2 = n1' from m1] at b1
  obtain ⟨e2, h2⟩ := q_nm (e1 ||| ((e1.toUInt32 >>> ((4 : Int32).toUInt32 &&& Int32.toUInt32 31)).toInt32))
  have b2 := v_sm32 (a := 4) (k := 4) b1 rfl (by omega)
  rw [h2] at b2 ⊢
  obtain ⟨p5, p6⟩ := v_smQ p3 p4
  obtain ⟨n2', m2⟩ := q_nm (n1' ||| n1' / 2 ^ (2 * (2 * 1)))
  rw [m2] at p5 p6
  rw [show n1' ||| n1' / 2 ^ 4 = n2' from m2] at b2
  obtain ⟨e3, h3⟩ := q_nm (e2 ||| ((e2.toUInt32 >>> ((8 : Int32).toUInt32 &&& Int32.toUInt32 31)).toInt32))
  have b3 := v_sm32 (a := 8) (k := 8) b2 rfl (by omega)
  rw [h3] at b3 ⊢
  obtain ⟨p7, p8⟩ := v_smQ p5 p6
  obtain ⟨n3', m3⟩ := q_nm (n2' ||| n2' / 2 ^ (2 * (2 * (2 * 1))))
  rw [m3] at p7 p8
  rw [show n2' ||| n2' / 2 ^ 8 = n3' from m3] at b3
  obtain ⟨e4, h4⟩ := q_nm (e3 ||| ((e3.toUInt32 >>> ((16 : Int32).toUInt32 &&& Int32.toUInt32 31)).toInt32))
  have b4 := v_sm32 (a := 16) (k := 16) b3 rfl (by omega)
  rw [h4] at b4 ⊢
  obtain ⟨p9, p10⟩ := v_smQ p7 p8
  obtain ⟨n4', m4⟩ := q_nm (n3' ||| n3' / 2 ^ (2 * (2 * (2 * (2 * 1)))))
  rw [m4] at p9 p10
  rw [show n3' ||| n3' / 2 ^ 16 = n4' from m4] at b4
  have fin : n4' = 2 ^ (c + 1) - 1 := by
    apply Nat.eq_of_testBit_eq
    intro i
    rw [Nat.testBit_two_pow_sub_one]
    by_cases hi : i < c + 1
    · rw [p9 i hi (by omega), decide_eq_true hi]
    · rw [p10 i (by omega), decide_eq_false hi]
  have e5 : e4 = Int32.ofNat (2 ^ (c + 1) - 1) := by
    apply Int32.toBitVec_inj.mp
    apply BitVec.eq_of_toNat_eq
    rw [b4, fin]
    show _ = (BitVec.ofNat 32 (2 ^ (c + 1) - 1)).toNat
    rw [BitVec.toNat_ofNat, Nat.mod_eq_of_lt]
    have := Nat.pow_le_pow_right (n := 2) (by omega) (show c + 1 ≤ 31 by omega)
    have e : (2 : Nat) ^ 31 = 2147483648 := rfl
    have e' : (2 : Nat) ^ 32 = 4294967296 := rfl
    omega
  rw [e5, t_cnt ⟨c + 1, by omega⟩, t_ofN ⟨c + 1, by omega⟩]
  refine ⟨c + 1, by omega, by omega, rfl, ?_, ?_⟩
  · rw [x1, show c + 1 - 1 = c by omega]
    exact_mod_cast l1
  · rw [x1]
    exact_mod_cast l2

/-! values: the guess of a figure -/
theorem v_gId {t v w : Int} : t * (v * 2147483648 + w) = t * v * 2147483648 + t * w := by rw [Int.mul_add, Int.mul_assoc]
theorem v_lcmpP {a b : Int64} : (0 : Int32) < lg_cmp a b ↔ b.toInt < a.toInt := by
  have h := s_lcmp (a := a) (b := b)
  have e : (0 : Int32).toInt = 0 := rfl
  constructor
  · intro h1
    have := q_ltI h1
    omega
  · intro h1
    exact Int32.lt_iff_toInt_lt.mpr (by omega)
theorem v_lcmpN {a b : Int64} : lg_cmp a b < (0 : Int32) ↔ a.toInt < b.toInt := by
  have h := s_lcmp (a := a) (b := b)
  have e : (0 : Int32).toInt = 0 := rfl
  constructor
  · intro h1
    have := q_ltI h1
    omega
  · intro h1
    exact Int32.lt_iff_toInt_lt.mpr (by omega)
theorem v_gEnd {H u t r v w : Int} (h1 : t * v + r = H) (h2 : t * w ≤ r * 2147483648 + u) : t * (v * 2147483648 + w) ≤ H * 2147483648 + u := by
  rw [v_gId, ← h1, Int.add_mul]
  omega
theorem v_gBig {H t r v w : Int} (h1 : t * v + r = H) (h2 : 2147483648 ≤ r) (h3 : H < v * 2147483648 + 2147483648) (hv : 0 ≤ v) (hw : 0 ≤ w) (hw2 : w < 2147483648) (ht : 0 ≤ t) : t ≤ 2147483647 ∧ t * w ≤ r * 2147483648 := by
  have h4 : t ≤ 2147483647 := by
    apply Int.le_of_not_gt
    intro h5
    have h6 : 2147483648 * v ≤ t * v := Int.mul_le_mul_of_nonneg_right (by omega) hv
    omega
  have h5 : t * w ≤ 2147483647 * 2147483647 := Int.mul_le_mul h4 (by omega) hw (by decide)
  exact ⟨h4, by omega⟩
theorem V_guessL {R x2 R2 s neg s2 neg2 : Int32} {g g2 : Nat → Int32} {v0 v1 : Int64} {H u0 : Int} (hv : 1073741824 ≤ v1.toInt) (hv' : v1.toInt < 2147483648) (hw : 0 ≤ v0.toInt) (hw' : v0.toInt < 2147483648) (hu : (F_Big_limb R (x2 - 2) s neg g).toInt = u0) (hu0 : 0 ≤ u0) (hH : H < v1.toInt * 2147483648 + 2147483648) :
    ∀ (n : Nat) (i : Int32) (r t : Int64), 0 ≤ i.toInt → i.toInt ≤ 2 → (2 - i.toInt).toNat < n → t.toInt * v1.toInt + r.toInt = H → i.toInt * v1.toInt ≤ r.toInt → r.toInt < (i.toInt + 1) * v1.toInt → 0 ≤ t.toInt → (H * 2147483648 + u0 < (t.toInt + 1) * (v1.toInt * 2147483648 + v0.toInt) ∨ 2147483647 ≤ t.toInt) →
    ∃ z : Int64, F_Big_guess_L67 R x2 R2 s neg g s2 neg2 g2 v0 v1 n i r t = z ∧ 0 ≤ z.toInt ∧ z.toInt ≤ 2147483647 ∧ z.toInt * (v1.toInt * 2147483648 + v0.toInt) ≤ H * 2147483648 + u0 ∧ (H * 2147483648 + u0 < (z.toInt + 1) * (v1.toInt * 2147483648 + v0.toInt) ∨ z.toInt = 2147483647) := by
  have hu1 : u0 < 2147483648 := by rw [← hu]; exact Int32.toInt_lt _
  intro n
  induction n with
  | zero => intro i r t h1 h2 h3; omega
  | succ n ih =>
    intro i r t h1 h2 h3 h4 h5 h6 h7 h8
    have e2 : (2 : Int32).toInt = 2 := rfl
    have eM : (2147483647 : Int64).toInt = 2147483647 := rfl
    have rb : r.toInt < 2147483648 * 3 := by
      have : (i.toInt + 1) * v1.toInt ≤ 3 * 2147483647 := Int.mul_le_mul (by omega) (by omega) (by omega) (by decide)
      omega
    have r0 : 0 ≤ r.toInt := by
      have : 0 ≤ i.toInt * v1.toInt := Int.mul_nonneg h1 (by omega)
      omega
    have tb : t.toInt ≤ 2147483648 * 2 + 2 := by
      apply Int.le_of_not_gt
      intro h9
      have h10 : (2147483648 * 2 + 2) * v1.toInt ≤ t.toInt * v1.toInt := Int.mul_le_mul_of_nonneg_right (by omega) (by omega)
      omega
    have big : 2147483648 ≤ r.toInt → ∃ z : Int64, t = z ∧ 0 ≤ z.toInt ∧ z.toInt ≤ 2147483647 ∧ z.toInt * (v1.toInt * 2147483648 + v0.toInt) ≤ H * 2147483648 + u0 ∧ (H * 2147483648 + u0 < (z.toInt + 1) * (v1.toInt * 2147483648 + v0.toInt) ∨ z.toInt = 2147483647) := fun hr => by
      obtain ⟨b1, b2⟩ := v_gBig h4 hr hH (by omega) hw hw' h7
      exact ⟨t, rfl, h7, b1, v_gEnd h4 (by omega), by omega⟩
    rw [F_Big_guess_L67.eq_2]
    by_cases hc : (2 : Int32) ≤ i
    · rw [if_pos hc]
      have := q_leI hc
      have h9 : 2 * v1.toInt ≤ i.toInt * v1.toInt := Int.mul_le_mul_of_nonneg_right (by omega) (by omega)
      exact big (by omega)
    · rw [if_neg hc]
      have hc2 := q_nleI hc
      by_cases hr : (0 : Int32) < lg_cmp r 2147483647
      · rw [if_pos hr]
        have := v_lcmpP.mp hr
        exact big (by omega)
      · rw [if_neg hr]
        clear big
        have hr2 : r.toInt ≤ 2147483647 := by
          apply Int.le_of_not_gt
          intro h9
          exact hr (v_lcmpP.mpr (by omega))
        obtain ⟨e1, -⟩ := v_sc h1 (by omega)
        have m1 : (r + v1 : Int64).toInt = r.toInt + v1.toInt := q_addL rfl rfl (by omega) (by omega)
        have m2 : (t - 1 : Int64).toInt = t.toInt - 1 := q_subL (y := 1) rfl rfl (by omega) (by omega)
        have go : 1 ≤ t.toInt → (H * 2147483648 + u0 < t.toInt * (v1.toInt * 2147483648 + v0.toInt) ∨ 2147483648 ≤ t.toInt) → ∃ z : Int64, F_Big_guess_L67 R x2 R2 s neg g s2 neg2 g2 v0 v1 n (i + 1) (r + v1) (t - 1) = z ∧ 0 ≤ z.toInt ∧ z.toInt ≤ 2147483647 ∧ z.toInt * (v1.toInt * 2147483648 + v0.toInt) ≤ H * 2147483648 + u0 ∧ (H * 2147483648 + u0 < (z.toInt + 1) * (v1.toInt * 2147483648 + v0.toInt) ∨ z.toInt = 2147483647) := fun t1 hh => by
          refine ih (i + 1) (r + v1) (t - 1) (by omega) (by omega) (by omega) ?_ ?_ ?_ (by omega) ?_
          · rw [m1, m2, Int.sub_mul]
            omega
          · rw [m1, e1, Int.add_mul]
            omega
          · rw [m1, e1, Int.add_mul (i.toInt + 1)]
            omega
          · rw [m2, show t.toInt - 1 + 1 = t.toInt by omega]
            omega
        by_cases ht : (0 : Int32) < lg_cmp t 2147483647
        · rw [if_pos ht]
          have := v_lcmpP.mp ht
          exact go (by omega) (Or.inr (by omega))
        · rw [if_neg ht]
          have ht2 : t.toInt ≤ 2147483647 := by
            apply Int.le_of_not_gt
            intro h9
            exact ht (v_lcmpP.mpr (by omega))
          have p1 : 0 ≤ t.toInt * v0.toInt := Int.mul_nonneg h7 hw
          have p2 : t.toInt * v0.toInt ≤ 2147483647 * 2147483647 := Int.mul_le_mul ht2 (by omega) hw (by decide)
          have m3 : (t * v0 : Int64).toInt = t.toInt * v0.toInt := q_mulL rfl rfl (by omega) (by omega)
          have i1 : (F_Big_limb R (x2 - 2) s neg g).toInt64.toInt = u0 := q_i2l hu
          have m4 := v_cat (x := r) (y := (F_Big_limb R (x2 - 2) s neg g).toInt64) r0 (by omega) (by omega) (by omega)
          rw [i1] at m4
          by_cases hk : (0 : Int32) < lg_cmp (t * v0) ((r <<< ((31 : Int32).toInt64 &&& 63)) ||| (F_Big_limb R (x2 - 2) s neg g).toInt64)
          · rw [if_pos hk]
            have h9 := v_lcmpP.mp hk
            rw [m3, m4] at h9
            have t1 : 1 ≤ t.toInt := by
              apply Int.le_of_not_gt
              intro h10
              have h11 : t.toInt = 0 := by omega
              rw [h11, Int.zero_mul] at h9
              omega
            refine go t1 (Or.inl ?_)
            rw [v_gId, ← h4, Int.add_mul]
            omega
          · rw [if_neg hk]
            have h9 : t.toInt * v0.toInt ≤ r.toInt * 2147483648 + u0 := by
              apply Int.le_of_not_gt
              intro h10
              exact hk (v_lcmpP.mpr (by rw [m3, m4]; exact h10))
            clear go
            exact ⟨t, rfl, h7, ht2, v_gEnd h4 h9, by omega⟩
theorem V_guess {R x2 R2 s neg s2 neg2 : Int32} {g g2 : Nat → Int32} {u2 u1 u0 v1 v0 : Int} (a2 : (F_Big_limb R x2 s neg g).toInt = u2) (a1 : (F_Big_limb R (x2 - 1) s neg g).toInt = u1) (a0 : (F_Big_limb R (x2 - 2) s neg g).toInt = u0) (b1 : (F_Big_limb R2 (s2 - 1) s2 neg2 g2).toInt = v1) (b0 : (F_Big_limb R2 (s2 - 2) s2 neg2 g2).toInt = v0)
    (h2 : 0 ≤ u2) (h1 : 0 ≤ u1) (h0 : 0 ≤ u0) (k1 : 1073741824 ≤ v1) (k0 : 0 ≤ v0) (huv : u2 ≤ v1) :
    ∃ z : Int64, F_Big_guess R x2 R2 s neg g s2 neg2 g2 = z ∧ 0 ≤ z.toInt ∧ z.toInt ≤ 2147483647 ∧ z.toInt * (v1 * 2147483648 + v0) ≤ (u2 * 2147483648 + u1) * 2147483648 + u0 ∧ ((u2 * 2147483648 + u1) * 2147483648 + u0 < (z.toInt + 1) * (v1 * 2147483648 + v0) ∨ z.toInt = 2147483647) := by
  have l1 : u1 < 2147483648 := by rw [← a1]; exact Int32.toInt_lt _
  have l2 : v1 < 2147483648 := by rw [← b1]; exact Int32.toInt_lt _
  have l3 : v0 < 2147483648 := by rw [← b0]; exact Int32.toInt_lt _
  have i2 : (F_Big_limb R x2 s neg g).toInt64.toInt = u2 := q_i2l a2
  have i1 : (F_Big_limb R (x2 - 1) s neg g).toInt64.toInt = u1 := q_i2l a1
  have j1 : (F_Big_limb R2 (s2 - 1) s2 neg2 g2).toInt64.toInt = v1 := q_i2l b1
  have j0 : (F_Big_limb R2 (s2 - 2) s2 neg2 g2).toInt64.toInt = v0 := q_i2l b0
  have c1 := v_cat (x := (F_Big_limb R x2 s neg g).toInt64) (y := (F_Big_limb R (x2 - 1) s neg g).toInt64) (by omega) (by omega) (by omega) (by omega)
  rw [i2, i1] at c1
  have mx : F_jMath_max_JJJ (F_Big_limb R2 (s2 - 1) s2 neg2 g2).toInt64 1 = (F_Big_limb R2 (s2 - 1) s2 neg2 g2).toInt64 := by
    unfold F_jMath_max_JJJ
    have e1 : (1 : Int64).toInt = 1 := rfl
    rw [if_neg (fun hh => by have := v_lcmpN.mp hh; omega)]
  unfold F_Big_guess
  rw [mx]
  obtain ⟨h, eh⟩ := q_nm ((F_Big_limb R x2 s neg g).toInt64 <<< ((31 : Int32).toInt64 &&& 63) ||| (F_Big_limb R (x2 - 1) s neg g).toInt64)
  obtain ⟨v, ev⟩ := q_nm (F_Big_limb R2 (s2 - 1) s2 neg2 g2).toInt64
  obtain ⟨w, ew⟩ := q_nm (F_Big_limb R2 (s2 - 2) s2 neg2 g2).toInt64
  rw [eh] at c1 ⊢
  rw [ev] at j1 ⊢
  rw [ew] at j0 ⊢
  have d1 := v_divL (x := h) (y := v) (by omega) (by omega)
  obtain ⟨q, eq⟩ := q_nm (h / v)
  rw [eq] at d1 ⊢
  have d2 := Int.emod_add_mul_ediv h.toInt v.toInt
  have d3 := Int.emod_nonneg h.toInt (show v.toInt ≠ 0 by omega)
  have d4 := Int.emod_lt_of_pos h.toInt (show 0 < v.toInt by omega)
  rw [← d1, Int.mul_comm] at d2
  have hb := Int64.toInt_lt h
  have q0 : 0 ≤ q.toInt := by rw [d1]; exact Int.ediv_nonneg (by omega) (by omega)
  have qv : 0 ≤ q.toInt * v.toInt := Int.mul_nonneg q0 (by omega)
  have m1 : (q * v : Int64).toInt = q.toInt * v.toInt := q_mulL rfl rfl (by omega) (by omega)
  have m2 : (h - q * v : Int64).toInt = h.toInt - q.toInt * v.toInt := q_subL rfl m1 (by omega) (by omega)
  obtain ⟨r, er⟩ := q_nm (h - q * v : Int64)
  rw [er] at m2 ⊢
  have e0 : (0 : Int32).toInt = 0 := rfl
  have up : h.toInt < (q.toInt + 1) * v.toInt := by rw [Int.add_mul]; omega
  have key := V_guessL (R := R) (x2 := x2) (R2 := R2) (s := s) (neg := neg) (s2 := s2) (neg2 := neg2) (g := g) (g2 := g2) (v0 := w) (v1 := v) (H := u2 * 2147483648 + u1) (u0 := u0) (by omega) (by omega) (by omega) (by omega) a0 h0 (by rw [j1]; have : u2 * 2147483648 ≤ v1 * 2147483648 := Int.mul_le_mul_of_nonneg_right huv (by decide); omega)
    ((2 - (0 : Int32).toInt).toNat + 1) 0 r q (by omega) (by omega) (by omega) (by rw [m2, c1]; omega) (by rw [e0, Int.zero_mul, m2]; omega) (by rw [e0, Int.zero_add, Int.one_mul, m2]; omega) q0 (Or.inl (by
      have h9 : (u2 * 2147483648 + u1 + 1) * 2147483648 ≤ (q.toInt + 1) * v.toInt * 2147483648 := Int.mul_le_mul_of_nonneg_right (by omega) (by decide)
      have h10 : u0 < 2147483648 := by rw [← a0]; exact Int32.toInt_lt _
      have h11 : 0 ≤ (q.toInt + 1) * w.toInt := Int.mul_nonneg (by omega) (by omega)
      rw [v_gId]
      rw [Int.add_mul (u2 * 2147483648 + u1)] at h9
      omega))
  rw [j1, j0] at key
  exact key

/-! values: a figure's worth taken away -/
theorem v_and31J {x : Int64} : 0 ≤ (x &&& 2147483647).toInt ∧ (x &&& 2147483647).toInt = x.toInt % 2147483648 := by
  have h4 : (x &&& 2147483647).toBitVec.toNat = x.toBitVec.toNat % 2147483648 := by
    rw [Int64.toBitVec_and, BitVec.toNat_and]
    exact Nat.and_two_pow_sub_one_eq_mod _ 31
  have h5 := s_ofL h4 (by omega)
  have h6 : x.toInt = x.toBitVec.toInt := rfl
  have h7 := BitVec.toInt_eq_toNat_bmod x.toBitVec
  have h8 := x.toBitVec.isLt
  rw [h5, h6, h7, Int.bmod_def]
  split <;> omega
theorem v_shu {f : Nat → Int32} {p j : Nat} {x : Int32} : (fun i => upd f (p + j) x (p + i)) = upd (fun i => f (p + i)) j x := by
  funext i
  by_cases h : i = j
  · subst h
    rw [v_eq, v_eq]
  · rw [v_ne h, v_ne (by omega)]
theorem v_add2 {a c : Int32} (ha : 0 ≤ a.toInt) (hc : 0 ≤ c.toInt) (hc1 : c.toInt ≤ 1) : ∃ w : Int, 0 ≤ w ∧ w ≤ 1 ∧ 0 ≤ ((a + c) &&& 2147483647).toInt ∧ ((a + c) &&& 2147483647).toInt + 2147483648 * w = a.toInt + c.toInt := by
  have h1 := v_and31I (x := a + c)
  have h3 := Int32.toInt_lt a
  have h5 : (a + c).toInt = a.toInt + c.toInt ∨ (a + c).toInt = a.toInt + c.toInt - 4294967296 := by
    have e : ((2 ^ 32 : Nat) : Int) = 4294967296 := rfl
    rw [Int32.toInt_add, Int.bmod_def, e]
    split <;> omega
  refine ⟨(a.toInt + c.toInt) / 2147483648, by omega, by omega, h1.1, ?_⟩
  rw [h1.2]
  omega
theorem v_gbId {V m k a b c P A D : Int} (h : m + 2147483648 * k = a + b + c) : V + (m - a) * P + (A - (D + b * P)) + k * (P * 2147483648) = V + (A - D) + c * P := by
  have h2 : (m + 2147483648 * k) * P = (a + b + c) * P := by rw [h]
  have e2 : k * (P * 2147483648) = 2147483648 * k * P := by ac_rfl
  simp only [Int.add_mul, Int.sub_mul] at h2 ⊢
  omega
theorem v_cl2 {a b : Int32} (ha : 0 ≤ a.toInt) (hb : 0 ≤ b.toInt) (h : a.toInt + b.toInt ≤ 1000000) : (a + b : Int32).toInt = a.toInt + b.toInt ∧ (a + b : Int32).toNatClampNeg = a.toNatClampNeg + b.toNatClampNeg := by
  have s1 : (a + b : Int32).toInt = a.toInt + b.toInt := q_addI rfl rfl (by omega) (by omega)
  have := q_clI (i := a + b) s1 (by omega)
  have := q_clI (i := a) rfl ha
  have := q_clI (i := b) rfl hb
  exact ⟨s1, by omega⟩
theorem V_gbL {R p R2 s neg s2 neg2 : Int32} {g0 d : Nat → Int32} (hp : 0 ≤ p.toInt) (h2 : 0 ≤ s2.toInt) (hps : p.toInt + s2.toInt < s.toInt) (hsR : s.toInt ≤ R.toInt) (hR : R.toInt ≤ 220) (okd : okL d s2.toNatClampNeg) :
    ∀ (n : Nat) (i c : Int32) (f : Nat → Int32), 0 ≤ i.toInt → i.toInt ≤ s2.toInt → 0 ≤ c.toInt → c.toInt ≤ 1 → okL f s.toNatClampNeg → (s2.toInt - i.toInt).toNat < n →
    ∃ (h : Nat → Int32) (w : Int), F_Big_giveBack_L11 R p R2 s neg g0 s2 neg2 d n i c f = h ∧ okL h s.toNatClampNeg ∧ (∀ k, k < p.toNatClampNeg ∨ p.toNatClampNeg + s2.toNatClampNeg < k → h k = f k) ∧ 0 ≤ w ∧ w ≤ 1 ∧
      vB (fun i => h (p.toNatClampNeg + i)) (s2.toNatClampNeg + 1) + w * 2147483648 ^ (s2.toNatClampNeg + 1) = vB (fun i => f (p.toNatClampNeg + i)) (s2.toNatClampNeg + 1) + (vB d s2.toNatClampNeg - vB d i.toNatClampNeg) + c.toInt * 2147483648 ^ i.toNatClampNeg := by
  have ep := q_clI (i := p) rfl hp
  have e2 := q_clI (i := s2) rfl h2
  have es := q_clI (i := s) rfl (by omega)
  intro n
  induction n with
  | zero => intro i c f h1 h3 h4 h5 h6 h7; omega
  | succ n ih =>
    intro i c f h1 h3 h4 h5 h6 h7
    have ei := q_clI (i := i) rfl h1
    rw [F_Big_giveBack_L11.eq_2]
    by_cases hc : s2 ≤ i
    · rw [if_pos hc]
      have hi : i = s2 := Int32.toInt_inj.mp (by have := q_leI hc; omega)
      subst hi
      obtain ⟨c1, c2⟩ := v_cl2 hp h2 (by omega)
      obtain ⟨u, eu⟩ := q_nm (p + i : Int32)
      rw [eu] at c1 c2 ⊢
      rw [if_neg (fun hh => by have := q_leI hh; omega)]
      have la := v_limb (R := R) (i := u) (s := s) (neg := neg) (f := f) (by omega) (by omega)
      rw [if_pos (by omega), c2] at la
      obtain ⟨a, ea⟩ := q_nm (F_Big_limb R u s neg f)
      rw [ea] at la ⊢
      have a0 : 0 ≤ a.toInt := by rw [la]; exact h6 _ (by omega)
      obtain ⟨w, w1, w2, w3, w4⟩ := v_add2 a0 h4 h5
      obtain ⟨m, em⟩ := q_nm ((a + c) &&& 2147483647 : Int32)
      rw [em] at w3 w4 ⊢
      rw [c2]
      refine ⟨_, w, rfl, okL_upd h6 w3, fun k hk => v_ne (by omega), w1, w2, ?_⟩
      rw [v_shu, v_setT (by omega), Int.sub_self, Int.add_zero, ← la, v_pw]
      have h9 : (m.toInt + 2147483648 * w) * 2147483648 ^ i.toNatClampNeg = (a.toInt + c.toInt) * 2147483648 ^ i.toNatClampNeg := by rw [w4]
      have h10 : w * (2147483648 ^ i.toNatClampNeg * 2147483648) = 2147483648 * w * 2147483648 ^ i.toNatClampNeg := by ac_rfl
      simp only [Int.add_mul, Int.sub_mul] at h9 ⊢
      omega
    · rw [if_neg hc]
      have hc2 := q_nleI hc
      obtain ⟨c1, c2⟩ := v_cl2 hp h1 (by omega)
      obtain ⟨u, eu⟩ := q_nm (p + i : Int32)
      rw [eu] at c1 c2 ⊢
      have la := v_limb (R := R) (i := u) (s := s) (neg := neg) (f := f) (by omega) (by omega)
      rw [if_pos (by omega), c2] at la
      obtain ⟨a, ea⟩ := q_nm (F_Big_limb R u s neg f)
      rw [ea] at la ⊢
      have a0 : 0 ≤ a.toInt := by rw [la]; exact h6 _ (by omega)
      obtain ⟨b, eb⟩ := q_nm (d i.toNatClampNeg)
      rw [eb]
      have b0 : 0 ≤ b.toInt := by rw [← eb]; exact okd _ (by omega)
      obtain ⟨q1, q2, q3, q4⟩ := v_add3 a0 b0 h4 h5
      obtain ⟨m, em⟩ := q_nm ((a + b + c) &&& 2147483647 : Int32)
      obtain ⟨k, ek⟩ := q_nm (((a + b + c).toUInt32 >>> ((31 : Int32).toUInt32 &&& Int32.toUInt32 31)).toInt32)
      rw [em] at q1 q2 ⊢
      rw [ek] at q2 q3 q4 ⊢
      obtain ⟨e1, e3⟩ := v_sc h1 (by omega)
      rw [c2]
      obtain ⟨h, w, r1, r2, r3, r4, r5, r6⟩ := ih (i + 1) k (upd f (p.toNatClampNeg + i.toNatClampNeg) m) (by omega) (by omega) q3 q4 (okL_upd h6 q1) (by omega)
      refine ⟨h, w, r1, r2, fun j hj => by rw [r3 j hj, v_ne (by omega)], r4, r5, ?_⟩
      rw [r6, v_shu, v_setT (by omega), e3, ← la]
      obtain ⟨I, eI⟩ := q_nm i.toNatClampNeg
      rw [eI] at eb ⊢
      have d2 : vB d (I + 1) = vB d I + b.toInt * 2147483648 ^ I := by rw [← eb]; rfl
      rw [d2, v_pw]
      exact v_gbId q2
theorem v_tkId {V m k x t d o P A D : Int} (h : m - 2147483648 * k = x - (o + t * d)) : V + (m - x) * P - t * (A - (D + d * P)) - k * (P * 2147483648) = V - t * (A - D) - o * P := by
  have h2 : (m - 2147483648 * k) * P = (x - (o + t * d)) * P := by rw [h]
  have e2 : k * (P * 2147483648) = 2147483648 * k * P := by ac_rfl
  have e3 : t * (d * P) = t * d * P := by ac_rfl
  simp only [Int.add_mul, Int.sub_mul, Int.mul_add, Int.mul_sub] at h2 ⊢
  omega
theorem V_tkL {R p R2 s neg s2 neg2 : Int32} {g0 d : Nat → Int32} {t : Int64} (hp : 0 ≤ p.toInt) (h2 : 0 ≤ s2.toInt) (hps : p.toInt + s2.toInt < s.toInt) (hsR : s.toInt ≤ R.toInt) (hR : R.toInt ≤ 220) (okd : okL d s2.toNatClampNeg) (ht : 0 ≤ t.toInt) (ht2 : t.toInt ≤ 2147483647) :
    ∀ (n : Nat) (i : Int32) (o : Int64) (f : Nat → Int32), 0 ≤ i.toInt → i.toInt ≤ s2.toInt → 0 ≤ o.toInt → o.toInt ≤ 2147483648 → okL f s.toNatClampNeg → (s2.toInt - i.toInt).toNat < n →
    ∃ (h : Nat → Int32) (y : Int64) (o' : Int), F_Big_takeTimes_L21 R p R2 s neg g0 s2 neg2 d t n i o f = (if y.toInt < 0 then (t.toInt32 - 1, F_Big_giveBack R p R2 s neg (upd h (p.toNatClampNeg + s2.toNatClampNeg) (y &&& 2147483647).toInt32) s2 neg2 d) else (t.toInt32, upd h (p.toNatClampNeg + s2.toNatClampNeg) (y &&& 2147483647).toInt32)) ∧
      okL h s.toNatClampNeg ∧ (∀ k, k < p.toNatClampNeg ∨ p.toNatClampNeg + s2.toNatClampNeg ≤ k → h k = f k) ∧ y.toInt = (f (p.toNatClampNeg + s2.toNatClampNeg)).toInt - o' ∧ 0 ≤ o' ∧ o' ≤ 2147483648 ∧
      vB (fun i => h (p.toNatClampNeg + i)) s2.toNatClampNeg - o' * 2147483648 ^ s2.toNatClampNeg = vB (fun i => f (p.toNatClampNeg + i)) s2.toNatClampNeg - t.toInt * (vB d s2.toNatClampNeg - vB d i.toNatClampNeg) - o.toInt * 2147483648 ^ i.toNatClampNeg := by
  have ep := q_clI (i := p) rfl hp
  have e2 := q_clI (i := s2) rfl h2
  have es := q_clI (i := s) rfl (by omega)
  have e0 : (0 : Int32).toInt = 0 := rfl
  have e00 : (0 : Int64).toInt = 0 := rfl
  intro n
  induction n with
  | zero => intro i o f h1 h3 h4 h5 h6 h7; omega
  | succ n ih =>
    intro i o f h1 h3 h4 h5 h6 h7
    have ei := q_clI (i := i) rfl h1
    rw [F_Big_takeTimes_L21.eq_2]
    by_cases hc : s2 ≤ i
    · rw [if_pos hc]
      have hi : i = s2 := Int32.toInt_inj.mp (by have := q_leI hc; omega)
      subst hi
      obtain ⟨c1, c2⟩ := v_cl2 hp h2 (by omega)
      obtain ⟨u, eu⟩ := q_nm (p + i : Int32)
      rw [eu] at c1 c2 ⊢
      rw [if_neg (fun hh => by have := q_leI hh; omega)]
      have la := v_limb (R := R) (i := u) (s := s) (neg := neg) (f := f) (by omega) (by omega)
      rw [if_pos (by omega), c2] at la
      obtain ⟨a, ea⟩ := q_nm (F_Big_limb R u s neg f)
      rw [ea] at la ⊢
      have a0 : 0 ≤ a.toInt := by rw [la]; exact h6 _ (by omega)
      have a1 := Int32.toInt_lt a
      have m1 : (a.toInt64 - o : Int64).toInt = a.toInt - o.toInt := q_subL (q_i2l rfl) rfl (by omega) (by omega)
      obtain ⟨y, ey⟩ := q_nm (a.toInt64 - o : Int64)
      rw [ey] at m1 ⊢
      rw [c2]
      refine ⟨f, y, o.toInt, ?_, h6, fun _ _ => rfl, by rw [← la]; exact m1, h4, h5, by rw [Int.sub_self, Int.mul_zero, Int.sub_zero]⟩
      unfold F_Big_takeTimes_J143
      by_cases hy : y.toInt < 0
      · rw [if_pos hy, if_pos (v_lcmpN.mpr (by omega))]
      · rw [if_neg hy, if_neg (fun hh => hy (by have := v_lcmpN.mp hh; omega))]
    · rw [if_neg hc]
      have hc2 := q_nleI hc
      obtain ⟨c1, c2⟩ := v_cl2 hp h1 (by omega)
      have la := v_limb (R := R) (i := p + i) (s := s) (neg := neg) (f := f) (by omega) (by omega)
      rw [if_pos (by omega), c2] at la
      obtain ⟨a, ea⟩ := q_nm (F_Big_limb R (p + i) s neg f)
      rw [ea] at la ⊢
      have a0 : 0 ≤ a.toInt := by rw [la]; exact h6 _ (by omega)
      have a1 := Int32.toInt_lt a
      obtain ⟨b, eb⟩ := q_nm (d i.toNatClampNeg)
      rw [eb]
      have b0 : 0 ≤ b.toInt := by rw [← eb]; exact okd _ (by omega)
      have b1 := Int32.toInt_lt b
      have p1 : 0 ≤ t.toInt * b.toInt := Int.mul_nonneg ht b0
      have p2 : t.toInt * b.toInt ≤ 2147483647 * 2147483647 := Int.mul_le_mul ht2 (by omega) b0 (by decide)
      have m1 : (t * b.toInt64 : Int64).toInt = t.toInt * b.toInt := q_mulL rfl (q_i2l rfl) (by omega) (by omega)
      have m2 : (o + t * b.toInt64 : Int64).toInt = o.toInt + t.toInt * b.toInt := q_addL rfl m1 (by omega) (by omega)
      obtain ⟨y, ey⟩ := q_nm (o + t * b.toInt64 : Int64)
      rw [ey] at m2 ⊢
      have m3 := v_and31 (x := y) (by omega)
      have m4 := v_shr31 (x := y) (by omega)
      obtain ⟨w, ew⟩ := q_nm (y &&& 2147483647 : Int64)
      obtain ⟨k, ek⟩ := q_nm ((y.toUInt64 >>> ((31 : Int32).toInt64.toUInt64 &&& Int64.toUInt64 63)).toInt64)
      rw [ew] at m3 ⊢
      rw [ek] at m4 ⊢
      have m5 : (a.toInt64 - w : Int64).toInt = a.toInt - w.toInt := q_subL (q_i2l rfl) rfl (by omega) (by omega)
      obtain ⟨l, el⟩ := q_nm (a.toInt64 - w : Int64)
      rw [el] at m5 ⊢
      have m6 := v_and31J (x := l)
      have m7 : (l &&& 2147483647).toInt32.toInt = (l &&& 2147483647).toInt := s_l2i (by omega) (by omega)
      obtain ⟨m, em⟩ := q_nm (l &&& 2147483647).toInt32
      rw [m6.2, em] at m7
      obtain ⟨e1, e3⟩ := v_sc h1 (by omega)
      have go : ∀ bw : Int32, bw.toInt = (if l.toInt < 0 then 1 else 0) → ∃ (h : Nat → Int32) (y : Int64) (o' : Int), F_Big_takeTimes_J78 (F_Big_takeTimes_L21 R p R2 s neg g0 s2 neg2 d t n) R p R2 s neg g0 s2 neg2 d t i o f l k bw = (if y.toInt < 0 then (t.toInt32 - 1, F_Big_giveBack R p R2 s neg (upd h (p.toNatClampNeg + s2.toNatClampNeg) (y &&& 2147483647).toInt32) s2 neg2 d) else (t.toInt32, upd h (p.toNatClampNeg + s2.toNatClampNeg) (y &&& 2147483647).toInt32)) ∧
          okL h s.toNatClampNeg ∧ (∀ k, k < p.toNatClampNeg ∨ p.toNatClampNeg + s2.toNatClampNeg ≤ k → h k = f k) ∧ y.toInt = (f (p.toNatClampNeg + s2.toNatClampNeg)).toInt - o' ∧ 0 ≤ o' ∧ o' ≤ 2147483648 ∧
          vB (fun i => h (p.toNatClampNeg + i)) s2.toNatClampNeg - o' * 2147483648 ^ s2.toNatClampNeg = vB (fun i => f (p.toNatClampNeg + i)) s2.toNatClampNeg - t.toInt * (vB d s2.toNatClampNeg - vB d i.toNatClampNeg) - o.toInt * 2147483648 ^ i.toNatClampNeg := by
        intro bw hb
        unfold F_Big_takeTimes_J78
        rw [em, c2]
        have hbb : 0 ≤ bw.toInt ∧ bw.toInt ≤ 1 ∧ l.toInt % 2147483648 = l.toInt + 2147483648 * bw.toInt := by
          rw [hb]
          split <;> omega
        have m8 : (k + bw.toInt64 : Int64).toInt = k.toInt + bw.toInt := q_addL rfl (q_i2l rfl) (by omega) (by omega)
        obtain ⟨k', ek'⟩ := q_nm (k + bw.toInt64 : Int64)
        rw [ek'] at m8 ⊢
        obtain ⟨h, z, o', r1, r2, r3, r4, r5, r6, r7⟩ := ih (i + 1) k' (upd f (p.toNatClampNeg + i.toNatClampNeg) m) (by omega) (by omega) (by omega) (by omega) (okL_upd h6 (by omega)) (by omega)
        refine ⟨h, z, o', r1, r2, fun j hj => by rw [r3 j hj, v_ne (by omega)], ?_, r5, r6, ?_⟩
        · rw [r4, v_ne (by omega)]
        · rw [r7, v_shu, v_setT (by omega), e3, ← la]
          obtain ⟨I, eI⟩ := q_nm i.toNatClampNeg
          rw [eI] at eb ⊢
          have d2 : vB d (I + 1) = vB d I + b.toInt * 2147483648 ^ I := by rw [← eb]; rfl
          rw [d2, v_pw]
          exact v_tkId (by omega)
      by_cases hl : (0 : Int32) ≤ lg_cmp l 0
      · rw [if_pos hl]
        refine go 0 ?_
        rw [if_neg (fun hh => by have h8 := v_lcmpN.mpr (show l.toInt < (0 : Int64).toInt by omega); have := q_leI hl; have := q_ltI h8; omega)]
        rfl
      · rw [if_neg hl]
        refine go 1 ?_
        have h8 := Int32.not_le.mp hl
        have := v_lcmpN.mp h8
        rw [if_pos (by omega)]
        rfl

/-! values: one figure of a quotient -/
theorem v_knuth {P lu lv U3 V2 t U V : Int} (hP : 0 < P) (u0 : 0 ≤ lu) (u1 : lu < P) (w0 : 0 ≤ lv) (w1 : lv < P) (hU : U = lu + U3 * P) (hV : V = lv + V2 * P) (t0 : 0 ≤ t) (t1 : t ≤ 2147483647) (h1 : t * V2 ≤ U3) (h2 : U3 < (t + 1) * V2 ∨ t = 2147483647) (hB : 2147483648 ≤ V2) (hUV : U < V * 2147483648) : 0 ≤ U - t * V + V ∧ U - t * V < V := by
  have U30 : 0 ≤ U3 := by
    have : 0 ≤ t * V2 := Int.mul_nonneg t0 (by omega)
    omega
  have hU3P : 0 ≤ U3 * P := Int.mul_nonneg U30 (by omega)
  have hV2P : 0 ≤ V2 * P := Int.mul_nonneg (by omega) (by omega)
  constructor
  · by_cases h : t = 0
    · rw [h, Int.zero_mul]
      omega
    · have a1 : (t - 1) * lv ≤ (t - 1) * P := Int.mul_le_mul_of_nonneg_left (by omega) (by omega)
      have a2 : ((t - 1) * V2 + (t - 1)) * P ≤ U3 * P := Int.mul_le_mul_of_nonneg_right (by rw [Int.sub_mul]; omega) (by omega)
      have a3 : t * V = t * lv + t * (V2 * P) := by rw [hV, Int.mul_add]
      simp only [Int.sub_mul, Int.add_mul, Int.one_mul, Int.mul_assoc] at a1 a2
      omega
  · rcases h2 with h2 | h2
    · have a1 : (U3 + 1) * P ≤ (t + 1) * V2 * P := Int.mul_le_mul_of_nonneg_right (by omega) (by omega)
      have a2 : 0 ≤ (t + 1) * lv := Int.mul_nonneg (by omega) w0
      have a3 : t * V = t * lv + t * (V2 * P) := by rw [hV, Int.mul_add]
      have a4 : (t + 1) * V2 * P = (t + 1) * (V2 * P) := Int.mul_assoc _ _ _
      rw [a4, Int.add_mul, Int.add_mul] at a1
      rw [Int.add_mul] at a2
      omega
    · rw [h2]
      omega
theorem v_top2 {f : Nat → Int32} {M : Nat} : vB f (M + 2) = vB f M + ((f (M + 1)).toInt * 2147483648 + (f M).toInt) * 2147483648 ^ M := by
  show vB f M + (f M).toInt * 2147483648 ^ M + (f (M + 1)).toInt * 2147483648 ^ (M + 1) = _
  rw [v_pw, Int.add_mul]
  have e : (f (M + 1)).toInt * (2147483648 ^ M * 2147483648) = (f (M + 1)).toInt * 2147483648 * 2147483648 ^ M := by ac_rfl
  omega
theorem v_top3 {f : Nat → Int32} {M : Nat} : vB f (M + 3) = vB f M + (((f (M + 2)).toInt * 2147483648 + (f (M + 1)).toInt) * 2147483648 + (f M).toInt) * 2147483648 ^ M := by
  show vB f (M + 2) + (f (M + 2)).toInt * 2147483648 ^ (M + 2) = _
  rw [v_top2, v_pw, v_pw]
  have e : (f (M + 2)).toInt * (2147483648 ^ M * 2147483648 * 2147483648) = (f (M + 2)).toInt * 2147483648 * 2147483648 * 2147483648 ^ M := by ac_rfl
  rw [e]
  simp only [Int.add_mul]
  omega
theorem v_u2 {f d : Nat → Int32} {M : Nat} (okf : okL f (M + 3)) (okd : okL d (M + 2)) (hU : vB f (M + 3) < vB d (M + 2) * 2147483648) : (f (M + 2)).toInt ≤ (d (M + 1)).toInt := by
  apply Int.le_of_not_gt
  intro h
  have h1 := v_nn (okf.mono (show M + 2 ≤ M + 3 by omega))
  have h2 := v_lt (okd.mono (show M + 1 ≤ M + 2 by omega))
  have h3 : vB f (M + 3) = vB f (M + 2) + (f (M + 2)).toInt * 2147483648 ^ (M + 2) := rfl
  have h4 : vB d (M + 2) = vB d (M + 1) + (d (M + 1)).toInt * 2147483648 ^ (M + 1) := rfl
  have h5 : ((d (M + 1)).toInt + 1) * 2147483648 ^ (M + 2) ≤ (f (M + 2)).toInt * 2147483648 ^ (M + 2) := Int.mul_le_mul_of_nonneg_right (by omega) (Int.le_of_lt (v_pos _))
  rw [h3, h4, v_pw, Int.add_mul] at hU
  rw [v_pw, Int.add_mul] at h5
  have e : (d (M + 1)).toInt * 2147483648 ^ (M + 1) * 2147483648 = (d (M + 1)).toInt * (2147483648 ^ (M + 1) * 2147483648) := by ac_rfl
  omega
theorem V_take {R p R2 s neg s2 neg2 : Int32} {f d : Nat → Int32} (hp : 0 ≤ p.toInt) (h2 : 2 ≤ s2.toInt) (hps : p.toInt + s2.toInt < s.toInt) (hsR : s.toInt ≤ R.toInt) (hR : R.toInt ≤ 220) (okd : okL d s2.toNatClampNeg) (okf : okL f s.toNatClampNeg) (hn : 1073741824 ≤ (d (s2.toNatClampNeg - 1)).toInt)
    (hU : vB (fun i => f (p.toNatClampNeg + i)) (s2.toNatClampNeg + 1) < vB d s2.toNatClampNeg * 2147483648) :
    ∃ (q : Int32) (h : Nat → Int32), F_Big_takeTimes R p R2 s neg f s2 neg2 d = (q, h) ∧ 0 ≤ q.toInt ∧ okL h s.toNatClampNeg ∧ (∀ k, k < p.toNatClampNeg ∨ p.toNatClampNeg + s2.toNatClampNeg < k → h k = f k) ∧
      vB (fun i => h (p.toNatClampNeg + i)) (s2.toNatClampNeg + 1) = vB (fun i => f (p.toNatClampNeg + i)) (s2.toNatClampNeg + 1) - q.toInt * vB d s2.toNatClampNeg ∧ vB (fun i => h (p.toNatClampNeg + i)) (s2.toNatClampNeg + 1) < vB d s2.toNatClampNeg := by
  have ep := q_clI (i := p) rfl hp
  have e2 := q_clI (i := s2) rfl (by omega)
  have es := q_clI (i := s) rfl (by omega)
  have e0 : (0 : Int32).toInt = 0 := rfl
  have e00 : (0 : Int64).toInt = 0 := rfl
  have e01 : (0 : Int32).toNatClampNeg = 0 := rfl
  obtain ⟨M, hM⟩ : ∃ M, s2.toNatClampNeg = M + 2 := ⟨s2.toNatClampNeg - 2, by omega⟩
  obtain ⟨c1, c2⟩ := v_cl2 hp (show 0 ≤ s2.toInt by omega) (by omega)
  have k1 : (p + s2 - 1 : Int32).toInt = p.toInt + s2.toInt - 1 := q_subI (y := 1) c1 rfl (by omega) (by omega)
  have k2 : (p + s2 - 2 : Int32).toInt = p.toInt + s2.toInt - 2 := q_subI (y := 2) c1 rfl (by omega) (by omega)
  have k3 : (s2 - 1 : Int32).toInt = s2.toInt - 1 := q_subI (y := 1) rfl rfl (by omega) (by omega)
  have k4 : (s2 - 2 : Int32).toInt = s2.toInt - 2 := q_subI (y := 2) rfl rfl (by omega) (by omega)
  have n1 := q_clI (i := p + s2 - 1) k1 (by omega)
  have n2 := q_clI (i := p + s2 - 2) k2 (by omega)
  have n3 := q_clI (i := s2 - 1) k3 (by omega)
  have n4 := q_clI (i := s2 - 2) k4 (by omega)
  have a2 := v_limb (R := R) (i := p + s2) (s := s) (neg := neg) (f := f) (by omega) (by omega)
  rw [if_pos (by omega), show (p + s2 : Int32).toNatClampNeg = p.toNatClampNeg + (M + 2) by omega] at a2
  have a1 := v_limb (R := R) (i := p + s2 - 1) (s := s) (neg := neg) (f := f) (by omega) (by omega)
  rw [if_pos (by omega), show (p + s2 - 1 : Int32).toNatClampNeg = p.toNatClampNeg + (M + 1) by omega] at a1
  have a0 := v_limb (R := R) (i := p + s2 - 2) (s := s) (neg := neg) (f := f) (by omega) (by omega)
  rw [if_pos (by omega), show (p + s2 - 2 : Int32).toNatClampNeg = p.toNatClampNeg + M by omega] at a0
  have b1 := v_limb (R := R2) (i := s2 - 1) (s := s2) (neg := neg2) (f := d) (by omega) (by omega)
  rw [if_pos (by omega), show (s2 - 1 : Int32).toNatClampNeg = M + 1 by omega] at b1
  have b0 := v_limb (R := R2) (i := s2 - 2) (s := s2) (neg := neg2) (f := d) (by omega) (by omega)
  rw [if_pos (by omega), show (s2 - 2 : Int32).toNatClampNeg = M by omega] at b0
  rw [hM] at okd hn hU ⊢
  rw [show M + 2 - 1 = M + 1 by omega] at hn
  rw [show M + 2 + 1 = M + 3 by omega] at hU ⊢
  have oka : okL (fun i => f (p.toNatClampNeg + i)) (M + 3) := fun i hi => okf _ (by omega)
  have u2 := v_u2 oka okd hU
  obtain ⟨t, g1, g2, g3, g4, g5⟩ := V_guess (R2 := R2) a2 a1 a0 b1 b0 (okf _ (by omega)) (okf _ (by omega)) (okf _ (by omega)) hn (okd _ (by omega)) u2
  have kn := v_knuth (v_pos M) (v_nn (oka.mono (show M ≤ M + 3 by omega))) (v_lt (oka.mono (show M ≤ M + 3 by omega))) (v_nn (okd.mono (show M ≤ M + 2 by omega))) (v_lt (okd.mono (show M ≤ M + 2 by omega))) v_top3 v_top2 g2 g3 g4 g5 (by have h9 := okd M (by omega); omega) hU
  have okd2 : okL d s2.toNatClampNeg := by rw [hM]; exact okd
  obtain ⟨h, y, o', r1, r2, r3, r4, r5, r6, r7⟩ := V_tkL (R := R) (p := p) (R2 := R2) (s := s) (neg := neg) (s2 := s2) (neg2 := neg2) (g0 := f) (d := d) (t := t) hp (by omega) hps hsR hR okd2 g2 g3 ((220 - (0 : Int32).toInt).toNat + 1) 0 0 f (by omega) (by omega) (by omega) (by omega) okf (by omega)
  unfold F_Big_takeTimes
  rw [g1, r1]
  rw [hM] at r3 r4 r7 ⊢
  rw [e00, e01, Int.zero_mul, Int.sub_zero, show vB d 0 = 0 from rfl, Int.sub_zero] at r7
  have t32 : t.toInt32.toInt = t.toInt := s_l2i (by omega) (by omega)
  have okh : okL (fun i => h (p.toNatClampNeg + i)) (M + 2) := fun i hi => r2 _ (by omega)
  have L0 := v_nn okh
  have L1 := v_lt okh
  have u0 : 0 ≤ (f (p.toNatClampNeg + (M + 2))).toInt := okf _ (by omega)
  have u1 := Int32.toInt_lt (f (p.toNatClampNeg + (M + 2)))
  have top : vB (fun i => f (p.toNatClampNeg + i)) (M + 3) = vB (fun i => f (p.toNatClampNeg + i)) (M + 2) + (f (p.toNatClampNeg + (M + 2))).toInt * 2147483648 ^ (M + 2) := rfl
  have U0 := v_nn oka
  have V0 := v_nn okd
  have V1 := v_lt okd
  have hPP := v_pos (M + 2)
  have main : vB (fun i => f (p.toNatClampNeg + i)) (M + 3) - t.toInt * vB d (M + 2) = vB (fun i => h (p.toNatClampNeg + i)) (M + 2) + y.toInt * 2147483648 ^ (M + 2) := by
    rw [r4, Int.sub_mul, top]
    omega
  have y31 := v_and31J (x := y)
  have m7 : (y &&& 2147483647).toInt32.toInt = (y &&& 2147483647).toInt := s_l2i (by omega) (by omega)
  obtain ⟨m, em⟩ := q_nm (y &&& 2147483647).toInt32
  rw [em, y31.2] at m7
  rw [em]
  by_cases hy : y.toInt < 0
  · rw [if_pos hy]
    have hm : m.toInt = y.toInt + 2147483648 := by omega
    have neg1 : y.toInt * 2147483648 ^ (M + 2) ≤ (-1) * 2147483648 ^ (M + 2) := Int.mul_le_mul_of_nonneg_right (by omega) (by omega)
    have t1 : 1 ≤ t.toInt := by
      apply Int.le_of_not_gt
      intro h9
      have : t.toInt = 0 := by omega
      rw [this, Int.zero_mul] at main
      omega
    obtain ⟨h', w, q1, q2, q3, q4, q5, q6⟩ := V_gbL (R := R) (p := p) (R2 := R2) (s := s) (neg := neg) (s2 := s2) (neg2 := neg2) (g0 := upd h (p.toNatClampNeg + (M + 2)) m) (d := d) hp (by omega) hps hsR hR okd2 ((220 - (0 : Int32).toInt).toNat + 1) 0 0 (upd h (p.toNatClampNeg + (M + 2)) m) (by omega) (by omega) (by omega) (by omega) (okL_upd r2 (by omega)) (by omega)
    have eg : F_Big_giveBack R p R2 s neg (upd h (p.toNatClampNeg + (M + 2)) m) s2 neg2 d = h' := by
      unfold F_Big_giveBack
      exact q1
    rw [eg]
    rw [hM] at q3 q6
    rw [e0, e01, Int.zero_mul, Int.add_zero, show vB d 0 = 0 from rfl, Int.sub_zero, v_shu, v_upd_in, hm, Int.add_mul] at q6
    have okh' : okL (fun i => h' (p.toNatClampNeg + i)) (M + 3) := fun i hi => q2 _ (by omega)
    have H0 := v_nn okh'
    have H1 := v_lt okh'
    rw [show M + 2 + 1 = M + 3 by omega] at q6
    have pw : (2147483648 : Int) ^ (M + 3) = 2147483648 ^ (M + 2) * 2147483648 := v_pw _
    have w1 : w = 1 := by
      apply Int.le_antisymm q5
      apply Int.le_of_not_gt
      intro h9
      have : w = 0 := by omega
      rw [this, Int.zero_mul] at q6
      omega
    rw [w1, Int.one_mul] at q6
    have s1 : (t.toInt32 - 1 : Int32).toInt = t.toInt - 1 := q_subI (y := 1) t32 rfl (by omega) (by omega)
    have fin : vB (fun i => h' (p.toNatClampNeg + i)) (M + 3) = vB (fun i => f (p.toNatClampNeg + i)) (M + 3) - (t.toInt - 1) * vB d (M + 2) := by
      rw [Int.sub_mul]
      omega
    refine ⟨_, h', rfl, by omega, q2, fun k hk => ?_, ?_, ?_⟩
    · rw [q3 k hk, v_ne (by omega), r3 k (by omega)]
    · rw [s1]
      exact fin
    · rw [fin, Int.sub_mul]
      omega
  · rw [if_neg hy]
    have hm : m.toInt = y.toInt := by omega
    have val : vB (fun i => upd h (p.toNatClampNeg + (M + 2)) m (p.toNatClampNeg + i)) (M + 3) = vB (fun i => f (p.toNatClampNeg + i)) (M + 3) - t.toInt * vB d (M + 2) := by
      rw [v_shu, show M + 3 = M + 2 + 1 by omega, v_upd_in, hm]
      exact main.symm
    refine ⟨_, _, rfl, by omega, okL_upd r2 (by omega), fun k hk => ?_, ?_, ?_⟩
    · rw [v_ne (by omega), r3 k (by omega)]
    · rw [t32]
      exact val
    · rw [val]
      omega

/-! values: whole methods of Big -/
/-- a number whose first limb is not 0 -/
def bN (s : Int32) (f : Nat → Int32) : Prop := 0 ≤ s.toInt ∧ okL f s.toNatClampNeg ∧ (0 < s.toInt → f (s.toNatClampNeg - 1) ≠ 0)
def bV (s : Int32) (f : Nat → Int32) : Int := vB f s.toNatClampNeg
theorem v_nz {h : Nat → Int32} {n : Nat} (ok : okL h (n + 1)) (hv : 2147483648 ^ n ≤ vB h (n + 1)) : h n ≠ 0 := by
  intro e
  have h1 : vB h (n + 1) = vB h n + (h n).toInt * 2147483648 ^ n := rfl
  have h2 := v_lt (ok.mono (Nat.le_succ n))
  have e0 : (0 : Int32).toInt = 0 := rfl
  rw [h1, e, e0, Int.zero_mul] at hv
  omega
theorem v_nzL {h : Nat → Int32} {n : Nat} (ok : okL h (n + 1)) (hn : h n ≠ 0) : 2147483648 ^ n ≤ vB h (n + 1) := by
  have h1 : vB h (n + 1) = vB h n + (h n).toInt * 2147483648 ^ n := rfl
  have h2 := v_nn (ok.mono (Nat.le_succ n))
  have h3 := ok n (by omega)
  have h4 : (h n).toInt ≠ 0 := fun e => hn (Int32.toInt_inj.mp e)
  have h5 : 1 * 2147483648 ^ n ≤ (h n).toInt * 2147483648 ^ n := Int.mul_le_mul_of_nonneg_right (by omega) (Int.le_of_lt (v_pos n))
  omega
theorem bN.nn {s : Int32} {f : Nat → Int32} (h : bN s f) : 0 ≤ bV s f := v_nn h.2.1
theorem bN.lt {s : Int32} {f : Nat → Int32} (h : bN s f) : bV s f < 2147483648 ^ s.toNatClampNeg := v_lt h.2.1
theorem bN.ge {s : Int32} {f : Nat → Int32} {n : Nat} (h : bN s f) (hs : s.toInt = (n : Int) + 1) : 2147483648 ^ n ≤ bV s f := by
  have e := q_clI (i := s) rfl h.1
  have e2 : s.toNatClampNeg = n + 1 := by omega
  obtain ⟨h1, h2, h3⟩ := h
  unfold bV
  rw [e2] at h2 h3 ⊢
  exact v_nzL h2 (h3 (by omega))
theorem v_pwMono {m n : Nat} (h : m ≤ n) : (2147483648 : Int) ^ m ≤ 2147483648 ^ n := by
  obtain ⟨k, rfl⟩ := Nat.exists_eq_add_of_le h
  have h1 := v_pos k
  have h2 : 2147483648 ^ m * 1 ≤ 2147483648 ^ m * (2147483648 : Int) ^ k := Int.mul_le_mul_of_nonneg_left (by omega) (Int.le_of_lt (v_pos m))
  rw [Int.pow_add]
  omega
theorem bN.pos {s : Int32} {f : Nat → Int32} (h : bN s f) : 0 < s.toInt ↔ 0 < bV s f := by
  constructor
  · intro hs
    obtain ⟨n, hn⟩ : ∃ n : Nat, s.toInt = (n : Int) + 1 := ⟨(s.toInt - 1).toNat, by omega⟩
    have := h.ge hn
    have := v_pos n
    omega
  · intro hv
    apply Int.lt_of_not_ge
    intro h9
    have e := q_clI (i := s) rfl h.1
    have h10 : s.toNatClampNeg = 0 := by have := h.1; omega
    unfold bV at hv
    rw [h10] at hv
    exact absurd hv (by show ¬ (0 : Int) < 0; omega)
/-- a size from a bound of the value -/
theorem bN.sz {s : Int32} {f : Nat → Int32} {n : Nat} (h : bN s f) (hv : bV s f < 2147483648 ^ n) : s.toInt ≤ (n : Int) := by
  apply Int.le_of_not_gt
  intro h9
  obtain ⟨m, hm⟩ : ∃ m : Nat, s.toInt = (m : Int) + 1 := ⟨(s.toInt - 1).toNat, by omega⟩
  have h1 := h.ge hm
  have h2 := v_pwMono (show n ≤ m by omega)
  omega
theorem bN.szL {s t : Int32} {f g : Nat → Int32} (h : bN s f) (ht : bN t g) (hv : bV s f ≤ bV t g) : s.toInt ≤ t.toInt := by
  have e := q_clI (i := t) rfl ht.1
  have h1 := ht.lt
  have := h.sz (n := t.toNatClampNeg) (by omega)
  omega
theorem v_injL {f g : Nat → Int32} : ∀ {n : Nat}, okL f n → okL g n → vB f n = vB g n → ∀ i, i < n → f i = g i
  | 0, _, _, _ => fun i hi => by omega
  | n + 1, hf, hg, he => by
    have top : (f n).toInt = (g n).toInt := by
      apply Int.le_antisymm
      · apply Int.le_of_not_gt
        intro h
        have := v_top hg hf h
        omega
      · apply Int.le_of_not_gt
        intro h
        have := v_top hf hg h
        omega
    have h1 : vB f (n + 1) = vB f n + (f n).toInt * 2147483648 ^ n := rfl
    have h2 : vB g (n + 1) = vB g n + (g n).toInt * 2147483648 ^ n := rfl
    rw [h1, h2, top] at he
    intro i hi
    by_cases e : i = n
    · subst e
      exact Int32.toInt_inj.mp top
    · exact v_injL (n := n) (hf.mono (by omega)) (hg.mono (by omega)) (by omega) i (by omega)
theorem bN.inj {s t : Int32} {f g : Nat → Int32} (h : bN s f) (ht : bN t g) (hv : bV s f = bV t g) : s = t ∧ ∀ i, i < s.toNatClampNeg → f i = g i := by
  have e : s = t := Int32.toInt_inj.mp (Int.le_antisymm (h.szL ht (by omega)) (ht.szL h (by omega)))
  subst e
  exact ⟨rfl, v_injL h.2.1 ht.2.1 hv⟩
theorem V_cmp {R R2 s neg s2 neg2 : Int32} {f g : Nat → Int32} (h : bN s f) (h2 : bN s2 g) :
    ((F_Big_compareSize R R2 s neg f s2 neg2 g).toInt = 0 ∧ bV s f = bV s2 g) ∨ ((F_Big_compareSize R R2 s neg f s2 neg2 g).toInt < 0 ∧ bV s f < bV s2 g) ∨ (0 < (F_Big_compareSize R R2 s neg f s2 neg2 g).toInt ∧ bV s2 g < bV s f) := by
  unfold F_Big_compareSize
  by_cases e : s = s2
  · rw [if_pos e]
    subst e
    have hs := h.1
    have es := q_clI (i := s) rfl hs
    have hl := Int32.toInt_lt s
    have k1 : (s - 1 : Int32).toInt = s.toInt - 1 := q_subI (y := 1) rfl rfl (by omega) (by omega)
    obtain ⟨i, ei⟩ := q_nm (s - 1 : Int32)
    rw [ei] at k1 ⊢
    exact V_cmpL _ s.toNatClampNeg i (by omega) (by omega) h.2.1 h2.2.1
  · rw [if_neg e]
    rcases v_icmp (x := s) (y := s2) with ⟨c1, c2⟩ | ⟨c1, c2⟩ | ⟨c1, c2⟩
    · exact absurd (Int32.toInt_inj.mp c2) e
    · refine Or.inr (Or.inl ⟨c1, ?_⟩)
      apply Int.lt_of_not_ge
      intro h9
      have := h2.szL h h9
      omega
    · refine Or.inr (Or.inr ⟨c1, ?_⟩)
      apply Int.lt_of_not_ge
      intro h9
      have := h.szL h2 h9
      omega
/-- times a factor, and more -/
theorem V_mul {R x y s neg : Int32} {f : Nat → Int32} (h : bN s f) (hx : 1 ≤ x.toInt) (hy : 0 ≤ y.toInt) (hs : s.toInt < R.toInt) (hR : R.toInt ≤ 220) :
    ∃ (z : Int32) (g : Nat → Int32), F_Big_multiplySmall R x y s neg f = (z, neg, g) ∧ s.toInt ≤ z.toInt ∧ z.toInt ≤ s.toInt + 1 ∧ bN z g ∧ bV z g = x.toInt * bV s f + y.toInt := by
  have es := q_clI (i := s) rfl h.1
  have e0 : (0 : Int32).toInt = 0 := rfl
  have e01 : (0 : Int32).toNatClampNeg = 0 := rfl
  have hy2 := Int32.toInt_lt y
  have i1 : y.toInt64.toInt = y.toInt := q_i2l rfl
  obtain ⟨z, g, r1, r2, r3, r4, r5, r6⟩ := V_mulS (R := R) (x2 := x) (x3 := y) (s := s) (neg := neg) (g0 := f) (by omega) h.1 (by omega) hR ((220 - (0 : Int32).toInt).toNat + 1) 0 y.toInt64 f (by omega) (by have := h.1; omega) (by omega) (by omega) h.2.1 (by omega)
  obtain ⟨r7, r8⟩ := r6 hs
  have v : bV z g = x.toInt * bV s f + y.toInt := by
    unfold bV
    rw [r7, e01, i1, show vB f 0 = 0 from rfl, Int.sub_zero, Int.zero_add, show (2147483648 : Int) ^ 0 = 1 from rfl, Int.mul_one]
  refine ⟨z, g, r1, r2, r3, ⟨by have := h.1; omega, r5, fun hz => ?_⟩, v⟩
  have ez := q_clI (i := z) rfl (by omega)
  by_cases hzs : z.toInt = s.toInt + 1
  · rw [show z.toNatClampNeg - 1 = s.toNatClampNeg by omega]
    exact r8 hzs
  · obtain ⟨n, hn⟩ : ∃ n : Nat, s.toInt = (n : Int) + 1 := ⟨(s.toInt - 1).toNat, by omega⟩
    have h1 := h.ge hn
    have h2 := h.nn
    have h3 : 1 * bV s f ≤ x.toInt * bV s f := Int.mul_le_mul_of_nonneg_right hx h2
    have e9 : z.toNatClampNeg = n + 1 := by omega
    rw [e9] at r5 ⊢
    rw [show n + 1 - 1 = n by omega]
    refine v_nz r5 ?_
    unfold bV at v
    rw [e9] at v
    rw [v]
    unfold bV at h1 h3
    omega
/-- divided by one limb -/
theorem V_div {R x s neg : Int32} {f : Nat → Int32} (h : bN s f) (hx : 1 ≤ x.toInt) (hs : s.toInt ≤ 220) :
    ∃ (r z : Int32) (g : Nat → Int32), F_Big_divideSmall R x s neg f = (r, z, if neg = 0 then 0 else if z ≤ 0 then 0 else 1, g) ∧ 0 ≤ z.toInt ∧ z.toInt ≤ s.toInt ∧ bN z g ∧ bV z g = bV s f / x.toInt ∧ r.toInt = bV s f % x.toInt := by
  have hs0 := h.1
  have es := q_clI (i := s) rfl hs0
  have e1 : (1 : Int32).toInt = 1 := rfl
  have hx2 := Int32.toInt_lt x
  unfold F_Big_divideSmall
  rw [if_neg (fun hh => by have := q_ltI hh; omega)]
  have k1 : (s - 1 : Int32).toInt = s.toInt - 1 := q_subI (y := 1) rfl rfl (by omega) (by omega)
  obtain ⟨i, ei⟩ := q_nm (s - 1 : Int32)
  rw [ei] at k1 ⊢
  obtain ⟨q, g, r1, r2, r3, r4, r5⟩ := V_divL (R := R) (x2 := x) (s := s) (neg := neg) (y := x) (g0 := f) (by omega) ((i.toInt - (-1)).toNat + 1) s.toNatClampNeg i 0 f (by omega) (Nat.le_refl _) (by omega) (by decide) (by have : (0 : Int64).toInt = 0 := rfl; omega) h.2.1
  obtain ⟨z, t1, t2, t3, t4, t5⟩ := V_trimT (R := R) (s := s) (neg := neg) (f := g) hs0 (by omega)
  rw [r1, t1]
  have q32 : q.toInt32.toInt = q.toInt := s_l2i (by omega) (by omega)
  have e00 : (0 : Int64).toInt = 0 := rfl
  rw [e00, Int.sub_self, Int.zero_mul, Int.zero_mul, Int.zero_add, Int.zero_add] at r5
  refine ⟨_, z, g, rfl, t2, t3, ⟨t2, r2.mono (by have := q_clI (i := z) rfl t2; omega), t4⟩, ?_, ?_⟩
  · unfold bV
    rw [t5]
    exact (v_edivU (r := q.toInt) (by omega) r3 r4).symm
  · rw [q32]
    unfold bV
    have h1 := v_edivU (a := vB f s.toNatClampNeg) (q := vB g s.toNatClampNeg) (r := q.toInt) (d := x.toInt) (by omega) r3 r4
    have h2 := Int.emod_add_mul_ediv (vB f s.toNatClampNeg) x.toInt
    rw [h1, Int.mul_comm] at h2
    omega
theorem V_copy {R R2 s neg s2 neg2 : Int32} {f g : Nat → Int32} (h2 : bN s2 g) (hR : s2.toInt ≤ R.toInt) :
    ∃ h : Nat → Int32, F_Big_copy R R2 s neg f s2 neg2 g = (s2, neg2, h) ∧ bN s2 h ∧ bV s2 h = bV s2 g ∧ ∀ i, i < s2.toNatClampNeg → h i = g i := by
  unfold F_Big_copy
  rw [if_neg (fun hh => by have := q_ltI hh; omega)]
  have e01 : (0 : Int32).toNatClampNeg = 0 := rfl
  have e2 := q_clI (i := s2) rfl h2.1
  have key : ∀ i, i < s2.toNatClampNeg → va_cpy g f (0 : Int32).toNatClampNeg (0 : Int32).toNatClampNeg s2.toNatClampNeg i = g i := fun i hi => by
    rw [e01]
    unfold va_cpy
    rw [if_pos (by omega)]
    congr 1
    omega
  have val : ∀ n, n ≤ s2.toNatClampNeg → vB (va_cpy g f (0 : Int32).toNatClampNeg (0 : Int32).toNatClampNeg s2.toNatClampNeg) n = vB g n := by
    intro n
    induction n with
    | zero => intro _; rfl
    | succ n ih =>
      intro hn
      show vB _ n + _ = vB g n + _
      rw [ih (by omega), key n (by omega)]
  refine ⟨_, rfl, ⟨h2.1, fun i hi => by rw [key i hi]; exact h2.2.1 i hi, fun hs => by rw [key _ (by omega)]; exact h2.2.2 hs⟩, val _ (Nat.le_refl _), key⟩

/-! values: more methods of Big -/
theorem v_ushJ {x : Int64} : ((x.toUInt64 >>> ((31 : Int32).toInt64.toUInt64 &&& Int64.toUInt64 63)).toInt64).toInt = ((x.toBitVec.toNat / 2147483648 : Nat) : Int) := by
  have h1 : ((x.toUInt64 >>> ((31 : Int32).toInt64.toUInt64 &&& Int64.toUInt64 63)).toInt64).toBitVec.toNat = x.toBitVec.toNat / 2147483648 := by
    show (x.toUInt64 >>> ((31 : Int32).toInt64.toUInt64 &&& Int64.toUInt64 63)).toBitVec.toNat = _
    rw [UInt64.toBitVec_shiftRight, BitVec.ushiftRight_eq', BitVec.toNat_ushiftRight, t_ushrJ, Nat.shiftRight_eq_div_pow]
    rfl
  have h2 := x.toBitVec.isLt
  exact s_ofL h1 (by omega)
theorem v_abs {x : Int64} : ((if 0 < x then x else -x : Int64).toBitVec.toNat : Int) = (x.toInt.natAbs : Int) := by
  have e0 : (0 : Int64).toInt = 0 := rfl
  by_cases h : 0 < x
  · rw [if_pos h]
    have h1 := Int64.lt_iff_toInt_lt.mp h
    obtain ⟨h2, -, -⟩ := s_nnL (x := x) (by omega)
    omega
  · rw [if_neg h]
    have h1 : x.toInt ≤ 0 := by
      have := Int64.le_iff_toInt_le.mp (Int64.not_lt.mp h)
      omega
    have h2 := Int64.le_toInt x
    have h3 : (-x : Int64).toBitVec.toInt = (-x).toInt := rfl
    have h4 := BitVec.toInt_eq_toNat_bmod (-x : Int64).toBitVec
    have h5 := (-x : Int64).toBitVec.isLt
    rw [h3, Int64.toInt_neg] at h4
    have e : ((2 ^ 64 : Nat) : Int) = 18446744073709551616 := rfl
    rw [Int.bmod_def, Int.bmod_def, e] at h4
    omega
theorem V_setLong {R s neg : Int32} {x : Int64} {f : Nat → Int32} (hR : 3 ≤ R.toInt) :
    ∃ (z : Int32) (h : Nat → Int32), F_Big_setLong R x s neg f = (z, if x < 0 then 1 else 0, h) ∧ z.toInt ≤ 3 ∧ bN z h ∧ bV z h = (x.toInt.natAbs : Int) := by
  have ab := v_abs (x := x)
  unfold F_Big_setLong
  obtain ⟨v, ev⟩ := q_nm (if 0 < x then x else -x : Int64)
  rw [ev] at ab ⊢
  have hu := v.toBitVec.isLt
  obtain ⟨u, eu⟩ := q_nm v.toBitVec.toNat
  rw [eu] at ab hu
  have a1 := v_and31J (x := v)
  have b1 := v_ushJ (x := v)
  have vm : v.toInt % 2147483648 = ((u % 2147483648 : Nat) : Int) := by
    have h4 := BitVec.toInt_eq_toNat_bmod v.toBitVec
    have h3 : v.toBitVec.toInt = v.toInt := rfl
    have e : ((2 ^ 64 : Nat) : Int) = 18446744073709551616 := rfl
    rw [h3, eu, Int.bmod_def, e] at h4
    omega
  rw [eu] at b1
  have c1 : F_Big_clear R s neg = (0, 0) := rfl
  rw [c1]
  have push : ∀ (y k : Int32) (g : Nat → Int32), k.toInt < 3 → F_Big_push R y k 0 g = (k + 1, 0, upd g k.toNatClampNeg y) := fun y k g hk => by
    unfold F_Big_push
    rw [if_neg (fun hh => by have := q_leI hh; omega)]
  show ∃ (z : Int32) (h : Nat → Int32), F_Big_setLong_L12 R x s neg f 4 0 v 0 0 f = _ ∧ _
  rw [F_Big_setLong_L12.eq_2, if_neg (by decide), push _ _ _ (by decide)]
  obtain ⟨l0, e0⟩ := q_nm (v &&& 2147483647).toInt32
  have L0 : (v &&& 2147483647).toInt32.toInt = (v &&& 2147483647).toInt := s_l2i (by omega) (by omega)
  rw [e0, a1.2, vm] at L0
  obtain ⟨v1, e1⟩ := q_nm ((v.toUInt64 >>> ((31 : Int32).toInt64.toUInt64 &&& Int64.toUInt64 63)).toInt64)
  rw [e1] at b1
  rw [e0, e1]
  dsimp only
  have a2 := v_and31 (x := v1) (by omega)
  have b2 := v_shr31 (x := v1) (by omega)
  rw [F_Big_setLong_L12.eq_2, if_neg (by decide), push _ _ _ (by decide)]
  obtain ⟨l1, f1⟩ := q_nm (v1 &&& 2147483647).toInt32
  have L1 : (v1 &&& 2147483647).toInt32.toInt = (v1 &&& 2147483647).toInt := s_l2i (by omega) (by omega)
  rw [f1, a2] at L1
  obtain ⟨v2, e2⟩ := q_nm ((v1.toUInt64 >>> ((31 : Int32).toInt64.toUInt64 &&& Int64.toUInt64 63)).toInt64)
  rw [e2] at b2
  rw [f1, e2]
  dsimp only
  have a3 := v_and31 (x := v2) (by omega)
  rw [F_Big_setLong_L12.eq_2, if_neg (by decide), push _ _ _ (by decide)]
  obtain ⟨l2, f2⟩ := q_nm (v2 &&& 2147483647).toInt32
  have L2 : (v2 &&& 2147483647).toInt32.toInt = (v2 &&& 2147483647).toInt := s_l2i (by omega) (by omega)
  rw [f2, a3] at L2
  rw [f2, F_Big_setLong_L12.eq_2, if_pos (by decide)]
  show ∃ (z : Int32) (h : Nat → Int32), (if (0 : Int32) ≤ lg_cmp x 0 then ((F_Big_trim R 3 0 (upd (upd (upd f 0 l0) 1 l1) 2 l2)).1, 0, upd (upd (upd f 0 l0) 1 l1) 2 l2) else ((F_Big_trim R 3 0 (upd (upd (upd f 0 l0) 1 l1) 2 l2)).1, 1, upd (upd (upd f 0 l0) 1 l1) 2 l2)) = _ ∧ _
  have val : vB (upd (upd (upd f 0 l0) 1 l1) 2 l2) 3 = (u : Int) := by
    show (0 + (upd (upd (upd f 0 l0) 1 l1) 2 l2 0).toInt * 1 + (upd (upd (upd f 0 l0) 1 l1) 2 l2 1).toInt * 2147483648 + (upd (upd (upd f 0 l0) 1 l1) 2 l2 2).toInt * 4611686018427387904) = _
    rw [v_eq, v_ne (show 0 ≠ 2 by decide), v_ne (show 0 ≠ 1 by decide), v_eq, v_ne (show 1 ≠ 2 by decide), v_eq]
    omega
  have ok : okL (upd (upd (upd f 0 l0) 1 l1) 2 l2) 3 := fun i hi => by
    have : i = 0 ∨ i = 1 ∨ i = 2 := by omega
    rcases this with rfl | rfl | rfl
    · rw [v_ne (show 0 ≠ 2 by decide), v_ne (show 0 ≠ 1 by decide), v_eq]; omega
    · rw [v_ne (show 1 ≠ 2 by decide), v_eq]; omega
    · rw [v_eq]; omega
  obtain ⟨h, eh⟩ := q_nm (upd (upd (upd f 0 l0) 1 l1) 2 l2)
  rw [eh] at val ok ⊢
  obtain ⟨z, t1, t2, t3, t4, t5⟩ := V_trimT (R := R) (s := 3) (neg := 0) (f := h) (by decide) (by decide)
  rw [t1]
  have e3 : (3 : Int32).toNatClampNeg = 3 := rfl
  have e3' : (3 : Int32).toInt = 3 := rfl
  refine ⟨z, h, ?_, by omega, ⟨t2, ok.mono (by have := q_clI (i := z) rfl t2; omega), t4⟩, ?_⟩
  · have z0 : (0 : Int64).toInt = 0 := rfl
    by_cases hx : x < 0
    · rw [if_pos hx, if_neg (fun hh => by have h1 := v_lcmpN.mpr (Int64.lt_iff_toInt_lt.mp hx); have := q_leI hh; have := q_ltI h1; omega)]
    · rw [if_neg hx, if_pos]
      apply Int32.not_lt.mp
      intro hh
      exact hx (Int64.lt_iff_toInt_lt.mpr (v_lcmpN.mp hh))
  · unfold bV
    rw [t5, e3, val]
    exact ab
theorem V_addTop {R R2 s neg s2 neg2 top : Int32} {g0 g2 : Nat → Int32} (ht : 0 ≤ top.toInt) (htR : top.toInt ≤ 220) :
    ∀ (n : Nat) (i c : Int32) (f : Nat → Int32), 0 ≤ i.toInt → i.toInt ≤ top.toInt → (top.toInt - i.toInt).toNat < n →
    (F_Big_addSize_L25 R R2 s neg g0 s2 neg2 g2 top n i c f).1.toInt = top.toInt + 1 → (F_Big_addSize_L25 R R2 s neg g0 s2 neg2 g2 top n i c f).2.2 top.toNatClampNeg ≠ 0 := by
  intro n
  induction n with
  | zero => intro i c f h1 h2 h3; omega
  | succ n ih =>
    intro i c f h1 h2 h3
    rw [F_Big_addSize_L25.eq_2]
    by_cases hc : top ≤ i
    · rw [if_pos hc]
      by_cases c0 : c = (0 : Int32)
      · rw [if_pos c0]
        intro h9
        exact absurd h9 (by show ¬ top.toInt = _; omega)
      · rw [if_neg c0]
        unfold F_Big_push
        by_cases hr : R ≤ top
        · rw [if_pos hr]
          intro h9
          exact absurd h9 (by show ¬ top.toInt = _; omega)
        · rw [if_neg hr]
          intro h9
          show upd f top.toNatClampNeg c top.toNatClampNeg ≠ 0
          rw [v_eq]
          exact c0
    · rw [if_neg hc]
      have hc2 := q_nleI hc
      obtain ⟨e1, e2⟩ := v_sc h1 (by omega)
      exact ih (i + 1) _ _ (by omega) (by omega) (by omega)
theorem V_add {R R2 s neg s2 neg2 : Int32} {f g : Nat → Int32} (h : bN s f) (h2 : bN s2 g) (hs : s.toInt < R.toInt) (hs2 : s2.toInt < R.toInt) (hR : R.toInt ≤ 220) :
    ∃ (z : Int32) (k : Nat → Int32), F_Big_addSize R R2 s neg f s2 neg2 g = (z, neg, k) ∧ s.toInt ≤ z.toInt ∧ s2.toInt ≤ z.toInt ∧ (z.toInt ≤ s.toInt + 1 ∨ z.toInt ≤ s2.toInt + 1) ∧ bN z k ∧ bV z k = bV s f + bV s2 g := by
  have e0 : (0 : Int32).toInt = 0 := rfl
  have e01 : (0 : Int32).toNatClampNeg = 0 := rfl
  obtain ⟨m1, m2, m3⟩ := s_max (a := s) (b := s2)
  have hs0 := h.1
  have hs20 := h2.1
  unfold F_Big_addSize
  obtain ⟨t, et⟩ := q_nm (if s < s2 then s2 else s : Int32)
  rw [et] at m1 m2 m3 ⊢
  rw [if_neg (fun hh => by have := q_ltI hh; omega)]
  have eT := q_clI (i := t) rfl (by omega)
  have e1 := q_clI (i := s) rfl hs0
  have e2 := q_clI (i := s2) rfl hs20
  obtain ⟨z, k, r1, r2, r3, r4, r5, r6⟩ := V_addL (R := R) (R2 := R2) (s := s) (neg := neg) (s2 := s2) (neg2 := neg2) (top := t) (g0 := f) (g2 := g) hs0 hs20 (by omega) (by omega) hR h2.2.1 ((220 - (0 : Int32).toInt).toNat + 1) 0 0 f (by omega) (by omega) (by omega) (by omega) (fun j hj => by rw [e01] at hj; exact h.2.1 j (by omega)) (by omega)
  have v := r6 (by omega)
  rw [e0, e01, Int.zero_mul, Int.add_zero, show vB f 0 = 0 from rfl, show vL f s.toNatClampNeg 0 = 0 from rfl, show vL g s2.toNatClampNeg 0 = 0 from rfl, Int.sub_zero, Int.sub_zero, Int.zero_add, vL_ge (by omega), vL_ge (by omega)] at v
  have v' : bV z k = bV s f + bV s2 g := v
  refine ⟨z, k, r1, by omega, by omega, by omega, ⟨by omega, r5, fun hz => ?_⟩, v'⟩
  have ez := q_clI (i := z) rfl (by omega)
  obtain ⟨n, hn⟩ : ∃ n : Nat, z.toInt = (n : Int) + 1 := ⟨(z.toInt - 1).toNat, by omega⟩
  have e9 : z.toNatClampNeg = n + 1 := by omega
  have nn1 := h.nn
  have nn2 := h2.nn
  have ok := r5
  rw [e9] at ok ⊢
  rw [show n + 1 - 1 = n by omega]
  by_cases hzt : z.toInt = t.toInt
  · refine v_nz ok ?_
    unfold bV at v'
    rw [e9] at v'
    rw [v']
    rcases m3 with m3 | m3
    · have := h.ge (n := n) (by omega)
      unfold bV at this nn1 nn2
      omega
    · have := h2.ge (n := n) (by omega)
      unfold bV at this nn1 nn2
      omega
  · have h9 := V_addTop (R := R) (R2 := R2) (s := s) (neg := neg) (s2 := s2) (neg2 := neg2) (top := t) (g0 := f) (g2 := g) (by omega) (by omega) ((220 - (0 : Int32).toInt).toNat + 1) 0 0 f (by omega) (by omega) (by omega)
    rw [r1] at h9
    have h10 := h9 (show z.toInt = t.toInt + 1 by omega)
    rw [show t.toNatClampNeg = n by omega] at h10
    exact h10
theorem V_sub {R R2 s neg s2 neg2 : Int32} {f g : Nat → Int32} (h : bN s f) (h2 : bN s2 g) (hv : bV s2 g ≤ bV s f) (hs : s.toInt ≤ 220) :
    ∃ (z : Int32) (k : Nat → Int32), F_Big_subtractSize R R2 s neg f s2 neg2 g = (z, if neg = 0 then 0 else if z ≤ 0 then 0 else 1, k) ∧ z.toInt ≤ s.toInt ∧ bN z k ∧ bV z k = bV s f - bV s2 g := by
  have e0 : (0 : Int32).toInt = 0 := rfl
  have e01 : (0 : Int32).toNatClampNeg = 0 := rfl
  have hs0 := h.1
  have hs20 := h2.1
  have hsz := h2.szL h hv
  have e1 := q_clI (i := s) rfl hs0
  have e2 := q_clI (i := s2) rfl hs20
  obtain ⟨k, w, r1, r2, r3, r4, r5⟩ := V_subL (R := R) (R2 := R2) (s := s) (neg := neg) (s2 := s2) (neg2 := neg2) (g0 := f) (g2 := g) hs0 hs20 hs h2.2.1 ((220 - (0 : Int32).toInt).toNat + 1) 0 0 f (by omega) (by omega) (by omega) (by omega) h.2.1 (by omega)
  rw [e0, e01, Int.zero_mul, Int.sub_zero, show vL g s2.toNatClampNeg 0 = 0 from rfl, Int.sub_zero, vL_ge (by omega)] at r5
  have k0 := v_nn r2
  have k1 := v_lt r2
  have w0 : w = 0 := by
    apply Int.le_antisymm _ r3
    apply Int.le_of_not_gt
    intro h9
    have : w = 1 := by omega
    rw [this, Int.one_mul] at r5
    unfold bV at hv
    omega
  rw [w0, Int.zero_mul, Int.sub_zero] at r5
  obtain ⟨z, t1, t2, t3, t4, t5⟩ := V_trimT (R := R) (s := s) (neg := neg) (f := k) hs0 (by omega)
  unfold F_Big_subtractSize
  rw [r1, t1]
  refine ⟨z, k, rfl, t3, ⟨t2, r2.mono (by have := q_clI (i := z) rfl t2; omega), t4⟩, ?_⟩
  unfold bV
  rw [t5, r5]
theorem V_sbf {R R2 s neg s2 neg2 : Int32} {f g : Nat → Int32} (h : bN s f) (h2 : bN s2 g) (hv : bV s f ≤ bV s2 g) (hsR : s2.toInt ≤ R.toInt) (hs : s2.toInt ≤ 220) :
    ∃ (z : Int32) (k : Nat → Int32), F_Big_subtractFrom R R2 s neg f s2 neg2 g = (z, if neg = 0 then 0 else if z ≤ 0 then 0 else 1, k) ∧ z.toInt ≤ s2.toInt ∧ bN z k ∧ bV z k = bV s2 g - bV s f := by
  have e0 : (0 : Int32).toInt = 0 := rfl
  have e01 : (0 : Int32).toNatClampNeg = 0 := rfl
  have hs0 := h.1
  have hs20 := h2.1
  have hsz := h.szL h2 hv
  have e1 := q_clI (i := s) rfl hs0
  have e2 := q_clI (i := s2) rfl hs20
  unfold F_Big_subtractFrom
  rw [if_neg (fun hh => by have := q_ltI hh; omega)]
  obtain ⟨k, w, r1, r2, r3, r4, r5⟩ := V_sbfL (R := R) (R2 := R2) (s := s) (neg := neg) (s2 := s2) (neg2 := neg2) (top := s2) (g0 := f) (g2 := g) hs0 hs20 hs h2.2.1 ((220 - (0 : Int32).toInt).toNat + 1) 0 0 f (by omega) (by omega) (by omega) (by omega) (fun j hj => by rw [e01] at hj; exact h.2.1 j (by omega)) (by omega)
  rw [e0, e01, Int.zero_mul, Int.sub_zero, show vB f 0 = 0 from rfl, show vB g 0 = 0 from rfl, show vL f s.toNatClampNeg 0 = 0 from rfl, Int.sub_zero, Int.sub_zero, Int.zero_add, vL_ge (by omega)] at r5
  have k0 := v_nn r2
  have k1 := v_lt r2
  have w0 : w = 0 := by
    apply Int.le_antisymm _ r3
    apply Int.le_of_not_gt
    intro h9
    have : w = 1 := by omega
    rw [this, Int.one_mul] at r5
    unfold bV at hv
    omega
  rw [w0, Int.zero_mul, Int.sub_zero] at r5
  obtain ⟨z, t1, t2, t3, t4, t5⟩ := V_trimT (R := R) (s := s2) (neg := neg) (f := k) hs20 (by omega)
  rw [r1, t1]
  refine ⟨z, k, rfl, t3, ⟨t2, r2.mono (by have := q_clI (i := z) rfl t2; omega), t4⟩, ?_⟩
  unfold bV
  rw [t5, r5]

/-! values: shifts of normalized numbers -/
theorem V_prodN {R R2 R3 s0 n0 sa na sb nb : Int32} {g0 ga gb : Nat → Int32} (ha : bN sa ga) (hb : bN sb gb) (hR : R.toInt ≤ 220) (hf : sa.toInt + sb.toInt ≤ R.toInt) :
    ∃ (z : Int32) (h : Nat → Int32), F_Big_product R R2 R3 s0 n0 g0 sa na ga sb nb gb = (z, if na = nb then 0 else if z ≤ 0 then 0 else 1, h) ∧ z.toInt ≤ sa.toInt + sb.toInt ∧ bN z h ∧ bV z h = bV sa ga * bV sb gb := by
  obtain ⟨z, h, r1, r2, r3, r4, r5, r6⟩ := V_product (R := R) (R2 := R2) (R3 := R3) (s0 := s0) (n0 := n0) (na := na) (nb := nb) (g0 := g0) ha.1 hb.1 hR hf ha.2.1 hb.2.1
  exact ⟨z, h, r1, r3, ⟨r2, r4, r5⟩, r6⟩
theorem V_shlB {R x s neg : Int32} {f : Nat → Int32} (h : bN s f) (hx : 0 < x.toInt) (hs : 0 < s.toInt) (hR : R.toInt ≤ 220) (hfit : s.toInt + x.toInt / 31 + 1 ≤ R.toInt) :
    ∃ (z : Int32) (g : Nat → Int32), F_Big_shiftLeft R x s neg f = (z, if neg = 0 then 0 else if z ≤ 0 then 0 else 1, g) ∧ z.toInt ≤ s.toInt + x.toInt / 31 + 1 ∧ bN z g ∧ bV z g = bV s f * 2 ^ x.toNatClampNeg := by
  obtain ⟨z, g, r1, r2, r3, r4, r5, r6⟩ := V_shl (neg := neg) hx hs hR hfit h.2.1
  exact ⟨z, g, r1, r3, ⟨r2, r4, r5⟩, r6⟩
theorem V_shrB {R x s neg : Int32} {f : Nat → Int32} (h : bN s f) (hx : 0 < x.toInt) (hs : 0 < s.toInt) (hs2 : s.toInt ≤ 220) :
    ∃ (lost z : Int32) (g : Nat → Int32), F_Big_shiftRight R x s neg f = (lost, z, if neg = 0 then 0 else if z ≤ 0 then 0 else 1, g) ∧ z.toInt ≤ s.toInt ∧ bN z g ∧ bV z g = bV s f / 2 ^ x.toNatClampNeg := by
  obtain ⟨lost, z, g, r1, r2, r3, r4, r5, r6⟩ := V_shr (R := R) (neg := neg) hx hs hs2 h.2.1
  exact ⟨lost, z, g, r1, r3, ⟨r2, r4, r5⟩, r6⟩
/-- up to a shift that leaves the size as it is -/
theorem V_shlR {R x neg : Int32} {f : Nat → Int32} {k : Nat} (h : bN R f) (hk : x.toInt = (k : Int)) (k0 : 0 < k) (k1 : k < 31) (hs : 0 < R.toInt) (hR : R.toInt ≤ 220) (ht : (f (R.toNatClampNeg - 1)).toInt < 2 ^ (31 - k)) :
    ∃ (z : Int32) (g : Nat → Int32), F_Big_shiftLeft R x R neg f = (z, if neg = 0 then 0 else if z ≤ 0 then 0 else 1, g) ∧ z.toInt ≤ R.toInt ∧ bN z g ∧ bV z g = bV R f * 2 ^ k := by
  have e0 : (0 : Int32).toInt = 0 := rfl
  have d1 : (x / 31 : Int32).toInt = x.toInt / 31 := q_divI (y := 31) rfl rfl (by omega) (by omega)
  have d2 : (x - x / 31 * 31 : Int32).toInt = x.toInt % 31 := s_rem (b := 31) (by omega) (by decide)
  have es := q_clI (i := R) rfl (by omega)
  unfold F_Big_shiftLeft
  rw [if_neg (fun hh => by have := q_leI hh; omega), if_neg (fun hh => by rw [hh] at hs; omega)]
  obtain ⟨far, efar⟩ := q_nm (x / 31 : Int32)
  rw [efar] at d1 d2 ⊢
  obtain ⟨a, ea⟩ := q_nm (x - far * 31 : Int32)
  rw [ea] at d2 ⊢
  rw [if_pos (Int32.lt_iff_toInt_lt.mpr (by omega))]
  have f0 : far.toInt = 0 := by omega
  have ef := q_clI (i := far) rfl (by omega)
  have t1 : (R + far : Int32).toInt = R.toInt + far.toInt := q_addI rfl rfl (by omega) (by omega)
  have t2 : (R + far + 1 : Int32).toInt = R.toInt + far.toInt + 1 := q_addI (y := 1) t1 rfl (by omega) (by omega)
  rw [if_neg (fun hh => by have := q_ltI hh; omega)]
  have t4 : (R - 1 : Int32).toInt = R.toInt - 1 := q_subI (y := 1) rfl rfl (by omega) (by omega)
  obtain ⟨tm, etm⟩ := q_nm (R - 1 : Int32)
  rw [etm] at t4 ⊢
  obtain ⟨g, r1, r2⟩ := V_shlL (R := R) (x2 := x) (s := R) (neg := neg) (top := R) (a := a) (far := far) (g0 := f) (f := f) (k := k) (by omega) (by omega) (by omega) (by omega) hR h.2.1 ((tm.toInt - (-1)).toNat + 1) tm f (by omega) (by omega) (by omega) (fun _ _ => rfl) (fun m hm hm2 => by omega)
  rw [r1]
  have fz : F_jArr_fill R 0 far 0 g = g := by
    funext j
    rw [V_fill0 (by omega) (by omega), if_neg (by omega)]
  rw [fz]
  have g1 : ∀ m, m < R.toNatClampNeg → (g m).toInt = v_T f R.toNatClampNeg k m := fun m hm => by
    have := r2 m (by omega)
    rw [show far.toNatClampNeg + m = m by omega] at this
    exact this
  have g2 := v_shlV (f := f) (h := g) (s := R.toNatClampNeg) (k := k) (by omega) (n := R.toNatClampNeg) g1
  have g3 : v_lm f R.toNatClampNeg (R.toNatClampNeg - 1) / 2 ^ (31 - k) = 0 := by
    unfold v_lm
    rw [if_pos (by omega)]
    exact Int.ediv_eq_zero_of_lt (h.2.1 _ (by omega)) ht
  rw [if_neg (by omega), g3, Int.zero_mul, Int.sub_zero, vL_ge (by omega)] at g2
  have okg : okL g R.toNatClampNeg := fun m hm => by
    rw [g1 m hm]
    unfold v_T
    have h1 := Int.emod_nonneg (v_lm f R.toNatClampNeg m * 2 ^ k) (show (2147483648 : Int) ≠ 0 by decide)
    have h2 : 0 ≤ (if m = 0 then 0 else v_lm f R.toNatClampNeg (m - 1) / 2 ^ (31 - k) : Int) := by
      split
      · exact Int.le_refl 0
      · exact Int.ediv_nonneg (v_lm0 h.2.1) (Int.le_of_lt (v_p2 _))
    omega
  obtain ⟨z, w1, w2, w3, w4, w5⟩ := V_trimT (R := R) (s := R) (neg := neg) (f := g) (by omega) (by omega)
  rw [w1]
  refine ⟨z, g, rfl, w3, ⟨w2, okg.mono (by have := q_clI (i := z) rfl w2; omega), w4⟩, ?_⟩
  unfold bV
  rw [w5, g2, Int.mul_comm]
theorem v_nrmId {t k F P v : Int} (h1 : v < (t + 1) * P) (hk : 0 ≤ k) (hF : (t + 1) * k ≤ F) (hP : 0 ≤ P) : v * k ≤ F * P := by
  have h2 : v * k ≤ (t + 1) * P * k := Int.mul_le_mul_of_nonneg_right (by omega) hk
  have h3 : (t + 1) * k * P ≤ F * P := Int.mul_le_mul_of_nonneg_right hF hP
  have e : (t + 1) * P * k = (t + 1) * k * P := by ac_rfl
  omega
/-- the divisor's shift: its first limb has all its bits then -/
theorem V_shlD {R x s neg : Int32} {f : Nat → Int32} {b : Nat} (h : bN s f) (hs : 0 < s.toInt) (hsR : s.toInt ≤ R.toInt) (hR : R.toInt ≤ 220) (b1 : 1 ≤ b) (b2 : b ≤ 31) (hx : x.toInt = ((31 - b : Nat) : Int)) (l1 : (2 : Int) ^ (b - 1) ≤ (f (s.toNatClampNeg - 1)).toInt) (l2 : (f (s.toNatClampNeg - 1)).toInt < 2 ^ b) (hneg : neg = 0 ∨ neg = 1) :
    ∃ g : Nat → Int32, F_Big_shiftLeft R x s neg f = (s, neg, g) ∧ bN s g ∧ bV s g = bV s f * 2 ^ (31 - b) ∧ 1073741824 ≤ (g (s.toNatClampNeg - 1)).toInt := by
  have e0 : (0 : Int32).toInt = 0 := rfl
  have es := q_clI (i := s) rfl h.1
  obtain ⟨n, hn⟩ : ∃ n : Nat, s.toNatClampNeg = n + 1 := ⟨s.toNatClampNeg - 1, by omega⟩
  have eB : (2 : Int) ^ b * 2 ^ (31 - b) = 2147483648 := v_iB (by omega)
  have eB2 : (2 : Int) ^ (b - 1) * 2 ^ (31 - b) = 1073741824 := by
    have h1 : (2 : Int) ^ b = 2 ^ (b - 1) * 2 := by
      have : b = b - 1 + 1 := by omega
      rw [this, Int.pow_succ, show b - 1 + 1 - 1 = b - 1 by omega]
    rw [h1] at eB
    have e : (2 : Int) ^ (b - 1) * 2 * 2 ^ (31 - b) = 2 * (2 ^ (b - 1) * 2 ^ (31 - b)) := by ac_rfl
    omega
  have top : bV s f = vB f n + (f n).toInt * 2147483648 ^ n := by
    unfold bV
    rw [hn]
    rfl
  rw [hn, show n + 1 - 1 = n by omega] at l1 l2 ⊢
  have okf := h.2.1
  rw [hn] at okf
  have f1 := v_lt (okf.mono (Nat.le_succ n))
  have f0 := v_nn (okf.mono (Nat.le_succ n))
  have key : ∀ (z : Int32) (g : Nat → Int32), bN z g → bV z g = bV s f * 2 ^ (31 - b) → z = s ∧ 1073741824 ≤ (g n).toInt := fun z g hz hv => by
    have P0 := v_pos n
    have up : bV s f * 2 ^ (31 - b) ≤ 2147483648 * 2147483648 ^ n := by
      refine v_nrmId (t := (f n).toInt) ?_ (Int.le_of_lt (v_p2 _)) ?_ (Int.le_of_lt P0)
      · rw [top, Int.add_mul]
        omega
      · rw [← eB]
        exact Int.mul_le_mul_of_nonneg_right (by omega) (Int.le_of_lt (v_p2 _))
    have lo : 1073741824 * 2147483648 ^ n ≤ bV s f * 2 ^ (31 - b) := by
      have h1 : 2 ^ (b - 1) * 2147483648 ^ n ≤ (f n).toInt * 2147483648 ^ n := Int.mul_le_mul_of_nonneg_right l1 (Int.le_of_lt P0)
      have h2 : 2 ^ (b - 1) * 2147483648 ^ n * 2 ^ (31 - b) ≤ bV s f * 2 ^ (31 - b) := Int.mul_le_mul_of_nonneg_right (by omega) (Int.le_of_lt (v_p2 _))
      have e : 2 ^ (b - 1) * 2147483648 ^ n * 2 ^ (31 - b) = 2 ^ (b - 1) * 2 ^ (31 - b) * (2147483648 : Int) ^ n := by ac_rfl
      rw [e, eB2] at h2
      exact h2
    have ne : bV s f * 2 ^ (31 - b) < 2147483648 ^ (n + 1) := by
      have h1 : bV s f + 1 ≤ ((f n).toInt + 1) * 2147483648 ^ n := by rw [top, Int.add_mul]; omega
      have h2 : (bV s f + 1) * 2 ^ (31 - b) ≤ ((f n).toInt + 1) * 2147483648 ^ n * 2 ^ (31 - b) := Int.mul_le_mul_of_nonneg_right h1 (Int.le_of_lt (v_p2 _))
      have h3 : ((f n).toInt + 1) * 2 ^ (31 - b) ≤ 2 ^ b * 2 ^ (31 - b) := Int.mul_le_mul_of_nonneg_right (by omega) (Int.le_of_lt (v_p2 _))
      have h4 : ((f n).toInt + 1) * 2 ^ (31 - b) * 2147483648 ^ n ≤ 2147483648 * 2147483648 ^ n := Int.mul_le_mul_of_nonneg_right (by omega) (Int.le_of_lt P0)
      have e : ((f n).toInt + 1) * 2147483648 ^ n * 2 ^ (31 - b) = ((f n).toInt + 1) * 2 ^ (31 - b) * 2147483648 ^ n := by ac_rfl
      have p := v_p2 (31 - b)
      rw [Int.add_mul, Int.one_mul] at h2
      rw [v_pw]
      omega
    have z1 := hz.sz (n := n + 1) (by rw [hv]; exact ne)
    have ez := q_clI (i := z) rfl hz.1
    have z2 : (n : Int) + 1 ≤ z.toInt := by
      apply Int.le_of_not_gt
      intro h9
      have h1 := hz.lt
      have h2 := v_pwMono (show z.toNatClampNeg ≤ n by omega)
      omega
    have zs : z = s := Int32.toInt_inj.mp (by omega)
    subst zs
    refine ⟨rfl, ?_⟩
    have okg := hz.2.1
    rw [hn] at okg
    have g1 := v_lt (okg.mono (Nat.le_succ n))
    have gt : bV z g = vB g n + (g n).toInt * 2147483648 ^ n := by
      unfold bV
      rw [hn]
      rfl
    apply Int.le_of_not_gt
    intro h9
    have h10 : ((g n).toInt + 1) * 2147483648 ^ n ≤ 1073741824 * 2147483648 ^ n := Int.mul_le_mul_of_nonneg_right (by omega) (Int.le_of_lt P0)
    rw [Int.add_mul] at h10
    omega
  have negs : ∀ z : Int32, z = s → (if neg = 0 then 0 else if z ≤ 0 then 0 else 1 : Int32) = neg := fun z hz => by
    subst hz
    rcases hneg with rfl | rfl
    · rw [if_pos rfl]
    · rw [if_neg (by decide), if_neg (fun hh => by have := q_leI hh; omega)]
  by_cases hb : b = 31
  · subst hb
    have : F_Big_shiftLeft R x s neg f = (s, neg, f) := by
      unfold F_Big_shiftLeft
      rw [if_pos (Int32.le_iff_toInt_le.mpr (by omega))]
    rw [this]
    have hv : bV s f = bV s f * 2 ^ (31 - 31) := by rw [show (31 - 31 : Nat) = 0 from rfl, show (2 : Int) ^ 0 = 1 from rfl, Int.mul_one]
    exact ⟨f, rfl, h, hv, (key s f h hv).2⟩
  · have ex := q_clI (i := x) rfl (by omega)
    have exb : x.toNatClampNeg = 31 - b := by omega
    by_cases hsR2 : s.toInt + 1 ≤ R.toInt
    · obtain ⟨z, g, r1, r2, r3, r4⟩ := V_shlB (R := R) (x := x) (neg := neg) h (by omega) hs hR (by omega)
      rw [exb] at r4
      obtain ⟨k1, k2⟩ := key z g r3 r4
      subst k1
      rw [negs z rfl] at r1
      exact ⟨g, r1, r3, r4, k2⟩
    · have sR : s = R := Int32.toInt_inj.mp (by omega)
      subst sR
      obtain ⟨z, g, r1, r2, r3, r4⟩ := V_shlR (R := s) (x := x) (neg := neg) (k := 31 - b) h hx (by omega) (by omega) hs hR (by rw [hn, show n + 1 - 1 = n by omega, show 31 - (31 - b) = b by omega]; exact l2)
      obtain ⟨k1, k2⟩ := key z g r3 r4
      subst k1
      rw [negs z rfl] at r1
      exact ⟨g, r1, r3, r4, k2⟩

/-! values: the division -/
theorem v_ext {f g : Nat → Int32} : ∀ {n : Nat}, (∀ k, k < n → f k = g k) → vB f n = vB g n
  | 0, _ => rfl
  | n + 1, h => by
    show vB f n + (f n).toInt * _ = vB g n + (g n).toInt * _
    rw [v_ext (fun k hk => h k (by omega)), h n (by omega)]
def D_res (R R2 R3 pl sh s sn nd dn : Int32) (d : Nat → Int32) (qn : Int32) (h qh : Nat → Int32) : Int32 × Int32 × (Nat → Int32) × Int32 × Int32 × (Nat → Int32) × Int32 × Int32 × (Nat → Int32) :=
  ((F_Big_shiftRight R sh (F_Big_trim R s sn h).1 (F_Big_trim R s sn h).2 h).2.1, (F_Big_shiftRight R sh (F_Big_trim R s sn h).1 (F_Big_trim R s sn h).2 h).2.2.1, (F_Big_shiftRight R sh (F_Big_trim R s sn h).1 (F_Big_trim R s sn h).2 h).2.2.2, (F_Big_shiftRight R2 sh nd dn d).2.1, (F_Big_shiftRight R2 sh nd dn d).2.2.1, (F_Big_shiftRight R2 sh nd dn d).2.2.2, (F_Big_trim R3 (if R3 < pl then R3 else pl) qn qh).1, (F_Big_trim R3 (if R3 < pl then R3 else pl) qn qh).2, qh)
theorem v_dstep {V W Z P U x : Int} (hP : 0 < P) (hW : W + P * Z < V) (hV : V < P) (W0 : 0 ≤ W) (Z0 : 0 ≤ Z) (hU : U = x + 2147483648 * W) (x1 : x < 2147483648) : Z = 0 ∧ U < V * 2147483648 := by
  have z : Z = 0 := by
    apply Int.le_antisymm _ Z0
    apply Int.le_of_not_gt
    intro h
    have h1 : P * 1 ≤ P * Z := Int.mul_le_mul_of_nonneg_left (by omega) (by omega)
    omega
  rw [z, Int.mul_zero] at hW
  exact ⟨z, by omega⟩
theorem v_dvId {H X Y P A q V h Q : Int} (b1 : H = Y + P * (A - q * V)) (b2 : X = Y + P * A) (k : h + V * Q = H) : h + V * (Q + q * P) = X := by
  have e : V * (q * P) = P * (q * V) := by ac_rfl
  rw [Int.mul_sub] at b1
  rw [Int.mul_add, e]
  omega
theorem V_dvL {R R2 R3 a0 a1 b0 b1 c0 c1 pl sh s sn nd dn y0 qn : Int32} {a2 b2 c2 d : Nat → Int32} (hnd : 2 ≤ nd.toInt) (hs : s.toInt = pl.toInt + nd.toInt) (hsR : s.toInt ≤ R.toInt) (hR : R.toInt ≤ 220) (okd : okL d nd.toNatClampNeg) (hd : 1073741824 ≤ (d (nd.toNatClampNeg - 1)).toInt) (hpl : pl.toInt ≤ R3.toInt) :
    ∀ (n : Nat) (I : Nat) (i : Int32) (x q : Nat → Int32), i.toInt = (I : Int) - 1 → i.toInt < pl.toInt → I < n → okL x s.toNatClampNeg → vB (fun j => x (I + j)) (s.toNatClampNeg - I) < vB d nd.toNatClampNeg →
    ∃ h qh : Nat → Int32, F_Big_divideBy_L92 R R2 R3 a0 a1 a2 b0 b1 b2 c0 c1 c2 pl sh s sn nd dn d y0 qn n i x q = D_res R R2 R3 pl sh s sn nd dn d qn h qh ∧ okL h s.toNatClampNeg ∧ vB h s.toNatClampNeg < vB d nd.toNatClampNeg ∧ (∀ k, I ≤ k → qh k = q k) ∧ okL qh I ∧ vB h s.toNatClampNeg + vB d nd.toNatClampNeg * vB qh I = vB x s.toNatClampNeg := by
  intro n
  induction n with
  | zero => intro I i x q h1 h2 h3; omega
  | succ n ih =>
    intro I i x q h1 h2 h3 h4 h5
    have e0 : (0 : Int32).toInt = 0 := rfl
    have es := q_clI (i := s) rfl (by omega)
    have en := q_clI (i := nd) rfl (by omega)
    rw [F_Big_divideBy_L92.eq_2]
    by_cases hc : i < 0
    · rw [if_pos hc]
      have := q_ltI hc
      have hI : I = 0 := by omega
      subst hI
      refine ⟨x, q, rfl, h4, ?_, fun _ _ => rfl, fun k hk => by omega, ?_⟩
      · rw [Nat.sub_zero] at h5
        rw [v_ext (f := x) (g := fun j => x (0 + j)) (fun k _ => by rw [Nat.zero_add])]
        exact h5
      · rw [show vB q 0 = 0 from rfl, Int.mul_zero, Int.add_zero]
    · rw [if_neg hc, if_neg (fun hh => by have := q_leI hh; omega)]
      have hi0 := q_nltI hc
      have ei := q_clI (i := i) rfl (by omega)
      obtain ⟨J, hJ⟩ : ∃ J, I = J + 1 := ⟨I - 1, by omega⟩
      subst hJ
      have eJ : i.toNatClampNeg = J := by omega
      obtain ⟨N, eN⟩ := q_nm nd.toNatClampNeg
      obtain ⟨S, eS⟩ := q_nm s.toNatClampNeg
      rw [eN] at okd hd h5 en ih ⊢
      rw [eS] at h4 h5 es ih ⊢
      obtain ⟨e, he⟩ : ∃ e, S = J + 1 + (N + e) := ⟨S - (J + 1) - N, by omega⟩
      have p1 : (i + (-1) : Int32).toInt = i.toInt + (-1) := q_addI (y := -1) rfl (by decide) (by omega) (by omega)
      obtain ⟨i', ei'⟩ := q_nm (i + (-1) : Int32)
      rw [ei'] at p1 ⊢
      have o1 : i'.toInt = (J : Int) - 1 := by omega
      have o2 : i'.toInt < pl.toInt := by omega
      have o3 : J < n := by omega
      have o4 : ∀ k, J + 1 ≤ k → J ≤ k ∧ k ≠ J := fun k hk => by omega
      have o5 : ∀ k, k < J + 1 → k ≠ J → k < J := fun k hk hk2 => by omega
      have o6 : J + (N + 1 + e) = S := by omega
      have hS : S - J = N + 1 + e := by omega
      have o7 : ∀ k, J + N < J + (N + 1 + k) := fun k => by omega
      have o8 : ∀ k, J + (N + 1 + k) = J + 1 + (N + k) := fun k => by omega
      have w1 := v_split (f := fun j => x (J + 1 + j)) (p := N) (n := e)
      rw [show S - (J + 1) = N + e by omega, w1] at h5
      have okw : okL (fun j => x (J + 1 + j)) (N + e) := fun j hj => h4 _ (by omega)
      have okz : okL (fun i => x (J + 1 + (N + i))) e := fun j hj => h4 _ (by omega)
      have u1 := v_split (f := fun j => x (J + j)) (p := 1) (n := N)
      have u2 : vB (fun i => x (J + (1 + i))) N = vB (fun j => x (J + 1 + j)) N := v_ext (fun k _ => by
        show x (J + (1 + k)) = x (J + 1 + k)
        rw [Nat.add_assoc])
      have u3 : vB (fun j => x (J + j)) 1 = (x J).toInt := by
        show 0 + (x (J + 0)).toInt * 1 = _
        rw [Nat.add_zero]
        omega
      rw [u2, u3, Int.pow_one, Nat.add_comm 1 N] at u1
      have x1 := Int32.toInt_lt (x J)
      have V1 := v_lt okd
      obtain ⟨z0, hU⟩ := v_dstep (v_pos N) h5 V1 (v_nn (okw.mono (by omega))) (v_nn okz) u1 (by omega)
      obtain ⟨qq, h, r1, r2, r3, r4, r5, r6⟩ := V_take (R := R) (p := i) (R2 := R2) (s := s) (neg := sn) (s2 := nd) (neg2 := dn) (f := x) (d := d) (by omega) hnd (by omega) hsR hR (by rw [eN]; exact okd) (by rw [eS]; exact h4) (by rw [eN]; exact hd) (by rw [eN, eJ]; exact hU)
      rw [eN, eJ] at r4 r5 r6
      rw [eS] at r3
      rw [r1, eJ]
      have s3 : vB (fun i => h (J + (N + 1 + i))) e = 0 := by
        refine Eq.trans (v_ext (fun k _ => ?_)) z0
        show h (J + (N + 1 + k)) = x (J + 1 + (N + k))
        rw [r4 (J + (N + 1 + k)) (Or.inr (o7 k)), o8 k]
      have s4 : vB (fun i => x (J + (N + 1 + i))) e = 0 := by
        refine Eq.trans (v_ext (fun k _ => ?_)) z0
        show x (J + (N + 1 + k)) = x (J + 1 + (N + k))
        rw [o8 k]
      have s1 : vB (fun j => h (J + j)) (N + 1 + e) = vB (fun j => h (J + j)) (N + 1) := by
        have a : vB (fun j => h (J + j)) (N + 1 + e) = vB (fun j => h (J + j)) (N + 1) + 2147483648 ^ (N + 1) * vB (fun i => h (J + (N + 1 + i))) e := v_split
        refine a.trans ?_
        rw [s3, Int.mul_zero, Int.add_zero]
      have s2 : vB (fun j => x (J + j)) (N + 1 + e) = vB (fun j => x (J + j)) (N + 1) := by
        have a : vB (fun j => x (J + j)) (N + 1 + e) = vB (fun j => x (J + j)) (N + 1) + 2147483648 ^ (N + 1) * vB (fun i => x (J + (N + 1 + i))) e := v_split
        refine a.trans ?_
        rw [s4, Int.mul_zero, Int.add_zero]
      have s5 : vB (fun j => h (J + j)) (S - J) < vB d N := by
        rw [hS]
        exact Int.lt_of_le_of_lt (Int.le_of_eq s1) r6
      obtain ⟨h', qh, k1, k2, k3, k4, k5, k6⟩ := ih J i' h (upd q J qq) o1 o2 o3 r3 s5
      refine ⟨h', qh, k1, k2, k3, fun k hk => by rw [k4 k (o4 k hk).1, v_ne (o4 k hk).2], fun k hk => ?_, ?_⟩
      · by_cases hkJ : k = J
        · subst hkJ
          rw [k4 k (Nat.le_refl k), v_eq]
          exact r2
        · exact k5 k (o5 k hk hkJ)
      · have b3 : vB h J = vB x J := v_ext (fun k hk => r4 k (Or.inl hk))
        have b1 : vB h S = vB x J + 2147483648 ^ J * (vB (fun j => x (J + j)) (N + 1) - qq.toInt * vB d N) := by
          have a : vB h (J + (N + 1 + e)) = vB h J + 2147483648 ^ J * vB (fun j => h (J + j)) (N + 1 + e) := v_split
          rw [o6] at a
          refine a.trans ?_
          rw [b3, s1.trans r5]
        have b2 : vB x S = vB x J + 2147483648 ^ J * vB (fun j => x (J + j)) (N + 1) := by
          have a : vB x (J + (N + 1 + e)) = vB x J + 2147483648 ^ J * vB (fun j => x (J + j)) (N + 1 + e) := v_split
          rw [o6] at a
          refine a.trans ?_
          rw [s2]
        have b5 : vB qh (J + 1) = vB qh J + qq.toInt * 2147483648 ^ J := by
          show vB qh J + (qh J).toInt * _ = _
          rw [k4 J (Nat.le_refl J), v_eq]
        rw [b5]
        exact v_dvId b1 b2 k6
theorem v_dvEnd {A V Q r K : Int} (hK : 0 < K) (h : r + V * K * Q = A * K) (h0 : 0 ≤ r) (h1 : r < V * K) : Q = A / V ∧ r / K = A % V := by
  have e : r = K * (A - V * Q) := by
    rw [Int.mul_sub]
    have e1 : K * (V * Q) = V * K * Q := by ac_rfl
    have e2 : K * A = A * K := Int.mul_comm _ _
    omega
  have t0 : 0 ≤ A - V * Q := by
    apply Int.le_of_not_gt
    intro h9
    have : K * (A - V * Q) ≤ K * (-1) := Int.mul_le_mul_of_nonneg_left (by omega) (by omega)
    omega
  have t1 : A - V * Q < V := by
    apply Int.lt_of_not_ge
    intro h9
    have h10 : K * V ≤ K * (A - V * Q) := Int.mul_le_mul_of_nonneg_left h9 (by omega)
    have : K * V = V * K := Int.mul_comm _ _
    omega
  have q : A / V = Q := v_edivU (r := A - V * Q) (by rw [Int.mul_comm Q V]; omega) t0 t1
  have m := Int.emod_add_mul_ediv A V
  rw [q] at m
  refine ⟨q.symm, ?_⟩
  rw [e, Int.mul_ediv_cancel_left _ (by omega)]
  omega

/-! values: divideBy -/
theorem bN0 {f : Nat → Int32} : bN 0 f ∧ bV 0 f = 0 := ⟨⟨by decide, fun i hi => absurd hi (by show ¬ i < 0; omega), fun h => absurd h (by decide)⟩, rfl⟩
theorem v_negs {neg z : Int32} (hneg : neg = 0 ∨ neg = 1) (hz : 0 < z.toInt) : (if neg = 0 then 0 else if z ≤ 0 then 0 else 1 : Int32) = neg := by
  have e0 : (0 : Int32).toInt = 0 := rfl
  rcases hneg with rfl | rfl
  · rw [if_pos rfl]
  · rw [if_neg (by decide), if_neg (fun hh => by have := q_leI hh; omega)]
theorem V_dvLimb {R R3 x sa na sq nq : Int32} {fa fq : Nat → Int32} (ha : bN sa fa) (hna : na = 0 ∨ na = 1) (hx : 1 ≤ x.toInt) (hR : 3 ≤ R.toInt) (hR3 : sa.toInt ≤ R3.toInt) (hs : sa.toInt ≤ 220) :
    ∃ (z zn sq' : Int32) (g q : Nat → Int32), F_Big_divideByLimb R x R3 sa na fa sq nq fq = (z, zn, g, sq', 0, q) ∧ bN z g ∧ z.toInt ≤ 3 ∧ bV z g = bV sa fa % x.toInt ∧ zn = (if na = 0 then 0 else if z ≤ 0 then 0 else 1) ∧ bN sq' q ∧ bV sq' q = bV sa fa / x.toInt ∧ sq'.toInt ≤ sa.toInt := by
  obtain ⟨h, c1, c2, c3, c4⟩ := V_copy (R := R3) (R2 := R) (s := sq) (neg := nq) (neg2 := na) (f := fq) ha hR3
  obtain ⟨r, zq, q, d1, d2, d3, d4, d5, d6⟩ := V_div (R := R3) (x := x) (neg := 0) c2 hx hs
  rw [c3] at d5 d6
  rw [if_pos rfl] at d1
  have r0 : 0 ≤ r.toInt := by rw [d6]; exact Int.emod_nonneg _ (by omega)
  have i1 : r.toInt64.toInt = r.toInt := q_i2l rfl
  obtain ⟨z, g, s1, s2, s3, s4⟩ := V_setLong (R := R) (s := sa) (neg := na) (x := r.toInt64) (f := fa) hR
  rw [i1] at s4
  have s5 : bV z g = r.toInt := by omega
  have zp := s3.pos
  have e0 : (0 : Int32).toInt = 0 := rfl
  unfold F_Big_divideByLimb
  rw [c1]
  dsimp only
  rw [d1]
  dsimp only
  rw [s1]
  dsimp only
  by_cases h1 : na = 0
  · rw [if_pos h1]
    exact ⟨z, 0, zq, g, q, rfl, s3, s2, by rw [s5, d6], by rw [if_pos h1], d4, d5, d3⟩
  · rw [if_neg h1]
    by_cases h2 : r = 0
    · rw [if_pos h2]
      refine ⟨z, 0, zq, g, q, rfl, s3, s2, by rw [s5, d6], ?_, d4, d5, d3⟩
      rw [if_neg h1, if_pos]
      apply Int32.le_iff_toInt_le.mpr
      rw [h2, e0] at s5
      omega
    · rw [if_neg h2]
      refine ⟨z, 1, zq, g, q, rfl, s3, s2, by rw [s5, d6], ?_, d4, d5, d3⟩
      have r1 : r.toInt ≠ 0 := fun h9 => h2 (Int32.toInt_inj.mp h9)
      rw [if_neg h1, if_neg]
      intro h9
      have := q_leI h9
      omega
theorem v_lmul {A B K : Int} (h : A ≤ B) (hK : 0 ≤ K) : A * K ≤ B * K := Int.mul_le_mul_of_nonneg_right h hK
theorem V_divideBy {R R2 R3 sa na sb nb sq nq : Int32} {fa fb fq : Nat → Int32} (ha : bN sa fa) (hb : bN sb fb) (hna : na = 0 ∨ na = 1 ∧ 0 < sa.toInt) (hnb : nb = 0 ∨ nb = 1) (hsb : 0 < sb.toInt) (hR : R.toInt ≤ 220) (hR2 : R2.toInt ≤ 220) (hsbR : sb.toInt ≤ R2.toInt) (hsaR : sa.toInt + 2 ≤ R.toInt) (hR3 : sa.toInt + 1 ≤ R3.toInt) :
    ∃ (z zn sq' : Int32) (g g2 q : Nat → Int32), F_Big_divideBy R R2 R3 sa na fa sb nb fb sq nq fq = (z, zn, g, sb, nb, g2, sq', 0, q) ∧ bN z g ∧ bV z g = bV sa fa % bV sb fb ∧ zn = (if na = 0 then 0 else if z ≤ 0 then 0 else 1) ∧ bN sb g2 ∧ bV sb g2 = bV sb fb ∧ bN sq' q ∧ bV sq' q = bV sa fa / bV sb fb := by
  have e0 : (0 : Int32).toInt = 0 := rfl
  have bp := hb.pos.mp hsb
  have anon := ha.nn
  have eb := q_clI (i := sb) rfl hb.1
  have ea := q_clI (i := sa) rfl ha.1
  have cm := V_cmp (R := R) (R2 := R2) (neg := na) (neg2 := nb) ha hb
  have cl : F_Big_clear R3 sq nq = (0, 0) := rfl
  have hna' : na = 0 ∨ na = 1 := hna.imp id (fun h => h.1)
  unfold F_Big_divideBy
  rw [if_neg (fun hh => by rw [hh] at hsb; omega), cl]
  obtain ⟨cv, ecv⟩ := q_nm (F_Big_compareSize R R2 sa na fa sb nb fb)
  rw [ecv] at cm ⊢
  by_cases hc : (0 : Int32) ≤ cv
  · rw [if_pos hc]
    have hc2 := q_leI hc
    have hAB : bV sb fb ≤ bV sa fa := by omega
    have hszl := hb.szL ha hAB
    by_cases h1 : sb = 1
    · rw [if_pos h1]
      subst h1
      have e01 : (0 : Int32).toNatClampNeg = 0 := rfl
      rw [e01]
      have vb : bV 1 fb = (fb 0).toInt := by
        show 0 + (fb 0).toInt * 1 = _
        omega
      obtain ⟨z, zn, sq', g, q, r1, r2, r3, r4, r5, r6, r7, r8⟩ := V_dvLimb (R := R) (R3 := R3) (x := fb 0) (sq := 0) (nq := 0) (fq := fq) ha hna' (by omega) (by omega) (by omega) (by omega)
      rw [r1, vb]
      exact ⟨z, zn, sq', g, fb, q, rfl, r2, r4, r5, hb, vb, r6, r7⟩
    · rw [if_neg h1]
      have h2 : 2 ≤ sb.toInt := by
        have : sb.toInt ≠ (1 : Int32).toInt := fun h9 => h1 (Int32.toInt_inj.mp h9)
        have e1 : (1 : Int32).toInt = 1 := rfl
        omega
      have k1 : (sb - 1 : Int32).toInt = sb.toInt - 1 := q_subI (y := 1) rfl rfl (by omega) (by omega)
      have k2 := q_clI (i := sb - 1) k1 (by omega)
      rw [show (sb - 1 : Int32).toNatClampNeg = sb.toNatClampNeg - 1 by omega]
      have tl : 0 < (fb (sb.toNatClampNeg - 1)).toInt := by
        have h9 := hb.2.1 (sb.toNatClampNeg - 1) (by omega)
        have h10 : (fb (sb.toNatClampNeg - 1)).toInt ≠ 0 := fun h => hb.2.2 hsb (Int32.toInt_inj.mp h)
        omega
      obtain ⟨b, b1, b2, b3, b4, b5⟩ := v_bits tl
      have k3 : (31 - F_Big_bitsOf (fb (sb.toNatClampNeg - 1)) : Int32).toInt = ((31 - b : Nat) : Int) := by
        have := q_subI (a := 31) (x := 31) (y := (b : Int)) rfl b3 (by omega) (by omega)
        rw [this]
        omega
      obtain ⟨sh, esh⟩ := q_nm (31 - F_Big_bitsOf (fb (sb.toNatClampNeg - 1)) : Int32)
      rw [esh] at k3 ⊢
      obtain ⟨gd, d1, d2, d3, d4⟩ := V_shlD (R := R2) (neg := nb) hb hsb hsbR hR2 b1 b2 k3 b4 b5 hnb
      have K0 := v_p2 (31 - b)
      have sa0 : 0 < sa.toInt := by omega
      have sh1 : ∃ (z1 : Int32) (g1 : Nat → Int32), F_Big_shiftLeft R sh sa na fa = (z1, na, g1) ∧ z1.toInt ≤ sa.toInt + 1 ∧ bN z1 g1 ∧ bV z1 g1 = bV sa fa * 2 ^ (31 - b) := by
        by_cases hb31 : b = 31
        · subst hb31
          refine ⟨sa, fa, ?_, by omega, ha, ?_⟩
          · unfold F_Big_shiftLeft
            rw [if_pos (Int32.le_iff_toInt_le.mpr (by omega))]
          · rw [show (31 - 31 : Nat) = 0 from rfl, show (2 : Int) ^ 0 = 1 from rfl, Int.mul_one]
        · obtain ⟨z1, g1, r1, r2, r3, r4⟩ := V_shlB (R := R) (x := sh) (neg := na) ha (by omega) sa0 hR (by omega)
          have ex := q_clI (i := sh) rfl (by omega)
          rw [show sh.toNatClampNeg = 31 - b by omega] at r4
          have zp : 0 < z1.toInt := by
            apply r3.pos.mpr
            rw [r4]
            exact Int.mul_pos (by omega) K0
          rw [v_negs hna' zp] at r1
          exact ⟨z1, g1, r1, by omega, r3, r4⟩
      obtain ⟨z1, g1, s1, s2, s3, s4⟩ := sh1
      have z1n := s3.1
      have pu : F_Big_push R 0 z1 na g1 = (z1 + 1, na, upd g1 z1.toNatClampNeg 0) := by
        unfold F_Big_push
        rw [if_neg (fun hh => by have := q_leI hh; omega)]
      rw [d1, s1]
      dsimp only
      rw [pu]
      dsimp only
      have hz1 : sb.toInt ≤ z1.toInt := by
        refine d2.szL s3 ?_
        rw [d3, s4]
        exact v_lmul hAB (Int.le_of_lt K0)
      obtain ⟨c1, c2⟩ := v_sc z1n (by omega)
      have p1 : (z1 - sb : Int32).toInt = z1.toInt - sb.toInt := q_subI rfl rfl (by omega) (by omega)
      have p2 : (z1 - sb + 1 : Int32).toInt = z1.toInt - sb.toInt + 1 := q_addI (y := 1) p1 rfl (by omega) (by omega)
      obtain ⟨pl, epl⟩ := q_nm (z1 - sb + 1 : Int32)
      rw [epl] at p2 ⊢
      have p3 : (pl - 1 : Int32).toInt = pl.toInt - 1 := q_subI (y := 1) rfl rfl (by omega) (by omega)
      obtain ⟨pm, epm⟩ := q_nm (pl - 1 : Int32)
      rw [epm] at p3 ⊢
      obtain ⟨s, es⟩ := q_nm (z1 + 1 : Int32)
      rw [es] at c1 c2 ⊢
      have ez := q_clI (i := z1) rfl z1n
      have epn := q_clI (i := pl) rfl (by omega)
      have okx : okL (upd g1 z1.toNatClampNeg 0) s.toNatClampNeg := by
        rw [c2]
        exact okL_push s3.2.1 (by decide)
      have vx : vB (upd g1 z1.toNatClampNeg 0) s.toNatClampNeg = bV z1 g1 := by
        rw [c2, v_upd_in, e0, Int.zero_mul, Int.add_zero]
        rfl
      have hstart : vB (fun j => upd g1 z1.toNatClampNeg 0 (pl.toNatClampNeg + j)) (s.toNatClampNeg - pl.toNatClampNeg) < vB gd sb.toNatClampNeg := by
        obtain ⟨n, hn⟩ : ∃ n : Nat, sb.toNatClampNeg = n + 1 := ⟨sb.toNatClampNeg - 1, by omega⟩
        have hge := d2.ge (n := n) (by omega)
        have hsn : s.toNatClampNeg - pl.toNatClampNeg = n + 1 := by omega
        have htop : pl.toNatClampNeg + n = z1.toNatClampNeg := by omega
        have hok : okL (fun j => upd g1 z1.toNatClampNeg 0 (pl.toNatClampNeg + j)) n := fun j hj => okx _ (by omega)
        have hlt := v_lt hok
        rw [hsn]
        refine Int.lt_of_lt_of_le ?_ hge
        show vB (fun j => upd g1 z1.toNatClampNeg 0 (pl.toNatClampNeg + j)) n + (upd g1 z1.toNatClampNeg 0 (pl.toNatClampNeg + n)).toInt * 2147483648 ^ n < _
        rw [htop, v_eq, e0, Int.zero_mul, Int.add_zero]
        exact hlt
      obtain ⟨h, qh, r1, r2, r3, r4, r5, r6⟩ := V_dvL (R := R) (R2 := R2) (R3 := R3) (a0 := sa) (a1 := na) (b0 := sb) (b1 := nb) (c0 := sq) (c1 := nq) (pl := pl) (sh := sh) (s := s) (sn := na) (nd := sb) (dn := nb) (y0 := 0) (qn := 0) (a2 := fa) (b2 := fb) (c2 := fq) (d := gd) h2 (by omega) (by omega) hR d2.2.1 d4 (by omega) ((pm.toInt - (-220)).toNat + 1) pl.toNatClampNeg pm (upd g1 z1.toNatClampNeg 0) fq (by omega) (by omega) (by omega) okx hstart
      rw [r1]
      unfold D_res
      obtain ⟨z2, t1, t2, t3, t4, t5⟩ := V_trimT (R := R) (s := s) (neg := na) (f := h) (by omega) (by omega)
      obtain ⟨zq, u1, u2, u3, u4, u5⟩ := V_trimT (R := R3) (s := pl) (neg := 0) (f := qh) (by omega) (by omega)
      rw [if_neg (show ¬ R3 < pl from fun hh => by have := q_ltI hh; omega), t1, u1]
      dsimp only
      have hd : vB gd sb.toNatClampNeg = bV sb fb * 2 ^ (31 - b) := d3
      rw [vx, s4, hd] at r6
      rw [hd] at r3
      obtain ⟨f1, f2⟩ := v_dvEnd K0 r6 (v_nn r2) r3
      have N2 : bN z2 h := ⟨t2, r2.mono (by have := q_clI (i := z2) rfl t2; omega), t4⟩
      have V2 : bV z2 h = vB h s.toNatClampNeg := t5
      have Nq : bN zq qh := ⟨u2, r5.mono (by have := q_clI (i := zq) rfl u2; omega), u4⟩
      have Vq : bV zq qh = bV sa fa / bV sb fb := by
        rw [← f1]
        exact u5
      have right1 : ∃ (zz : Int32) (gg : Nat → Int32), (F_Big_shiftRight R sh z2 (if na = 0 then 0 else if z2 ≤ 0 then 0 else 1) h).2 = (zz, if na = 0 then 0 else if zz ≤ 0 then 0 else 1, gg) ∧ bN zz gg ∧ bV zz gg = vB h s.toNatClampNeg / 2 ^ (31 - b) := by
        by_cases hb31 : b = 31
        · subst hb31
          refine ⟨z2, h, ?_, N2, ?_⟩
          · unfold F_Big_shiftRight
            rw [if_pos (Int32.le_iff_toInt_le.mpr (by omega))]
          · rw [show (31 - 31 : Nat) = 0 from rfl, show (2 : Int) ^ 0 = 1 from rfl, Int.ediv_one]
            exact V2
        · by_cases hz2 : z2 = 0
          · subst hz2
            refine ⟨0, h, ?_, N2, ?_⟩
            · unfold F_Big_shiftRight
              rw [if_neg (fun hh => by have := q_leI hh; omega), if_pos rfl]
            · rw [← V2, bN0.2, Int.zero_ediv]
          · have z2p : 0 < z2.toInt := by
              have : z2.toInt ≠ 0 := fun h9 => hz2 (Int32.toInt_inj.mp h9)
              omega
            obtain ⟨lost, zz, gg, w1, w2, w3, w4⟩ := V_shrB (R := R) (x := sh) (neg := if na = 0 then 0 else if z2 ≤ 0 then 0 else 1) N2 (by omega) z2p (by omega)
            have ex := q_clI (i := sh) rfl (by omega)
            rw [show sh.toNatClampNeg = 31 - b by omega, V2] at w4
            refine ⟨zz, gg, ?_, w3, w4⟩
            rw [w1, v_negs hna' z2p]
      have right2 : ∃ gg : Nat → Int32, (F_Big_shiftRight R2 sh sb nb gd).2 = (sb, nb, gg) ∧ bN sb gg ∧ bV sb gg = bV sb fb := by
        by_cases hb31 : b = 31
        · subst hb31
          refine ⟨gd, ?_, d2, ?_⟩
          · unfold F_Big_shiftRight
            rw [if_pos (Int32.le_iff_toInt_le.mpr (by omega))]
          · rw [d3, show (31 - 31 : Nat) = 0 from rfl, show (2 : Int) ^ 0 = 1 from rfl, Int.mul_one]
        · obtain ⟨lost, zz, gg, w1, w2, w3, w4⟩ := V_shrB (R := R2) (x := sh) (neg := nb) d2 (by omega) hsb (by omega)
          have ex := q_clI (i := sh) rfl (by omega)
          rw [show sh.toNatClampNeg = 31 - b by omega, d3, Int.mul_ediv_cancel _ (by omega)] at w4
          obtain ⟨x1, -⟩ := w3.inj hb w4
          subst x1
          refine ⟨gg, ?_, w3, w4⟩
          rw [w1, v_negs hnb hsb]
      obtain ⟨zz, gg, x1, x2, x3⟩ := right1
      obtain ⟨gg2, y1, y2, y3⟩ := right2
      rw [x1, y1]
      rw [f2] at x3
      exact ⟨zz, _, zq, gg, gg2, qh, rfl, x2, x3, rfl, y2, y3, Nq, Vq⟩
  · rw [if_neg hc]
    have hc2 := q_nleI hc
    have hAB : bV sa fa < bV sb fb := by omega
    refine ⟨sa, na, 0, fa, fb, fq, rfl, ha, (Int.emod_eq_of_lt anon hAB).symm, ?_, hb, rfl, bN0.1, ?_⟩
    · rcases hna with h9 | ⟨h9, h10⟩
      · rw [if_pos h9, h9]
      · rw [v_negs (Or.inr h9) h10]
    · rw [bN0.2]
      exact (Int.ediv_eq_zero_of_lt anon hAB).symm

/-! values: powers of ten and five -/
theorem v_ten : ∀ i : Fin 10, (Int32.ofNat (10 ^ i.val)).toInt = 10 ^ i.val := by decide +kernel
theorem v_five : ∀ i : Fin 14, (Int32.ofNat (5 ^ i.val)).toInt = 5 ^ i.val := by decide +kernel
theorem v_t10 (k : Nat) : (0 : Int) < 10 ^ k := Int.pow_pos (by decide)
theorem v_t5 (k : Nat) : (0 : Int) < 5 ^ k := Int.pow_pos (by decide)
theorem v_grow {v a b c : Int} (h : v * (a * b) < c) (hv : 0 ≤ v) (ha : 0 < a) (hb : 0 < b) : a * v < c := by
  have h1 : a * v * 1 ≤ a * v * b := Int.mul_le_mul_of_nonneg_left (by omega) (Int.mul_nonneg (by omega) hv)
  have e : v * (a * b) = a * v * b := by ac_rfl
  omega
/-- times a power of ten: while there is room -/
theorem V_tenL {R x s0 n0 neg : Int32} {g0 : Nat → Int32} {M : Nat} (hR : R.toInt ≤ 220) (hM : (M : Int) < R.toInt) :
    ∀ (n : Nat) (j : Int32) (s : Int32) (f : Nat → Int32), 0 < n → j.toInt < (n : Int) → bN s f → bV s f * 10 ^ j.toNatClampNeg < 2147483648 ^ M →
    ∃ (z : Int32) (h : Nat → Int32), F_Big_timesTen_L2 R x s0 n0 g0 n j s neg f = (z, neg, h) ∧ bN z h ∧ bV z h = bV s f * 10 ^ j.toNatClampNeg := by
  have e0 : (0 : Int32).toInt = 0 := rfl
  have e9 : (9 : Int32).toInt = 9 := rfl
  intro n
  induction n with
  | zero => intro j s f h0 h1 h2 h3; omega
  | succ n ih =>
    intro j s f h0 h1 h2 h3
    rw [F_Big_timesTen_L2.eq_2]
    by_cases hc : j ≤ 0
    · rw [if_pos hc]
      have hc2 := q_leI hc
      have hz : j.toNatClampNeg = 0 := by
        show j.toInt.toNat = 0
        omega
      refine ⟨s, f, rfl, h2, ?_⟩
      rw [hz]
      show bV s f = bV s f * 1
      rw [Int.mul_one]
    · rw [if_neg hc]
      have hc2 := q_nleI hc
      have ej := q_clI (i := j) rfl (by omega)
      have hjl := Int32.toInt_lt j
      obtain ⟨t, et⟩ := q_nm (if 9 < j then 9 else j : Int32)
      have ht : t.toInt = (if 9 < j.toInt then 9 else j.toInt) := by
        rw [← et]
        by_cases h9 : 9 < j
        · have := q_ltI h9
          rw [if_pos h9, if_pos (by omega)]
          rfl
        · have := q_nltI h9
          rw [if_neg h9, if_neg (by omega)]
      rw [et]
      have ht2 : 1 ≤ t.toInt ∧ t.toInt ≤ 9 ∧ t.toInt ≤ j.toInt ∧ (t.toInt = 9 ∨ t.toInt = j.toInt) := by
        rw [ht]
        split <;> omega
      have ett := q_clI (i := t) rfl (by omega)
      obtain ⟨m, em⟩ := q_nm t.toNatClampNeg
      rw [em] at ett ⊢
      have hp := v_ten ⟨m, by omega⟩
      have hpos := v_t10 m
      obtain ⟨c, ec⟩ := q_nm (Int32.ofNat (10 ^ m))
      rw [show Int32.ofNat (10 ^ (⟨m, by omega⟩ : Fin 10).val) = c from ec] at hp
      rw [ec]
      have hp2 : c.toInt = 10 ^ m := hp
      obtain ⟨J, eJ⟩ := q_nm j.toNatClampNeg
      rw [eJ] at ej h3 ⊢
      obtain ⟨d, hd⟩ : ∃ d, J = m + d := ⟨J - m, by omega⟩
      subst hd
      rw [Int.pow_add] at h3 ⊢
      have vnn := h2.nn
      have hlt : 10 ^ m * bV s f < 2147483648 ^ M := v_grow h3 vnn hpos (v_t10 d)
      have hle : 1 * bV s f ≤ 10 ^ m * bV s f := Int.mul_le_mul_of_nonneg_right (by omega) vnn
      have hsz := h2.sz (n := M) (by omega)
      obtain ⟨z, g, r1, r2, r3, r4, r5⟩ := V_mul (R := R) (x := c) (y := 0) (neg := neg) h2 (by omega) (by decide) (by omega) hR
      rw [r1]
      dsimp only
      have p1 : (j + (-9) : Int32).toInt = j.toInt + (-9) := q_addI (y := -9) rfl (by decide) (by omega) (by omega)
      obtain ⟨j', ej'⟩ := q_nm (j + (-9) : Int32)
      rw [ej'] at p1 ⊢
      have hd2 : j'.toNatClampNeg = d := by
        show j'.toInt.toNat = d
        omega
      rw [e0, Int.add_zero, hp2] at r5
      obtain ⟨z', g', w1, w2, w3⟩ := ih j' z g (by omega) (by omega) r4 (by
        rw [r5, hd2]
        have e : 10 ^ m * bV s f * 10 ^ d = bV s f * (10 ^ m * 10 ^ d) := by ac_rfl
        rw [e]
        exact h3)
      refine ⟨z', g', w1, w2, ?_⟩
      rw [w3, r5, hd2]
      ac_rfl
theorem V_ten {R x s neg : Int32} {f : Nat → Int32} {M : Nat} (h : bN s f) (hR : R.toInt ≤ 220) (hM : (M : Int) < R.toInt) (hv : bV s f * 10 ^ x.toNatClampNeg < 2147483648 ^ M) :
    ∃ (z : Int32) (g : Nat → Int32), F_Big_timesTen R x s neg f = (z, neg, g) ∧ bN z g ∧ bV z g = bV s f * 10 ^ x.toNatClampNeg := by
  unfold F_Big_timesTen
  exact V_tenL hR hM _ x s f (by omega) (by omega) h hv
/-- times a power of five: while there is room -/
theorem V_fiveL {R x s0 n0 neg : Int32} {g0 : Nat → Int32} {M : Nat} (hR : R.toInt ≤ 220) (hM : (M : Int) < R.toInt) :
    ∀ (n : Nat) (j : Int32) (s : Int32) (f : Nat → Int32), 0 < n → j.toInt < (n : Int) → bN s f → bV s f * 5 ^ j.toNatClampNeg < 2147483648 ^ M →
    ∃ (z : Int32) (h : Nat → Int32), F_Big_timesFive_L2 R x s0 n0 g0 n j s neg f = (z, neg, h) ∧ bN z h ∧ bV z h = bV s f * 5 ^ j.toNatClampNeg := by
  have e0 : (0 : Int32).toInt = 0 := rfl
  have e9 : (13 : Int32).toInt = 13 := rfl
  intro n
  induction n with
  | zero => intro j s f h0 h1 h2 h3; omega
  | succ n ih =>
    intro j s f h0 h1 h2 h3
    rw [F_Big_timesFive_L2.eq_2]
    by_cases hc : j ≤ 0
    · rw [if_pos hc]
      have hc2 := q_leI hc
      have hz : j.toNatClampNeg = 0 := by
        show j.toInt.toNat = 0
        omega
      refine ⟨s, f, rfl, h2, ?_⟩
      rw [hz]
      show bV s f = bV s f * 1
      rw [Int.mul_one]
    · rw [if_neg hc]
      have hc2 := q_nleI hc
      have ej := q_clI (i := j) rfl (by omega)
      have hjl := Int32.toInt_lt j
      obtain ⟨t, et⟩ := q_nm (if 13 < j then 13 else j : Int32)
      have ht : t.toInt = (if 13 < j.toInt then 13 else j.toInt) := by
        rw [← et]
        by_cases h9 : 13 < j
        · have := q_ltI h9
          rw [if_pos h9, if_pos (by omega)]
          rfl
        · have := q_nltI h9
          rw [if_neg h9, if_neg (by omega)]
      rw [et]
      have ht2 : 1 ≤ t.toInt ∧ t.toInt ≤ 13 ∧ t.toInt ≤ j.toInt ∧ (t.toInt = 13 ∨ t.toInt = j.toInt) := by
        rw [ht]
        split <;> omega
      have ett := q_clI (i := t) rfl (by omega)
      obtain ⟨m, em⟩ := q_nm t.toNatClampNeg
      rw [em] at ett ⊢
      have hp := v_five ⟨m, by omega⟩
      have hpos := v_t5 m
      obtain ⟨c, ec⟩ := q_nm (Int32.ofNat (5 ^ m))
      rw [show Int32.ofNat (5 ^ (⟨m, by omega⟩ : Fin 14).val) = c from ec] at hp
      rw [ec]
      have hp2 : c.toInt = 5 ^ m := hp
      obtain ⟨J, eJ⟩ := q_nm j.toNatClampNeg
      rw [eJ] at ej h3 ⊢
      obtain ⟨d, hd⟩ : ∃ d, J = m + d := ⟨J - m, by omega⟩
      subst hd
      rw [Int.pow_add] at h3 ⊢
      have vnn := h2.nn
      have hlt : 5 ^ m * bV s f < 2147483648 ^ M := v_grow h3 vnn hpos (v_t5 d)
      have hle : 1 * bV s f ≤ 5 ^ m * bV s f := Int.mul_le_mul_of_nonneg_right (by omega) vnn
      have hsz := h2.sz (n := M) (by omega)
      obtain ⟨z, g, r1, r2, r3, r4, r5⟩ := V_mul (R := R) (x := c) (y := 0) (neg := neg) h2 (by omega) (by decide) (by omega) hR
      rw [r1]
      dsimp only
      have p1 : (j + (-13) : Int32).toInt = j.toInt + (-13) := q_addI (y := -13) rfl (by decide) (by omega) (by omega)
      obtain ⟨j', ej'⟩ := q_nm (j + (-13) : Int32)
      rw [ej'] at p1 ⊢
      have hd2 : j'.toNatClampNeg = d := by
        show j'.toInt.toNat = d
        omega
      rw [e0, Int.add_zero, hp2] at r5
      obtain ⟨z', g', w1, w2, w3⟩ := ih j' z g (by omega) (by omega) r4 (by
        rw [r5, hd2]
        have e : 5 ^ m * bV s f * 5 ^ d = bV s f * (5 ^ m * 5 ^ d) := by ac_rfl
        rw [e]
        exact h3)
      refine ⟨z', g', w1, w2, ?_⟩
      rw [w3, r5, hd2]
      ac_rfl
theorem V_five {R x s neg : Int32} {f : Nat → Int32} {M : Nat} (h : bN s f) (hR : R.toInt ≤ 220) (hM : (M : Int) < R.toInt) (hv : bV s f * 5 ^ x.toNatClampNeg < 2147483648 ^ M) :
    ∃ (z : Int32) (g : Nat → Int32), F_Big_timesFive R x s neg f = (z, neg, g) ∧ bN z g ∧ bV z g = bV s f * 5 ^ x.toNatClampNeg := by
  unfold F_Big_timesFive
  exact V_fiveL hR hM _ x s f (by omega) (by omega) h hv

/-! values: signed sums, bits of a number -/
/-- the signed value -/
def bS (neg s : Int32) (f : Nat → Int32) : Int := if neg = 0 then bV s f else -bV s f
theorem bS_nil {neg s : Int32} {f : Nat → Int32} (h : bN s f) (hs : ¬ 0 < s.toInt) : bS neg s f = 0 ∧ bV s f = 0 := by
  have h1 := h.nn
  have h2 : bV s f = 0 := by
    have := h.pos
    omega
  unfold bS
  rw [h2]
  split <;> exact ⟨rfl, rfl⟩
theorem bS_0 {s : Int32} {f : Nat → Int32} : bS 0 s f = bV s f := by unfold bS; rw [if_pos rfl]
theorem bS_1 {s : Int32} {f : Nat → Int32} : bS 1 s f = -bV s f := by unfold bS; rw [if_neg (by decide)]
/-- a sign that a number may have -/
def bG (neg s : Int32) : Prop := neg = 0 ∨ (neg = 1 ∧ 0 < s.toInt)
theorem bG_if {neg z : Int32} : bG (if neg = 0 then 0 else if z ≤ 0 then 0 else 1) z := by
  have e0 : (0 : Int32).toInt = 0 := rfl
  by_cases h : neg = 0
  · rw [if_pos h]
    exact Or.inl rfl
  · rw [if_neg h]
    by_cases h2 : z ≤ 0
    · rw [if_pos h2]
      exact Or.inl rfl
    · rw [if_neg h2]
      have := q_nleI h2
      exact Or.inr ⟨rfl, by omega⟩
theorem bS_if {neg z : Int32} {f : Nat → Int32} (h : bN z f) (hn : neg = 0 ∨ neg = 1) : bS (if neg = 0 then 0 else if z ≤ 0 then 0 else 1) z f = bS neg z f := by
  have e0 : (0 : Int32).toInt = 0 := rfl
  rcases hn with rfl | rfl
  · rw [if_pos rfl]
  · rw [if_neg (by decide)]
    by_cases h2 : z ≤ 0
    · have h3 := q_leI h2
      obtain ⟨h4, h5⟩ := bS_nil (neg := 1) h (by omega)
      rw [if_pos h2, h4, bS_0, h5]
    · rw [if_neg h2]
theorem V_addJ {R R2 x s neg s2 neg2 w : Int32} {f g : Nat → Int32} (h : bN s f) (h2 : bN s2 g) (hg : bG neg s) (hw : w = 0 ∨ w = 1) (hs : s.toInt < R.toInt) (hs2 : s2.toInt < R.toInt) (hR : R.toInt ≤ 220) :
    ∃ (z zn : Int32) (k : Nat → Int32), F_Big_addSigned_J13 R R2 x s neg f s2 neg2 g w = (z, zn, k) ∧ bN z k ∧ bG zn z ∧ bS zn z k = bS neg s f + bS w s2 g ∧ (z.toInt ≤ s.toInt + 1 ∨ z.toInt ≤ s2.toInt + 1) := by
  have e0 : (0 : Int32).toInt = 0 := rfl
  have hneg : neg = 0 ∨ neg = 1 := hg.imp id (fun h => h.1)
  have hs0 := h.1
  have hs20 := h2.1
  unfold F_Big_addSigned_J13
  by_cases c1 : s2 = 0
  · rw [if_pos c1]
    have hz : ¬ 0 < s2.toInt := by rw [c1]; decide
    refine ⟨s, neg, f, rfl, h, hg, ?_, Or.inl (by omega)⟩
    rw [(bS_nil h2 hz).1, Int.add_zero]
  · rw [if_neg c1]
    have hs2p : 0 < s2.toInt := by
      have : s2.toInt ≠ 0 := fun h9 => c1 (Int32.toInt_inj.mp h9)
      omega
    obtain ⟨z, k, r1, r2, r3, r4, r5, r6⟩ := V_add (R := R) (R2 := R2) (neg := neg) (neg2 := neg2) h h2 hs hs2 hR
    have gw : bG w z := hw.imp id (fun e => ⟨e, by omega⟩)
    by_cases c2 : s = 0
    · rw [if_pos c2, r1]
      have hz : ¬ 0 < s.toInt := by rw [c2]; decide
      refine ⟨z, w, k, rfl, r5, gw, ?_, r4⟩
      obtain ⟨q1, q2⟩ := bS_nil (neg := neg) h hz
      rw [q1, Int.zero_add]
      unfold bS
      rw [r6, q2, Int.zero_add]
    · rw [if_neg c2]
      by_cases c3 : neg = w
      · rw [if_pos c3, r1]
        subst c3
        refine ⟨z, neg, k, rfl, r5, gw, ?_, r4⟩
        rcases hw with rfl | rfl
        · rw [bS_0, bS_0, bS_0, r6]
        · rw [bS_1, bS_1, bS_1, r6]
          omega
      · rw [if_neg c3]
        have cm := V_cmp (R := R) (R2 := R2) (neg := neg) (neg2 := neg2) h h2
        obtain ⟨cv, ecv⟩ := q_nm (F_Big_compareSize R R2 s neg f s2 neg2 g)
        rw [ecv] at cm ⊢
        by_cases c4 : cv < 0
        · rw [if_pos c4]
          have c5 := q_ltI c4
          have lt : bV s f < bV s2 g := by omega
          obtain ⟨z, k, r1, r2, r3, r4⟩ := V_sbf (R := R) (R2 := R2) (neg := neg) (neg2 := neg2) h h2 (by omega) (by omega) (by omega)
          rw [r1]
          have zp : 0 < z.toInt := r3.pos.mpr (by omega)
          refine ⟨z, w, k, rfl, r3, hw.imp id (fun e => ⟨e, zp⟩), ?_, Or.inr (by omega)⟩
          rcases hneg with rfl | rfl
          · rcases hw with rfl | rfl
            · exact absurd rfl c3
            · rw [bS_0, bS_1, bS_1, r4]
              omega
          · rcases hw with rfl | rfl
            · rw [bS_0, bS_1, bS_0, r4]
              omega
            · exact absurd rfl c3
        · rw [if_neg c4]
          have c5 := q_nltI c4
          have ge : bV s2 g ≤ bV s f := by omega
          obtain ⟨z, k, r1, r2, r3, r4⟩ := V_sub (R := R) (R2 := R2) (neg := neg) (neg2 := neg2) h h2 ge (by omega)
          rw [r1]
          refine ⟨z, _, k, rfl, r3, bG_if, ?_, Or.inl (by omega)⟩
          rw [bS_if r3 hneg]
          rcases hneg with rfl | rfl
          · rcases hw with rfl | rfl
            · exact absurd rfl c3
            · rw [bS_0, bS_1, bS_0, r4]
              omega
          · rcases hw with rfl | rfl
            · rw [bS_0, bS_1, bS_1, r4]
              omega
            · exact absurd rfl c3
/-- this and other, or this less other (x = 1) -/
theorem V_addS {R R2 x s neg s2 neg2 : Int32} {f g : Nat → Int32} (h : bN s f) (h2 : bN s2 g) (hg : bG neg s) (hg2 : neg2 = 0 ∨ neg2 = 1) (hx : x = 0 ∨ x = 1) (hs : s.toInt < R.toInt) (hs2 : s2.toInt < R.toInt) (hR : R.toInt ≤ 220) :
    ∃ (z zn : Int32) (k : Nat → Int32), F_Big_addSigned R R2 x s neg f s2 neg2 g = (z, zn, k) ∧ bN z k ∧ bG zn z ∧ bS zn z k = (if x = 0 then bS neg s f + bS neg2 s2 g else bS neg s f - bS neg2 s2 g) ∧ (z.toInt ≤ s.toInt + 1 ∨ z.toInt ≤ s2.toInt + 1) := by
  have key : ∀ w : Int32, w = 0 ∨ w = 1 → bS w s2 g = (if x = 0 then bS neg2 s2 g else -bS neg2 s2 g) → ∃ (z zn : Int32) (k : Nat → Int32), F_Big_addSigned_J13 R R2 x s neg f s2 neg2 g w = (z, zn, k) ∧ bN z k ∧ bG zn z ∧ bS zn z k = (if x = 0 then bS neg s f + bS neg2 s2 g else bS neg s f - bS neg2 s2 g) ∧ (z.toInt ≤ s.toInt + 1 ∨ z.toInt ≤ s2.toInt + 1) := fun w hw he => by
    obtain ⟨z, zn, k, r1, r2, r3, r4, r5⟩ := V_addJ (R := R) (R2 := R2) (x := x) (neg2 := neg2) h h2 hg hw hs hs2 hR
    refine ⟨z, zn, k, r1, r2, r3, ?_, r5⟩
    rw [r4, he]
    split
    · rfl
    · rw [Int.sub_eq_add_neg]
  unfold F_Big_addSigned
  rcases hg2 with rfl | rfl
  · rcases hx with rfl | rfl
    · rw [if_pos rfl]
      exact key 0 (Or.inl rfl) (by rw [if_pos rfl])
    · rw [if_neg (by decide)]
      exact key 1 (Or.inr rfl) (by rw [if_neg (by decide), bS_0, bS_1])
  · rcases hx with rfl | rfl
    · rw [if_neg (by decide)]
      exact key 1 (Or.inr rfl) (by rw [if_pos rfl])
    · rw [if_pos rfl]
      exact key 0 (Or.inl rfl) (by rw [if_neg (by decide), bS_0, bS_1, Int.neg_neg])
/-- how many bits a number has -/
theorem V_bits {R s neg : Int32} {f : Nat → Int32} (h : bN s f) (hs : s.toInt ≤ 220) : ∃ b : Nat, (F_Big_bitLength R s neg f).toInt = (b : Int) ∧ b ≤ 31 * s.toNatClampNeg ∧ bV s f < 2 ^ b ∧ (0 < s.toInt → 1 ≤ b ∧ (2 : Int) ^ (b - 1) ≤ bV s f) := by
  have e0 : (0 : Int32).toInt = 0 := rfl
  have hs0 := h.1
  have es := q_clI (i := s) rfl hs0
  unfold F_Big_bitLength
  by_cases c : s = 0
  · rw [if_pos c]
    have hz : ¬ 0 < s.toInt := by rw [c]; decide
    refine ⟨0, rfl, by omega, ?_, fun h9 => absurd h9 hz⟩
    rw [(bS_nil (neg := 0) h hz).2]
    decide
  · rw [if_neg c]
    have sp : 0 < s.toInt := by
      have : s.toInt ≠ 0 := fun h9 => c (Int32.toInt_inj.mp h9)
      omega
    obtain ⟨n, hn⟩ : ∃ n : Nat, s.toNatClampNeg = n + 1 := ⟨s.toNatClampNeg - 1, by omega⟩
    have k1 : (s - 1 : Int32).toInt = s.toInt - 1 := q_subI (y := 1) rfl rfl (by omega) (by omega)
    have k2 := q_clI (i := s - 1) k1 (by omega)
    rw [show (s - 1 : Int32).toNatClampNeg = n by omega]
    have okf := h.2.1
    rw [hn] at okf
    have nz := h.2.2 sp
    rw [hn, show n + 1 - 1 = n by omega] at nz
    have t0 := okf n (by omega)
    have tl : 0 < (f n).toInt := by
      have : (f n).toInt ≠ 0 := fun h9 => nz (Int32.toInt_inj.mp h9)
      omega
    obtain ⟨b, b1, b2, b3, b4, b5⟩ := v_bits tl
    have m1 : ((s - 1) * 31 : Int32).toInt = (s.toInt - 1) * 31 := q_mulI (y := 31) k1 rfl (by omega) (by omega)
    have m2 : ((s - 1) * 31 + F_Big_bitsOf (f n) : Int32).toInt = (s.toInt - 1) * 31 + (b : Int) := q_addI m1 b3 (by omega) (by omega)
    have top : bV s f = vB f n + (f n).toInt * 2147483648 ^ n := by
      unfold bV
      rw [hn]
      rfl
    have f0 := v_nn (okf.mono (Nat.le_succ n))
    have f1 := v_lt (okf.mono (Nat.le_succ n))
    have P0 := v_pos n
    refine ⟨31 * n + b, by rw [m2]; omega, by omega, ?_, fun _ => ⟨by omega, ?_⟩⟩
    · rw [Int.pow_add, v_p31, top]
      have h9 : ((f n).toInt + 1) * 2147483648 ^ n ≤ 2 ^ b * 2147483648 ^ n := Int.mul_le_mul_of_nonneg_right (by omega) (Int.le_of_lt P0)
      rw [Int.add_mul, Int.mul_comm (2 ^ b)] at h9
      omega
    · rw [show 31 * n + b - 1 = 31 * n + (b - 1) by omega, Int.pow_add, v_p31, top]
      have h9 : 2 ^ (b - 1) * 2147483648 ^ n ≤ (f n).toInt * 2147483648 ^ n := Int.mul_le_mul_of_nonneg_right b4 (Int.le_of_lt P0)
      rw [Int.mul_comm (2 ^ (b - 1))] at h9
      omega

/-! values: a Big of its room with its value -/
def bO (R s n : Int32) (f : Nat → Int32) (v : Int) : Prop := bN s f ∧ bG n s ∧ bS n s f = v ∧ s.toInt ≤ R.toInt ∧ R.toInt ≤ 220
theorem bO.abs {R s n : Int32} {f : Nat → Int32} {v : Int} (h : bO R s n f v) : bV s f = (v.natAbs : Int) := by
  obtain ⟨h1, h2, h3, _⟩ := h
  have h4 := h1.nn
  rcases h2 with rfl | ⟨rfl, _⟩
  · rw [bS_0] at h3
    omega
  · rw [bS_1] at h3
    omega
theorem bO.sgn {R s n : Int32} {f : Nat → Int32} {v : Int} (h : bO R s n f v) : (n = 0 ∧ 0 ≤ v) ∨ (n = 1 ∧ v < 0) := by
  obtain ⟨h1, h2, h3, _⟩ := h
  have h4 := h1.nn
  have h5 := h1.pos
  rcases h2 with rfl | ⟨rfl, h6⟩
  · rw [bS_0] at h3
    exact Or.inl ⟨rfl, by omega⟩
  · rw [bS_1] at h3
    exact Or.inr ⟨rfl, by omega⟩
theorem bO.pos {R s n : Int32} {f : Nat → Int32} {v : Int} (h : bO R s n f v) : 0 < s.toInt ↔ v ≠ 0 := by
  have h1 := h.abs
  have h2 := h.1.pos
  omega
theorem bO.s0 {R s n : Int32} {f : Nat → Int32} {v : Int} (h : bO R s n f v) : 0 ≤ s.toInt := h.1.1
theorem bO.nil {R s n : Int32} {f : Nat → Int32} {v : Int} (h : bO R s n f v) : s = 0 ↔ v = 0 := by
  have h1 := h.pos
  have h2 := h.1.1
  have e0 : (0 : Int32).toInt = 0 := rfl
  constructor
  · intro h3
    rw [h3] at h1
    omega
  · intro h3
    apply Int32.toInt_inj.mp
    omega
theorem bO.sz {R s n : Int32} {f : Nat → Int32} {v : Int} {M : Nat} (h : bO R s n f v) (hv : v.natAbs < 2147483648 ^ M) : s.toInt ≤ (M : Int) := by
  apply h.1.sz
  rw [h.abs]
  have := Int.ofNat_lt.mpr hv
  rw [Int.natCast_pow] at this
  exact this
theorem bO.lt {R s n : Int32} {f : Nat → Int32} {v : Int} {M : Nat} (h : bO R s n f v) (hs : s.toInt ≤ (M : Int)) : v.natAbs < 2147483648 ^ M := by
  have h1 := h.1.lt
  have h2 := h.1.1
  have es := q_clI (i := s) rfl h2
  rw [h.abs] at h1
  have h3 : v.natAbs < 2147483648 ^ s.toNatClampNeg := by
    apply Int.ofNat_lt.mp
    rw [Int.natCast_pow]
    exact h1
  exact Nat.lt_of_lt_of_le h3 (Nat.pow_le_pow_right (by decide) (by omega))
theorem bO.mk0 {R s : Int32} {f : Nat → Int32} (h : bN s f) (hs : s.toInt ≤ R.toInt) (hR : R.toInt ≤ 220) : bO R s 0 f (bV s f) := ⟨h, Or.inl rfl, bS_0, hs, hR⟩
theorem bO.mkI {R s n : Int32} {f : Nat → Int32} {v : Int} (h : bN s f) (hn : n = 0 ∨ n = 1) (hv : bS n s f = v) (hs : s.toInt ≤ R.toInt) (hR : R.toInt ≤ 220) : bO R s (if n = 0 then 0 else if s ≤ 0 then 0 else 1) f v := ⟨h, bG_if, by rw [bS_if h hn]; exact hv, hs, hR⟩
theorem bO.sg {R s n : Int32} {f : Nat → Int32} {v : Int} (h : bO R s n f v) : n = 0 ∨ n = 1 := h.2.1.imp id (fun h => h.1)
theorem bO.to {R R2 s n : Int32} {f : Nat → Int32} {v : Int} (h : bO R s n f v) (hs : s.toInt ≤ R2.toInt) (hR : R2.toInt ≤ 220) : bO R2 s n f v := ⟨h.1, h.2.1, h.2.2.1, hs, hR⟩
theorem bO.abs0 {R s n : Int32} {f : Nat → Int32} {v : Int} (h : bO R s n f v) : bO R s 0 f (v.natAbs : Int) := ⟨h.1, Or.inl rfl, by rw [bS_0, h.abs], h.2.2.2.1, h.2.2.2.2⟩
/-- bounds of values -/
def bB (M : Nat) (v : Int) : Prop := v.natAbs < 2147483648 ^ M
theorem bB.mono {M N : Nat} {v : Int} (h : bB M v) (hM : M ≤ N) : bB N v := Nat.lt_of_lt_of_le h (Nat.pow_le_pow_right (by decide) hM)
theorem bB.le {M : Nat} {u v : Int} (h : bB M v) (hu : u.natAbs ≤ v.natAbs) : bB M u := Nat.lt_of_le_of_lt hu h
theorem bB.add {M : Nat} {u v : Int} (h : bB M u) (h2 : bB M v) : bB (M + 1) (u + v) := by
  unfold bB at *
  rw [Nat.pow_succ]
  omega
theorem bB.sub {M : Nat} {u v : Int} (h : bB M u) (h2 : bB M v) : bB (M + 1) (u - v) := by
  unfold bB at *
  rw [Nat.pow_succ]
  omega
theorem bB.mul {M N : Nat} {u v : Int} (h : bB M u) (h2 : bB N v) : bB (M + N) (u * v) := by
  unfold bB at *
  rw [Int.natAbs_mul, Nat.pow_add]
  exact Nat.mul_lt_mul'' h h2
theorem bB.tmod {M : Nat} {u v : Int} (h : bB M v) (hv : v ≠ 0) : bB M (u.tmod v) := by
  unfold bB at *
  rw [Int.natAbs_tmod]
  have := Nat.mod_lt u.natAbs (y := v.natAbs) (by omega)
  omega
theorem bB.tmodU {M : Nat} {u v : Int} (h : bB M u) : bB M (u.tmod v) := by
  unfold bB at *
  rw [Int.natAbs_tmod]
  have := Nat.mod_le u.natAbs v.natAbs
  omega
theorem bB.ndiv {M : Nat} {u v : Int} (h : bB M u) : bB M ((u.natAbs / v.natAbs : Nat) : Int) := by
  unfold bB at *
  rw [Int.natAbs_natCast]
  exact Nat.lt_of_le_of_lt (Nat.div_le_self u.natAbs v.natAbs) h
theorem bB.tdiv {M : Nat} {u v : Int} (h : bB M u) : bB M (u.tdiv v) := by
  unfold bB at *
  rw [Int.natAbs_tdiv]
  exact Nat.lt_of_le_of_lt (Nat.div_le_self u.natAbs v.natAbs) h
theorem bB.neg {M : Nat} {u : Int} (h : bB M u) : bB M (-u) := by
  unfold bB at *
  rw [Int.natAbs_neg]
  exact h
theorem bO.sB {R s n : Int32} {f : Nat → Int32} {v : Int} {M : Nat} (h : bO R s n f v) (hv : bB M v) : s.toInt ≤ (M : Int) := h.sz hv
theorem bO.B {R s n : Int32} {f : Nat → Int32} {v : Int} {M : Nat} (h : bO R s n f v) (hs : s.toInt ≤ (M : Int)) : bB M v := h.lt hs
/-- the methods of Big over such numbers -/
theorem W_copy {R R2 s neg s2 neg2 : Int32} {f g : Nat → Int32} {v : Int} (h : bO R2 s2 neg2 g v) (hs : s2.toInt ≤ R.toInt) (hR : R.toInt ≤ 220) : bO R (F_Big_copy R R2 s neg f s2 neg2 g).1 (F_Big_copy R R2 s neg f s2 neg2 g).2.1 (F_Big_copy R R2 s neg f s2 neg2 g).2.2 v := by
  obtain ⟨k, c1, c2, c3, c4⟩ := V_copy (R := R) (R2 := R2) (s := s) (neg := neg) (neg2 := neg2) (f := f) h.1 hs
  rw [c1]
  refine ⟨c2, h.2.1, ?_, hs, hR⟩
  have := h.2.2.1
  unfold bS at this ⊢
  dsimp only
  rw [c3]
  exact this
theorem W_copyS {R R2 s neg s2 neg2 : Int32} {f g : Nat → Int32} {v : Int} (h : bO R2 s2 neg2 g v) (hs : s2.toInt ≤ R.toInt) : (F_Big_copy R R2 s neg f s2 neg2 g).1 = s2 ∧ (F_Big_copy R R2 s neg f s2 neg2 g).2.1 = neg2 := by
  obtain ⟨k, c1, c2, c3, c4⟩ := V_copy (R := R) (R2 := R2) (s := s) (neg := neg) (neg2 := neg2) (f := f) h.1 hs
  rw [c1]
  exact ⟨rfl, rfl⟩
theorem W_clear {R R2 s n : Int32} {f : Nat → Int32} (hR : 0 ≤ R.toInt) (hR2 : R.toInt ≤ 220) : bO R (F_Big_clear R2 s n).1 (F_Big_clear R2 s n).2 f 0 := by
  show bO R 0 0 f 0
  exact ⟨bN0.1, Or.inl rfl, by rw [bS_0]; exact bN0.2, hR, hR2⟩
theorem W_setLong {R s neg : Int32} {x : Int64} {f : Nat → Int32} (hR : 3 ≤ R.toInt) (hR2 : R.toInt ≤ 220) : bO R (F_Big_setLong R x s neg f).1 (F_Big_setLong R x s neg f).2.1 (F_Big_setLong R x s neg f).2.2 x.toInt := by
  obtain ⟨z, k, c1, c2, c3, c4⟩ := V_setLong (R := R) (s := s) (neg := neg) (x := x) (f := f) hR
  rw [c1]
  have e0 : (0 : Int64).toInt = 0 := rfl
  by_cases hx : x < 0
  · have hx2 := Int64.lt_iff_toInt_lt.mp hx
    rw [e0] at hx2
    have p := c3.pos
    refine ⟨c3, Or.inr ⟨if_pos hx, show 0 < z.toInt by omega⟩, ?_, show z.toInt ≤ _ by omega, hR2⟩
    show bS (if x < 0 then 1 else 0) z k = _
    rw [if_pos hx, bS_1]
    omega
  · have hx2 : ¬ x.toInt < 0 := fun h => hx (Int64.lt_iff_toInt_lt.mpr (by rw [e0]; exact h))
    refine ⟨c3, Or.inl (if_neg hx), ?_, show z.toInt ≤ _ by omega, hR2⟩
    show bS (if x < 0 then 1 else 0) z k = _
    rw [if_neg hx, bS_0]
    omega
theorem W_product {R R2 R3 s0 n0 sa na sb nb : Int32} {g0 ga gb : Nat → Int32} {va vb : Int} (ha : bO R2 sa na ga va) (hb : bO R3 sb nb gb vb) (hR : R.toInt ≤ 220) (hf : sa.toInt + sb.toInt ≤ R.toInt) :
    bO R (F_Big_product R R2 R3 s0 n0 g0 sa na ga sb nb gb).1 (F_Big_product R R2 R3 s0 n0 g0 sa na ga sb nb gb).2.1 (F_Big_product R R2 R3 s0 n0 g0 sa na ga sb nb gb).2.2 (va * vb) := by
  obtain ⟨z, k, c1, c2, c3, c4⟩ := V_prodN (R := R) (R2 := R2) (R3 := R3) (s0 := s0) (n0 := n0) (na := na) (nb := nb) (g0 := g0) ha.1 hb.1 hR hf
  rw [c1]
  have e0 : (0 : Int32).toInt = 0 := rfl
  have h1 := ha.abs
  have h2 := hb.abs
  have p := c3.pos
  rw [h1, h2] at c4
  have hz : z.toInt ≤ R.toInt := by omega
  have key : ∀ w : Int32, bG w z → bS w z k = va * vb → bO R z w k (va * vb) := fun w w1 w2 => ⟨c3, w1, w2, hz, hR⟩
  apply key
  · by_cases hh : na = nb
    · exact Or.inl (if_pos hh)
    · by_cases h9 : z ≤ 0
      · refine Or.inl ?_
        rw [if_neg hh, if_pos h9]
      · refine Or.inr ⟨?_, ?_⟩
        · rw [if_neg hh, if_neg h9]
        · apply Int.not_le.mp
          intro h10
          exact h9 (Int32.le_iff_toInt_le.mpr h10)
  · have n1 : bV z k = ((va * vb).natAbs : Int) := by
      rw [c4, Int.natAbs_mul, Int.natCast_mul]
    by_cases hh : na = nb
    · rw [if_pos hh, bS_0, n1]
      apply Int.natAbs_of_nonneg
      rcases ha.sgn with ⟨a1, a2⟩ | ⟨a1, a2⟩ <;> rcases hb.sgn with ⟨b1, b2⟩ | ⟨b1, b2⟩
      · exact Int.mul_nonneg a2 b2
      · rw [a1, b1] at hh
        exact absurd hh (by decide)
      · rw [a1, b1] at hh
        exact absurd hh (by decide)
      · exact Int.le_of_lt (Int.mul_pos_of_neg_of_neg a2 b2)
    · rw [if_neg hh]
      have n2 : va * vb ≤ 0 := by
        rcases ha.sgn with ⟨a1, a2⟩ | ⟨a1, a2⟩ <;> rcases hb.sgn with ⟨b1, b2⟩ | ⟨b1, b2⟩
        · exact absurd (a1.trans b1.symm) hh
        · exact Int.mul_nonpos_of_nonneg_of_nonpos a2 (by omega)
        · exact Int.mul_nonpos_of_nonpos_of_nonneg (by omega) b2
        · exact absurd (a1.trans b1.symm) hh
      by_cases h9 : z ≤ 0
      · have := q_leI h9
        have z0 := c3.1
        have nn := c3.nn
        rw [if_pos h9, bS_0]
        omega
      · rw [if_neg h9, bS_1]
        omega
theorem v_tm {a b : Int} (h : 0 ≤ a) : a.tmod b = a % ((b.natAbs : Nat) : Int) := by
  rw [Int.tmod_eq_emod_of_nonneg h]
  rcases Int.natAbs_eq b with e | e
  · rw [← e]
  · generalize b.natAbs = k at e
    subst e
    exact Int.emod_neg _ _
/-- division: it may be done, and what comes out -/
theorem v_sL {R R2 R3 t0_0 t0_1 t2_0 t2_1 t4_0 t4_1 a114 a66 y124 y125 y76 y77 y30 y31 : Int32} {t1_0 t3_0 t5_0 f78 : Nat → Int32} (ha : 0 ≤ a114.toInt) (hR : 0 ≤ R3.toInt) :
    ∀ (n : Nat) (j : Int32) (f g : Nat → Int32), -1 ≤ j.toInt → j.toInt + 1 < (n : Int) → S_Big_divideBy_L92 R R2 R3 t0_0 t0_1 t1_0 t2_0 t2_1 t3_0 t4_0 t4_1 t5_0 a114 a66 y124 y125 y76 y77 f78 y30 y31 n j f g := by
  have e0 : (0 : Int32).toInt = 0 := rfl
  intro n
  induction n with
  | zero => intro j f g h1 h2; omega
  | succ n ih =>
    intro j f g h1 h2
    show ite _ _ _
    by_cases hj : j < 0
    · rw [if_pos hj]
      refine ⟨?_, trivial⟩
      split
      · exact hR
      · exact ha
    · rw [if_neg hj]
      have hj2 : 0 ≤ j.toInt := by
        apply Int.not_lt.mp
        intro h
        exact hj (Int32.lt_iff_toInt_lt.mpr h)
      have jt := Int32.toInt_lt j
      have ej : (j + (-1) : Int32).toInt = j.toInt + (-1) := q_addI (y := -1) rfl (by decide) (by omega) (by omega)
      split
      · exact ih _ _ _ (by rw [ej]; omega) (by rw [ej]; omega)
      · exact ih _ _ _ (by rw [ej]; omega) (by rw [ej]; omega)
theorem V_divS {R R2 R3 sa na sb nb sq nq : Int32} {fa fb fq : Nat → Int32} (ha : bN sa fa) (hb : bN sb fb) (hna : na = 0 ∨ na = 1 ∧ 0 < sa.toInt) (hnb : nb = 0 ∨ nb = 1) (hR : R.toInt ≤ 220) (hR2 : R2.toInt ≤ 220) (hsbR : sb.toInt ≤ R2.toInt) (hsaR : sa.toInt + 2 ≤ R.toInt) (hR3 : sa.toInt + 1 ≤ R3.toInt) :
    S_Big_divideBy R R2 R3 sa na fa sb nb fb sq nq fq := by
  have e0 : (0 : Int32).toInt = 0 := rfl
  have ea := q_clI (i := sa) rfl ha.1
  have eb := q_clI (i := sb) rfl hb.1
  have anon := ha.nn
  have cm := V_cmp (R := R) (R2 := R2) (neg := na) (neg2 := nb) ha hb
  have hna' : na = 0 ∨ na = 1 := hna.imp id (fun h => h.1)
  unfold S_Big_divideBy
  by_cases h0 : sb = 0
  · rw [if_pos h0]
    trivial
  rw [if_neg h0]
  have hsb : 0 < sb.toInt := by
    have h1 : sb.toInt ≠ (0 : Int32).toInt := fun h9 => h0 (Int32.toInt_inj.mp h9)
    have h2 := hb.1
    omega
  have bp := hb.pos.mp hsb
  by_cases hc : (0 : Int32) ≤ F_Big_compareSize R R2 sa na fa sb nb fb
  · rw [if_pos hc]
    have hc2 := q_leI hc
    have hAB : bV sb fb ≤ bV sa fa := by omega
    have hszl := hb.szL ha hAB
    clear cm hc hc2
    by_cases h1 : sb = 1
    · rw [if_pos h1]
      trivial
    rw [if_neg h1]
    have h2 : 2 ≤ sb.toInt := by
      have : sb.toInt ≠ (1 : Int32).toInt := fun h9 => h1 (Int32.toInt_inj.mp h9)
      have e1 : (1 : Int32).toInt = 1 := rfl
      omega
    have k1 : (sb - 1 : Int32).toInt = sb.toInt - 1 := q_subI (y := 1) rfl rfl (by omega) (by omega)
    have k2 := q_clI (i := sb - 1) k1 (by omega)
    rw [show (sb - 1 : Int32).toNatClampNeg = sb.toNatClampNeg - 1 by omega]
    have tl : 0 < (fb (sb.toNatClampNeg - 1)).toInt := by
      have h9 := hb.2.1 (sb.toNatClampNeg - 1) (by omega)
      have h10 : (fb (sb.toNatClampNeg - 1)).toInt ≠ 0 := fun h => hb.2.2 hsb (Int32.toInt_inj.mp h)
      omega
    obtain ⟨b, b1, b2, b3, b4, b5⟩ := v_bits tl
    have k3 : (31 - F_Big_bitsOf (fb (sb.toNatClampNeg - 1)) : Int32).toInt = ((31 - b : Nat) : Int) := by
      have := q_subI (a := 31) (x := 31) (y := (b : Int)) rfl b3 (by omega) (by omega)
      rw [this]
      omega
    obtain ⟨sh, esh⟩ := q_nm (31 - F_Big_bitsOf (fb (sb.toNatClampNeg - 1)) : Int32)
    rw [esh] at k3 ⊢
    obtain ⟨gd, d1, d2, d3, d4⟩ := V_shlD (R := R2) (neg := nb) hb hsb hsbR hR2 b1 b2 k3 b4 b5 hnb
    have K0 := v_p2 (31 - b)
    have sa0 : 0 < sa.toInt := by omega
    have sh1 : ∃ (z1 : Int32) (g1 : Nat → Int32), F_Big_shiftLeft R sh sa na fa = (z1, na, g1) ∧ z1.toInt ≤ sa.toInt + 1 ∧ bN z1 g1 ∧ bV z1 g1 = bV sa fa * 2 ^ (31 - b) := by
      by_cases hb31 : b = 31
      · subst hb31
        refine ⟨sa, fa, ?_, by omega, ha, ?_⟩
        · unfold F_Big_shiftLeft
          rw [if_pos (Int32.le_iff_toInt_le.mpr (by omega))]
        · rw [show (31 - 31 : Nat) = 0 from rfl, show (2 : Int) ^ 0 = 1 from rfl, Int.mul_one]
      · obtain ⟨z1, g1, r1, r2, r3, r4⟩ := V_shlB (R := R) (x := sh) (neg := na) ha (by omega) sa0 hR (by omega)
        have ex := q_clI (i := sh) rfl (by omega)
        rw [show sh.toNatClampNeg = 31 - b by omega] at r4
        have zp : 0 < z1.toInt := by
          apply r3.pos.mpr
          rw [r4]
          exact Int.mul_pos (by omega) K0
        rw [v_negs hna' zp] at r1
        exact ⟨z1, g1, r1, by omega, r3, r4⟩
    obtain ⟨z1, g1, s1, s2, s3, s4⟩ := sh1
    have z1n := s3.1
    have pu : F_Big_push R 0 z1 na g1 = (z1 + 1, na, upd g1 z1.toNatClampNeg 0) := by
      unfold F_Big_push
      rw [if_neg (fun hh => by have := q_leI hh; omega)]
    rw [d1, s1]
    dsimp only
    rw [pu]
    dsimp only
    have hz1 : sb.toInt ≤ z1.toInt := by
      refine d2.szL s3 ?_
      rw [d3, s4]
      exact v_lmul hAB (Int.le_of_lt K0)
    have p1 : (z1 - sb : Int32).toInt = z1.toInt - sb.toInt := q_subI rfl rfl (by omega) (by omega)
    have p2 : (z1 - sb + 1 : Int32).toInt = z1.toInt - sb.toInt + 1 := q_addI (y := 1) p1 rfl (by omega) (by omega)
    obtain ⟨pl, epl⟩ := q_nm (z1 - sb + 1 : Int32)
    rw [epl] at p2 ⊢
    have p3 : (pl - 1 : Int32).toInt = pl.toInt - 1 := q_subI (y := 1) rfl rfl (by omega) (by omega)
    obtain ⟨pm, epm⟩ := q_nm (pl - 1 : Int32)
    rw [epm] at p3 ⊢
    exact v_sL (by omega) (by omega) _ _ _ _ (by omega) (by omega)
  · rw [if_neg hc]
    trivial
theorem W_divideBy {R R2 R3 sa na sb nb sq nq : Int32} {fa fb fq : Nat → Int32} {va vb : Int} (ha : bO R sa na fa va) (hb : bO R2 sb nb fb vb) (hv : vb ≠ 0) (hs : sa.toInt + 2 ≤ R.toInt) (hs3 : sa.toInt + 1 ≤ R3.toInt) (hR3 : R3.toInt ≤ 220) :
    S_Big_divideBy R R2 R3 sa na fa sb nb fb sq nq fq ∧ bO R (F_Big_divideBy R R2 R3 sa na fa sb nb fb sq nq fq).1 (F_Big_divideBy R R2 R3 sa na fa sb nb fb sq nq fq).2.1 (F_Big_divideBy R R2 R3 sa na fa sb nb fb sq nq fq).2.2.1 (va.tmod vb) ∧ bO R2 (F_Big_divideBy R R2 R3 sa na fa sb nb fb sq nq fq).2.2.2.1 (F_Big_divideBy R R2 R3 sa na fa sb nb fb sq nq fq).2.2.2.2.1 (F_Big_divideBy R R2 R3 sa na fa sb nb fb sq nq fq).2.2.2.2.2.1 vb ∧ bO R3 (F_Big_divideBy R R2 R3 sa na fa sb nb fb sq nq fq).2.2.2.2.2.2.1 (F_Big_divideBy R R2 R3 sa na fa sb nb fb sq nq fq).2.2.2.2.2.2.2.1 (F_Big_divideBy R R2 R3 sa na fa sb nb fb sq nq fq).2.2.2.2.2.2.2.2 ((va.natAbs / vb.natAbs : Nat) : Int) := by
  refine ⟨V_divS ha.1 hb.1 ha.2.1 hb.sg ha.2.2.2.2 hb.2.2.2.2 hb.2.2.2.1 hs hs3, ?_⟩
  have hsb := hb.pos.mpr hv
  obtain ⟨z, zn, sq', g, g2, q, c1, c2, c3, c4, c5, c6, c7, c8⟩ := V_divideBy (R := R) (R2 := R2) (R3 := R3) (sq := sq) (nq := nq) (fq := fq) ha.1 hb.1 ha.2.1 hb.sg hsb ha.2.2.2.2 hb.2.2.2.2 hb.2.2.2.1 hs hs3
  rw [c1]
  dsimp only
  have av := ha.abs
  have bv := hb.abs
  have bp : 0 < bV sb fb := by omega
  rw [av, bv] at c3 c8
  have hzs : z.toInt ≤ sa.toInt := by
    refine c2.szL ha.1 ?_
    rw [c3, av]
    rw [← Int.natCast_emod]
    exact Int.ofNat_le.mpr (Nat.mod_le _ _)
  have hqs : sq'.toInt ≤ sa.toInt := by
    refine c7.szL ha.1 ?_
    rw [c8, av, ← Int.natCast_ediv]
    exact Int.ofNat_le.mpr (Nat.div_le_self _ _)
  refine ⟨?_, ⟨c5, hb.2.1, ?_, hb.2.2.2.1, hb.2.2.2.2⟩, ⟨c7, Or.inl rfl, ?_, by omega, hR3⟩⟩
  · rw [c4]
    refine bO.mkI c2 ha.sg ?_ (by omega) ha.2.2.2.2
    rcases ha.sgn with ⟨n0, v0⟩ | ⟨n1, v1⟩
    · rw [n0, bS_0, c3, v_tm v0]
      congr 1
      omega
    · rw [n1, bS_1, c3]
      have h9 : va = -(va.natAbs : Int) := by omega
      generalize va.natAbs = k at h9 ⊢
      rw [h9, Int.neg_tmod, v_tm (by omega)]
  · have h9 := hb.2.2.1
    unfold bS at h9 ⊢
    rw [c6]
    exact h9
  · rw [bS_0, c8, Int.natCast_ediv]

/-! values: Mill's quotientOrRest, modulo -/
abbrev P1 (R : Int32) (v : Int) (p : Int32 × Int32 × (Nat → Int32)) : Prop := bO R p.1 p.2.1 p.2.2 v
abbrev P3 (R R2 R3 : Int32) (v v2 v3 : Int) (p : Int32 × Int32 × (Nat → Int32) × Int32 × Int32 × (Nat → Int32) × Int32 × Int32 × (Nat → Int32)) : Prop := bO R p.1 p.2.1 p.2.2.1 v ∧ bO R2 p.2.2.2.1 p.2.2.2.2.1 p.2.2.2.2.2.1 v2 ∧ bO R3 p.2.2.2.2.2.2.1 p.2.2.2.2.2.2.2.1 p.2.2.2.2.2.2.2.2 v3
theorem e220 : (220 : Int32).toInt = 220 := rfl
theorem W_add {R R2 x s neg s2 neg2 : Int32} {f g : Nat → Int32} {v v2 : Int} (h : bO R s neg f v) (h2 : bO R2 s2 neg2 g v2) (hx : x = 0 ∨ x = 1) (hs : s.toInt < R.toInt) (hs2 : s2.toInt < R.toInt) : P1 R (if x = 0 then v + v2 else v - v2) (F_Big_addSigned R R2 x s neg f s2 neg2 g) := by
  obtain ⟨z, zn, k, c1, c2, c3, c4, c5⟩ := V_addS (R := R) (R2 := R2) (x := x) (neg := neg) (neg2 := neg2) h.1 h2.1 h.2.1 h2.sg hx hs hs2 h.2.2.2.2
  rw [h.2.2.1, h2.2.2.1] at c4
  rw [c1]
  exact ⟨c2, c3, c4, show z.toInt ≤ _ by omega, h.2.2.2.2⟩
theorem v_nle0 {y : Int32} (h : ¬ y ≤ 0) : 0 < y.toInt := by
  apply Int.not_le.mp
  intro h2
  exact h (Int32.le_iff_toInt_le.mpr h2)
theorem v_tds {a b : Int} (h : (0 ≤ a ∧ 0 ≤ b) ∨ (a < 0 ∧ b < 0)) : a.tdiv b = ((a.natAbs / b.natAbs : Nat) : Int) := by
  rcases h with ⟨h1, h2⟩ | ⟨h1, h2⟩
  · have e1 : a = (a.natAbs : Int) := by omega
    have e2 : b = (b.natAbs : Int) := by omega
    generalize a.natAbs = k at e1 ⊢
    generalize b.natAbs = j at e2 ⊢
    rw [e1, e2, Int.ofNat_tdiv]
  · have e1 : a = -(a.natAbs : Int) := by omega
    have e2 : b = -(b.natAbs : Int) := by omega
    generalize a.natAbs = k at e1 ⊢
    generalize b.natAbs = j at e2 ⊢
    rw [e1, e2, Int.neg_tdiv, Int.tdiv_neg, Int.neg_neg, Int.ofNat_tdiv]
theorem v_tdo {a b : Int} (h : (0 ≤ a ∧ b < 0) ∨ (a < 0 ∧ 0 ≤ b)) : a.tdiv b = -((a.natAbs / b.natAbs : Nat) : Int) := by
  rcases h with ⟨h1, h2⟩ | ⟨h1, h2⟩
  · have e1 : a = (a.natAbs : Int) := by omega
    have e2 : b = -(b.natAbs : Int) := by omega
    generalize a.natAbs = k at e1 ⊢
    generalize b.natAbs = j at e2 ⊢
    rw [e1, e2, Int.tdiv_neg, Int.ofNat_tdiv]
  · have e1 : a = -(a.natAbs : Int) := by omega
    have e2 : b = (b.natAbs : Int) := by omega
    generalize a.natAbs = k at e1 ⊢
    generalize b.natAbs = j at e2 ⊢
    rw [e1, e2, Int.neg_tdiv, Int.ofNat_tdiv]
theorem bO.szE {R R2 s n s2 n2 : Int32} {f g : Nat → Int32} {v : Int} (h : bO R s n f v) (h2 : bO R2 s2 n2 g v) : s.toInt = s2.toInt := by
  have h3 := (bN.inj h.1 h2.1 (h.abs.trans h2.abs.symm)).1
  rw [h3]
theorem T_quotientOrRest_c32 {x2 : Int32} {R : Int32} {R2 : Int32} {t0_0 : Int32} {t0_1 : Int32} {t1_0 : (Nat → Int32)} {t2_0 : Int32} {t2_1 : Int32} {t3_0 : (Nat → Int32)} {t4_0 : Int32} {t4_1 : Int32} {t5_0 : (Nat → Int32)} {t6_0 : Int32} {t6_1 : Int32} {t7_0 : (Nat → Int32)} {p48 : (Int32 × Int32 × (Nat → Int32))} {p95 : (Int32 × Int32 × (Nat → Int32) × Int32 × Int32 × (Nat → Int32) × Int32 × Int32 × (Nat → Int32))} {y74 : Int32} {y75 : Int32} {f76 : (Nat → Int32)} {y69 : Int32} {y70 : Int32} {f71 : (Nat → Int32)} {p128 : (Int32 × Int32 × (Nat → Int32))} {va vb : Int} (hy : bO 220 y74 y75 f76 ((va.natAbs / vb.natAbs : Nat) : Int)) (hb : bO R2 y69 y70 f71 vb) (hp : P1 220 ((va.natAbs / vb.natAbs : Nat) : Int) p128) (ha : bO R t4_0 t4_1 t5_0 va) : (S_Mil_quotientOrRest_c32 x2 R R2 t0_0 t0_1 t1_0 t2_0 t2_1 t3_0 t4_0 t4_1 t5_0 t6_0 t6_1 t7_0 p48 p95 y74 y75 f76 y69 y70 f71 p128) ∧ P3 220 220 R2 (va.tdiv vb) ((va.natAbs / vb.natAbs : Nat) : Int) vb (F_Mil_quotientOrRest_c32 x2 R R2 t0_0 t0_1 t1_0 t2_0 t2_1 t3_0 t4_0 t4_1 t5_0 t6_0 t6_1 t7_0 p48 p95 y74 y75 f76 y69 y70 f71 p128) := by
  unfold S_Mil_quotientOrRest_c32 F_Mil_quotientOrRest_c32
  by_cases h1 : y74 ≤ 0
  · rw [if_pos h1, if_pos h1]
    refine ⟨trivial, ?_, hy, hb⟩
    have h2 := hy.pos
    have h3 := q_leI h1
    have e0 : (0 : Int32).toInt = 0 := rfl
    have h4 : ((va.natAbs / vb.natAbs : Nat) : Int) = 0 := by omega
    have h5 : va.tdiv vb = 0 := by
      rcases hp.sgn with _ | ⟨_, _⟩
      · rcases ha.sgn with ⟨_, a2⟩ | ⟨_, a2⟩ <;> rcases hb.sgn with ⟨_, b2⟩ | ⟨_, b2⟩
        · rw [v_tds (Or.inl ⟨a2, b2⟩), h4]
        · rw [v_tdo (Or.inl ⟨a2, b2⟩), h4]; rfl
        · rw [v_tdo (Or.inr ⟨a2, b2⟩), h4]; rfl
        · rw [v_tds (Or.inr ⟨a2, b2⟩), h4]
      · omega
    rw [h5]
    have h6 := hp.abs0
    rw [h4] at h6
    exact h6
  · rw [if_neg h1, if_neg h1]
    have h2 := v_nle0 h1
    have h3 := hy.pos.mp h2
    have q0 := hp.sgn
    by_cases h4 : t4_1 = y70
    · rw [if_pos h4, if_pos h4]
      refine ⟨trivial, ?_, hy, hb⟩
      have h5 : va.tdiv vb = ((va.natAbs / vb.natAbs : Nat) : Int) := by
        apply v_tds
        rcases ha.sgn with ⟨a1, a2⟩ | ⟨a1, a2⟩ <;> rcases hb.sgn with ⟨b1, b2⟩ | ⟨b1, b2⟩
        · exact Or.inl ⟨a2, b2⟩
        · rw [a1, b1] at h4; exact absurd h4 (by decide)
        · rw [a1, b1] at h4; exact absurd h4 (by decide)
        · exact Or.inr ⟨a2, b2⟩
      rw [h5]
      exact hp.abs0
    · rw [if_neg h4, if_neg h4]
      refine ⟨trivial, ?_, hy, hb⟩
      have h5 : va.tdiv vb = -((va.natAbs / vb.natAbs : Nat) : Int) := by
        apply v_tdo
        rcases ha.sgn with ⟨a1, a2⟩ | ⟨a1, a2⟩ <;> rcases hb.sgn with ⟨b1, b2⟩ | ⟨b1, b2⟩
        · exact absurd (a1.trans b1.symm) h4
        · exact Or.inl ⟨a2, b2⟩
        · exact Or.inr ⟨a2, b2⟩
        · exact absurd (a1.trans b1.symm) h4
      rw [h5]
      have h6 := hp.abs
      rw [Int.natAbs_natCast] at h6
      exact ⟨hp.1, Or.inr ⟨rfl, hp.pos.mpr h3⟩, by rw [bS_1, h6], hp.2.2.2.1, hp.2.2.2.2⟩
theorem T_quotientOrRest_c17 {x2 : Int32} {R : Int32} {R2 : Int32} {t0_0 : Int32} {t0_1 : Int32} {t1_0 : (Nat → Int32)} {t2_0 : Int32} {t2_1 : Int32} {t3_0 : (Nat → Int32)} {t4_0 : Int32} {t4_1 : Int32} {t5_0 : (Nat → Int32)} {t6_0 : Int32} {t6_1 : Int32} {t7_0 : (Nat → Int32)} {p48 : (Int32 × Int32 × (Nat → Int32))} {p95 : (Int32 × Int32 × (Nat → Int32) × Int32 × Int32 × (Nat → Int32) × Int32 × Int32 × (Nat → Int32))} {va vb : Int} (h : P3 220 R2 220 (va.tmod vb) vb ((va.natAbs / vb.natAbs : Nat) : Int) p95) (ha : bO R t4_0 t4_1 t5_0 va) : (S_Mil_quotientOrRest_c17 x2 R R2 t0_0 t0_1 t1_0 t2_0 t2_1 t3_0 t4_0 t4_1 t5_0 t6_0 t6_1 t7_0 p48 p95) ∧ P3 220 220 R2 (if x2 = 0 then va.tmod vb else va.tdiv vb) ((va.natAbs / vb.natAbs : Nat) : Int) vb (F_Mil_quotientOrRest_c17 x2 R R2 t0_0 t0_1 t1_0 t2_0 t2_1 t3_0 t4_0 t4_1 t5_0 t6_0 t6_1 t7_0 p48 p95) := by
  unfold S_Mil_quotientOrRest_c17 F_Mil_quotientOrRest_c17
  by_cases h1 : x2 = 0
  · rw [if_pos h1, if_pos h1, if_pos h1]
    exact ⟨trivial, h.1, h.2.2, h.2.1⟩
  · rw [if_neg h1, if_neg h1, if_neg h1]
    exact T_quotientOrRest_c32 h.2.2 h.2.1 (W_copy h.2.2 h.2.2.2.2.2.1 (by decide)) ha
theorem T_quotientOrRest_c5 {x2 : Int32} {R : Int32} {R2 : Int32} {t0_0 : Int32} {t0_1 : Int32} {t1_0 : (Nat → Int32)} {t2_0 : Int32} {t2_1 : Int32} {t3_0 : (Nat → Int32)} {t4_0 : Int32} {t4_1 : Int32} {t5_0 : (Nat → Int32)} {t6_0 : Int32} {t6_1 : Int32} {t7_0 : (Nat → Int32)} {p48 : (Int32 × Int32 × (Nat → Int32))} {va vb : Int} (h : P1 220 va p48) (hb : bO R2 t6_0 t6_1 t7_0 vb) (hv : vb ≠ 0) (hM : bB 218 va) (ha : bO R t4_0 t4_1 t5_0 va) : (S_Mil_quotientOrRest_c5 x2 R R2 t0_0 t0_1 t1_0 t2_0 t2_1 t3_0 t4_0 t4_1 t5_0 t6_0 t6_1 t7_0 p48) ∧ P3 220 220 R2 (if x2 = 0 then va.tmod vb else va.tdiv vb) ((va.natAbs / vb.natAbs : Nat) : Int) vb (F_Mil_quotientOrRest_c5 x2 R R2 t0_0 t0_1 t1_0 t2_0 t2_1 t3_0 t4_0 t4_1 t5_0 t6_0 t6_1 t7_0 p48) := by
  unfold S_Mil_quotientOrRest_c5 F_Mil_quotientOrRest_c5
  have e := e220
  have hs := h.sB hM
  have d := W_divideBy (R3 := 220) (sq := t2_0) (nq := t2_1) (fq := t3_0) h hb hv (by omega) (by omega) (by decide)
  have d2 := T_quotientOrRest_c17 (x2 := x2) (t0_0 := t0_0) (t0_1 := t0_1) (t1_0 := t1_0) (t2_0 := t2_0) (t2_1 := t2_1) (t3_0 := t3_0) (t6_0 := t6_0) (t6_1 := t6_1) (t7_0 := t7_0) (p48 := p48) d.2 ha
  exact ⟨⟨⟨trivial, d.1⟩, d2.1⟩, d2.2⟩
theorem T_quotientOrRest {x2 : Int32} {R : Int32} {R2 : Int32} {t0_0 : Int32} {t0_1 : Int32} {t1_0 : (Nat → Int32)} {t2_0 : Int32} {t2_1 : Int32} {t3_0 : (Nat → Int32)} {t4_0 : Int32} {t4_1 : Int32} {t5_0 : (Nat → Int32)} {t6_0 : Int32} {t6_1 : Int32} {t7_0 : (Nat → Int32)} {va vb : Int} (ha : bO R t4_0 t4_1 t5_0 va) (hb : bO R2 t6_0 t6_1 t7_0 vb) (hv : vb ≠ 0) (hM : bB 218 va) : (S_Mil_quotientOrRest x2 R R2 t0_0 t0_1 t1_0 t2_0 t2_1 t3_0 t4_0 t4_1 t5_0 t6_0 t6_1 t7_0) ∧ P3 220 220 R2 (if x2 = 0 then va.tmod vb else va.tdiv vb) ((va.natAbs / vb.natAbs : Nat) : Int) vb (F_Mil_quotientOrRest x2 R R2 t0_0 t0_1 t1_0 t2_0 t2_1 t3_0 t4_0 t4_1 t5_0 t6_0 t6_1 t7_0) := by
  unfold S_Mil_quotientOrRest F_Mil_quotientOrRest
  exact T_quotientOrRest_c5 (W_copy ha (Int.le_trans ha.2.2.2.1 ha.2.2.2.2) (by decide)) hb hv hM ha
theorem v_owe {A B C : Prop} (h : A) (k : B ∧ C) : ((True ∧ A) ∧ B) ∧ C := ⟨⟨⟨trivial, h⟩, k.1⟩, k.2⟩
theorem bO.fit {R s n : Int32} {f : Nat → Int32} {v : Int} (h : bO R s n f v) : s.toInt ≤ 220 := Int.le_trans h.2.2.2.1 h.2.2.2.2
/-- a number at work: nothing is asked of it -/
abbrev bI (_R _s _n : Int32) (_f : Nat → Int32) : Prop := True
/-- a number -/
abbrev bJ (R s n : Int32) (f : Nat → Int32) : Prop := ∃ v : Int, bO R s n f v
theorem T_modulo {R : Int32} {R2 : Int32} {R3 : Int32} {t0_0 : Int32} {t0_1 : Int32} {t1_0 : (Nat → Int32)} {t2_0 : Int32} {t2_1 : Int32} {t3_0 : (Nat → Int32)} {t4_0 : Int32} {t4_1 : Int32} {t5_0 : (Nat → Int32)} {t6_0 : Int32} {t6_1 : Int32} {t7_0 : (Nat → Int32)} {va vb : Int} {M : Nat} (ha : bO R t2_0 t2_1 t3_0 va) (hb : bO R2 t4_0 t4_1 t5_0 vb) (hv : vb ≠ 0) (hM : bB M va) (hM2 : (M : Int) + 2 ≤ R3.toInt) (hN : t4_0.toInt < R3.toInt) (hR3 : R3.toInt ≤ 220) : (S_Mil_modulo R R2 R3 t0_0 t0_1 t1_0 t2_0 t2_1 t3_0 t4_0 t4_1 t5_0 t6_0 t6_1 t7_0) ∧ P3 220 R2 R3 ((va.natAbs / vb.natAbs : Nat) : Int) vb (if va.tmod vb < 0 then va.tmod vb + vb else va.tmod vb) (F_Mil_modulo R R2 R3 t0_0 t0_1 t1_0 t2_0 t2_1 t3_0 t4_0 t4_1 t5_0 t6_0 t6_1 t7_0) := by
  have e := e220
  have hs := ha.sB hM
  unfold S_Mil_modulo F_Mil_modulo
  have h2 : P1 R3 va (F_Big_copy R3 R t6_0 t6_1 t7_0 t2_0 t2_1 t3_0) := W_copy ha (by omega) (by omega)
  generalize (F_Big_copy R3 R t6_0 t6_1 t7_0 t2_0 t2_1 t3_0) = p51 at h2 ⊢
  unfold S_Mil_modulo_c2 F_Mil_modulo_c2
  have hs2 := h2.sB hM
  have h11 : S_Big_divideBy R3 R2 (220 : Int32) (p51.1 : Int32) (p51.2.1 : Int32) (p51.2.2 : (Nat → Int32)) t4_0 t4_1 t5_0 t0_0 t0_1 t1_0 ∧ P3 R3 R2 220 (va.tmod vb) vb ((va.natAbs / vb.natAbs : Nat) : Int) (F_Big_divideBy R3 R2 (220 : Int32) (p51.1 : Int32) (p51.2.1 : Int32) (p51.2.2 : (Nat → Int32)) t4_0 t4_1 t5_0 t0_0 t0_1 t1_0) := W_divideBy h2 hb hv (by omega) (by omega) (by decide)
  refine v_owe h11.1 ?_
  replace h11 := h11.2
  generalize (F_Big_divideBy R3 R2 (220 : Int32) (p51.1 : Int32) (p51.2.1 : Int32) (p51.2.2 : (Nat → Int32)) t4_0 t4_1 t5_0 t0_0 t0_1 t1_0) = p105 at h11 ⊢
  unfold S_Mil_modulo_c11 F_Mil_modulo_c11
  rcases h11.1.sgn with ⟨n1, n2⟩ | ⟨n1, n2⟩
  · rw [if_pos n1, if_pos n1, if_neg (by omega)]
    exact ⟨trivial, h11.2.2, h11.2.1, h11.1⟩
  · rw [if_pos n2, if_neg (by rw [n1]; decide), if_neg (by rw [n1]; decide)]
    have hs3 := h11.1.sB (hM.tmodU (v := vb))
    have hs4 := h11.2.1.szE hb
    have h24 : P1 R3 (va.tmod vb + vb) (F_Big_addSigned R3 R2 (0 : Int32) (p105.1 : Int32) (p105.2.1 : Int32) (p105.2.2.1 : (Nat → Int32)) (p105.2.2.2.1 : Int32) (p105.2.2.2.2.1 : Int32) (p105.2.2.2.2.2.1 : (Nat → Int32))) := W_add (x := 0) h11.1 h11.2.1 (Or.inl rfl) (by omega) (by omega)
    generalize (F_Big_addSigned R3 R2 (0 : Int32) (p105.1 : Int32) (p105.2.1 : Int32) (p105.2.2.1 : (Nat → Int32)) (p105.2.2.2.1 : Int32) (p105.2.2.2.2.1 : Int32) (p105.2.2.2.2.2.1 : (Nat → Int32))) = p141 at h24 ⊢
    unfold S_Mil_modulo_c24 F_Mil_modulo_c24
    exact ⟨trivial, h11.2.2, h11.2.1, h24⟩

/-! values: Mill's sums and products, powers -/
abbrev Pr2 (Q : Int32 → Prop) (R : Int32) (v : Int) (p : Int32 × Int32 × Int32 × (Nat → Int32) × Int32 × Int32 × (Nat → Int32)) : Prop := Q p.1 ∧ bO R p.2.1 p.2.2.1 p.2.2.2.1 v
theorem T_addOrMultiply {x2 : Int32} {R : Int32} {R2 : Int32} {t0_0 : Int32} {t0_1 : Int32} {t1_0 : (Nat → Int32)} {t2_0 : Int32} {t2_1 : Int32} {t3_0 : (Nat → Int32)} {t4_0 : Int32} {t4_1 : Int32} {t5_0 : (Nat → Int32)} {va vb : Int} (ha : bO R t2_0 t2_1 t3_0 va) (hb : bO R2 t4_0 t4_1 t5_0 vb) (hs : t2_0.toInt + t4_0.toInt < 220) : P1 220 (if x2 = 2 then va * vb else if x2 = 1 then va - vb else va + vb) (F_Mil_addOrMultiply x2 R R2 t0_0 t0_1 t1_0 t2_0 t2_1 t3_0 t4_0 t4_1 t5_0) := by
  have e := e220
  have a0 := ha.s0
  have b0 := hb.s0
  unfold F_Mil_addOrMultiply
  by_cases h : x2 = 2
  · rw [if_pos h, if_pos h]
    have h1 : P1 220 (va * vb) (F_Big_product (220 : Int32) R R2 t0_0 t0_1 t1_0 t2_0 t2_1 t3_0 t4_0 t4_1 t5_0) := W_product ha hb (by decide) (by omega)
    generalize (F_Big_product (220 : Int32) R R2 t0_0 t0_1 t1_0 t2_0 t2_1 t3_0 t4_0 t4_1 t5_0) = p116 at h1 ⊢
    unfold F_Mil_addOrMultiply_c11
    exact h1
  · rw [if_neg h, if_neg h]
    have hss := (W_copyS (R := 220) (s := t0_0) (neg := t0_1) (f := t1_0) ha (by omega)).1
    have h1 : P1 220 va (F_Big_copy 220 R t0_0 t0_1 t1_0 t2_0 t2_1 t3_0) := W_copy ha (by omega) (by decide)
    generalize F_Big_copy 220 R t0_0 t0_1 t1_0 t2_0 t2_1 t3_0 = p42 at h1 hss ⊢
    unfold F_Mil_addOrMultiply_c22
    rw [← hss] at hs a0
    by_cases h2 : x2 = 1
    · rw [if_pos h2, if_pos h2]
      exact W_add (x := 1) h1 hb (Or.inr rfl) (by omega) (by omega)
    · rw [if_neg h2, if_neg h2]
      exact W_add (x := 0) h1 hb (Or.inl rfl) (by omega) (by omega)
theorem T_quotientOrRest_a {x2 : Int32} {R3 : Int32} {t0_0 : Int32} {t0_1 : Int32} {t1_0 : (Nat → Int32)} {t2_0 : Int32} {t2_1 : Int32} {t3_0 : (Nat → Int32)} {t4_0 : Int32} {t4_1 : Int32} {t5_0 : (Nat → Int32)} {va : Int} (ha : bO R3 t4_0 t4_1 t5_0 va) (hv : va ≠ 0) (hM : bB 218 va) : (S_Mil_quotientOrRest_a x2 R3 t0_0 t0_1 t1_0 t2_0 t2_1 t3_0 t4_0 t4_1 t5_0) ∧ P3 220 220 R3 (if x2 = 0 then va.tmod va else va.tdiv va) ((va.natAbs / va.natAbs : Nat) : Int) va (F_Mil_quotientOrRest_a x2 R3 t0_0 t0_1 t1_0 t2_0 t2_1 t3_0 t4_0 t4_1 t5_0) := by
  have e := e220
  have q1 : ((va.natAbs / va.natAbs : Nat) : Int) = 1 := by rw [Nat.div_self (by omega)]; rfl
  unfold S_Mil_quotientOrRest_a F_Mil_quotientOrRest_a
  have h2 : P1 220 va (F_Big_copy (220 : Int32) R3 t0_0 t0_1 t1_0 t4_0 t4_1 t5_0) := W_copy ha ha.fit (by decide)
  generalize (F_Big_copy (220 : Int32) R3 t0_0 t0_1 t1_0 t4_0 t4_1 t5_0) = p40 at h2 ⊢
  unfold S_Mil_quotientOrRest_a_c5 F_Mil_quotientOrRest_a_c5
  have hs := h2.sB hM
  have h3 : S_Big_divideBy (220 : Int32) R3 (220 : Int32) (p40.1 : Int32) (p40.2.1 : Int32) (p40.2.2 : (Nat → Int32)) t4_0 t4_1 t5_0 t2_0 t2_1 t3_0 ∧ P3 220 R3 220 (va.tmod va) va ((va.natAbs / va.natAbs : Nat) : Int) (F_Big_divideBy (220 : Int32) R3 (220 : Int32) (p40.1 : Int32) (p40.2.1 : Int32) (p40.2.2 : (Nat → Int32)) t4_0 t4_1 t5_0 t2_0 t2_1 t3_0) := W_divideBy h2 ha hv (by omega) (by omega) (by decide)
  refine v_owe h3.1 ?_
  replace h3 := h3.2
  generalize (F_Big_divideBy (220 : Int32) R3 (220 : Int32) (p40.1 : Int32) (p40.2.1 : Int32) (p40.2.2 : (Nat → Int32)) t4_0 t4_1 t5_0 t2_0 t2_1 t3_0) = p85 at h3 ⊢
  unfold S_Mil_quotientOrRest_a_c17 F_Mil_quotientOrRest_a_c17
  by_cases h : x2 = 0
  · rw [if_pos h, if_pos h, if_pos h]
    exact ⟨trivial, h3.1, h3.2.2, h3.2.1⟩
  · rw [if_neg h, if_neg h, if_neg h]
    have h4 : P1 220 ((va.natAbs / va.natAbs : Nat) : Int) (F_Big_copy (220 : Int32) (220 : Int32) (p85.1 : Int32) (p85.2.1 : Int32) (p85.2.2.1 : (Nat → Int32)) (p85.2.2.2.2.2.2.1 : Int32) (p85.2.2.2.2.2.2.2.1 : Int32) (p85.2.2.2.2.2.2.2.2 : (Nat → Int32))) := W_copy h3.2.2 h3.2.2.fit (by decide)
    generalize (F_Big_copy (220 : Int32) (220 : Int32) (p85.1 : Int32) (p85.2.1 : Int32) (p85.2.2.1 : (Nat → Int32)) (p85.2.2.2.2.2.2.1 : Int32) (p85.2.2.2.2.2.2.2.1 : Int32) (p85.2.2.2.2.2.2.2.2 : (Nat → Int32))) = p118 at h4 ⊢
    unfold S_Mil_quotientOrRest_a_c32 F_Mil_quotientOrRest_a_c32
    rw [Int.tdiv_self hv]
    rw [q1] at h4 ⊢
    rw [q1] at h3
    have h5 := h4.abs0
    split
    · exact ⟨trivial, h5, h3.2.2, h3.2.1⟩
    · exact ⟨trivial, h5, h3.2.2, h3.2.1⟩
theorem T_modulo_a {R2 : Int32} {R4 : Int32} {t0_0 : Int32} {t0_1 : Int32} {t1_0 : (Nat → Int32)} {t2_0 : Int32} {t2_1 : Int32} {t3_0 : (Nat → Int32)} {t4_0 : Int32} {t4_1 : Int32} {t5_0 : (Nat → Int32)} {va : Int} {M : Nat} (ha : bO R2 t2_0 t2_1 t3_0 va) (hv : va ≠ 0) (hM : bB M va) (hM2 : (M : Int) + 2 ≤ R4.toInt) (hR4 : R4.toInt ≤ 220) : (S_Mil_modulo_a R2 R4 t0_0 t0_1 t1_0 t2_0 t2_1 t3_0 t4_0 t4_1 t5_0) ∧ P3 220 R2 R4 ((va.natAbs / va.natAbs : Nat) : Int) va 0 (F_Mil_modulo_a R2 R4 t0_0 t0_1 t1_0 t2_0 t2_1 t3_0 t4_0 t4_1 t5_0) := by
  have e := e220
  have hs := ha.sB hM
  unfold S_Mil_modulo_a F_Mil_modulo_a
  have h2 : P1 R4 va (F_Big_copy R4 R2 t4_0 t4_1 t5_0 t2_0 t2_1 t3_0) := W_copy ha (by omega) (by omega)
  generalize (F_Big_copy R4 R2 t4_0 t4_1 t5_0 t2_0 t2_1 t3_0) = p41 at h2 ⊢
  unfold S_Mil_modulo_a_c2 F_Mil_modulo_a_c2
  have hs2 := h2.sB hM
  have h11 : S_Big_divideBy R4 R2 (220 : Int32) (p41.1 : Int32) (p41.2.1 : Int32) (p41.2.2 : (Nat → Int32)) t2_0 t2_1 t3_0 t0_0 t0_1 t1_0 ∧ P3 R4 R2 220 (va.tmod va) va ((va.natAbs / va.natAbs : Nat) : Int) (F_Big_divideBy R4 R2 (220 : Int32) (p41.1 : Int32) (p41.2.1 : Int32) (p41.2.2 : (Nat → Int32)) t2_0 t2_1 t3_0 t0_0 t0_1 t1_0) := W_divideBy h2 ha hv (by omega) (by omega) (by decide)
  refine v_owe h11.1 ?_
  replace h11 := h11.2
  generalize (F_Big_divideBy R4 R2 (220 : Int32) (p41.1 : Int32) (p41.2.1 : Int32) (p41.2.2 : (Nat → Int32)) t2_0 t2_1 t3_0 t0_0 t0_1 t1_0) = p91 at h11 ⊢
  unfold S_Mil_modulo_a_c11 F_Mil_modulo_a_c11
  rw [Int.tmod_self] at h11
  rcases h11.1.sgn with ⟨n1, n2⟩ | ⟨n1, n2⟩
  · rw [if_pos n1, if_pos n1]
    exact ⟨trivial, h11.2.2, h11.2.1, h11.1⟩
  · omega
/-- bits of an exponent -/
theorem v_bit1 {x a : Int32} {k : Nat} (ha : a.toInt = (k : Int)) (hk : k ≤ 31) : (((x.toUInt32 >>> (a.toUInt32 &&& Int32.toUInt32 31)).toInt32) &&& 1 : Int32) = 1 ↔ (x.toBitVec.toNat / 2 ^ k) % 2 = 1 := by
  have h1 := v_ushrN (x := x) ha hk
  generalize ((x.toUInt32 >>> (a.toUInt32 &&& Int32.toUInt32 31)).toInt32) = y at h1 ⊢
  rw [← Int32.toBitVec_inj, ← BitVec.toNat_inj, Int32.toBitVec_and, BitVec.toNat_and, h1]
  show _ &&& 1 = 1 ↔ _
  rw [Nat.and_one_is_mod]
theorem v_natI {x : Int32} (h : 0 ≤ x.toInt) : ((x.toBitVec.toNat : Nat) : Int) = x.toInt := by
  have h1 : x.toInt = x.toBitVec.toInt := rfl
  rw [h1] at h ⊢
  rw [BitVec.toInt_eq_toNat_of_lt]
  have h2 : x.toBitVec.toNat < 2 ^ 32 := x.toBitVec.isLt
  have h3 := BitVec.toInt_eq_toNat_cond x.toBitVec
  split at h3
  · assumption
  · omega
theorem v_halfE {n i : Nat} (h : (n / 2 ^ i) % 2 = 1) : n / 2 ^ i = n / 2 ^ (i + 1) + n / 2 ^ (i + 1) + 1 := by
  rw [Nat.pow_succ, ← Nat.div_div_eq_div_mul]
  omega
theorem v_halfO {n i : Nat} (h : ¬ (n / 2 ^ i) % 2 = 1) : n / 2 ^ i = n / 2 ^ (i + 1) + n / 2 ^ (i + 1) := by
  rw [Nat.pow_succ, ← Nat.div_div_eq_div_mul]
  omega
theorem W_bits {R s n x : Int32} {f : Nat → Int32} {v : Int} (h : bO R s n f v) (hb : (F_Big_bitLength R s n f).toInt ≤ x.toInt) : v.natAbs < 2 ^ x.toInt.toNat := by
  obtain ⟨b, b1, b2, b3, b4⟩ := V_bits (R := R) (neg := n) h.1 h.fit
  rw [h.abs] at b3
  have h1 : v.natAbs < 2 ^ b := by
    apply Int.ofNat_lt.mp
    rw [Int.natCast_pow]
    exact b3
  exact Nat.lt_of_lt_of_le h1 (Nat.pow_le_pow_right (by decide) (by omega))
theorem W_bitsN {R s n x : Int32} {f : Nat → Int32} {v : Int} (h : bO R s n f v) (hb : x.toInt < (F_Big_bitLength R s n f).toInt) : 2 ^ x.toInt.toNat ≤ v.natAbs ∨ x.toInt < 0 := by
  obtain ⟨b, b1, b2, b3, b4⟩ := V_bits (R := R) (neg := n) h.1 h.fit
  by_cases hx : x.toInt < 0
  · exact Or.inr hx
  · left
    have hs : 0 < s.toInt := by
      have h0 := h.s0
      have hcl := q_clI (i := s) rfl h0
      omega
    obtain ⟨b5, b6⟩ := b4 hs
    rw [h.abs] at b6
    have h1 : 2 ^ (b - 1) ≤ v.natAbs := by
      apply Int.ofNat_le.mp
      rw [Int.natCast_pow]
      exact b6
    exact Nat.le_trans (Nat.pow_le_pow_right (by decide) (by omega)) h1
theorem T_powerL {R : Int32} {x3 : Int32} {x4 : Int32} {t0_0 : Int32} {t0_1 : Int32} {t1_0 : (Nat → Int32)} {t2_0 : Int32} {t2_1 : Int32} {t3_0 : (Nat → Int32)} {t4_0 : Int32} {t4_1 : Int32} {t5_0 : (Nat → Int32)} {p40 : (Int32 × Int32 × (Nat → Int32))} {vb : Int} (hb : bO R t4_0 t4_1 t5_0 vb) (hx : 0 ≤ x3.toInt) (hx4 : 1 ≤ x4.toInt) (g1 : ∀ e : Nat, ((2 * e : Nat) : Int) ≤ x3.toInt → (vb ^ e).natAbs < 2 ^ x4.toInt.toNat → ∃ M : Nat, bB M (vb ^ e) ∧ 2 * M ≤ 220) (g2 : ∀ e : Nat, ((e + 1 : Nat) : Int) ≤ x3.toInt → (vb ^ e).natAbs < 2 ^ x4.toInt.toNat → ∃ M : Nat, bB M (vb ^ e) ∧ (M : Int) + t4_0.toInt ≤ 220) : ∀ (n : Nat) (lx61 : Int32) (lx62 : Int32) (lx63 : Int32) (lx64 : (Nat → Int32)) (lx65 : Int32) (lx66 : Int32) (lx67 : (Nat → Int32)), ∀ i : Nat, i ≤ 31 → lx61.toInt = (i : Int) - 1 → i < n → bO 220 lx62 lx63 lx64 (vb ^ (x3.toInt.toNat / 2 ^ i)) → (vb ^ (x3.toInt.toNat / 2 ^ i)).natAbs < 2 ^ x4.toInt.toNat → bI 220 lx65 lx66 lx67 → ∃ v : Int, Pr2 (fun r => (r = 0 ∧ ∃ e : Nat, e ≤ x3.toInt.toNat ∧ 2 ^ x4.toInt.toNat ≤ (vb ^ e).natAbs) ∨ r = 1 ∧ v = vb ^ x3.toInt.toNat ∧ v.natAbs < 2 ^ x4.toInt.toNat) 220 v (F_Mil_power_L16 R x3 x4 t0_0 t0_1 t1_0 t2_0 t2_1 t3_0 t4_0 t4_1 t5_0 p40 n lx61 lx62 lx63 lx64 lx65 lx66 lx67) := by
  have e := e220
  have e0 : (0 : Int32).toInt = 0 := rfl
  intro n
  induction n with
  | zero => intros; omega
  | succ n ih =>
    intro lx61 lx62 lx63 lx64 lx65 lx66 lx67 i hi hl hn hp hv hw
    rw [F_Mil_power_L16.eq_2]
    by_cases hj : lx61 < 0
    · rw [if_pos hj]
      have hj2 := q_ltI hj
      have i0 : i = 0 := by omega
      subst i0
      rw [show x3.toInt.toNat / 2 ^ 0 = x3.toInt.toNat from Nat.div_one _] at hp hv
      exact ⟨_, Or.inr ⟨rfl, rfl, hv⟩, hp⟩
    · rw [if_neg hj]
      have hj2 := q_nltI hj
      obtain ⟨k, rfl⟩ : ∃ k : Nat, i = k + 1 := ⟨i - 1, by omega⟩
      have ek : lx61.toInt = (k : Int) := by omega
      have ej : (lx61 + (-1) : Int32).toInt = (k : Int) - 1 := by
        have := q_addI (b := -1) (y := -1) ek (by decide) (by omega) (by omega)
        rw [this]
        omega
      have xn : x3.toBitVec.toNat = x3.toInt.toNat := by
        have := v_natI hx
        omega
      obtain ⟨a, ea⟩ : ∃ a, a = x3.toInt.toNat := ⟨_, rfl⟩
      have xa : x3.toInt = (a : Int) := by omega
      rw [← ea] at hp hv xn ih ⊢
      have hle : 2 * (a / 2 ^ (k + 1)) ≤ a := by
        rw [Nat.pow_succ, ← Nat.div_div_eq_div_mul]
        have := Nat.div_le_self a (2 ^ k)
        omega
      obtain ⟨M, m1, m2⟩ := g1 _ (by omega) hv
      have s1 := hp.sB m1
      have h33 : P1 220 (vb ^ (a / 2 ^ (k + 1)) * vb ^ (a / 2 ^ (k + 1))) (F_Big_product (220 : Int32) (220 : Int32) (220 : Int32) lx65 lx66 lx67 lx62 lx63 lx64 lx62 lx63 lx64) := W_product hp hp (by decide) (by omega)
      generalize (F_Big_product (220 : Int32) (220 : Int32) (220 : Int32) lx65 lx66 lx67 lx62 lx63 lx64 lx62 lx63 lx64) = p115 at h33 ⊢
      unfold F_Mil_power_c33
      rw [← Int.pow_add] at h33
      by_cases hb1 : F_Big_bitLength 220 p115.1 p115.2.1 p115.2.2 ≤ x4
      · rw [if_pos hb1]
        have b2 := W_bits h33 (q_leI hb1)
        by_cases hbit : (((x3.toUInt32 >>> (lx61.toUInt32 &&& Int32.toUInt32 31)).toInt32) &&& 1 : Int32) = 1
        · rw [if_pos hbit]
          have hb3 := (v_bit1 ek (by omega)).mp hbit
          rw [xn] at hb3
          have hh := v_halfE hb3
          have hle2 := Nat.div_le_self a (2 ^ k)
          obtain ⟨M2, m3, m4⟩ := g2 _ (by omega) b2
          have s2 := h33.sB m3
          have h68 : P1 220 (vb ^ (a / 2 ^ (k + 1) + a / 2 ^ (k + 1)) * vb) (F_Big_product (220 : Int32) (220 : Int32) R lx62 lx63 lx64 (p115.1 : Int32) (p115.2.1 : Int32) (p115.2.2 : (Nat → Int32)) t4_0 t4_1 t5_0) := W_product h33 hb (by decide) (by omega)
          generalize (F_Big_product (220 : Int32) (220 : Int32) R lx62 lx63 lx64 (p115.1 : Int32) (p115.2.1 : Int32) (p115.2.2 : (Nat → Int32)) t4_0 t4_1 t5_0) = p194 at h68 ⊢
          unfold F_Mil_power_c68
          rw [← Int.pow_succ, show (a / 2 ^ (k + 1) + a / 2 ^ (k + 1)).succ = a / 2 ^ k from hh.symm] at h68
          by_cases hb4 : F_Big_bitLength 220 p194.1 p194.2.1 p194.2.2 ≤ x4
          · rw [if_pos hb4]
            exact ih _ _ _ _ _ _ _ k (by omega) ej (by omega) h68 (W_bits h68 (q_leI hb4)) trivial
          · rw [if_neg hb4]
            exact ⟨_, Or.inl ⟨rfl, a / 2 ^ k, Nat.div_le_self _ _, (W_bitsN h68 (q_nleI hb4)).resolve_right (by omega)⟩, h68⟩
        · rw [if_neg hbit]
          have hb3 : ¬ (a / 2 ^ k) % 2 = 1 := by
            intro h9
            rw [← xn] at h9
            exact hbit ((v_bit1 ek (by omega)).mpr h9)
          have hh := v_halfO hb3
          have h82 : P1 220 (vb ^ (a / 2 ^ (k + 1) + a / 2 ^ (k + 1))) (F_Big_copy (220 : Int32) (220 : Int32) lx62 lx63 lx64 (p115.1 : Int32) (p115.2.1 : Int32) (p115.2.2 : (Nat → Int32))) := W_copy h33 h33.fit (by decide)
          generalize (F_Big_copy (220 : Int32) (220 : Int32) lx62 lx63 lx64 (p115.1 : Int32) (p115.2.1 : Int32) (p115.2.2 : (Nat → Int32))) = p156 at h82 ⊢
          unfold F_Mil_power_c82
          rw [← hh] at h82
          by_cases hb4 : F_Big_bitLength 220 p156.1 p156.2.1 p156.2.2 ≤ x4
          · rw [if_pos hb4]
            exact ih _ _ _ _ _ _ _ k (by omega) ej (by omega) h82 (W_bits h82 (q_leI hb4)) trivial
          · rw [if_neg hb4]
            exact ⟨_, Or.inl ⟨rfl, a / 2 ^ k, Nat.div_le_self _ _, (W_bitsN h82 (q_nleI hb4)).resolve_right (by omega)⟩, h82⟩
      · rw [if_neg hb1]
        exact ⟨_, Or.inl ⟨rfl, a / 2 ^ (k + 1) + a / 2 ^ (k + 1), by omega, (W_bitsN h33 (q_nleI hb1)).resolve_right (by omega)⟩, hp⟩

/-! values: Mill's powers -/
theorem v_pB {x : Int} {N : Nat} {v : Int} (hx : x ≤ 31 * (N : Int)) (h : v.natAbs < 2 ^ x.toNat) : bB N v := by
  unfold bB
  have e : (2147483648 : Nat) ^ N = 2 ^ (31 * N) := by rw [Nat.pow_mul]
  rw [e]
  exact Nat.lt_of_lt_of_le h (Nat.pow_le_pow_right (by decide) (by omega))
theorem v_bofn {x : Int32} (hx : 0 ≤ x.toInt) : ∃ b : Nat, (F_Big_bitsOf x).toInt = (b : Int) ∧ b ≤ 31 ∧ x.toInt.toNat < 2 ^ b := by
  by_cases h0 : x.toInt = 0
  · refine ⟨0, ?_, by omega, by omega⟩
    have : x = 0 := Int32.toInt_inj.mp h0
    rw [this]
    rfl
  · obtain ⟨b, b1, b2, b3, b4, b5⟩ := v_bits (x := x) (by omega)
    refine ⟨b, b3, b2, ?_⟩
    apply Int.ofNat_lt.mp
    rw [Int.natCast_pow]
    have : ((x.toInt.toNat : Nat) : Int) = x.toInt := by omega
    rw [this]
    exact b5
/-- a power, whatever keeps its steps small -/
theorem T_powerG {R : Int32} {x3 : Int32} {x4 : Int32} {t0_0 : Int32} {t0_1 : Int32} {t1_0 : (Nat → Int32)} {t2_0 : Int32} {t2_1 : Int32} {t3_0 : (Nat → Int32)} {t4_0 : Int32} {t4_1 : Int32} {t5_0 : (Nat → Int32)} {vb : Int} (hb : bO R t4_0 t4_1 t5_0 vb) (hx : 0 ≤ x3.toInt) (hx4 : 1 ≤ x4.toInt) (hw : bI 220 t2_0 t2_1 t3_0) (g1 : ∀ e : Nat, ((2 * e : Nat) : Int) ≤ x3.toInt → (vb ^ e).natAbs < 2 ^ x4.toInt.toNat → ∃ M : Nat, bB M (vb ^ e) ∧ 2 * M ≤ 220) (g2 : ∀ e : Nat, ((e + 1 : Nat) : Int) ≤ x3.toInt → (vb ^ e).natAbs < 2 ^ x4.toInt.toNat → ∃ M : Nat, bB M (vb ^ e) ∧ (M : Int) + t4_0.toInt ≤ 220) : ∃ v : Int, Pr2 (fun r => (r = 0 ∧ ∃ e : Nat, e ≤ x3.toInt.toNat ∧ 2 ^ x4.toInt.toNat ≤ (vb ^ e).natAbs) ∨ r = 1 ∧ v = vb ^ x3.toInt.toNat ∧ v.natAbs < 2 ^ x4.toInt.toNat) 220 v (F_Mil_power R x3 x4 t0_0 t0_1 t1_0 t2_0 t2_1 t3_0 t4_0 t4_1 t5_0) := by
  unfold F_Mil_power
  have h5 : P1 220 1 (F_Big_setLong (220 : Int32) (1 : Int64) t0_0 t0_1 t1_0) := W_setLong (x := 1) (by decide) (by decide)
  generalize (F_Big_setLong (220 : Int32) (1 : Int64) t0_0 t0_1 t1_0) = p40 at h5 ⊢
  unfold F_Mil_power_c5
  obtain ⟨b, b1, b2, b3⟩ := v_bofn hx
  have k1 : (F_Big_bitsOf x3 - 1 : Int32).toInt = (b : Int) - 1 := q_subI (y := 1) b1 rfl (by omega) (by omega)
  have h0 : x3.toInt.toNat / 2 ^ b = 0 := Nat.div_eq_of_lt b3
  refine T_powerL hb hx hx4 g1 g2 _ _ _ _ _ _ _ _ b b2 k1 (by omega) ?_ ?_ hw
  · rw [h0, Int.pow_zero]
    exact h5
  · rw [h0, Int.pow_zero]
    exact Nat.one_lt_two_pow (by omega)
/-- .. since the bits are bounded -/
theorem T_power {R : Int32} {x3 : Int32} {x4 : Int32} {t0_0 : Int32} {t0_1 : Int32} {t1_0 : (Nat → Int32)} {t2_0 : Int32} {t2_1 : Int32} {t3_0 : (Nat → Int32)} {t4_0 : Int32} {t4_1 : Int32} {t5_0 : (Nat → Int32)} {vb : Int} {N : Nat} (hb : bO R t4_0 t4_1 t5_0 vb) (hx : 0 ≤ x3.toInt) (hx4 : 1 ≤ x4.toInt) (hw : bI 220 t2_0 t2_1 t3_0) (hN : x4.toInt ≤ 31 * (N : Int)) (hN2 : 2 * N ≤ 220) (hN3 : (N : Int) + t4_0.toInt ≤ 220) : ∃ v : Int, Pr2 (fun r => (r = 0 ∧ ∃ e : Nat, e ≤ x3.toInt.toNat ∧ 2 ^ x4.toInt.toNat ≤ (vb ^ e).natAbs) ∨ r = 1 ∧ v = vb ^ x3.toInt.toNat ∧ v.natAbs < 2 ^ x4.toInt.toNat) 220 v (F_Mil_power R x3 x4 t0_0 t0_1 t1_0 t2_0 t2_1 t3_0 t4_0 t4_1 t5_0) := by
  exact T_powerG hb hx hx4 hw (fun e _ h => ⟨N, v_pB hN h, hN2⟩) (fun e _ h => ⟨N, v_pB hN h, hN3⟩)
theorem v_powA {v : Int} {e n : Nat} (hv : v ≠ 0) (h : e ≤ n) : (v ^ e).natAbs ≤ (v ^ n).natAbs := by
  rw [Int.natAbs_pow, Int.natAbs_pow]
  exact Nat.pow_le_pow_right (by omega) h
theorem v_sqrt {a M : Nat} (h : a * a < 2147483648 ^ M) : a < 2147483648 ^ ((M + 1) / 2) := by
  apply Nat.not_le.mp
  intro h2
  have h3 := Nat.mul_le_mul h2 h2
  rw [← Nat.pow_add] at h3
  have h4 : (2147483648 : Nat) ^ M ≤ 2147483648 ^ ((M + 1) / 2 + (M + 1) / 2) := Nat.pow_le_pow_right (by decide) (by omega)
  omega
theorem bO.pS {R s n : Int32} {f : Nat → Int32} {v : Int} {k M : Nat} (h : bO R s n f v) (hs : s.toInt = (k : Int) + 1) (u : Int) (hu : bB (M + 1) (u * v)) : bB (M + 1 - k) u := by
  have h1 := h.1.ge hs
  rw [h.abs] at h1
  have h2 : 2147483648 ^ k ≤ v.natAbs := by
    apply Int.ofNat_le.mp
    rw [Int.natCast_pow]
    exact h1
  unfold bB at *
  rw [Int.natAbs_mul] at hu
  have h3 := Nat.mul_le_mul_left u.natAbs h2
  apply Nat.not_le.mp
  intro h4
  have h5 := Nat.mul_le_mul_right (2147483648 ^ k) h4
  rw [← Nat.pow_add] at h5
  have h6 : (2147483648 : Nat) ^ (M + 1) ≤ 2147483648 ^ (M + 1 - k + k) := Nat.pow_le_pow_right (by decide) (by omega)
  omega
/-- .. since the whole power is small -/
theorem T_powerR {R : Int32} {x3 : Int32} {x4 : Int32} {t0_0 : Int32} {t0_1 : Int32} {t1_0 : (Nat → Int32)} {t2_0 : Int32} {t2_1 : Int32} {t3_0 : (Nat → Int32)} {t4_0 : Int32} {t4_1 : Int32} {t5_0 : (Nat → Int32)} {vb : Int} {M : Nat} (hb : bO R t4_0 t4_1 t5_0 vb) (hv : vb ≠ 0) (hx : 0 ≤ x3.toInt) (hx4 : 1 ≤ x4.toInt) (hw : bI 220 t2_0 t2_1 t3_0) (hM : bB (M + 1) (vb ^ x3.toInt.toNat)) (hM2 : M + 2 ≤ 220) : ∃ v : Int, Pr2 (fun r => (r = 0 ∧ ∃ e : Nat, e ≤ x3.toInt.toNat ∧ 2 ^ x4.toInt.toNat ≤ (vb ^ e).natAbs) ∨ r = 1 ∧ v = vb ^ x3.toInt.toNat ∧ v.natAbs < 2 ^ x4.toInt.toNat) 220 v (F_Mil_power R x3 x4 t0_0 t0_1 t1_0 t2_0 t2_1 t3_0 t4_0 t4_1 t5_0) := by
  refine T_powerG hb hx hx4 hw (fun e he h => ⟨(M + 1 + 1) / 2, ?_, by omega⟩) (fun e he h => ?_)
  · apply v_sqrt
    have h1 := v_powA hv (e := e + e) (n := x3.toInt.toNat) (by omega)
    rw [Int.pow_add, Int.natAbs_mul] at h1
    exact Nat.lt_of_le_of_lt h1 hM
  · have h1 := v_powA hv (e := e + 1) (n := x3.toInt.toNat) (by omega)
    have h2 : bB (M + 1) (vb ^ e * vb) := by
      rw [← Int.pow_succ]
      exact hM.le h1
    have h3 := hb.pos.mpr hv
    obtain ⟨k, hk⟩ : ∃ k : Nat, t4_0.toInt = (k : Int) + 1 := ⟨(t4_0.toInt - 1).toNat, by omega⟩
    have h4 := hb.pS hk _ h2
    have h5 := hb.fit
    by_cases h6 : k ≤ M + 1
    · exact ⟨M + 1 - k, h4, by omega⟩
    · refine ⟨0, ?_, by omega⟩
      have h7 : M + 1 - k = 0 := by omega
      rw [h7] at h4
      exact h4
abbrev bT : Type := Int32 → Int32 → (Nat → Int32) → Prop
abbrev bW (R : Int32) (v : Int) : bT := fun s n f => bO R s n f v
abbrev G1 (a : bT) (p : Int32 × Int32 × (Nat → Int32)) : Prop := a p.1 p.2.1 p.2.2
abbrev G2 (a b : bT) (p : Int32 × Int32 × (Nat → Int32) × Int32 × Int32 × (Nat → Int32)) : Prop := a p.1 p.2.1 p.2.2.1 ∧ G1 b p.2.2.2
abbrev G3 (a b c : bT) (p : Int32 × Int32 × (Nat → Int32) × Int32 × Int32 × (Nat → Int32) × Int32 × Int32 × (Nat → Int32)) : Prop := a p.1 p.2.1 p.2.2.1 ∧ G2 b c p.2.2.2
abbrev G4 (a b c d : bT) (p : Int32 × Int32 × (Nat → Int32) × Int32 × Int32 × (Nat → Int32) × Int32 × Int32 × (Nat → Int32) × Int32 × Int32 × (Nat → Int32)) : Prop := a p.1 p.2.1 p.2.2.1 ∧ G3 b c d p.2.2.2
abbrev G5 (a b c d e : bT) (p : Int32 × Int32 × (Nat → Int32) × Int32 × Int32 × (Nat → Int32) × Int32 × Int32 × (Nat → Int32) × Int32 × Int32 × (Nat → Int32) × Int32 × Int32 × (Nat → Int32)) : Prop := a p.1 p.2.1 p.2.2.1 ∧ G4 b c d e p.2.2.2
abbrev G6 (a b c d e f : bT) (p : Int32 × Int32 × (Nat → Int32) × Int32 × Int32 × (Nat → Int32) × Int32 × Int32 × (Nat → Int32) × Int32 × Int32 × (Nat → Int32) × Int32 × Int32 × (Nat → Int32) × Int32 × Int32 × (Nat → Int32)) : Prop := a p.1 p.2.1 p.2.2.1 ∧ G5 b c d e f p.2.2.2
/-- a number below m -/
abbrev bU (R : Int32) (vm vn : Int) : bT := fun s n f => ∃ v : Int, v.natAbs < vm.natAbs ∧ (0 ≤ vn → 0 ≤ v) ∧ bO R s n f v
theorem bU.B {R s n : Int32} {f : Nat → Int32} {vm vn : Int} {M : Nat} (h : bU R vm vn s n f) (hM : bB M vm) : s.toInt ≤ (M : Int) := by
  obtain ⟨v, h1, h2, h3⟩ := h
  exact h3.sB (hM.le (by omega))
theorem bO.I {R s n : Int32} {f : Nat → Int32} {v : Int} (_ : bO R s n f v) : bI R s n f := trivial
theorem bO.J {R s n : Int32} {f : Nat → Int32} {v : Int} (h : bO R s n f v) : bJ R s n f := ⟨v, h⟩
theorem v_blF {R s n : Int32} {f : Nat → Int32} (h : bJ R s n f) : -1 ≤ (F_Big_bitLength R s n f - 1 : Int32).toInt ∧ (F_Big_bitLength R s n f - 1 : Int32).toInt ≤ 6819 := by
  obtain ⟨ve, he⟩ := h
  obtain ⟨b, b1, b2, b3, b4⟩ := V_bits (R := R) (neg := n) he.1 he.fit
  have hf := he.fit
  have hcl := q_clI rfl he.s0
  have k1 : (F_Big_bitLength R s n f - 1 : Int32).toInt = (b : Int) - 1 := q_subI (y := 1) b1 rfl (by omega) (by omega)
  omega
theorem v_sq0 (v : Int) : 0 ≤ v * v := by
  rw [← Int.natAbs_mul_self]
  exact Int.natCast_nonneg _
theorem v_tmU {u m : Int} (h : m ≠ 0) : (u.tmod m).natAbs < m.natAbs := by
  rw [Int.natAbs_tmod]
  exact Nat.mod_lt _ (by omega)
theorem v_tm0 {u m : Int} (h : 0 ≤ u) : 0 ≤ u.tmod m := Int.tmod_nonneg m h
theorem T_powerBelowL {R : Int32} {R2 : Int32} {t0_0 : Int32} {t0_1 : Int32} {t1_0 : (Nat → Int32)} {t2_0 : Int32} {t2_1 : Int32} {t3_0 : (Nat → Int32)} {t4_0 : Int32} {t4_1 : Int32} {t5_0 : (Nat → Int32)} {t6_0 : Int32} {t6_1 : Int32} {t7_0 : (Nat → Int32)} {t8_0 : Int32} {t8_1 : Int32} {t9_0 : (Nat → Int32)} {t10_0 : Int32} {t10_1 : Int32} {t11_0 : (Nat → Int32)} {p64 : (Int32 × Int32 × (Nat → Int32))} {p111 : (Int32 × Int32 × (Nat → Int32) × Int32 × Int32 × (Nat → Int32) × Int32 × Int32 × (Nat → Int32))} {vn vm : Int} {M : Nat} (hn : bO 220 t0_0 t0_1 t1_0 vn) (hv : vm ≠ 0) (hMn : bB M vn) (hMm : bB M vm) (hM : 2 * M + 2 ≤ 220) : ∀ (n : Nat) (lx139 : Int32) (lx140 : Int32) (lx141 : Int32) (lx142 : (Nat → Int32)) (lx143 : Int32) (lx144 : Int32) (lx145 : (Nat → Int32)) (lx146 : Int32) (lx147 : Int32) (lx148 : (Nat → Int32)) (lx149 : Int32) (lx150 : Int32) (lx151 : (Nat → Int32)), lx139.toInt + 1 < (n : Int) → -1 ≤ lx139.toInt → bI 220 lx140 lx141 lx142 → bU 220 vm vn lx143 lx144 lx145 → bI 220 lx146 lx147 lx148 → bO R2 lx149 lx150 lx151 vm → (S_Mil_powerBelow_L27 R R2 t0_0 t0_1 t1_0 t2_0 t2_1 t3_0 t4_0 t4_1 t5_0 t6_0 t6_1 t7_0 t8_0 t8_1 t9_0 t10_0 t10_1 t11_0 p64 p111 n lx139 lx140 lx141 lx142 lx143 lx144 lx145 lx146 lx147 lx148 lx149 lx150 lx151) ∧ G5 (bU 220 vm vn) (bI 220) (bI 220) (bI 220) (bW R2 vm) (F_Mil_powerBelow_L27 R R2 t0_0 t0_1 t1_0 t2_0 t2_1 t3_0 t4_0 t4_1 t5_0 t6_0 t6_1 t7_0 t8_0 t8_1 t9_0 t10_0 t10_1 t11_0 p64 p111 n lx139 lx140 lx141 lx142 lx143 lx144 lx145 lx146 lx147 lx148 lx149 lx150 lx151) := by
  have e := e220
  have e0 : (0 : Int32).toInt = 0 := rfl
  have sn := hn.sB hMn
  intro n
  induction n with
  | zero => intros; omega
  | succ n ih =>
    intro lx139 lx140 lx141 lx142 lx143 lx144 lx145 lx146 lx147 lx148 lx149 lx150 lx151 hl hl0 hq hp hw hm
    rw [S_Mil_powerBelow_L27.eq_2, F_Mil_powerBelow_L27.eq_2]
    have sp := hp.B hMm
    obtain ⟨v, v1, v2, v3⟩ := hp
    by_cases hj : lx139 < 0
    · rw [if_pos hj, if_pos hj]
      have h122 : P1 220 v (F_Big_copy (220 : Int32) (220 : Int32) t0_0 t0_1 t1_0 lx143 lx144 lx145) := W_copy v3 v3.fit (by decide)
      generalize (F_Big_copy (220 : Int32) (220 : Int32) t0_0 t0_1 t1_0 lx143 lx144 lx145) = p210 at h122 ⊢
      unfold S_Mil_powerBelow_c122 F_Mil_powerBelow_c122
      exact ⟨trivial, ⟨v, v1, v2, h122⟩, hq, trivial, hw, hm⟩
    · rw [if_neg hj, if_neg hj]
      have hj2 := q_nltI hj
      have jt := Int32.toInt_lt lx139
      have ej : (lx139 + (-1) : Int32).toInt = lx139.toInt + (-1) := q_addI (b := -1) (y := -1) rfl (by decide) (by omega) (by omega)
      have h43 : P1 220 (v * v) (F_Big_product (220 : Int32) (220 : Int32) (220 : Int32) lx146 lx147 lx148 lx143 lx144 lx145 lx143 lx144 lx145) := W_product v3 v3 (by decide) (by omega)
      generalize (F_Big_product (220 : Int32) (220 : Int32) (220 : Int32) lx146 lx147 lx148 lx143 lx144 lx145 lx143 lx144 lx145) = p235 at h43 ⊢
      unfold S_Mil_powerBelow_c43 F_Mil_powerBelow_c43
      have s43 := h43.sB ((hMm.le (by omega : v.natAbs ≤ vm.natAbs)).mul (hMm.le (by omega : v.natAbs ≤ vm.natAbs)))
      have h55 : S_Big_divideBy (220 : Int32) R2 (220 : Int32) (p235.1 : Int32) (p235.2.1 : Int32) (p235.2.2 : (Nat → Int32)) lx149 lx150 lx151 lx140 lx141 lx142 ∧ P3 220 R2 220 ((v * v).tmod vm) vm (((v * v).natAbs / vm.natAbs : Nat) : Int) (F_Big_divideBy (220 : Int32) R2 (220 : Int32) (p235.1 : Int32) (p235.2.1 : Int32) (p235.2.2 : (Nat → Int32)) lx149 lx150 lx151 lx140 lx141 lx142) := W_divideBy h43 hm hv (by omega) (by omega) (by decide)
      refine v_owe h55.1 ?_
      replace h55 := h55.2
      generalize (F_Big_divideBy (220 : Int32) R2 (220 : Int32) (p235.1 : Int32) (p235.2.1 : Int32) (p235.2.2 : (Nat → Int32)) lx149 lx150 lx151 lx140 lx141 lx142) = p282 at h55 ⊢
      unfold S_Mil_powerBelow_c55 F_Mil_powerBelow_c55
      have t1 := v_tmU (u := v * v) hv
      have t2 : 0 ≤ (v * v).tmod vm := v_tm0 (v_sq0 v)
      have s55 := h55.1.sB (hMm.le (by omega : ((v * v).tmod vm).natAbs ≤ vm.natAbs))
      generalize (v * v).tmod vm = w at h55 t1 t2 s55
      split
      · have h79 : P1 220 (w * vn) (F_Big_product (220 : Int32) (220 : Int32) (220 : Int32) lx143 lx144 lx145 (p282.1 : Int32) (p282.2.1 : Int32) (p282.2.2.1 : (Nat → Int32)) t0_0 t0_1 t1_0) := W_product h55.1 hn (by decide) (by omega)
        generalize (F_Big_product (220 : Int32) (220 : Int32) (220 : Int32) lx143 lx144 lx145 (p282.1 : Int32) (p282.2.1 : Int32) (p282.2.2.1 : (Nat → Int32)) t0_0 t0_1 t1_0) = p348 at h79 ⊢
        unfold S_Mil_powerBelow_c79 F_Mil_powerBelow_c79
        have s79 := h79.sB ((hMm.le (by omega : w.natAbs ≤ vm.natAbs)).mul hMn)
        have h91 : S_Big_divideBy (220 : Int32) R2 (220 : Int32) (p348.1 : Int32) (p348.2.1 : Int32) (p348.2.2 : (Nat → Int32)) (p282.2.2.2.1 : Int32) (p282.2.2.2.2.1 : Int32) (p282.2.2.2.2.2.1 : (Nat → Int32)) (p282.2.2.2.2.2.2.1 : Int32) (p282.2.2.2.2.2.2.2.1 : Int32) (p282.2.2.2.2.2.2.2.2 : (Nat → Int32)) ∧ P3 220 R2 220 ((w * vn).tmod vm) vm (((w * vn).natAbs / vm.natAbs : Nat) : Int) (F_Big_divideBy (220 : Int32) R2 (220 : Int32) (p348.1 : Int32) (p348.2.1 : Int32) (p348.2.2 : (Nat → Int32)) (p282.2.2.2.1 : Int32) (p282.2.2.2.2.1 : Int32) (p282.2.2.2.2.2.1 : (Nat → Int32)) (p282.2.2.2.2.2.2.1 : Int32) (p282.2.2.2.2.2.2.2.1 : Int32) (p282.2.2.2.2.2.2.2.2 : (Nat → Int32))) := W_divideBy h79 h55.2.1 hv (by omega) (by omega) (by decide)
        refine v_owe h91.1 ?_
        replace h91 := h91.2
        generalize (F_Big_divideBy (220 : Int32) R2 (220 : Int32) (p348.1 : Int32) (p348.2.1 : Int32) (p348.2.2 : (Nat → Int32)) (p282.2.2.2.1 : Int32) (p282.2.2.2.2.1 : Int32) (p282.2.2.2.2.2.1 : (Nat → Int32)) (p282.2.2.2.2.2.2.1 : Int32) (p282.2.2.2.2.2.2.2.1 : Int32) (p282.2.2.2.2.2.2.2.2 : (Nat → Int32))) = p395 at h91 ⊢
        unfold S_Mil_powerBelow_c91 F_Mil_powerBelow_c91
        exact ih _ _ _ _ _ _ _ _ _ _ _ _ _ (by rw [ej]; omega) (by rw [ej]; omega) trivial ⟨_, v_tmU hv, fun h => v_tm0 (Int.mul_nonneg t2 h), h91.1⟩ trivial h91.2.1
      · have h105 : P1 220 w (F_Big_copy (220 : Int32) (220 : Int32) lx143 lx144 lx145 (p282.1 : Int32) (p282.2.1 : Int32) (p282.2.2.1 : (Nat → Int32))) := W_copy h55.1 h55.1.fit (by decide)
        generalize (F_Big_copy (220 : Int32) (220 : Int32) lx143 lx144 lx145 (p282.1 : Int32) (p282.2.1 : Int32) (p282.2.2.1 : (Nat → Int32))) = p321 at h105 ⊢
        unfold S_Mil_powerBelow_c105 F_Mil_powerBelow_c105
        exact ih _ _ _ _ _ _ _ _ _ _ _ _ _ (by rw [ej]; omega) (by rw [ej]; omega) trivial ⟨w, t1, fun _ => t2, h105⟩ trivial h55.2.1
theorem T_powerBelow_aL {R2 : Int32} {t0_0 : Int32} {t0_1 : Int32} {t1_0 : (Nat → Int32)} {t2_0 : Int32} {t2_1 : Int32} {t3_0 : (Nat → Int32)} {t4_0 : Int32} {t4_1 : Int32} {t5_0 : (Nat → Int32)} {t6_0 : Int32} {t6_1 : Int32} {t7_0 : (Nat → Int32)} {t8_0 : Int32} {t8_1 : Int32} {t9_0 : (Nat → Int32)} {p56 : (Int32 × Int32 × (Nat → Int32))} {p101 : (Int32 × Int32 × (Nat → Int32) × Int32 × Int32 × (Nat → Int32) × Int32 × Int32 × (Nat → Int32))} {vn vm : Int} {M : Nat} (hn : bO 220 t0_0 t0_1 t1_0 vn) (hv : vm ≠ 0) (hMn : bB M vn) (hMm : bB M vm) (hM : 2 * M + 2 ≤ 220) : ∀ (n : Nat) (lx129 : Int32) (lx130 : Int32) (lx131 : Int32) (lx132 : (Nat → Int32)) (lx133 : Int32) (lx134 : Int32) (lx135 : (Nat → Int32)) (lx136 : Int32) (lx137 : Int32) (lx138 : (Nat → Int32)) (lx139 : Int32) (lx140 : Int32) (lx141 : (Nat → Int32)), lx129.toInt + 1 < (n : Int) → -1 ≤ lx129.toInt → bI 220 lx130 lx131 lx132 → bU 220 vm vn lx133 lx134 lx135 → bI 220 lx136 lx137 lx138 → bO R2 lx139 lx140 lx141 vm → (S_Mil_powerBelow_a_L27 R2 t0_0 t0_1 t1_0 t2_0 t2_1 t3_0 t4_0 t4_1 t5_0 t6_0 t6_1 t7_0 t8_0 t8_1 t9_0 p56 p101 n lx129 lx130 lx131 lx132 lx133 lx134 lx135 lx136 lx137 lx138 lx139 lx140 lx141) ∧ G5 (bU 220 vm vn) (bI 220) (bI 220) (bI 220) (bW R2 vm) (F_Mil_powerBelow_a_L27 R2 t0_0 t0_1 t1_0 t2_0 t2_1 t3_0 t4_0 t4_1 t5_0 t6_0 t6_1 t7_0 t8_0 t8_1 t9_0 p56 p101 n lx129 lx130 lx131 lx132 lx133 lx134 lx135 lx136 lx137 lx138 lx139 lx140 lx141) := by
  have e := e220
  have e0 : (0 : Int32).toInt = 0 := rfl
  have sn := hn.sB hMn
  intro n
  induction n with
  | zero => intros; omega
  | succ n ih =>
    intro lx129 lx130 lx131 lx132 lx133 lx134 lx135 lx136 lx137 lx138 lx139 lx140 lx141 hl hl0 hq hp hw hm
    rw [S_Mil_powerBelow_a_L27.eq_2, F_Mil_powerBelow_a_L27.eq_2]
    have sp := hp.B hMm
    obtain ⟨v, v1, v2, v3⟩ := hp
    by_cases hj : lx129 < 0
    · rw [if_pos hj, if_pos hj]
      have h122 : P1 220 v (F_Big_copy (220 : Int32) (220 : Int32) t0_0 t0_1 t1_0 lx133 lx134 lx135) := W_copy v3 v3.fit (by decide)
      generalize (F_Big_copy (220 : Int32) (220 : Int32) t0_0 t0_1 t1_0 lx133 lx134 lx135) = p198 at h122 ⊢
      unfold S_Mil_powerBelow_a_c122 F_Mil_powerBelow_a_c122
      exact ⟨trivial, ⟨v, v1, v2, h122⟩, hq, trivial, hw, hm⟩
    · rw [if_neg hj, if_neg hj]
      have hj2 := q_nltI hj
      have jt := Int32.toInt_lt lx129
      have ej : (lx129 + (-1) : Int32).toInt = lx129.toInt + (-1) := q_addI (b := -1) (y := -1) rfl (by decide) (by omega) (by omega)
      have h43 : P1 220 (v * v) (F_Big_product (220 : Int32) (220 : Int32) (220 : Int32) lx136 lx137 lx138 lx133 lx134 lx135 lx133 lx134 lx135) := W_product v3 v3 (by decide) (by omega)
      generalize (F_Big_product (220 : Int32) (220 : Int32) (220 : Int32) lx136 lx137 lx138 lx133 lx134 lx135 lx133 lx134 lx135) = p223 at h43 ⊢
      unfold S_Mil_powerBelow_a_c43 F_Mil_powerBelow_a_c43
      have s43 := h43.sB ((hMm.le (by omega : v.natAbs ≤ vm.natAbs)).mul (hMm.le (by omega : v.natAbs ≤ vm.natAbs)))
      have h55 : S_Big_divideBy (220 : Int32) R2 (220 : Int32) (p223.1 : Int32) (p223.2.1 : Int32) (p223.2.2 : (Nat → Int32)) lx139 lx140 lx141 lx130 lx131 lx132 ∧ P3 220 R2 220 ((v * v).tmod vm) vm (((v * v).natAbs / vm.natAbs : Nat) : Int) (F_Big_divideBy (220 : Int32) R2 (220 : Int32) (p223.1 : Int32) (p223.2.1 : Int32) (p223.2.2 : (Nat → Int32)) lx139 lx140 lx141 lx130 lx131 lx132) := W_divideBy h43 hm hv (by omega) (by omega) (by decide)
      refine v_owe h55.1 ?_
      replace h55 := h55.2
      generalize (F_Big_divideBy (220 : Int32) R2 (220 : Int32) (p223.1 : Int32) (p223.2.1 : Int32) (p223.2.2 : (Nat → Int32)) lx139 lx140 lx141 lx130 lx131 lx132) = p268 at h55 ⊢
      unfold S_Mil_powerBelow_a_c55 F_Mil_powerBelow_a_c55
      have t1 := v_tmU (u := v * v) hv
      have t2 : 0 ≤ (v * v).tmod vm := v_tm0 (v_sq0 v)
      have s55 := h55.1.sB (hMm.le (by omega : ((v * v).tmod vm).natAbs ≤ vm.natAbs))
      generalize (v * v).tmod vm = w at h55 t1 t2 s55
      split
      · have h79 : P1 220 (w * vn) (F_Big_product (220 : Int32) (220 : Int32) (220 : Int32) lx133 lx134 lx135 (p268.1 : Int32) (p268.2.1 : Int32) (p268.2.2.1 : (Nat → Int32)) t0_0 t0_1 t1_0) := W_product h55.1 hn (by decide) (by omega)
        generalize (F_Big_product (220 : Int32) (220 : Int32) (220 : Int32) lx133 lx134 lx135 (p268.1 : Int32) (p268.2.1 : Int32) (p268.2.2.1 : (Nat → Int32)) t0_0 t0_1 t1_0) = p334 at h79 ⊢
        unfold S_Mil_powerBelow_a_c79 F_Mil_powerBelow_a_c79
        have s79 := h79.sB ((hMm.le (by omega : w.natAbs ≤ vm.natAbs)).mul hMn)
        have h91 : S_Big_divideBy (220 : Int32) R2 (220 : Int32) (p334.1 : Int32) (p334.2.1 : Int32) (p334.2.2 : (Nat → Int32)) (p268.2.2.2.1 : Int32) (p268.2.2.2.2.1 : Int32) (p268.2.2.2.2.2.1 : (Nat → Int32)) (p268.2.2.2.2.2.2.1 : Int32) (p268.2.2.2.2.2.2.2.1 : Int32) (p268.2.2.2.2.2.2.2.2 : (Nat → Int32)) ∧ P3 220 R2 220 ((w * vn).tmod vm) vm (((w * vn).natAbs / vm.natAbs : Nat) : Int) (F_Big_divideBy (220 : Int32) R2 (220 : Int32) (p334.1 : Int32) (p334.2.1 : Int32) (p334.2.2 : (Nat → Int32)) (p268.2.2.2.1 : Int32) (p268.2.2.2.2.1 : Int32) (p268.2.2.2.2.2.1 : (Nat → Int32)) (p268.2.2.2.2.2.2.1 : Int32) (p268.2.2.2.2.2.2.2.1 : Int32) (p268.2.2.2.2.2.2.2.2 : (Nat → Int32))) := W_divideBy h79 h55.2.1 hv (by omega) (by omega) (by decide)
        refine v_owe h91.1 ?_
        replace h91 := h91.2
        generalize (F_Big_divideBy (220 : Int32) R2 (220 : Int32) (p334.1 : Int32) (p334.2.1 : Int32) (p334.2.2 : (Nat → Int32)) (p268.2.2.2.1 : Int32) (p268.2.2.2.2.1 : Int32) (p268.2.2.2.2.2.1 : (Nat → Int32)) (p268.2.2.2.2.2.2.1 : Int32) (p268.2.2.2.2.2.2.2.1 : Int32) (p268.2.2.2.2.2.2.2.2 : (Nat → Int32))) = p379 at h91 ⊢
        unfold S_Mil_powerBelow_a_c91 F_Mil_powerBelow_a_c91
        exact ih _ _ _ _ _ _ _ _ _ _ _ _ _ (by rw [ej]; omega) (by rw [ej]; omega) trivial ⟨_, v_tmU hv, fun h => v_tm0 (Int.mul_nonneg t2 h), h91.1⟩ trivial h91.2.1
      · have h105 : P1 220 w (F_Big_copy (220 : Int32) (220 : Int32) lx133 lx134 lx135 (p268.1 : Int32) (p268.2.1 : Int32) (p268.2.2.1 : (Nat → Int32))) := W_copy h55.1 h55.1.fit (by decide)
        generalize (F_Big_copy (220 : Int32) (220 : Int32) lx133 lx134 lx135 (p268.1 : Int32) (p268.2.1 : Int32) (p268.2.2.1 : (Nat → Int32))) = p307 at h105 ⊢
        unfold S_Mil_powerBelow_a_c105 F_Mil_powerBelow_a_c105
        exact ih _ _ _ _ _ _ _ _ _ _ _ _ _ (by rw [ej]; omega) (by rw [ej]; omega) trivial ⟨w, t1, fun _ => t2, h105⟩ trivial h55.2.1
theorem T_powerBelow {R : Int32} {R2 : Int32} {t0_0 : Int32} {t0_1 : Int32} {t1_0 : (Nat → Int32)} {t2_0 : Int32} {t2_1 : Int32} {t3_0 : (Nat → Int32)} {t4_0 : Int32} {t4_1 : Int32} {t5_0 : (Nat → Int32)} {t6_0 : Int32} {t6_1 : Int32} {t7_0 : (Nat → Int32)} {t8_0 : Int32} {t8_1 : Int32} {t9_0 : (Nat → Int32)} {t10_0 : Int32} {t10_1 : Int32} {t11_0 : (Nat → Int32)} {vn vm : Int} {M : Nat} (hn : bO 220 t0_0 t0_1 t1_0 vn) (hw : bI 220 t6_0 t6_1 t7_0) (hm : bO R2 t10_0 t10_1 t11_0 vm) (he : bJ R t8_0 t8_1 t9_0) (hv : vm ≠ 0) (hMn : bB M vn) (hMm : bB M vm) (hM : 2 * M + 2 ≤ 220) : (S_Mil_powerBelow R R2 t0_0 t0_1 t1_0 t2_0 t2_1 t3_0 t4_0 t4_1 t5_0 t6_0 t6_1 t7_0 t8_0 t8_1 t9_0 t10_0 t10_1 t11_0) ∧ G5 (bU 220 vm vn) (bI 220) (bI 220) (bI 220) (bW R2 vm) (F_Mil_powerBelow R R2 t0_0 t0_1 t1_0 t2_0 t2_1 t3_0 t4_0 t4_1 t5_0 t6_0 t6_1 t7_0 t8_0 t8_1 t9_0 t10_0 t10_1 t11_0) := by
  have e := e220
  unfold S_Mil_powerBelow F_Mil_powerBelow
  have h5 : P1 220 1 (F_Big_setLong (220 : Int32) (1 : Int64) t4_0 t4_1 t5_0) := W_setLong (x := 1) (by decide) (by decide)
  generalize (F_Big_setLong (220 : Int32) (1 : Int64) t4_0 t4_1 t5_0) = p64 at h5 ⊢
  unfold S_Mil_powerBelow_c5 F_Mil_powerBelow_c5
  have b1 : bB 1 1 := by
    show 1 < 2147483648 ^ 1
    decide
  have s5 := h5.sB b1
  have h17 : S_Big_divideBy (220 : Int32) R2 (220 : Int32) (p64.1 : Int32) (p64.2.1 : Int32) (p64.2.2 : (Nat → Int32)) t10_0 t10_1 t11_0 t2_0 t2_1 t3_0 ∧ P3 220 R2 220 ((1 : Int).tmod vm) vm (((1 : Int).natAbs / vm.natAbs : Nat) : Int) (F_Big_divideBy (220 : Int32) R2 (220 : Int32) (p64.1 : Int32) (p64.2.1 : Int32) (p64.2.2 : (Nat → Int32)) t10_0 t10_1 t11_0 t2_0 t2_1 t3_0) := W_divideBy h5 hm hv (by omega) (by omega) (by decide)
  refine v_owe h17.1 ?_
  replace h17 := h17.2
  generalize (F_Big_divideBy (220 : Int32) R2 (220 : Int32) (p64.1 : Int32) (p64.2.1 : Int32) (p64.2.2 : (Nat → Int32)) t10_0 t10_1 t11_0 t2_0 t2_1 t3_0) = p111 at h17 ⊢
  unfold S_Mil_powerBelow_c17 F_Mil_powerBelow_c17
  have k1 := v_blF he
  exact T_powerBelowL hn hv hMn hMm hM _ _ _ _ _ _ _ _ _ _ _ _ _ _ (by omega) (by omega) trivial ⟨_, v_tmU hv, fun _ => v_tm0 (by decide), h17.1⟩ hw h17.2.1
theorem T_powerBelow_a {R2 : Int32} {t0_0 : Int32} {t0_1 : Int32} {t1_0 : (Nat → Int32)} {t2_0 : Int32} {t2_1 : Int32} {t3_0 : (Nat → Int32)} {t4_0 : Int32} {t4_1 : Int32} {t5_0 : (Nat → Int32)} {t6_0 : Int32} {t6_1 : Int32} {t7_0 : (Nat → Int32)} {t8_0 : Int32} {t8_1 : Int32} {t9_0 : (Nat → Int32)} {vn vm : Int} {M : Nat} (hn : bO 220 t0_0 t0_1 t1_0 vn) (hw : bI 220 t6_0 t6_1 t7_0) (hm : bO R2 t8_0 t8_1 t9_0 vm)  (hv : vm ≠ 0) (hMn : bB M vn) (hMm : bB M vm) (hM : 2 * M + 2 ≤ 220) : (S_Mil_powerBelow_a R2 t0_0 t0_1 t1_0 t2_0 t2_1 t3_0 t4_0 t4_1 t5_0 t6_0 t6_1 t7_0 t8_0 t8_1 t9_0) ∧ G5 (bU 220 vm vn) (bI 220) (bI 220) (bI 220) (bW R2 vm) (F_Mil_powerBelow_a R2 t0_0 t0_1 t1_0 t2_0 t2_1 t3_0 t4_0 t4_1 t5_0 t6_0 t6_1 t7_0 t8_0 t8_1 t9_0) := by
  have e := e220
  unfold S_Mil_powerBelow_a F_Mil_powerBelow_a
  have h5 : P1 220 1 (F_Big_setLong (220 : Int32) (1 : Int64) t4_0 t4_1 t5_0) := W_setLong (x := 1) (by decide) (by decide)
  generalize (F_Big_setLong (220 : Int32) (1 : Int64) t4_0 t4_1 t5_0) = p56 at h5 ⊢
  unfold S_Mil_powerBelow_a_c5 F_Mil_powerBelow_a_c5
  have b1 : bB 1 1 := by
    show 1 < 2147483648 ^ 1
    decide
  have s5 := h5.sB b1
  have h17 : S_Big_divideBy (220 : Int32) R2 (220 : Int32) (p56.1 : Int32) (p56.2.1 : Int32) (p56.2.2 : (Nat → Int32)) t8_0 t8_1 t9_0 t2_0 t2_1 t3_0 ∧ P3 220 R2 220 ((1 : Int).tmod vm) vm (((1 : Int).natAbs / vm.natAbs : Nat) : Int) (F_Big_divideBy (220 : Int32) R2 (220 : Int32) (p56.1 : Int32) (p56.2.1 : Int32) (p56.2.2 : (Nat → Int32)) t8_0 t8_1 t9_0 t2_0 t2_1 t3_0) := W_divideBy h5 hm hv (by omega) (by omega) (by decide)
  refine v_owe h17.1 ?_
  replace h17 := h17.2
  generalize (F_Big_divideBy (220 : Int32) R2 (220 : Int32) (p56.1 : Int32) (p56.2.1 : Int32) (p56.2.2 : (Nat → Int32)) t8_0 t8_1 t9_0 t2_0 t2_1 t3_0) = p101 at h17 ⊢
  unfold S_Mil_powerBelow_a_c17 F_Mil_powerBelow_a_c17
  have k1 := v_blF h17.2.1.J
  exact T_powerBelow_aL hn hv hMn hMm hM _ _ _ _ _ _ _ _ _ _ _ _ _ _ (by omega) (by omega) trivial ⟨_, v_tmU hv, fun _ => v_tm0 (by decide), h17.1⟩ hw h17.2.1

/-! values: Euclid -/
abbrev bP (R : Int32) (M : Nat) : bT := fun s n f => ∃ v : Int, 0 ≤ v ∧ bB M v ∧ bO R s n f v
theorem v_e1 : (1 : Int32).toInt = 1 := rfl
theorem v_eTT : (10000 : Int32).toInt = 10000 := rfl
theorem T_cdL {R : Int32} {R2 : Int32} {t0_0 : Int32} {t0_1 : Int32} {t1_0 : (Nat → Int32)} {t2_0 : Int32} {t2_1 : Int32} {t3_0 : (Nat → Int32)} {t4_0 : Int32} {t4_1 : Int32} {t5_0 : (Nat → Int32)} {t6_0 : Int32} {t6_1 : Int32} {t7_0 : (Nat → Int32)} {t8_0 : Int32} {t8_1 : Int32} {t9_0 : (Nat → Int32)} {t10_0 : Int32} {t10_1 : Int32} {t11_0 : (Nat → Int32)} {p64 : (Int32 × Int32 × (Nat → Int32))} {y53 : Int32} {y54 : Int32} {f55 : (Nat → Int32)} {p88 : (Int32 × Int32 × (Nat → Int32))} {M : Nat} (hM : M + 2 ≤ 220) : ∀ (n : Nat) (lx109 : Int32) (lx110 : Int32) (lx111 : Int32) (lx112 : (Nat → Int32)) (lx113 : Int32) (lx114 : Int32) (lx115 : (Nat → Int32)) (lx116 : Int32) (lx117 : Int32) (lx118 : (Nat → Int32)), 0 < n → 10000 - lx109.toInt < (n : Int) → 0 ≤ lx109.toInt → lx109.toInt ≤ 10001 → bI 220 lx110 lx111 lx112 → (∃ v, bO 220 lx113 lx114 lx115 v ∧ bB M v) → (∃ w, bO 220 lx116 lx117 lx118 w ∧ bB M w) → (S_Mil_commonDivisor_L25 R R2 t0_0 t0_1 t1_0 t2_0 t2_1 t3_0 t4_0 t4_1 t5_0 t6_0 t6_1 t7_0 t8_0 t8_1 t9_0 t10_0 t10_1 t11_0 p64 y53 y54 f55 p88 n lx109 lx110 lx111 lx112 lx113 lx114 lx115 lx116 lx117 lx118) ∧ G4 (bP 220 M) (bI 220) (bI 220) (bI 220) (F_Mil_commonDivisor_L25 R R2 t0_0 t0_1 t1_0 t2_0 t2_1 t3_0 t4_0 t4_1 t5_0 t6_0 t6_1 t7_0 t8_0 t8_1 t9_0 t10_0 t10_1 t11_0 p64 y53 y54 f55 p88 n lx109 lx110 lx111 lx112 lx113 lx114 lx115 lx116 lx117 lx118) := by
  have e := e220
  have e0 : (0 : Int32).toInt = 0 := rfl
  have eT := v_eTT
  intro n
  induction n with
  | zero => intros; omega
  | succ n ih =>
    intro lx109 lx110 lx111 lx112 lx113 lx114 lx115 lx116 lx117 lx118 hn hl hl0 hl1 hq hv hw
    rw [S_Mil_commonDivisor_L25.eq_2, F_Mil_commonDivisor_L25.eq_2]
    obtain ⟨v, hv, hv2⟩ := hv
    obtain ⟨w, hw, hw2⟩ := hw
    have s1 := hv.sB hv2
    have s2 := hw.sB hw2
    by_cases hj : 10000 ≤ lx109
    · rw [if_pos hj, if_pos hj]
      have h72 : P1 220 v (F_Big_copy (220 : Int32) (220 : Int32) t0_0 t0_1 t1_0 lx113 lx114 lx115) := W_copy hv hv.fit (by decide)
      generalize (F_Big_copy (220 : Int32) (220 : Int32) t0_0 t0_1 t1_0 lx113 lx114 lx115) = p171 at h72 ⊢
      unfold S_Mil_commonDivisor_c72 F_Mil_commonDivisor_c72
      exact ⟨trivial, ⟨_, by omega, hv2.le (by omega), h72.abs0⟩, hq, hv.I, hw.I⟩
    rw [if_neg hj, if_neg hj]
    have hj2 := q_nleI hj
    by_cases hk : lx116 ≤ 0
    · rw [if_pos hk, if_pos hk]
      have h72 : P1 220 v (F_Big_copy (220 : Int32) (220 : Int32) t0_0 t0_1 t1_0 lx113 lx114 lx115) := W_copy hv hv.fit (by decide)
      generalize (F_Big_copy (220 : Int32) (220 : Int32) t0_0 t0_1 t1_0 lx113 lx114 lx115) = p201 at h72 ⊢
      unfold S_Mil_commonDivisor_c72_5 F_Mil_commonDivisor_c72_5
      exact ⟨trivial, ⟨_, by omega, hv2.le (by omega), h72.abs0⟩, hq, hv.I, hw.I⟩
    rw [if_neg hk, if_neg hk]
    have w0 := hw.pos.mp (v_nle0 hk)
    have h48 : S_Big_divideBy (220 : Int32) (220 : Int32) (220 : Int32) lx113 lx114 lx115 lx116 lx117 lx118 lx110 lx111 lx112 ∧ P3 220 220 220 (v.tmod w) w ((v.natAbs / w.natAbs : Nat) : Int) (F_Big_divideBy (220 : Int32) (220 : Int32) (220 : Int32) lx113 lx114 lx115 lx116 lx117 lx118 lx110 lx111 lx112) := W_divideBy hv hw w0 (by omega) (by omega) (by decide)
    refine v_owe h48.1 ?_
    replace h48 := h48.2
    generalize (F_Big_divideBy (220 : Int32) (220 : Int32) (220 : Int32) lx113 lx114 lx115 lx116 lx117 lx118 lx110 lx111 lx112) = p250 at h48 ⊢
    unfold S_Mil_commonDivisor_c48 F_Mil_commonDivisor_c48
    have ej : (lx109 + 1 : Int32).toInt = lx109.toInt + 1 := q_addI rfl v_e1 (by omega) (by omega)
    have m1 : bB M (v.tmod w) := hw2.tmod w0
    have s3 := h48.1.sB m1
    have s4 := h48.2.1.sB hw2
    by_cases hj3 : 10000 ≤ (lx109 + 1 : Int32)
    · rw [if_pos hj3, if_pos hj3]
      have h72 : P1 220 w (F_Big_copy (220 : Int32) (220 : Int32) t0_0 t0_1 t1_0 (p250.2.2.2.1 : Int32) (p250.2.2.2.2.1 : Int32) (p250.2.2.2.2.2.1 : (Nat → Int32))) := W_copy h48.2.1 h48.2.1.fit (by decide)
      generalize (F_Big_copy (220 : Int32) (220 : Int32) t0_0 t0_1 t1_0 (p250.2.2.2.1 : Int32) (p250.2.2.2.2.1 : Int32) (p250.2.2.2.2.2.1 : (Nat → Int32))) = p285 at h72 ⊢
      unfold S_Mil_commonDivisor_c72_7 F_Mil_commonDivisor_c72_7
      exact ⟨trivial, ⟨_, by omega, hw2.le (by omega), h72.abs0⟩, h48.2.2.I, h48.1.I, h48.2.1.I⟩
    rw [if_neg hj3, if_neg hj3]
    have hj4 := q_nleI hj3
    by_cases hk2 : p250.1 ≤ 0
    · rw [if_pos hk2, if_pos hk2]
      have h72 : P1 220 w (F_Big_copy (220 : Int32) (220 : Int32) t0_0 t0_1 t1_0 (p250.2.2.2.1 : Int32) (p250.2.2.2.2.1 : Int32) (p250.2.2.2.2.2.1 : (Nat → Int32))) := W_copy h48.2.1 h48.2.1.fit (by decide)
      generalize (F_Big_copy (220 : Int32) (220 : Int32) t0_0 t0_1 t1_0 (p250.2.2.2.1 : Int32) (p250.2.2.2.2.1 : Int32) (p250.2.2.2.2.2.1 : (Nat → Int32))) = p314 at h72 ⊢
      unfold S_Mil_commonDivisor_c72_8 F_Mil_commonDivisor_c72_8
      exact ⟨trivial, ⟨_, by omega, hw2.le (by omega), h72.abs0⟩, h48.2.2.I, h48.1.I, h48.2.1.I⟩
    rw [if_neg hk2, if_neg hk2]
    have w1 := h48.1.pos.mp (v_nle0 hk2)
    have h49 : S_Big_divideBy (220 : Int32) (220 : Int32) (220 : Int32) (p250.2.2.2.1 : Int32) (p250.2.2.2.2.1 : Int32) (p250.2.2.2.2.2.1 : (Nat → Int32)) (p250.1 : Int32) (p250.2.1 : Int32) (p250.2.2.1 : (Nat → Int32)) (p250.2.2.2.2.2.2.1 : Int32) (p250.2.2.2.2.2.2.2.1 : Int32) (p250.2.2.2.2.2.2.2.2 : (Nat → Int32)) ∧ P3 220 220 220 (w.tmod (v.tmod w)) (v.tmod w) ((w.natAbs / (v.tmod w).natAbs : Nat) : Int) (F_Big_divideBy (220 : Int32) (220 : Int32) (220 : Int32) (p250.2.2.2.1 : Int32) (p250.2.2.2.2.1 : Int32) (p250.2.2.2.2.2.1 : (Nat → Int32)) (p250.1 : Int32) (p250.2.1 : Int32) (p250.2.2.1 : (Nat → Int32)) (p250.2.2.2.2.2.2.1 : Int32) (p250.2.2.2.2.2.2.2.1 : Int32) (p250.2.2.2.2.2.2.2.2 : (Nat → Int32))) := W_divideBy h48.2.1 h48.1 w1 (by omega) (by omega) (by decide)
    refine v_owe h49.1 ?_
    replace h49 := h49.2
    generalize (F_Big_divideBy (220 : Int32) (220 : Int32) (220 : Int32) (p250.2.2.2.1 : Int32) (p250.2.2.2.2.1 : Int32) (p250.2.2.2.2.2.1 : (Nat → Int32)) (p250.1 : Int32) (p250.2.1 : Int32) (p250.2.2.1 : (Nat → Int32)) (p250.2.2.2.2.2.2.1 : Int32) (p250.2.2.2.2.2.2.2.1 : Int32) (p250.2.2.2.2.2.2.2.2 : (Nat → Int32))) = p362 at h49 ⊢
    unfold S_Mil_commonDivisor_c48_9 F_Mil_commonDivisor_c48_9
    have ej2 : (lx109 + 1 + 1 : Int32).toInt = lx109.toInt + 1 + 1 := q_addI ej v_e1 (by omega) (by omega)
    exact ih _ _ _ _ _ _ _ _ _ _ (by omega) (by omega) (by omega) (by omega) h49.2.2.I ⟨_, h49.2.1, m1⟩ ⟨_, h49.1, m1.tmod w1⟩
theorem T_commonDivisor {R : Int32} {R2 : Int32} {t0_0 : Int32} {t0_1 : Int32} {t1_0 : (Nat → Int32)} {t2_0 : Int32} {t2_1 : Int32} {t3_0 : (Nat → Int32)} {t4_0 : Int32} {t4_1 : Int32} {t5_0 : (Nat → Int32)} {t6_0 : Int32} {t6_1 : Int32} {t7_0 : (Nat → Int32)} {t8_0 : Int32} {t8_1 : Int32} {t9_0 : (Nat → Int32)} {t10_0 : Int32} {t10_1 : Int32} {t11_0 : (Nat → Int32)} {va vb : Int} {M : Nat} (hM : M + 2 ≤ 220) (ha : bO R t8_0 t8_1 t9_0 va) (hb : bO R2 t10_0 t10_1 t11_0 vb) (hq : bI 220 t2_0 t2_1 t3_0) (hMa : bB M va) (hMb : bB M vb) : (S_Mil_commonDivisor R R2 t0_0 t0_1 t1_0 t2_0 t2_1 t3_0 t4_0 t4_1 t5_0 t6_0 t6_1 t7_0 t8_0 t8_1 t9_0 t10_0 t10_1 t11_0) ∧ G4 (bP 220 M) (bI 220) (bI 220) (bI 220) (F_Mil_commonDivisor R R2 t0_0 t0_1 t1_0 t2_0 t2_1 t3_0 t4_0 t4_1 t5_0 t6_0 t6_1 t7_0 t8_0 t8_1 t9_0 t10_0 t10_1 t11_0) := by
  unfold S_Mil_commonDivisor F_Mil_commonDivisor
  have h13 : P1 220 va (F_Big_copy (220 : Int32) R t4_0 t4_1 t5_0 t8_0 t8_1 t9_0) := W_copy ha ha.fit (by decide)
  generalize (F_Big_copy (220 : Int32) R t4_0 t4_1 t5_0 t8_0 t8_1 t9_0) = p64 at h13 ⊢
  unfold S_Mil_commonDivisor_c13 F_Mil_commonDivisor_c13
  have h19 : P1 220 vb (F_Big_copy (220 : Int32) R2 t6_0 t6_1 t7_0 t10_0 t10_1 t11_0) := W_copy hb hb.fit (by decide)
  generalize (F_Big_copy (220 : Int32) R2 t6_0 t6_1 t7_0 t10_0 t10_1 t11_0) = p88 at h19 ⊢
  unfold S_Mil_commonDivisor_c19 F_Mil_commonDivisor_c19
  exact T_cdL hM _ _ _ _ _ _ _ _ _ _ _ (by decide) (by decide) (by decide) (by decide) hq ⟨_, h13, hMa⟩ ⟨_, h19, hMb⟩

/-! values: Euclid with factors -/
def bE (h l H L m : Int) : Prop := 0 ≤ l ∧ l < h ∧ h * (L.natAbs : Int) + l * (H.natAbs : Int) = m ∧ (H.natAbs : Int) ≤ m ∧ ((0 ≤ H ∧ L ≤ 0) ∨ (H ≤ 0 ∧ 0 ≤ L))
theorem bE.L {h l H L m : Int} (e : bE h l H L m) : (L.natAbs : Int) ≤ m := by
  obtain ⟨h1, h2, h3, h4, h5⟩ := e
  have h6 : 1 * (L.natAbs : Int) ≤ h * (L.natAbs : Int) := Int.mul_le_mul_of_nonneg_right (by omega) (by omega)
  have h7 : 0 ≤ l * (H.natAbs : Int) := Int.mul_nonneg h1 (by omega)
  omega
theorem v_hqr {h l : Int} (h0 : 0 ≤ h) (l0 : 0 < l) : h = l * ((h.natAbs / l.natAbs : Nat) : Int) + h.tmod l ∧ 0 ≤ h.tmod l ∧ h.tmod l < l := by
  have e1 : h = (h.natAbs : Int) := by omega
  have e2 : l = (l.natAbs : Int) := by omega
  generalize h.natAbs = a at e1 ⊢
  generalize l.natAbs = b at e2 ⊢
  subst e1
  subst e2
  rw [← Int.ofNat_tmod]
  have h1 := Nat.div_add_mod a b
  have h2 := Nat.mod_lt a (y := b) (by omega)
  refine ⟨?_, by omega, by omega⟩
  rw [← Int.natCast_mul]
  omega
theorem v_eucl {h l q r x y m : Int} (e : h = l * q + r) (f : h * y + l * x = m) : l * (x + q * y) + r * y = m := by
  subst e
  rw [Int.add_mul] at f
  rw [Int.mul_add, ← Int.mul_assoc]
  omega
theorem v_le1 {l x m : Int} (hl : 0 < l) (hx : 0 ≤ x) (h : l * x ≤ m) : x ≤ m := by
  have h6 : 1 * x ≤ l * x := Int.mul_le_mul_of_nonneg_right (by omega) hx
  omega
theorem bE.step {h l H L m : Int} (e : bE h l H L m) (l0 : l ≠ 0) : bE l (h.tmod l) L (H - ((h.natAbs / l.natAbs : Nat) : Int) * L) m ∧ ((((h.natAbs / l.natAbs : Nat) : Int) * L).natAbs : Int) ≤ m := by
  have eL := e.L
  obtain ⟨h1, h2, h3, h4, h5⟩ := e
  obtain ⟨k1, k2, k3⟩ := v_hqr (h := h) (l := l) (by omega) (by omega)
  have q0 : 0 ≤ ((h.natAbs / l.natAbs : Nat) : Int) := Int.natCast_nonneg _
  generalize ((h.natAbs / l.natAbs : Nat) : Int) = q at k1 q0 ⊢
  generalize h.tmod l = r at k1 k2 k3 ⊢
  have k4 := v_eucl k1 h3
  have t0 : 0 ≤ q * (L.natAbs : Int) := Int.mul_nonneg q0 (by omega)
  have ry : 0 ≤ r * (L.natAbs : Int) := Int.mul_nonneg k2 (by omega)
  have k5 : ((H.natAbs : Int) + q * (L.natAbs : Int)) ≤ m := v_le1 (l := l) (by omega) (by omega) (by omega)
  have key : ((H - q * L).natAbs : Int) = (H.natAbs : Int) + q * (L.natAbs : Int) ∧ ((q * L).natAbs : Int) = q * (L.natAbs : Int) ∧ ((0 ≤ L ∧ H - q * L ≤ 0) ∨ (L ≤ 0 ∧ 0 ≤ H - q * L)) := by
    rcases h5 with ⟨a, b⟩ | ⟨a, b⟩
    · have eq : q * L = -(q * (L.natAbs : Int)) := by
        rw [← Int.mul_neg]
        congr 1
        omega
      rw [eq]
      generalize q * (L.natAbs : Int) = t at t0 ⊢
      omega
    · have eq : q * L = q * (L.natAbs : Int) := by
        congr 1
        omega
      rw [eq]
      generalize q * (L.natAbs : Int) = t at t0 ⊢
      omega
  obtain ⟨c1, c2, c3⟩ := key
  refine ⟨⟨k2, k3, ?_, eL, c3⟩, ?_⟩
  · rw [c1]
    exact k4
  · rw [c2]
    omega
abbrev G7 (a b c d e f g : bT) (p : Int32 × Int32 × (Nat → Int32) × Int32 × Int32 × (Nat → Int32) × Int32 × Int32 × (Nat → Int32) × Int32 × Int32 × (Nat → Int32) × Int32 × Int32 × (Nat → Int32) × Int32 × Int32 × (Nat → Int32) × Int32 × Int32 × (Nat → Int32)) : Prop := a p.1 p.2.1 p.2.2.1 ∧ G6 b c d e f g p.2.2.2
abbrev G8 (a b c d e f g h : bT) (p : Int32 × Int32 × (Nat → Int32) × Int32 × Int32 × (Nat → Int32) × Int32 × Int32 × (Nat → Int32) × Int32 × Int32 × (Nat → Int32) × Int32 × Int32 × (Nat → Int32) × Int32 × Int32 × (Nat → Int32) × Int32 × Int32 × (Nat → Int32) × Int32 × Int32 × (Nat → Int32)) : Prop := a p.1 p.2.1 p.2.2.1 ∧ G7 b c d e f g h p.2.2.2
theorem v_mU {H m : Int} (hm : 0 < m) : 0 ≤ (if H.tmod m < 0 then H.tmod m + m else H.tmod m) ∧ (if H.tmod m < 0 then H.tmod m + m else H.tmod m).natAbs < m.natAbs := by
  have h := v_tmU (u := H) (m := m) (by omega)
  split <;> omega
theorem bB.i {M : Nat} {u v : Int} (h : bB M v) (hu : (u.natAbs : Int) ≤ v) : bB M u := h.le (by omega)
theorem T_inverseL {R : Int32} {R2 : Int32} {t0_0 : Int32} {t0_1 : Int32} {t1_0 : (Nat → Int32)} {t2_0 : Int32} {t2_1 : Int32} {t3_0 : (Nat → Int32)} {t4_0 : Int32} {t4_1 : Int32} {t5_0 : (Nat → Int32)} {t6_0 : Int32} {t6_1 : Int32} {t7_0 : (Nat → Int32)} {t8_0 : Int32} {t8_1 : Int32} {t9_0 : (Nat → Int32)} {t10_0 : Int32} {t10_1 : Int32} {t11_0 : (Nat → Int32)} {t12_0 : Int32} {t12_1 : Int32} {t13_0 : (Nat → Int32)} {t14_0 : Int32} {t14_1 : Int32} {t15_0 : (Nat → Int32)} {t16_0 : Int32} {t16_1 : Int32} {t17_0 : (Nat → Int32)} {p88 : (Int32 × Int32 × (Nat → Int32))} {y77 : Int32} {y78 : Int32} {f79 : (Nat → Int32)} {p135 : (Int32 × Int32 × (Nat → Int32) × Int32 × Int32 × (Nat → Int32) × Int32 × Int32 × (Nat → Int32))} {y104 : Int32} {y105 : Int32} {f106 : (Nat → Int32)} {y114 : Int32} {y115 : Int32} {f116 : (Nat → Int32)} {y109 : Int32} {y110 : Int32} {f111 : (Nat → Int32)} {p162 : (Int32 × Int32)} {y154 : Int32} {y155 : Int32} {p185 : (Int32 × Int32 × (Nat → Int32))} {vm : Int} {M : Nat} (hm0 : 0 < vm) (hMm : bB M vm) (hM : 2 * M + 2 ≤ 220) (hm : bO R2 y109 y110 f111 vm) : ∀ (n : Nat) (lx215 : Int32) (lx216 : Int32) (lx217 : Int32) (lx218 : (Nat → Int32)) (lx219 : Int32) (lx220 : Int32) (lx221 : (Nat → Int32)) (lx222 : Int32) (lx223 : Int32) (lx224 : (Nat → Int32)) (lx225 : Int32) (lx226 : Int32) (lx227 : (Nat → Int32)) (lx228 : Int32) (lx229 : Int32) (lx230 : (Nat → Int32)) (lx231 : Int32) (lx232 : Int32) (lx233 : (Nat → Int32)), 0 < n → 10000 - lx215.toInt < (n : Int) → 0 ≤ lx215.toInt → lx215.toInt ≤ 10001 → bI 220 lx216 lx217 lx218 → bI 220 lx219 lx220 lx221 → (∃ h l H L, bE h l H L vm ∧ bB M h ∧ bO 220 lx222 lx223 lx224 h ∧ bO 220 lx225 lx226 lx227 l ∧ bO 220 lx228 lx229 lx230 H ∧ bO 220 lx231 lx232 lx233 L) → (S_Mil_inverse_L50 R R2 t0_0 t0_1 t1_0 t2_0 t2_1 t3_0 t4_0 t4_1 t5_0 t6_0 t6_1 t7_0 t8_0 t8_1 t9_0 t10_0 t10_1 t11_0 t12_0 t12_1 t13_0 t14_0 t14_1 t15_0 t16_0 t16_1 t17_0 p88 y77 y78 f79 p135 y104 y105 f106 y114 y115 f116 y109 y110 f111 p162 y154 y155 p185 n lx215 lx216 lx217 lx218 lx219 lx220 lx221 lx222 lx223 lx224 lx225 lx226 lx227 lx228 lx229 lx230 lx231 lx232 lx233) ∧ G8 (bU 220 vm 0) (bI 220) (bI 220) (bI 220) (bI 220) (bI 220) (bI 220) (bW R2 vm) (F_Mil_inverse_L50 R R2 t0_0 t0_1 t1_0 t2_0 t2_1 t3_0 t4_0 t4_1 t5_0 t6_0 t6_1 t7_0 t8_0 t8_1 t9_0 t10_0 t10_1 t11_0 t12_0 t12_1 t13_0 t14_0 t14_1 t15_0 t16_0 t16_1 t17_0 p88 y77 y78 f79 p135 y104 y105 f106 y114 y115 f116 y109 y110 f111 p162 y154 y155 p185 n lx215 lx216 lx217 lx218 lx219 lx220 lx221 lx222 lx223 lx224 lx225 lx226 lx227 lx228 lx229 lx230 lx231 lx232 lx233).2 := by
  have e := e220
  have e0 : (0 : Int32).toInt = 0 := rfl
  have eT := v_eTT
  have sm := hm.sB hMm
  intro n
  induction n with
  | zero => intros; omega
  | succ n ih =>
    intro lx215 lx216 lx217 lx218 lx219 lx220 lx221 lx222 lx223 lx224 lx225 lx226 lx227 lx228 lx229 lx230 lx231 lx232 lx233 hn hl hl0 hl1 hq hw hh
    rw [S_Mil_inverse_L50.eq_2, F_Mil_inverse_L50.eq_2]
    obtain ⟨h, l, H, L, hE, hB, i1, i2, i3, i4⟩ := hh
    have hE0 := hE
    obtain ⟨E1, E2, E3, E4, E5⟩ := hE0
    have EL := hE.L
    have s1 := i1.sB hB
    have s2 := i2.sB (hB.le (by omega : l.natAbs ≤ h.natAbs))
    have s3 := i3.sB (hMm.i E4)
    have s4 := i4.sB (hMm.i EL)
    by_cases hj : 10000 ≤ lx215
    · rw [if_pos hj, if_pos hj]
      have h135 : S_Mil_modulo (220 : Int32) R2 (220 : Int32) lx216 lx217 lx218 lx228 lx229 lx230 y109 y110 f111 t0_0 t0_1 t1_0 ∧ P3 220 R2 220 ((H.natAbs / vm.natAbs : Nat) : Int) vm (if H.tmod vm < 0 then H.tmod vm + vm else H.tmod vm) (F_Mil_modulo (220 : Int32) R2 (220 : Int32) lx216 lx217 lx218 lx228 lx229 lx230 y109 y110 f111 t0_0 t0_1 t1_0) := T_modulo (M := M) i3 hm (by omega) (hMm.i E4) (by omega) (by omega) (by decide)
      refine v_owe h135.1 ?_
      replace h135 := h135.2
      generalize (F_Mil_modulo (220 : Int32) R2 (220 : Int32) lx216 lx217 lx218 lx228 lx229 lx230 y109 y110 f111 t0_0 t0_1 t1_0) = p331 at h135 ⊢
      unfold S_Mil_inverse_c135 F_Mil_inverse_c135
      exact ⟨trivial, ⟨_, (v_mU hm0).2, fun _ => (v_mU hm0).1, h135.2.2⟩, h135.1.I, hw, i1.I, i2.I, i3.I, i4.I, h135.2.1⟩
    rw [if_neg hj, if_neg hj]
    have hj2 := q_nleI hj
    by_cases hk : lx225 ≤ 0
    · rw [if_pos hk, if_pos hk]
      have h135 : S_Mil_modulo (220 : Int32) R2 (220 : Int32) lx216 lx217 lx218 lx228 lx229 lx230 y109 y110 f111 t0_0 t0_1 t1_0 ∧ P3 220 R2 220 ((H.natAbs / vm.natAbs : Nat) : Int) vm (if H.tmod vm < 0 then H.tmod vm + vm else H.tmod vm) (F_Mil_modulo (220 : Int32) R2 (220 : Int32) lx216 lx217 lx218 lx228 lx229 lx230 y109 y110 f111 t0_0 t0_1 t1_0) := T_modulo (M := M) i3 hm (by omega) (hMm.i E4) (by omega) (by omega) (by decide)
      refine v_owe h135.1 ?_
      replace h135 := h135.2
      generalize (F_Mil_modulo (220 : Int32) R2 (220 : Int32) lx216 lx217 lx218 lx228 lx229 lx230 y109 y110 f111 t0_0 t0_1 t1_0) = p396 at h135 ⊢
      unfold S_Mil_inverse_c135_7 F_Mil_inverse_c135_7
      exact ⟨trivial, ⟨_, (v_mU hm0).2, fun _ => (v_mU hm0).1, h135.2.2⟩, h135.1.I, hw, i1.I, i2.I, i3.I, i4.I, h135.2.1⟩
    rw [if_neg hk, if_neg hk]
    have w0 := i2.pos.mp (v_nle0 hk)
    have h73 : S_Big_divideBy (220 : Int32) (220 : Int32) (220 : Int32) lx222 lx223 lx224 lx225 lx226 lx227 lx216 lx217 lx218 ∧ P3 220 220 220 (h.tmod l) l ((h.natAbs / l.natAbs : Nat) : Int) (F_Big_divideBy (220 : Int32) (220 : Int32) (220 : Int32) lx222 lx223 lx224 lx225 lx226 lx227 lx216 lx217 lx218) := W_divideBy i1 i2 w0 (by omega) (by omega) (by decide)
    refine v_owe h73.1 ?_
    replace h73 := h73.2
    generalize (F_Big_divideBy (220 : Int32) (220 : Int32) (220 : Int32) lx222 lx223 lx224 lx225 lx226 lx227 lx216 lx217 lx218) = p457 at h73 ⊢
    unfold S_Mil_inverse_c73 F_Mil_inverse_c73
    obtain ⟨hE2, hqL⟩ := hE.step w0
    have sq := h73.2.2.sB (hB.ndiv (v := l))
    have q0 : 0 ≤ ((h.natAbs / l.natAbs : Nat) : Int) := Int.natCast_nonneg _
    generalize ((h.natAbs / l.natAbs : Nat) : Int) = q at h73 hE2 hqL sq q0
    have hB2 : bB M l := hB.le (by omega)
    have h86 : P1 220 (q * L) (F_Big_product (220 : Int32) (220 : Int32) (220 : Int32) lx219 lx220 lx221 (p457.2.2.2.2.2.2.1 : Int32) (p457.2.2.2.2.2.2.2.1 : Int32) (p457.2.2.2.2.2.2.2.2 : (Nat → Int32)) lx231 lx232 lx233) := W_product h73.2.2 i4 (by decide) (by omega)
    generalize (F_Big_product (220 : Int32) (220 : Int32) (220 : Int32) lx219 lx220 lx221 (p457.2.2.2.2.2.2.1 : Int32) (p457.2.2.2.2.2.2.2.1 : Int32) (p457.2.2.2.2.2.2.2.2 : (Nat → Int32)) lx231 lx232 lx233) = p486 at h86 ⊢
    unfold S_Mil_inverse_c86 F_Mil_inverse_c86
    have s86 := h86.sB (hMm.i hqL)
    have h96 : P1 220 (H - q * L) (F_Big_addSigned (220 : Int32) (220 : Int32) (1 : Int32) lx228 lx229 lx230 (p486.1 : Int32) (p486.2.1 : Int32) (p486.2.2 : (Nat → Int32))) := W_add (x := 1) i3 h86 (Or.inr rfl) (by omega) (by omega)
    generalize (F_Big_addSigned (220 : Int32) (220 : Int32) (1 : Int32) lx228 lx229 lx230 (p486.1 : Int32) (p486.2.1 : Int32) (p486.2.2 : (Nat → Int32))) = p509 at h96 ⊢
    unfold S_Mil_inverse_c96 F_Mil_inverse_c96
    have ej : (lx215 + 1 : Int32).toInt = lx215.toInt + 1 := q_addI rfl v_e1 (by omega) (by omega)
    have hE3 := hE2
    obtain ⟨D1, D2, D3, D4, D5⟩ := hE3
    have DL := hE2.L
    generalize h.tmod l = r at h73 hE2 D1 D2 D3
    generalize H - q * L = L2 at h96 hE2 D3 D5 DL
    have t1 := h73.1.sB (hB2.le (by omega : r.natAbs ≤ l.natAbs))
    have t2 := h73.2.1.sB hB2
    have t4 := h96.sB (hMm.i DL)
    by_cases hj3 : 10000 ≤ (lx215 + 1 : Int32)
    · rw [if_pos hj3, if_pos hj3]
      have h135 : S_Mil_modulo (220 : Int32) R2 (220 : Int32) (p457.2.2.2.2.2.2.1 : Int32) (p457.2.2.2.2.2.2.2.1 : Int32) (p457.2.2.2.2.2.2.2.2 : (Nat → Int32)) lx231 lx232 lx233 y109 y110 f111 t0_0 t0_1 t1_0 ∧ P3 220 R2 220 ((L.natAbs / vm.natAbs : Nat) : Int) vm (if L.tmod vm < 0 then L.tmod vm + vm else L.tmod vm) (F_Mil_modulo (220 : Int32) R2 (220 : Int32) (p457.2.2.2.2.2.2.1 : Int32) (p457.2.2.2.2.2.2.2.1 : Int32) (p457.2.2.2.2.2.2.2.2 : (Nat → Int32)) lx231 lx232 lx233 y109 y110 f111 t0_0 t0_1 t1_0) := T_modulo (M := M) i4 hm (by omega) (hMm.i EL) (by omega) (by omega) (by decide)
      refine v_owe h135.1 ?_
      replace h135 := h135.2
      generalize (F_Mil_modulo (220 : Int32) R2 (220 : Int32) (p457.2.2.2.2.2.2.1 : Int32) (p457.2.2.2.2.2.2.2.1 : Int32) (p457.2.2.2.2.2.2.2.2 : (Nat → Int32)) lx231 lx232 lx233 y109 y110 f111 t0_0 t0_1 t1_0) = p561 at h135 ⊢
      unfold S_Mil_inverse_c135_11 F_Mil_inverse_c135_11
      exact ⟨trivial, ⟨_, (v_mU hm0).2, fun _ => (v_mU hm0).1, h135.2.2⟩, h135.1.I, h86.I, h73.1.I, h73.2.1.I, h96.I, i4.I, h135.2.1⟩
    rw [if_neg hj3, if_neg hj3]
    have hj4 := q_nleI hj3
    by_cases hk2 : p457.1 ≤ 0
    · rw [if_pos hk2, if_pos hk2]
      have h135 : S_Mil_modulo (220 : Int32) R2 (220 : Int32) (p457.2.2.2.2.2.2.1 : Int32) (p457.2.2.2.2.2.2.2.1 : Int32) (p457.2.2.2.2.2.2.2.2 : (Nat → Int32)) lx231 lx232 lx233 y109 y110 f111 t0_0 t0_1 t1_0 ∧ P3 220 R2 220 ((L.natAbs / vm.natAbs : Nat) : Int) vm (if L.tmod vm < 0 then L.tmod vm + vm else L.tmod vm) (F_Mil_modulo (220 : Int32) R2 (220 : Int32) (p457.2.2.2.2.2.2.1 : Int32) (p457.2.2.2.2.2.2.2.1 : Int32) (p457.2.2.2.2.2.2.2.2 : (Nat → Int32)) lx231 lx232 lx233 y109 y110 f111 t0_0 t0_1 t1_0) := T_modulo (M := M) i4 hm (by omega) (hMm.i EL) (by omega) (by omega) (by decide)
      refine v_owe h135.1 ?_
      replace h135 := h135.2
      generalize (F_Mil_modulo (220 : Int32) R2 (220 : Int32) (p457.2.2.2.2.2.2.1 : Int32) (p457.2.2.2.2.2.2.2.1 : Int32) (p457.2.2.2.2.2.2.2.2 : (Nat → Int32)) lx231 lx232 lx233 y109 y110 f111 t0_0 t0_1 t1_0) = p625 at h135 ⊢
      unfold S_Mil_inverse_c135_12 F_Mil_inverse_c135_12
      exact ⟨trivial, ⟨_, (v_mU hm0).2, fun _ => (v_mU hm0).1, h135.2.2⟩, h135.1.I, h86.I, h73.1.I, h73.2.1.I, h96.I, i4.I, h135.2.1⟩
    rw [if_neg hk2, if_neg hk2]
    have w1 := h73.1.pos.mp (v_nle0 hk2)
    have h13 : S_Big_divideBy (220 : Int32) (220 : Int32) (220 : Int32) (p457.2.2.2.1 : Int32) (p457.2.2.2.2.1 : Int32) (p457.2.2.2.2.2.1 : (Nat → Int32)) (p457.1 : Int32) (p457.2.1 : Int32) (p457.2.2.1 : (Nat → Int32)) (p457.2.2.2.2.2.2.1 : Int32) (p457.2.2.2.2.2.2.2.1 : Int32) (p457.2.2.2.2.2.2.2.2 : (Nat → Int32)) ∧ P3 220 220 220 (l.tmod r) r ((l.natAbs / r.natAbs : Nat) : Int) (F_Big_divideBy (220 : Int32) (220 : Int32) (220 : Int32) (p457.2.2.2.1 : Int32) (p457.2.2.2.2.1 : Int32) (p457.2.2.2.2.2.1 : (Nat → Int32)) (p457.1 : Int32) (p457.2.1 : Int32) (p457.2.2.1 : (Nat → Int32)) (p457.2.2.2.2.2.2.1 : Int32) (p457.2.2.2.2.2.2.2.1 : Int32) (p457.2.2.2.2.2.2.2.2 : (Nat → Int32))) := W_divideBy h73.2.1 h73.1 w1 (by omega) (by omega) (by decide)
    refine v_owe h13.1 ?_
    replace h13 := h13.2
    generalize (F_Big_divideBy (220 : Int32) (220 : Int32) (220 : Int32) (p457.2.2.2.1 : Int32) (p457.2.2.2.2.1 : Int32) (p457.2.2.2.2.2.1 : (Nat → Int32)) (p457.1 : Int32) (p457.2.1 : Int32) (p457.2.2.1 : (Nat → Int32)) (p457.2.2.2.2.2.2.1 : Int32) (p457.2.2.2.2.2.2.2.1 : Int32) (p457.2.2.2.2.2.2.2.2 : (Nat → Int32))) = p685 at h13 ⊢
    unfold S_Mil_inverse_c73_13 F_Mil_inverse_c73_13
    obtain ⟨hE4, hqL2⟩ := hE2.step w1
    have sq2 := h13.2.2.sB (hB2.ndiv (v := r))
    have q02 : 0 ≤ ((l.natAbs / r.natAbs : Nat) : Int) := Int.natCast_nonneg _
    generalize ((l.natAbs / r.natAbs : Nat) : Int) = q2 at h13 hE4 hqL2 sq2 q02
    have h14 : P1 220 (q2 * L2) (F_Big_product (220 : Int32) (220 : Int32) (220 : Int32) (p486.1 : Int32) (p486.2.1 : Int32) (p486.2.2 : (Nat → Int32)) (p685.2.2.2.2.2.2.1 : Int32) (p685.2.2.2.2.2.2.2.1 : Int32) (p685.2.2.2.2.2.2.2.2 : (Nat → Int32)) (p509.1 : Int32) (p509.2.1 : Int32) (p509.2.2 : (Nat → Int32))) := W_product h13.2.2 h96 (by decide) (by omega)
    generalize (F_Big_product (220 : Int32) (220 : Int32) (220 : Int32) (p486.1 : Int32) (p486.2.1 : Int32) (p486.2.2 : (Nat → Int32)) (p685.2.2.2.2.2.2.1 : Int32) (p685.2.2.2.2.2.2.2.1 : Int32) (p685.2.2.2.2.2.2.2.2 : (Nat → Int32)) (p509.1 : Int32) (p509.2.1 : Int32) (p509.2.2 : (Nat → Int32))) = p714 at h14 ⊢
    unfold S_Mil_inverse_c86_14 F_Mil_inverse_c86_14
    have s14 := h14.sB (hMm.i hqL2)
    have h15 : P1 220 (L - q2 * L2) (F_Big_addSigned (220 : Int32) (220 : Int32) (1 : Int32) lx231 lx232 lx233 (p714.1 : Int32) (p714.2.1 : Int32) (p714.2.2 : (Nat → Int32))) := W_add (x := 1) i4 h14 (Or.inr rfl) (by omega) (by omega)
    generalize (F_Big_addSigned (220 : Int32) (220 : Int32) (1 : Int32) lx231 lx232 lx233 (p714.1 : Int32) (p714.2.1 : Int32) (p714.2.2 : (Nat → Int32))) = p737 at h15 ⊢
    unfold S_Mil_inverse_c96_15 F_Mil_inverse_c96_15
    have ej2 : (lx215 + 1 + 1 : Int32).toInt = lx215.toInt + 1 + 1 := q_addI ej v_e1 (by omega) (by omega)
    exact ih _ _ _ _ _ _ _ _ _ _ _ _ _ _ _ _ _ _ _ (by omega) (by omega) (by omega) (by omega) h13.2.2.I h14.I ⟨_, _, _, _, hE4, hB2.le (by omega : r.natAbs ≤ l.natAbs), h13.2.1, h13.1, h96, h15⟩
theorem T_inverse_aL {R2 : Int32} {t0_0 : Int32} {t0_1 : Int32} {t1_0 : (Nat → Int32)} {t2_0 : Int32} {t2_1 : Int32} {t3_0 : (Nat → Int32)} {t4_0 : Int32} {t4_1 : Int32} {t5_0 : (Nat → Int32)} {t6_0 : Int32} {t6_1 : Int32} {t7_0 : (Nat → Int32)} {t8_0 : Int32} {t8_1 : Int32} {t9_0 : (Nat → Int32)} {t10_0 : Int32} {t10_1 : Int32} {t11_0 : (Nat → Int32)} {t12_0 : Int32} {t12_1 : Int32} {t13_0 : (Nat → Int32)} {t14_0 : Int32} {t14_1 : Int32} {t15_0 : (Nat → Int32)} {p80 : (Int32 × Int32 × (Nat → Int32))} {y69 : Int32} {y70 : Int32} {f71 : (Nat → Int32)} {p125 : (Int32 × Int32 × (Nat → Int32) × Int32 × Int32 × (Nat → Int32) × Int32 × Int32 × (Nat → Int32))} {y94 : Int32} {y95 : Int32} {f96 : (Nat → Int32)} {y104 : Int32} {y105 : Int32} {f106 : (Nat → Int32)} {y99 : Int32} {y100 : Int32} {f101 : (Nat → Int32)} {p152 : (Int32 × Int32)} {y144 : Int32} {y145 : Int32} {p175 : (Int32 × Int32 × (Nat → Int32))} {vm : Int} {M : Nat} (hm0 : 0 < vm) (hMm : bB M vm) (hM : 2 * M + 2 ≤ 220) (hm : bO R2 y99 y100 f101 vm) : ∀ (n : Nat) (lx205 : Int32) (lx206 : Int32) (lx207 : Int32) (lx208 : (Nat → Int32)) (lx209 : Int32) (lx210 : Int32) (lx211 : (Nat → Int32)) (lx212 : Int32) (lx213 : Int32) (lx214 : (Nat → Int32)) (lx215 : Int32) (lx216 : Int32) (lx217 : (Nat → Int32)) (lx218 : Int32) (lx219 : Int32) (lx220 : (Nat → Int32)) (lx221 : Int32) (lx222 : Int32) (lx223 : (Nat → Int32)), 0 < n → 10000 - lx205.toInt < (n : Int) → 0 ≤ lx205.toInt → lx205.toInt ≤ 10001 → bI 220 lx206 lx207 lx208 → bI 220 lx209 lx210 lx211 → (∃ h l H L, bE h l H L vm ∧ bB M h ∧ bO 220 lx212 lx213 lx214 h ∧ bO 220 lx215 lx216 lx217 l ∧ bO 220 lx218 lx219 lx220 H ∧ bO 220 lx221 lx222 lx223 L) → (S_Mil_inverse_a_L50 R2 t0_0 t0_1 t1_0 t2_0 t2_1 t3_0 t4_0 t4_1 t5_0 t6_0 t6_1 t7_0 t8_0 t8_1 t9_0 t10_0 t10_1 t11_0 t12_0 t12_1 t13_0 t14_0 t14_1 t15_0 p80 y69 y70 f71 p125 y94 y95 f96 y104 y105 f106 y99 y100 f101 p152 y144 y145 p175 n lx205 lx206 lx207 lx208 lx209 lx210 lx211 lx212 lx213 lx214 lx215 lx216 lx217 lx218 lx219 lx220 lx221 lx222 lx223) ∧ G8 (bU 220 vm 0) (bI 220) (bI 220) (bI 220) (bI 220) (bI 220) (bI 220) (bW R2 vm) (F_Mil_inverse_a_L50 R2 t0_0 t0_1 t1_0 t2_0 t2_1 t3_0 t4_0 t4_1 t5_0 t6_0 t6_1 t7_0 t8_0 t8_1 t9_0 t10_0 t10_1 t11_0 t12_0 t12_1 t13_0 t14_0 t14_1 t15_0 p80 y69 y70 f71 p125 y94 y95 f96 y104 y105 f106 y99 y100 f101 p152 y144 y145 p175 n lx205 lx206 lx207 lx208 lx209 lx210 lx211 lx212 lx213 lx214 lx215 lx216 lx217 lx218 lx219 lx220 lx221 lx222 lx223).2 := by
  have e := e220
  have e0 : (0 : Int32).toInt = 0 := rfl
  have eT := v_eTT
  have sm := hm.sB hMm
  intro n
  induction n with
  | zero => intros; omega
  | succ n ih =>
    intro lx205 lx206 lx207 lx208 lx209 lx210 lx211 lx212 lx213 lx214 lx215 lx216 lx217 lx218 lx219 lx220 lx221 lx222 lx223 hn hl hl0 hl1 hq hw hh
    rw [S_Mil_inverse_a_L50.eq_2, F_Mil_inverse_a_L50.eq_2]
    obtain ⟨h, l, H, L, hE, hB, i1, i2, i3, i4⟩ := hh
    have hE0 := hE
    obtain ⟨E1, E2, E3, E4, E5⟩ := hE0
    have EL := hE.L
    have s1 := i1.sB hB
    have s2 := i2.sB (hB.le (by omega : l.natAbs ≤ h.natAbs))
    have s3 := i3.sB (hMm.i E4)
    have s4 := i4.sB (hMm.i EL)
    by_cases hj : 10000 ≤ lx205
    · rw [if_pos hj, if_pos hj]
      have h135 : S_Mil_modulo (220 : Int32) R2 (220 : Int32) lx206 lx207 lx208 lx218 lx219 lx220 y99 y100 f101 t0_0 t0_1 t1_0 ∧ P3 220 R2 220 ((H.natAbs / vm.natAbs : Nat) : Int) vm (if H.tmod vm < 0 then H.tmod vm + vm else H.tmod vm) (F_Mil_modulo (220 : Int32) R2 (220 : Int32) lx206 lx207 lx208 lx218 lx219 lx220 y99 y100 f101 t0_0 t0_1 t1_0) := T_modulo (M := M) i3 hm (by omega) (hMm.i E4) (by omega) (by omega) (by decide)
      refine v_owe h135.1 ?_
      replace h135 := h135.2
      generalize (F_Mil_modulo (220 : Int32) R2 (220 : Int32) lx206 lx207 lx208 lx218 lx219 lx220 y99 y100 f101 t0_0 t0_1 t1_0) = p317 at h135 ⊢
      unfold S_Mil_inverse_a_c135 F_Mil_inverse_a_c135
      exact ⟨trivial, ⟨_, (v_mU hm0).2, fun _ => (v_mU hm0).1, h135.2.2⟩, h135.1.I, hw, i1.I, i2.I, i3.I, i4.I, h135.2.1⟩
    rw [if_neg hj, if_neg hj]
    have hj2 := q_nleI hj
    by_cases hk : lx215 ≤ 0
    · rw [if_pos hk, if_pos hk]
      have h135 : S_Mil_modulo (220 : Int32) R2 (220 : Int32) lx206 lx207 lx208 lx218 lx219 lx220 y99 y100 f101 t0_0 t0_1 t1_0 ∧ P3 220 R2 220 ((H.natAbs / vm.natAbs : Nat) : Int) vm (if H.tmod vm < 0 then H.tmod vm + vm else H.tmod vm) (F_Mil_modulo (220 : Int32) R2 (220 : Int32) lx206 lx207 lx208 lx218 lx219 lx220 y99 y100 f101 t0_0 t0_1 t1_0) := T_modulo (M := M) i3 hm (by omega) (hMm.i E4) (by omega) (by omega) (by decide)
      refine v_owe h135.1 ?_
      replace h135 := h135.2
      generalize (F_Mil_modulo (220 : Int32) R2 (220 : Int32) lx206 lx207 lx208 lx218 lx219 lx220 y99 y100 f101 t0_0 t0_1 t1_0) = p380 at h135 ⊢
      unfold S_Mil_inverse_a_c135_7 F_Mil_inverse_a_c135_7
      exact ⟨trivial, ⟨_, (v_mU hm0).2, fun _ => (v_mU hm0).1, h135.2.2⟩, h135.1.I, hw, i1.I, i2.I, i3.I, i4.I, h135.2.1⟩
    rw [if_neg hk, if_neg hk]
    have w0 := i2.pos.mp (v_nle0 hk)
    have h73 : S_Big_divideBy (220 : Int32) (220 : Int32) (220 : Int32) lx212 lx213 lx214 lx215 lx216 lx217 lx206 lx207 lx208 ∧ P3 220 220 220 (h.tmod l) l ((h.natAbs / l.natAbs : Nat) : Int) (F_Big_divideBy (220 : Int32) (220 : Int32) (220 : Int32) lx212 lx213 lx214 lx215 lx216 lx217 lx206 lx207 lx208) := W_divideBy i1 i2 w0 (by omega) (by omega) (by decide)
    refine v_owe h73.1 ?_
    replace h73 := h73.2
    generalize (F_Big_divideBy (220 : Int32) (220 : Int32) (220 : Int32) lx212 lx213 lx214 lx215 lx216 lx217 lx206 lx207 lx208) = p441 at h73 ⊢
    unfold S_Mil_inverse_a_c73 F_Mil_inverse_a_c73
    obtain ⟨hE2, hqL⟩ := hE.step w0
    have sq := h73.2.2.sB (hB.ndiv (v := l))
    have q0 : 0 ≤ ((h.natAbs / l.natAbs : Nat) : Int) := Int.natCast_nonneg _
    generalize ((h.natAbs / l.natAbs : Nat) : Int) = q at h73 hE2 hqL sq q0
    have hB2 : bB M l := hB.le (by omega)
    have h86 : P1 220 (q * L) (F_Big_product (220 : Int32) (220 : Int32) (220 : Int32) lx209 lx210 lx211 (p441.2.2.2.2.2.2.1 : Int32) (p441.2.2.2.2.2.2.2.1 : Int32) (p441.2.2.2.2.2.2.2.2 : (Nat → Int32)) lx221 lx222 lx223) := W_product h73.2.2 i4 (by decide) (by omega)
    generalize (F_Big_product (220 : Int32) (220 : Int32) (220 : Int32) lx209 lx210 lx211 (p441.2.2.2.2.2.2.1 : Int32) (p441.2.2.2.2.2.2.2.1 : Int32) (p441.2.2.2.2.2.2.2.2 : (Nat → Int32)) lx221 lx222 lx223) = p470 at h86 ⊢
    unfold S_Mil_inverse_a_c86 F_Mil_inverse_a_c86
    have s86 := h86.sB (hMm.i hqL)
    have h96 : P1 220 (H - q * L) (F_Big_addSigned (220 : Int32) (220 : Int32) (1 : Int32) lx218 lx219 lx220 (p470.1 : Int32) (p470.2.1 : Int32) (p470.2.2 : (Nat → Int32))) := W_add (x := 1) i3 h86 (Or.inr rfl) (by omega) (by omega)
    generalize (F_Big_addSigned (220 : Int32) (220 : Int32) (1 : Int32) lx218 lx219 lx220 (p470.1 : Int32) (p470.2.1 : Int32) (p470.2.2 : (Nat → Int32))) = p493 at h96 ⊢
    unfold S_Mil_inverse_a_c96 F_Mil_inverse_a_c96
    have ej : (lx205 + 1 : Int32).toInt = lx205.toInt + 1 := q_addI rfl v_e1 (by omega) (by omega)
    have hE3 := hE2
    obtain ⟨D1, D2, D3, D4, D5⟩ := hE3
    have DL := hE2.L
    generalize h.tmod l = r at h73 hE2 D1 D2 D3
    generalize H - q * L = L2 at h96 hE2 D3 D5 DL
    have t1 := h73.1.sB (hB2.le (by omega : r.natAbs ≤ l.natAbs))
    have t2 := h73.2.1.sB hB2
    have t4 := h96.sB (hMm.i DL)
    by_cases hj3 : 10000 ≤ (lx205 + 1 : Int32)
    · rw [if_pos hj3, if_pos hj3]
      have h135 : S_Mil_modulo (220 : Int32) R2 (220 : Int32) (p441.2.2.2.2.2.2.1 : Int32) (p441.2.2.2.2.2.2.2.1 : Int32) (p441.2.2.2.2.2.2.2.2 : (Nat → Int32)) lx221 lx222 lx223 y99 y100 f101 t0_0 t0_1 t1_0 ∧ P3 220 R2 220 ((L.natAbs / vm.natAbs : Nat) : Int) vm (if L.tmod vm < 0 then L.tmod vm + vm else L.tmod vm) (F_Mil_modulo (220 : Int32) R2 (220 : Int32) (p441.2.2.2.2.2.2.1 : Int32) (p441.2.2.2.2.2.2.2.1 : Int32) (p441.2.2.2.2.2.2.2.2 : (Nat → Int32)) lx221 lx222 lx223 y99 y100 f101 t0_0 t0_1 t1_0) := T_modulo (M := M) i4 hm (by omega) (hMm.i EL) (by omega) (by omega) (by decide)
      refine v_owe h135.1 ?_
      replace h135 := h135.2
      generalize (F_Mil_modulo (220 : Int32) R2 (220 : Int32) (p441.2.2.2.2.2.2.1 : Int32) (p441.2.2.2.2.2.2.2.1 : Int32) (p441.2.2.2.2.2.2.2.2 : (Nat → Int32)) lx221 lx222 lx223 y99 y100 f101 t0_0 t0_1 t1_0) = p543 at h135 ⊢
      unfold S_Mil_inverse_a_c135_11 F_Mil_inverse_a_c135_11
      exact ⟨trivial, ⟨_, (v_mU hm0).2, fun _ => (v_mU hm0).1, h135.2.2⟩, h135.1.I, h86.I, h73.1.I, h73.2.1.I, h96.I, i4.I, h135.2.1⟩
    rw [if_neg hj3, if_neg hj3]
    have hj4 := q_nleI hj3
    by_cases hk2 : p441.1 ≤ 0
    · rw [if_pos hk2, if_pos hk2]
      have h135 : S_Mil_modulo (220 : Int32) R2 (220 : Int32) (p441.2.2.2.2.2.2.1 : Int32) (p441.2.2.2.2.2.2.2.1 : Int32) (p441.2.2.2.2.2.2.2.2 : (Nat → Int32)) lx221 lx222 lx223 y99 y100 f101 t0_0 t0_1 t1_0 ∧ P3 220 R2 220 ((L.natAbs / vm.natAbs : Nat) : Int) vm (if L.tmod vm < 0 then L.tmod vm + vm else L.tmod vm) (F_Mil_modulo (220 : Int32) R2 (220 : Int32) (p441.2.2.2.2.2.2.1 : Int32) (p441.2.2.2.2.2.2.2.1 : Int32) (p441.2.2.2.2.2.2.2.2 : (Nat → Int32)) lx221 lx222 lx223 y99 y100 f101 t0_0 t0_1 t1_0) := T_modulo (M := M) i4 hm (by omega) (hMm.i EL) (by omega) (by omega) (by decide)
      refine v_owe h135.1 ?_
      replace h135 := h135.2
      generalize (F_Mil_modulo (220 : Int32) R2 (220 : Int32) (p441.2.2.2.2.2.2.1 : Int32) (p441.2.2.2.2.2.2.2.1 : Int32) (p441.2.2.2.2.2.2.2.2 : (Nat → Int32)) lx221 lx222 lx223 y99 y100 f101 t0_0 t0_1 t1_0) = p605 at h135 ⊢
      unfold S_Mil_inverse_a_c135_12 F_Mil_inverse_a_c135_12
      exact ⟨trivial, ⟨_, (v_mU hm0).2, fun _ => (v_mU hm0).1, h135.2.2⟩, h135.1.I, h86.I, h73.1.I, h73.2.1.I, h96.I, i4.I, h135.2.1⟩
    rw [if_neg hk2, if_neg hk2]
    have w1 := h73.1.pos.mp (v_nle0 hk2)
    have h13 : S_Big_divideBy (220 : Int32) (220 : Int32) (220 : Int32) (p441.2.2.2.1 : Int32) (p441.2.2.2.2.1 : Int32) (p441.2.2.2.2.2.1 : (Nat → Int32)) (p441.1 : Int32) (p441.2.1 : Int32) (p441.2.2.1 : (Nat → Int32)) (p441.2.2.2.2.2.2.1 : Int32) (p441.2.2.2.2.2.2.2.1 : Int32) (p441.2.2.2.2.2.2.2.2 : (Nat → Int32)) ∧ P3 220 220 220 (l.tmod r) r ((l.natAbs / r.natAbs : Nat) : Int) (F_Big_divideBy (220 : Int32) (220 : Int32) (220 : Int32) (p441.2.2.2.1 : Int32) (p441.2.2.2.2.1 : Int32) (p441.2.2.2.2.2.1 : (Nat → Int32)) (p441.1 : Int32) (p441.2.1 : Int32) (p441.2.2.1 : (Nat → Int32)) (p441.2.2.2.2.2.2.1 : Int32) (p441.2.2.2.2.2.2.2.1 : Int32) (p441.2.2.2.2.2.2.2.2 : (Nat → Int32))) := W_divideBy h73.2.1 h73.1 w1 (by omega) (by omega) (by decide)
    refine v_owe h13.1 ?_
    replace h13 := h13.2
    generalize (F_Big_divideBy (220 : Int32) (220 : Int32) (220 : Int32) (p441.2.2.2.1 : Int32) (p441.2.2.2.2.1 : Int32) (p441.2.2.2.2.2.1 : (Nat → Int32)) (p441.1 : Int32) (p441.2.1 : Int32) (p441.2.2.1 : (Nat → Int32)) (p441.2.2.2.2.2.2.1 : Int32) (p441.2.2.2.2.2.2.2.1 : Int32) (p441.2.2.2.2.2.2.2.2 : (Nat → Int32))) = p665 at h13 ⊢
    unfold S_Mil_inverse_a_c73_13 F_Mil_inverse_a_c73_13
    obtain ⟨hE4, hqL2⟩ := hE2.step w1
    have sq2 := h13.2.2.sB (hB2.ndiv (v := r))
    have q02 : 0 ≤ ((l.natAbs / r.natAbs : Nat) : Int) := Int.natCast_nonneg _
    generalize ((l.natAbs / r.natAbs : Nat) : Int) = q2 at h13 hE4 hqL2 sq2 q02
    have h14 : P1 220 (q2 * L2) (F_Big_product (220 : Int32) (220 : Int32) (220 : Int32) (p470.1 : Int32) (p470.2.1 : Int32) (p470.2.2 : (Nat → Int32)) (p665.2.2.2.2.2.2.1 : Int32) (p665.2.2.2.2.2.2.2.1 : Int32) (p665.2.2.2.2.2.2.2.2 : (Nat → Int32)) (p493.1 : Int32) (p493.2.1 : Int32) (p493.2.2 : (Nat → Int32))) := W_product h13.2.2 h96 (by decide) (by omega)
    generalize (F_Big_product (220 : Int32) (220 : Int32) (220 : Int32) (p470.1 : Int32) (p470.2.1 : Int32) (p470.2.2 : (Nat → Int32)) (p665.2.2.2.2.2.2.1 : Int32) (p665.2.2.2.2.2.2.2.1 : Int32) (p665.2.2.2.2.2.2.2.2 : (Nat → Int32)) (p493.1 : Int32) (p493.2.1 : Int32) (p493.2.2 : (Nat → Int32))) = p694 at h14 ⊢
    unfold S_Mil_inverse_a_c86_14 F_Mil_inverse_a_c86_14
    have s14 := h14.sB (hMm.i hqL2)
    have h15 : P1 220 (L - q2 * L2) (F_Big_addSigned (220 : Int32) (220 : Int32) (1 : Int32) lx221 lx222 lx223 (p694.1 : Int32) (p694.2.1 : Int32) (p694.2.2 : (Nat → Int32))) := W_add (x := 1) i4 h14 (Or.inr rfl) (by omega) (by omega)
    generalize (F_Big_addSigned (220 : Int32) (220 : Int32) (1 : Int32) lx221 lx222 lx223 (p694.1 : Int32) (p694.2.1 : Int32) (p694.2.2 : (Nat → Int32))) = p717 at h15 ⊢
    unfold S_Mil_inverse_a_c96_15 F_Mil_inverse_a_c96_15
    have ej2 : (lx205 + 1 + 1 : Int32).toInt = lx205.toInt + 1 + 1 := q_addI ej v_e1 (by omega) (by omega)
    exact ih _ _ _ _ _ _ _ _ _ _ _ _ _ _ _ _ _ _ _ (by omega) (by omega) (by omega) (by omega) h13.2.2.I h14.I ⟨_, _, _, _, hE4, hB2.le (by omega : r.natAbs ≤ l.natAbs), h13.2.1, h13.1, h96, h15⟩
theorem v_one : bB 1 1 := by
  show 1 < 2147483648 ^ 1
  decide
theorem bE.ini {l m : Int} (h0 : 0 ≤ l) (h1 : l < m) : bE m l 0 1 m := by
  refine ⟨h0, h1, ?_, ?_, Or.inr ⟨Int.le_refl _, by decide⟩⟩
  · show m * 1 + l * 0 = m
    omega
  · show (0 : Int) ≤ m
    omega
theorem T_inverse {R : Int32} {R2 : Int32} {t0_0 : Int32} {t0_1 : Int32} {t1_0 : (Nat → Int32)} {t2_0 : Int32} {t2_1 : Int32} {t3_0 : (Nat → Int32)} {t4_0 : Int32} {t4_1 : Int32} {t5_0 : (Nat → Int32)} {t6_0 : Int32} {t6_1 : Int32} {t7_0 : (Nat → Int32)} {t8_0 : Int32} {t8_1 : Int32} {t9_0 : (Nat → Int32)} {t10_0 : Int32} {t10_1 : Int32} {t11_0 : (Nat → Int32)} {t12_0 : Int32} {t12_1 : Int32} {t13_0 : (Nat → Int32)} {t14_0 : Int32} {t14_1 : Int32} {t15_0 : (Nat → Int32)} {t16_0 : Int32} {t16_1 : Int32} {t17_0 : (Nat → Int32)} {va vm : Int} {M : Nat} (ha : bO R t14_0 t14_1 t15_0 va) (hm : bO R2 t16_0 t16_1 t17_0 vm) (hm0 : 0 < vm) (hMa : bB M va) (hMm : bB M vm) (hM : 2 * M + 2 ≤ 220) (hw : bI 220 t4_0 t4_1 t5_0) : (S_Mil_inverse R R2 t0_0 t0_1 t1_0 t2_0 t2_1 t3_0 t4_0 t4_1 t5_0 t6_0 t6_1 t7_0 t8_0 t8_1 t9_0 t10_0 t10_1 t11_0 t12_0 t12_1 t13_0 t14_0 t14_1 t15_0 t16_0 t16_1 t17_0) ∧ G8 (bU 220 vm 0) (bI 220) (bI 220) (bI 220) (bI 220) (bI 220) (bI 220) (bW R2 vm) (F_Mil_inverse R R2 t0_0 t0_1 t1_0 t2_0 t2_1 t3_0 t4_0 t4_1 t5_0 t6_0 t6_1 t7_0 t8_0 t8_1 t9_0 t10_0 t10_1 t11_0 t12_0 t12_1 t13_0 t14_0 t14_1 t15_0 t16_0 t16_1 t17_0).2 := by
  have e := e220
  have sm := hm.sB hMm
  unfold S_Mil_inverse F_Mil_inverse
  have h25 : P1 220 vm (F_Big_copy (220 : Int32) R2 t6_0 t6_1 t7_0 t16_0 t16_1 t17_0) := W_copy hm hm.fit (by decide)
  generalize (F_Big_copy (220 : Int32) R2 t6_0 t6_1 t7_0 t16_0 t16_1 t17_0) = p88 at h25 ⊢
  unfold S_Mil_inverse_c25 F_Mil_inverse_c25
  have h33 : S_Mil_modulo R R2 (220 : Int32) t2_0 t2_1 t3_0 t14_0 t14_1 t15_0 t16_0 t16_1 t17_0 t8_0 t8_1 t9_0 ∧ P3 220 R2 220 ((va.natAbs / vm.natAbs : Nat) : Int) vm (if va.tmod vm < 0 then va.tmod vm + vm else va.tmod vm) (F_Mil_modulo R R2 (220 : Int32) t2_0 t2_1 t3_0 t14_0 t14_1 t15_0 t16_0 t16_1 t17_0 t8_0 t8_1 t9_0) := T_modulo (M := M) ha hm (by omega) hMa (by omega) (by omega) (by decide)
  refine v_owe h33.1 ?_
  replace h33 := h33.2
  generalize (F_Mil_modulo R R2 (220 : Int32) t2_0 t2_1 t3_0 t14_0 t14_1 t15_0 t16_0 t16_1 t17_0 t8_0 t8_1 t9_0) = p135 at h33 ⊢
  unfold S_Mil_inverse_c33 F_Mil_inverse_c33
  have hl := v_mU (H := va) hm0
  generalize (if va.tmod vm < 0 then va.tmod vm + vm else va.tmod vm) = l at h33 hl
  have h38 : (fun p => bO 220 p.1 p.2 t11_0 0) (F_Big_clear (220 : Int32) t10_0 t10_1) := W_clear (by decide) (by decide)
  generalize (F_Big_clear (220 : Int32) t10_0 t10_1) = p162 at h38 ⊢
  unfold S_Mil_inverse_c38 F_Mil_inverse_c38
  have h44 : P1 220 1 (F_Big_setLong (220 : Int32) (1 : Int64) t12_0 t12_1 t13_0) := W_setLong (x := 1) (by decide) (by decide)
  generalize (F_Big_setLong (220 : Int32) (1 : Int64) t12_0 t12_1 t13_0) = p185 at h44 ⊢
  unfold S_Mil_inverse_c44 F_Mil_inverse_c44
  exact T_inverseL hm0 hMm hM h33.2.1 _ _ _ _ _ _ _ _ _ _ _ _ _ _ _ _ _ _ _ _ (by decide) (by decide) (by decide) (by decide) h33.1.I hw ⟨_, _, _, _, bE.ini hl.1 (by omega), hMm, h25, h33.2.2, h38, h44⟩
theorem T_inverse_a {R2 : Int32} {t0_0 : Int32} {t0_1 : Int32} {t1_0 : (Nat → Int32)} {t2_0 : Int32} {t2_1 : Int32} {t3_0 : (Nat → Int32)} {t4_0 : Int32} {t4_1 : Int32} {t5_0 : (Nat → Int32)} {t6_0 : Int32} {t6_1 : Int32} {t7_0 : (Nat → Int32)} {t8_0 : Int32} {t8_1 : Int32} {t9_0 : (Nat → Int32)} {t10_0 : Int32} {t10_1 : Int32} {t11_0 : (Nat → Int32)} {t12_0 : Int32} {t12_1 : Int32} {t13_0 : (Nat → Int32)} {t14_0 : Int32} {t14_1 : Int32} {t15_0 : (Nat → Int32)} {vm : Int} {M : Nat} (hm : bO R2 t14_0 t14_1 t15_0 vm) (hm0 : 0 < vm) (hMm : bB M vm) (hM : 2 * M + 2 ≤ 220) (hw : bI 220 t4_0 t4_1 t5_0) : (S_Mil_inverse_a R2 t0_0 t0_1 t1_0 t2_0 t2_1 t3_0 t4_0 t4_1 t5_0 t6_0 t6_1 t7_0 t8_0 t8_1 t9_0 t10_0 t10_1 t11_0 t12_0 t12_1 t13_0 t14_0 t14_1 t15_0) ∧ G8 (bU 220 vm 0) (bI 220) (bI 220) (bI 220) (bI 220) (bI 220) (bI 220) (bW R2 vm) (F_Mil_inverse_a R2 t0_0 t0_1 t1_0 t2_0 t2_1 t3_0 t4_0 t4_1 t5_0 t6_0 t6_1 t7_0 t8_0 t8_1 t9_0 t10_0 t10_1 t11_0 t12_0 t12_1 t13_0 t14_0 t14_1 t15_0).2 := by
  have e := e220
  have sm := hm.sB hMm
  unfold S_Mil_inverse_a F_Mil_inverse_a
  have h25 : P1 220 vm (F_Big_copy (220 : Int32) R2 t6_0 t6_1 t7_0 t14_0 t14_1 t15_0) := W_copy hm hm.fit (by decide)
  generalize (F_Big_copy (220 : Int32) R2 t6_0 t6_1 t7_0 t14_0 t14_1 t15_0) = p80 at h25 ⊢
  unfold S_Mil_inverse_a_c25 F_Mil_inverse_a_c25
  have h33 : S_Mil_modulo_a R2 (220 : Int32) t2_0 t2_1 t3_0 t14_0 t14_1 t15_0 t8_0 t8_1 t9_0 ∧ P3 220 R2 220 ((vm.natAbs / vm.natAbs : Nat) : Int) vm 0 (F_Mil_modulo_a R2 (220 : Int32) t2_0 t2_1 t3_0 t14_0 t14_1 t15_0 t8_0 t8_1 t9_0) := T_modulo_a (M := M) hm (by omega) hMm (by omega) (by decide)
  refine v_owe h33.1 ?_
  replace h33 := h33.2
  generalize (F_Mil_modulo_a R2 (220 : Int32) t2_0 t2_1 t3_0 t14_0 t14_1 t15_0 t8_0 t8_1 t9_0) = p125 at h33 ⊢
  unfold S_Mil_inverse_a_c33 F_Mil_inverse_a_c33
  have h38 : (fun p => bO 220 p.1 p.2 t11_0 0) (F_Big_clear (220 : Int32) t10_0 t10_1) := W_clear (by decide) (by decide)
  generalize (F_Big_clear (220 : Int32) t10_0 t10_1) = p152 at h38 ⊢
  unfold S_Mil_inverse_a_c38 F_Mil_inverse_a_c38
  have h44 : P1 220 1 (F_Big_setLong (220 : Int32) (1 : Int64) t12_0 t12_1 t13_0) := W_setLong (x := 1) (by decide) (by decide)
  generalize (F_Big_setLong (220 : Int32) (1 : Int64) t12_0 t12_1 t13_0) = p175 at h44 ⊢
  unfold S_Mil_inverse_a_c44 F_Mil_inverse_a_c44
  exact T_inverse_aL hm0 hMm hM h33.2.1 _ _ _ _ _ _ _ _ _ _ _ _ _ _ _ _ _ _ _ _ (by decide) (by decide) (by decide) (by decide) h33.1.I hw ⟨_, _, _, _, bE.ini (Int.le_refl 0) hm0, hMm, h25, h33.2.2, h38, h44⟩

/-! values: shifts, small factors, counting figures -/
theorem W_shl {R x s neg : Int32} {f : Nat → Int32} {v : Int} (h : bO R s neg f v) (hfit : 0 < s.toInt → 0 < x.toInt → s.toInt + x.toInt / 31 + 1 ≤ R.toInt) : P1 R (v * 2 ^ x.toNatClampNeg) (F_Big_shiftLeft R x s neg f) := by
  have e0 : (0 : Int32).toInt = 0 := rfl
  by_cases hx : x.toInt ≤ 0
  · have hz : x.toNatClampNeg = 0 := by
      show x.toInt.toNat = 0
      omega
    unfold F_Big_shiftLeft
    rw [if_pos (Int32.le_iff_toInt_le.mpr (by rw [e0]; exact hx)), hz, Int.pow_zero, Int.mul_one]
    exact h
  · by_cases hs : s = 0
    · unfold F_Big_shiftLeft
      rw [if_neg (fun hh => by have := q_leI hh; omega), if_pos hs, h.nil.mp hs, Int.zero_mul]
      have := h
      rw [h.nil.mp hs] at this
      exact this
    · have hs2 : 0 < s.toInt := by
        have h1 : s.toInt ≠ (0 : Int32).toInt := fun h9 => hs (Int32.toInt_inj.mp h9)
        have h2 := h.s0
        omega
      have hx2 : 0 < x.toInt := by omega
      obtain ⟨z, g, c1, c2, c3, c4⟩ := V_shlB (R := R) (x := x) (neg := neg) h.1 hx2 hs2 h.2.2.2.2 (hfit hs2 hx2)
      rw [c1]
      have hf := hfit hs2 hx2
      refine bO.mkI c3 h.sg ?_ (by show z.toInt ≤ _; omega) h.2.2.2.2
      have h3 := h.2.2.1
      unfold bS at h3 ⊢
      rw [c4]
      split at h3
      · rename_i hn
        rw [if_pos hn, h3]
      · rename_i hn
        rw [if_neg hn, ← h3, Int.neg_mul]
theorem W_shr {R x s neg : Int32} {f : Nat → Int32} {v : Int} (h : bO R s neg f v) : ∃ w : Int, w.natAbs ≤ v.natAbs ∧ bO R (F_Big_shiftRight R x s neg f).2.1 (F_Big_shiftRight R x s neg f).2.2.1 (F_Big_shiftRight R x s neg f).2.2.2 w := by
  have e0 : (0 : Int32).toInt = 0 := rfl
  by_cases hx : x.toInt ≤ 0
  · unfold F_Big_shiftRight
    rw [if_pos (Int32.le_iff_toInt_le.mpr (by rw [e0]; exact hx))]
    exact ⟨v, Nat.le_refl _, h⟩
  · by_cases hs : s = 0
    · unfold F_Big_shiftRight
      rw [if_neg (fun hh => by have := q_leI hh; omega), if_pos hs]
      exact ⟨v, Nat.le_refl _, h⟩
    · have hs2 : 0 < s.toInt := by
        have h1 : s.toInt ≠ (0 : Int32).toInt := fun h9 => hs (Int32.toInt_inj.mp h9)
        have h2 := h.s0
        omega
      have hx2 : 0 < x.toInt := by omega
      obtain ⟨lost, z, g, c1, c2, c3, c4⟩ := V_shrB (R := R) (x := x) (neg := neg) h.1 hx2 hs2 h.fit
      rw [c1]
      have hR := h.2.2.2.1
      refine ⟨_, ?_, bO.mkI c3 h.sg rfl (by show z.toInt ≤ _; omega) h.2.2.2.2⟩
      have h4 : (bS neg z g).natAbs = (bV z g).natAbs := by
        unfold bS
        split
        · rfl
        · rw [Int.natAbs_neg]
      rw [h4, c4, h.abs]
      have : ((2 : Int) ^ x.toNatClampNeg) = ((2 ^ x.toNatClampNeg : Nat) : Int) := by rw [Int.natCast_pow]; rfl
      rw [this, ← Int.natCast_ediv, Int.natAbs_natCast]
      exact Nat.div_le_self _ _
theorem W_mulS {R x y s neg : Int32} {f : Nat → Int32} {v : Int} (h : bO R s neg f v) (hv : 0 ≤ v) (hx : 1 ≤ x.toInt) (hy : 0 ≤ y.toInt) (hs : s.toInt < R.toInt) : P1 R (x.toInt * v + y.toInt) (F_Big_multiplySmall R x y s neg f) := by
  obtain ⟨z, g, c1, c2, c3, c4, c5⟩ := V_mul (R := R) (x := x) (y := y) (neg := neg) h.1 hx hy hs h.2.2.2.2
  rw [c1]
  have h1 : neg = 0 := by
    rcases h.sgn with h1 | h1
    · exact h1.1
    · omega
  have h2 := h.abs
  subst h1
  refine ⟨c4, Or.inl rfl, ?_, by show z.toInt ≤ _; omega, h.2.2.2.2⟩
  rw [bS_0, c5, h2]
  congr 2
  omega
theorem W_divS {R x s neg : Int32} {f : Nat → Int32} {v : Int} (h : bO R s neg f v) (hx : 1 ≤ x.toInt) : (F_Big_divideSmall R x s neg f).1.toInt = (v.natAbs : Int) % x.toInt ∧ ∃ w : Int, w.natAbs = v.natAbs / x.toInt.toNat ∧ (0 ≤ v → 0 ≤ w) ∧ (v ≤ 0 → w ≤ 0) ∧ bO R (F_Big_divideSmall R x s neg f).2.1 (F_Big_divideSmall R x s neg f).2.2.1 (F_Big_divideSmall R x s neg f).2.2.2 w := by
  obtain ⟨r, z, g, c1, c2, c3, c4, c5, c6⟩ := V_div (R := R) (x := x) (neg := neg) h.1 hx h.fit
  rw [c1]
  have hR := h.2.2.2.1
  have h1 := h.abs
  have e1 : x.toInt = ((x.toInt.toNat : Nat) : Int) := by omega
  have h3 : bV z g = ((v.natAbs / x.toInt.toNat : Nat) : Int) := by
    rw [c5, h1, Int.natCast_ediv, ← e1]
  refine ⟨by show r.toInt = _; rw [c6, h1], bS neg z g, ?_, ?_, ?_, bO.mkI c4 h.sg rfl (by show z.toInt ≤ _; omega) h.2.2.2.2⟩
  · have h5 : (bV z g).natAbs = v.natAbs / x.toInt.toNat := by rw [h3, Int.natAbs_natCast]
    rw [← h5]
    unfold bS
    split
    · rfl
    · rw [Int.natAbs_neg]
  · intro hv
    rcases h.sgn with h2 | h2
    · rw [h2.1, bS_0, h3]
      exact Int.natCast_nonneg _
    · omega
  · intro hv
    rcases h.sgn with h2 | h2
    · have hv0 : v = 0 := by omega
      rw [h2.1, bS_0, h3, hv0]
      show ((0 / _ : Nat) : Int) ≤ 0
      rw [Nat.zero_div]
      exact Int.le_refl _
    · rw [h2.1, bS_1, h3]
      have := Int.natCast_nonneg (v.natAbs / x.toInt.toNat)
      omega
theorem W_addSize {R R2 s neg s2 neg2 : Int32} {f g : Nat → Int32} {v v2 : Int} (h : bO R s neg f v) (hv : 0 ≤ v) (h2 : bO R2 s2 neg2 g v2) (hs : s.toInt < R.toInt) (hs2 : s2.toInt < R.toInt) : P1 R (v + (v2.natAbs : Int)) (F_Big_addSize R R2 s neg f s2 neg2 g) := by
  obtain ⟨z, k, c1, c2, c3, c4, c5, c6⟩ := V_add (R := R) (R2 := R2) (neg := neg) (neg2 := neg2) h.1 h2.1 hs hs2 h.2.2.2.2
  rw [c1]
  have h1 : neg = 0 := by
    rcases h.sgn with h1 | h1
    · exact h1.1
    · omega
  have a1 := h.abs
  have a2 := h2.abs
  subst h1
  refine ⟨c5, Or.inl rfl, ?_, by show z.toInt ≤ _; omega, h.2.2.2.2⟩
  rw [bS_0, c6, a1, a2]
  omega
theorem W_cmp {R R2 s neg s2 neg2 : Int32} {f g : Nat → Int32} {v v2 : Int} (h : bO R s neg f v) (h2 : bO R2 s2 neg2 g v2) :
    ((F_Big_compareSize R R2 s neg f s2 neg2 g).toInt = 0 ∧ v.natAbs = v2.natAbs) ∨ ((F_Big_compareSize R R2 s neg f s2 neg2 g).toInt < 0 ∧ v.natAbs < v2.natAbs) ∨ (0 < (F_Big_compareSize R R2 s neg f s2 neg2 g).toInt ∧ v2.natAbs < v.natAbs) := by
  have h3 := V_cmp (R := R) (R2 := R2) (neg := neg) (neg2 := neg2) h.1 h2.1
  have a1 := h.abs
  have a2 := h2.abs
  omega
theorem W_ten {R x s neg : Int32} {f : Nat → Int32} {v : Int} {M : Nat} (h : bO R s neg f v) (hM : (M : Int) < R.toInt) (hv : v.natAbs * 10 ^ x.toNatClampNeg < 2147483648 ^ M) : P1 R (v * 10 ^ x.toNatClampNeg) (F_Big_timesTen R x s neg f) := by
  have a1 := h.abs
  have hv2 : bV s f * 10 ^ x.toNatClampNeg < 2147483648 ^ M := by
    rw [a1]
    have h1 := Int.ofNat_lt.mpr hv
    rw [Int.natCast_mul, Int.natCast_pow, Int.natCast_pow] at h1
    exact h1
  obtain ⟨z, g, c1, c2, c3⟩ := V_ten (R := R) (x := x) (neg := neg) h.1 h.2.2.2.2 hM hv2
  rw [c1]
  have hz : z.toInt ≤ (M : Int) := c2.sz (by rw [c3]; exact hv2)
  refine ⟨c2, ?_, ?_, by show z.toInt ≤ _; omega, h.2.2.2.2⟩
  · rcases h.2.1 with h1 | ⟨h1, h3⟩
    · exact Or.inl h1
    · refine Or.inr ⟨h1, ?_⟩
      apply c2.pos.mpr
      show 0 < bV z g
      rw [c3]
      exact Int.mul_pos (h.1.pos.mp h3) (v_t10 _)
  · have h3 := h.2.2.1
    show bS neg z g = _
    unfold bS at h3 ⊢
    rw [c3]
    split at h3
    · rename_i hn
      rw [if_pos hn, h3]
    · rename_i hn
      rw [if_neg hn, ← h3, Int.neg_mul]
/-- how many figures: the guess -/
theorem v_gLo {b c : Nat} (h : 1000000000 * c ≤ 301029995 * b) : 10 ^ c ≤ 2 ^ b := by
  have k : (10 : Nat) ^ 8651 ≤ 2 ^ 28738 := by decide +kernel
  have h1 : 28738 * c ≤ 8651 * b := by omega
  have h2 : (10 ^ 8651) ^ c ≤ (2 ^ 28738) ^ c := Nat.pow_le_pow_left k c
  rw [← Nat.pow_mul, ← Nat.pow_mul] at h2
  have h3 : (2 : Nat) ^ (28738 * c) ≤ 2 ^ (8651 * b) := Nat.pow_le_pow_right (by decide) h1
  have h4 : (10 ^ c) ^ 8651 ≤ (2 ^ b) ^ 8651 := by
    rw [← Nat.pow_mul, ← Nat.pow_mul, Nat.mul_comm c, Nat.mul_comm b]
    exact Nat.le_trans h2 h3
  exact (Nat.pow_le_pow_iff_left (by decide)).mp h4
theorem v_gHi {b c : Nat} (hb : b ≤ 6820) (h : 301029995 * (b - 1) < 1000000000 * (c + 1)) : 2 ^ b < 10 ^ (c + 4) := by
  have k : (2 : Nat) ^ 93 ≤ 10 ^ 28 := by decide +kernel
  have h1 : 28 * b < 93 * (c + 4) := by omega
  have h2 : (2 ^ 93) ^ (c + 4) ≤ (10 ^ 28) ^ (c + 4) := Nat.pow_le_pow_left k (c + 4)
  rw [← Nat.pow_mul, ← Nat.pow_mul] at h2
  have h3 : (2 : Nat) ^ (28 * b) < 2 ^ (93 * (c + 4)) := Nat.pow_lt_pow_right (by decide) h1
  have h4 : (2 ^ b) ^ 28 < (10 ^ (c + 4)) ^ 28 := by
    rw [← Nat.pow_mul, ← Nat.pow_mul, Nat.mul_comm b, Nat.mul_comm (c + 4)]
    omega
  exact (Nat.pow_lt_pow_iff_left (by decide)).mp h4
theorem v_gInt {x : Int32} {b : Nat} (hx : x.toInt = (b : Int)) (hb : b ≤ 6820) : ∃ c : Nat, ((((x.toInt64 * 301029995) / 1000000000).toInt32) + 1 : Int32).toInt = (c : Int) + 1 ∧ 1000000000 * c ≤ 301029995 * b ∧ 301029995 * b < 1000000000 * (c + 1) := by
  have h1 : (x.toInt64 * 301029995 : Int64).toInt = (b : Int) * 301029995 := q_mulL (q_i2l hx) rfl (by omega) (by omega)
  have h2 : (x.toInt64 * 301029995 / 1000000000 : Int64).toInt = (b : Int) * 301029995 / 1000000000 := by
    have := v_divL (x := x.toInt64 * 301029995) (y := 1000000000) (by rw [h1]; omega) (by decide)
    rw [this, h1]
    rfl
  have h3 := s_l2i (x := x.toInt64 * 301029995 / 1000000000) (by rw [h2]; omega) (by rw [h2]; omega)
  rw [h2] at h3
  refine ⟨b * 301029995 / 1000000000, ?_, by omega, by omega⟩
  have := q_addI h3 v_e1 (by omega) (by omega)
  rw [this]
  omega

/-! values: Mill's shifts, figures, zeros, roots -/
abbrev Gr1 (q : Int32 → Prop) (a : bT) (p : Int32 × Int32 × Int32 × (Nat → Int32)) : Prop := q p.1 ∧ G1 a p.2
abbrev Gr2 (q : Int32 → Prop) (a b : bT) (p : Int32 × Int32 × Int32 × (Nat → Int32) × Int32 × Int32 × (Nat → Int32)) : Prop := q p.1 ∧ G2 a b p.2
theorem e2048 : (2048 : Int32).toInt = 2048 := rfl
theorem T_shiftedJ {R : Int32} {x3 : Int32} {t0_0 : Int32} {t0_1 : Int32} {t1_0 : (Nat → Int32)} {t2_0 : Int32} {t2_1 : Int32} {t3_0 : (Nat → Int32)} {t4_0 : Int32} {t4_1 : Int32} {t5_0 : (Nat → Int32)} {p40 : (Int32 × Int32 × (Nat → Int32))} {y29 : Int32} {y30 : Int32} {f31 : (Nat → Int32)} {lx52 : Int32} {v : Int} {M : Nat} (h : bO 220 y29 y30 f31 v) (hM : bB M v) (hM2 : M + 1 ≤ 219) (hw : bI 220 t2_0 t2_1 t3_0) : Gr2 (fun r => r = 0 ∨ r = 1) (bJ 220) (bI 220) (F_Mil_shifted_J53 R x3 t0_0 t0_1 t1_0 t2_0 t2_1 t3_0 t4_0 t4_1 t5_0 p40 y29 y30 f31 lx52) := by
  have e := e220
  unfold F_Mil_shifted_J53
  obtain ⟨w, w1, w2⟩ := W_shr (x := lx52) h
  have h59 : (fun p => bO 220 p.2.1 p.2.2.1 p.2.2.2 w) (F_Big_shiftRight (220 : Int32) lx52 y29 y30 f31) := w2
  generalize (F_Big_shiftRight (220 : Int32) lx52 y29 y30 f31) = p84 at h59 ⊢
  unfold F_Mil_shifted_c59
  have s1 := h59.sB (hM.le w1)
  split
  · exact ⟨Or.inr rfl, h59.J, hw⟩
  · split
    · exact ⟨Or.inr rfl, h59.J, hw⟩
    · have h79 : P1 220 (-1) (F_Big_setLong (220 : Int32) (-1 : Int64) t2_0 t2_1 t3_0) := W_setLong (x := -1) (by decide) (by decide)
      generalize (F_Big_setLong (220 : Int32) (-1 : Int64) t2_0 t2_1 t3_0) = p115 at h79 ⊢
      unfold F_Mil_shifted_c79
      have s2 := h79.sB (M := 1) (by show 1 < 2147483648 ^ 1; decide)
      exact ⟨Or.inr rfl, (W_add (x := 0) h59 h79 (Or.inl rfl) (by omega) (by omega)).J, h79.I⟩
theorem T_shifted {R : Int32} {x3 : Int32} {t0_0 : Int32} {t0_1 : Int32} {t1_0 : (Nat → Int32)} {t2_0 : Int32} {t2_1 : Int32} {t3_0 : (Nat → Int32)} {t4_0 : Int32} {t4_1 : Int32} {t5_0 : (Nat → Int32)} {v : Int} {M : Nat} (h : bO R t4_0 t4_1 t5_0 v) (hM : bB M v) (hM2 : M + 67 ≤ 219) (hw : bI 220 t2_0 t2_1 t3_0) : Gr2 (fun r => r = 0 ∨ r = 1) (bJ 220) (bI 220) (F_Mil_shifted R x3 t0_0 t0_1 t1_0 t2_0 t2_1 t3_0 t4_0 t4_1 t5_0) := by
  have e := e220
  have e2 := e2048
  have e0 : (0 : Int32).toInt = 0 := rfl
  unfold F_Mil_shifted
  have hss := (W_copyS (R := 220) (s := t0_0) (neg := t0_1) (f := t1_0) h h.fit).1
  have h1 : P1 220 v (F_Big_copy (220 : Int32) R t0_0 t0_1 t1_0 t4_0 t4_1 t5_0) := W_copy h h.fit (by decide)
  generalize F_Big_copy (220 : Int32) R t0_0 t0_1 t1_0 t4_0 t4_1 t5_0 = p40 at h1 hss ⊢
  have s1 := h1.sB hM
  unfold F_Mil_shifted_c5
  split
  · split
    · exact T_shiftedJ h1 hM (by omega) hw
    · exact T_shiftedJ h1 hM (by omega) hw
  · split
    · rename_i h3
      have h4 := q_leI h3
      exact ⟨Or.inr rfl, (W_shl h1 (fun h5 => by rw [hss] at h5; omega)).J, hw⟩
    · split
      · rename_i h3
        have h4 := q_leI h3
        exact ⟨Or.inr rfl, (W_shl h1 (fun h5 h6 => by omega)).J, hw⟩
      · exact ⟨Or.inl rfl, h1.J, hw⟩
/-- the number of figures of v -/
def vF (v : Int) (c : Nat) : Prop := 1 ≤ c ∧ v.natAbs < 10 ^ c ∧ (v ≠ 0 → 10 ^ (c - 1) ≤ v.natAbs)
theorem v_3 : (3 : Int32).toInt = 3 := rfl
theorem T_cfL {R : Int32} {t0_0 : Int32} {t0_1 : Int32} {t1_0 : (Nat → Int32)} {t2_0 : Int32} {t2_1 : Int32} {t3_0 : (Nat → Int32)} {a40 : Int32} {p57 : (Int32 × Int32 × (Nat → Int32))} {p80 : (Int32 × Int32 × (Nat → Int32))} {v : Int} {M : Nat} (h : bO R t2_0 t2_1 t3_0 v) (hM : bB M v) (hM2 : M < 220) (hv : v ≠ 0) : ∀ (n : Nat) (lx92 : Int32) (lx93 : Int32) (lx94 : Int32) (lx95 : Int32) (lx96 : (Nat → Int32)), ∀ c k : Nat, lx92.toInt = (k : Int) → k ≤ 3 → 3 - k < n → lx93.toInt = (c : Int) → c ≤ 3000 + k → 1 ≤ c → bO 220 lx94 lx95 lx96 (10 ^ c) → 10 ^ (c - 1) ≤ v.natAbs → v.natAbs < 10 ^ (c + (3 - k)) → (∃ d : Nat, (F_Mil_countFigures_L46 R t0_0 t0_1 t1_0 t2_0 t2_1 t3_0 a40 p57 p80 n lx92 lx93 lx94 lx95 lx96).1.toInt = (d : Int) ∧ vF v d) ∧ G1 (bI 220) (F_Mil_countFigures_L46 R t0_0 t0_1 t1_0 t2_0 t2_1 t3_0 a40 p57 p80 n lx92 lx93 lx94 lx95 lx96).2 := by
  have e := e220
  have e0 : (0 : Int32).toInt = 0 := rfl
  intro n
  induction n with
  | zero => intros; omega
  | succ n ih =>
    intro lx92 lx93 lx94 lx95 lx96 c k hk hk3 hn hc hc0 hc1 hs hlo hhi
    rw [F_Mil_countFigures_L46.eq_2]
    have v3 := v_3
    have hcm := W_cmp (R := R) (R2 := 220) h hs
    have e10 : ((10 : Int) ^ c).natAbs = 10 ^ c := by rw [Int.natAbs_pow]; rfl
    rw [e10] at hcm
    by_cases hj : 3 ≤ lx92
    · rw [if_pos hj]
      have := q_leI hj
      have hk0 : 3 - k = 0 := by omega
      rw [hk0] at hhi
      exact ⟨⟨c, hc, hc1, hhi, fun _ => hlo⟩, hs.I⟩
    · rw [if_neg hj]
      have hj2 := q_nleI hj
      by_cases hl : F_Big_compareSize R 220 t2_0 t2_1 t3_0 lx94 lx95 lx96 < 0
      · rw [if_pos hl]
        have := q_ltI hl
        exact ⟨⟨c, hc, hc1, by omega, fun _ => hlo⟩, hs.I⟩
      · rw [if_neg hl]
        have hl2 := q_nltI hl
        have hge : 10 ^ c ≤ v.natAbs := by omega
        have s1 := hs.sB (hM.le (by rw [e10]; exact hge))
        have h69 : P1 220 (10 * 10 ^ c + 0) (F_Big_multiplySmall (220 : Int32) (10 : Int32) (0 : Int32) lx94 lx95 lx96) := W_mulS hs (Int.le_of_lt (v_t10 c)) (x := 10) (y := 0) (by decide) (by decide) (by omega)
        generalize (F_Big_multiplySmall (220 : Int32) (10 : Int32) (0 : Int32) lx94 lx95 lx96) = p143 at h69 ⊢
        unfold F_Mil_countFigures_c69
        have e3 : (10 * 10 ^ c + 0 : Int) = 10 ^ (c + 1) := by rw [Int.pow_succ]; omega
        rw [e3] at h69
        exact ih _ _ _ _ _ (c + 1) (k + 1) (by rw [q_addI hk v_e1 (by omega) (by omega)]; omega) (by omega) (by omega) (by rw [q_addI hc v_e1 (by omega) (by omega)]; omega) (by omega) (by omega) h69 hge (by rw [show c + 1 + (3 - (k + 1)) = c + (3 - k) by omega]; exact hhi)
theorem T_countFigures {R : Int32} {t0_0 : Int32} {t0_1 : Int32} {t1_0 : (Nat → Int32)} {t2_0 : Int32} {t2_1 : Int32} {t3_0 : (Nat → Int32)} {v : Int} {M : Nat} (h : bO R t2_0 t2_1 t3_0 v) (hM : bB M v) (hM2 : M + 1 < 220) (hw : bI 220 t0_0 t0_1 t1_0) : (∃ d : Nat, (F_Mil_countFigures R t0_0 t0_1 t1_0 t2_0 t2_1 t3_0).1.toInt = (d : Int) ∧ vF v d) ∧ G1 (bI 220) (F_Mil_countFigures R t0_0 t0_1 t1_0 t2_0 t2_1 t3_0).2 := by
  have e := e220
  unfold F_Mil_countFigures
  by_cases h0 : t2_0 = 0
  · rw [if_pos h0]
    have hv := h.nil.mp h0
    exact ⟨⟨1, rfl, Nat.le_refl 1, by rw [hv]; decide, fun h9 => absurd hv h9⟩, hw⟩
  rw [if_neg h0]
  have hv : v ≠ 0 := fun h9 => h0 (h.nil.mpr h9)
  have hs := h.pos.mpr hv
  obtain ⟨b, b1, b2, b3, b4⟩ := V_bits (R := R) (neg := t2_1) h.1 h.fit
  have hcl := q_clI (i := t2_0) rfl h.s0
  have hf := h.fit
  obtain ⟨b5, b6⟩ := b4 hs
  rw [h.abs] at b3 b6
  have b3' : v.natAbs < 2 ^ b := by
    apply Int.ofNat_lt.mp
    rw [Int.natCast_pow]
    exact b3
  have b6' : 2 ^ (b - 1) ≤ v.natAbs := by
    apply Int.ofNat_le.mp
    rw [Int.natCast_pow]
    exact b6
  have k1 : (F_Big_bitLength R t2_0 t2_1 t3_0 - 1 : Int32).toInt = ((b - 1 : Nat) : Int) := by
    rw [q_subI (y := 1) b1 rfl (by omega) (by omega)]
    omega
  obtain ⟨c, c1, c2, c3⟩ := v_gInt k1 (by omega)
  have lo := v_gLo c2
  have hi := v_gHi (b := b) (c := c) (by omega) c3
  have h33 : P1 220 1 (F_Big_setLong (220 : Int32) (1 : Int64) t0_0 t0_1 t1_0) := W_setLong (x := 1) (by decide) (by decide)
  generalize (F_Big_setLong (220 : Int32) (1 : Int64) t0_0 t0_1 t1_0) = p57 at h33 ⊢
  unfold F_Mil_countFigures_c33
  generalize (((((F_Big_bitLength R t2_0 t2_1 t3_0) : Int32) - 1 : Int32).toInt64 * 301029995 / 1000000000).toInt32 + 1 : Int32) = a40 at c1 ⊢
  have cl := q_clI (i := a40) c1 (by omega)
  have cl2 : a40.toNatClampNeg = c + 1 := by omega
  have hlt : 10 ^ c < 2147483648 ^ M := by
    unfold bB at hM
    omega
  have h10 : (1 : Int).natAbs * 10 ^ a40.toNatClampNeg < 2147483648 ^ (M + 1) := by
    rw [cl2, Nat.pow_succ, Nat.pow_succ, show (1 : Int).natAbs = 1 from rfl]
    omega
  have h41 : P1 220 (1 * 10 ^ a40.toNatClampNeg) (F_Big_timesTen 220 a40 p57.1 p57.2.1 p57.2.2) := W_ten (M := M + 1) h33 (by omega) h10
  generalize F_Big_timesTen 220 a40 p57.1 p57.2.1 p57.2.2 = p80 at h41 ⊢
  unfold F_Mil_countFigures_c41
  rw [cl2, Int.one_mul] at h41
  exact T_cfL h hM (by omega) hv _ _ _ _ _ _ (c + 1) 0 rfl (by omega) (by decide) (by omega) (by omega) (by omega) h41 (by rw [show c + 1 - 1 = c by omega]; omega) (by rw [show c + 1 + (3 - 0) = c + 4 by omega]; omega)
theorem T_dzL {R : Int32} {x3 : Int64} {t0_0 : Int32} {t0_1 : Int32} {t1_0 : (Nat → Int32)} {t2_0 : Int32} {t2_1 : Int32} {t3_0 : (Nat → Int32)} {M : Nat} (hR : R.toInt ≤ 220) : ∀ (n : Nat) (lx18 : Int32) (lx19 : Int32) (lx20 : Int32) (lx21 : (Nat → Int32)) (lx22 : Int32) (lx23 : Int32) (lx24 : (Nat → Int32)), ∀ v : Int, 10000 - lx18.toInt < (n : Int) → 0 ≤ lx18.toInt → lx18.toInt ≤ 10000 → bI 220 lx19 lx20 lx21 → bO R lx22 lx23 lx24 v → ∃ w : Int, w.natAbs * 10 ^ ((F_Mil_dropZeros_L3 R x3 t0_0 t0_1 t1_0 t2_0 t2_1 t3_0 n lx18 lx19 lx20 lx21 lx22 lx23 lx24).1.toInt - lx18.toInt).toNat = v.natAbs ∧ (0 ≤ v → 0 ≤ w) ∧ lx18.toInt ≤ (F_Mil_dropZeros_L3 R x3 t0_0 t0_1 t1_0 t2_0 t2_1 t3_0 n lx18 lx19 lx20 lx21 lx22 lx23 lx24).1.toInt ∧ ((F_Mil_dropZeros_L3 R x3 t0_0 t0_1 t1_0 t2_0 t2_1 t3_0 n lx18 lx19 lx20 lx21 lx22 lx23 lx24).1.toInt ≤ x3.toInt ∨ (F_Mil_dropZeros_L3 R x3 t0_0 t0_1 t1_0 t2_0 t2_1 t3_0 n lx18 lx19 lx20 lx21 lx22 lx23 lx24).1 = lx18) ∧ (F_Mil_dropZeros_L3 R x3 t0_0 t0_1 t1_0 t2_0 t2_1 t3_0 n lx18 lx19 lx20 lx21 lx22 lx23 lx24).1.toInt ≤ 10000 ∧ G2 (bI 220) (bW R w) (F_Mil_dropZeros_L3 R x3 t0_0 t0_1 t1_0 t2_0 t2_1 t3_0 n lx18 lx19 lx20 lx21 lx22 lx23 lx24).2 := by
  have e := e220
  have e0 : (0 : Int32).toInt = 0 := rfl
  have eT := v_eTT
  intro n
  induction n with
  | zero => intros; omega
  | succ n ih =>
    intro lx18 lx19 lx20 lx21 lx22 lx23 lx24 v hn hl hl2 hw hv
    have stop : ∃ w : Int, w.natAbs * 10 ^ (lx18.toInt - lx18.toInt).toNat = v.natAbs ∧ (0 ≤ v → 0 ≤ w) ∧ lx18.toInt ≤ lx18.toInt ∧ (lx18.toInt ≤ x3.toInt ∨ lx18 = lx18) ∧ lx18.toInt ≤ 10000 ∧ G2 (bI 220) (bW R w) (lx19, lx20, lx21, lx22, lx23, lx24) := ⟨v, by rw [show (lx18.toInt - lx18.toInt).toNat = 0 by omega, Nat.pow_zero, Nat.mul_one], id, by omega, Or.inr rfl, hl2, hw, hv⟩
    rw [F_Mil_dropZeros_L3.eq_2]
    by_cases g1 : 0 ≤ lg_cmp lx18.toInt64 x3
    · rw [if_pos g1]
      exact stop
    rw [if_neg g1]
    have g1' := q_k8 g1
    rw [q_i2l rfl] at g1'
    by_cases g2 : lx22 ≤ 0
    · rw [if_pos g2]
      exact stop
    rw [if_neg g2]
    by_cases g3 : 10000 ≤ lx18
    · rw [if_pos g3]
      exact stop
    rw [if_neg g3]
    have g3' := q_nleI g3
    have h31 : P1 220 v (F_Big_copy (220 : Int32) R lx19 lx20 lx21 lx22 lx23 lx24) := W_copy hv hv.fit (by decide)
    generalize (F_Big_copy (220 : Int32) R lx19 lx20 lx21 lx22 lx23 lx24) = p81 at h31 ⊢
    unfold F_Mil_dropZeros_c31
    have hd := W_divS (x := 10) h31 (by decide)
    have hR2 := hv.2.2.2.1
    have hsz := (h31.szE hv)
    generalize F_Big_divideSmall 220 10 p81.1 p81.2.1 p81.2.2 = p105 at hd ⊢
    obtain ⟨d1, w, d2, d3, d4, d5⟩ := hd
    unfold F_Mil_dropZeros_c40
    by_cases g4 : p105.1 = 0
    · rw [if_pos g4]
      have hws : p105.2.1.toInt ≤ p81.1.toInt := by
        refine d5.1.szL h31.1 ?_
        rw [d5.abs, h31.abs, d2]
        exact Int.ofNat_le.mpr (Nat.div_le_self _ _)
      have h54 : P1 R w (F_Big_copy R (220 : Int32) lx22 lx23 lx24 (p105.2.1 : Int32) (p105.2.2.1 : Int32) (p105.2.2.2 : (Nat → Int32))) := W_copy d5 (by omega) hR
      generalize (F_Big_copy R (220 : Int32) lx22 lx23 lx24 (p105.2.1 : Int32) (p105.2.2.1 : Int32) (p105.2.2.2 : (Nat → Int32))) = p132 at h54 ⊢
      unfold F_Mil_dropZeros_c54
      have ej : (lx18 + 1 : Int32).toInt = lx18.toInt + 1 := q_addI rfl v_e1 (by omega) (by omega)
      obtain ⟨u, u1, u2, u3, u4, u5, u6⟩ := ih (lx18 + 1) p105.2.1 p105.2.2.1 p105.2.2.2 p132.1 p132.2.1 p132.2.2 w (by omega) (by omega) (by omega) d5.I h54
      refine ⟨u, ?_, fun h => u2 (d3 h), by omega, ?_, u5, u6⟩
      · rw [g4, e0] at d1
        have d2' : w.natAbs = v.natAbs / 10 := d2
        have d1' : (0 : Int) = (v.natAbs : Int) % 10 := d1
        have hw10 : w.natAbs * 10 = v.natAbs := by omega
        rw [← hw10, ← u1, Nat.mul_assoc, ← Nat.pow_succ]
        congr 2
        omega
      · rcases u4 with u4 | u4
        · exact Or.inl u4
        · left
          rw [u4, ej]
          omega
    · rw [if_neg g4]
      refine ⟨v, ?_, id, Int.le_refl _, Or.inr rfl, hl2, d5.I, hv⟩
      show _ * 10 ^ (lx18.toInt - lx18.toInt).toNat = _
      rw [show (lx18.toInt - lx18.toInt).toNat = 0 by omega, Nat.pow_zero, Nat.mul_one]
theorem T_dropZeros {R : Int32} {x3 : Int64} {t0_0 : Int32} {t0_1 : Int32} {t1_0 : (Nat → Int32)} {t2_0 : Int32} {t2_1 : Int32} {t3_0 : (Nat → Int32)} {v : Int} (hv : bO R t2_0 t2_1 t3_0 v) (hw : bI 220 t0_0 t0_1 t1_0) : ∃ w : Int, w.natAbs * 10 ^ (F_Mil_dropZeros R x3 t0_0 t0_1 t1_0 t2_0 t2_1 t3_0).1.toInt.toNat = v.natAbs ∧ (0 ≤ v → 0 ≤ w) ∧ 0 ≤ (F_Mil_dropZeros R x3 t0_0 t0_1 t1_0 t2_0 t2_1 t3_0).1.toInt ∧ ((F_Mil_dropZeros R x3 t0_0 t0_1 t1_0 t2_0 t2_1 t3_0).1.toInt ≤ x3.toInt ∨ (F_Mil_dropZeros R x3 t0_0 t0_1 t1_0 t2_0 t2_1 t3_0).1 = 0) ∧ (F_Mil_dropZeros R x3 t0_0 t0_1 t1_0 t2_0 t2_1 t3_0).1.toInt ≤ 10000 ∧ G2 (bI 220) (bW R w) (F_Mil_dropZeros R x3 t0_0 t0_1 t1_0 t2_0 t2_1 t3_0).2 := by
  unfold F_Mil_dropZeros
  have h := T_dzL (M := 0) (x3 := x3) (t0_0 := t0_0) (t0_1 := t0_1) (t1_0 := t1_0) (t2_0 := t2_0) (t2_1 := t2_1) (t3_0 := t3_0) hv.2.2.2.2 ((10000 - (0 : Int32).toInt).toNat + 1) 0 t0_0 t0_1 t1_0 t2_0 t2_1 t3_0 v (by decide) (by decide) (by decide) hw hv
  rw [show ((0 : Int32).toInt) = 0 from rfl, Int.sub_zero] at h
  exact h

/-! values: Newton's root -/
theorem v_6820 : (6820 : Int32).toInt = 6820 := rfl
/-- the power of a root that is small enough -/
theorem v_rp {r : Int} {k N M : Nat} (h : r.natAbs ≤ 2 ^ N) (hk : N * k < 31 * M) : bB M (r ^ k) := by
  unfold bB
  rw [Int.natAbs_pow]
  have e : (2147483648 : Nat) ^ M = 2 ^ (31 * M) := by rw [Nat.pow_mul]
  rw [e]
  have h1 : r.natAbs ^ k ≤ (2 ^ N) ^ k := Nat.pow_le_pow_left h k
  rw [← Nat.pow_mul] at h1
  exact Nat.lt_of_le_of_lt h1 (Nat.pow_lt_pow_right (by decide) hk)
theorem v_rB {r : Int} {N M : Nat} (h : r.natAbs ≤ 2 ^ N) (hk : N < 31 * M) : bB M r := by
  have := v_rp (k := 1) (M := M) h (by omega)
  rw [Int.pow_succ, Int.pow_zero, Int.one_mul] at this
  exact this
theorem v_nw1 {n r q a : Nat} {w : Nat} (hn : 2 ≤ n) (hr : 1 ≤ r) (hq : r = 1 → q = a) (ha : 1 ≤ a) (hw : w = ((n - 1) * r + q) / n) : 1 ≤ w := by
  rw [hw]
  apply (Nat.le_div_iff_mul_le (by omega)).mpr
  by_cases h : r = 1
  · rw [hq h, h]
    omega
  · have : (n - 1) * 2 ≤ (n - 1) * r := Nat.mul_le_mul_left _ (by omega)
    omega
theorem T_rootL {R : Int32} {x3 : Int32} {t0_0 : Int32} {t0_1 : Int32} {t1_0 : (Nat → Int32)} {t2_0 : Int32} {t2_1 : Int32} {t3_0 : (Nat → Int32)} {t4_0 : Int32} {t4_1 : Int32} {t5_0 : (Nat → Int32)} {t6_0 : Int32} {t6_1 : Int32} {t7_0 : (Nat → Int32)} {t8_0 : Int32} {t8_1 : Int32} {t9_0 : (Nat → Int32)} {t10_0 : Int32} {t10_1 : Int32} {t11_0 : (Nat → Int32)} {t12_0 : Int32} {t12_1 : Int32} {t13_0 : (Nat → Int32)} {p72 : (Int32 × Int32 × (Nat → Int32))} {p101 : (Int32 × Int32 × (Nat → Int32))} {p140 : (Int32 × Int32 × (Nat → Int32))} {va : Int} {Ma N : Nat} (ha : bO R t12_0 t12_1 t13_0 va) (hva : va ≠ 0) (hMa : bB Ma va) (hM1 : 1 ≤ Ma) (hMa2 : Ma + 4 ≤ 220) (hx : 2 ≤ x3.toInt) (hx2 : x3.toInt ≤ 64) (hN : N * (x3.toInt.toNat - 1) < 31 * (Ma + 3)) (hN2 : N < 31 * (Ma + 1)) : ∀ (n : Nat) (lx151 : Int32) (lx152 : Int32) (lx153 : Int32) (lx154 : (Nat → Int32)) (lx155 : Int32) (lx156 : Int32) (lx157 : (Nat → Int32)) (lx158 : Int32) (lx159 : Int32) (lx160 : (Nat → Int32)) (lx161 : Int32) (lx162 : Int32) (lx163 : (Nat → Int32)) (lx164 : Int32) (lx165 : Int32) (lx166 : (Nat → Int32)) (lx167 : Int32) (lx168 : Int32) (lx169 : (Nat → Int32)), 10000 - lx151.toInt < (n : Int) → 0 ≤ lx151.toInt → lx151.toInt ≤ 10000 → (∃ r : Int, 1 ≤ r ∧ r.natAbs ≤ 2 ^ N ∧ bO 220 lx152 lx153 lx154 r) → bI 220 lx155 lx156 lx157 → bI 220 lx158 lx159 lx160 → bI 220 lx161 lx162 lx163 → bI 220 lx164 lx165 lx166 → bI 220 lx167 lx168 lx169 → (S_Mil_root_L48 R x3 t0_0 t0_1 t1_0 t2_0 t2_1 t3_0 t4_0 t4_1 t5_0 t6_0 t6_1 t7_0 t8_0 t8_1 t9_0 t10_0 t10_1 t11_0 t12_0 t12_1 t13_0 p72 p101 p140 n lx151 lx152 lx153 lx154 lx155 lx156 lx157 lx158 lx159 lx160 lx161 lx162 lx163 lx164 lx165 lx166 lx167 lx168 lx169) ∧ G6 (fun s n f => ∃ r : Int, 1 ≤ r ∧ r.natAbs ≤ 2 ^ N ∧ bO 220 s n f r) (bI 220) (bI 220) (bI 220) (bI 220) (bI 220) (F_Mil_root_L48 R x3 t0_0 t0_1 t1_0 t2_0 t2_1 t3_0 t4_0 t4_1 t5_0 t6_0 t6_1 t7_0 t8_0 t8_1 t9_0 t10_0 t10_1 t11_0 t12_0 t12_1 t13_0 p72 p101 p140 n lx151 lx152 lx153 lx154 lx155 lx156 lx157 lx158 lx159 lx160 lx161 lx162 lx163 lx164 lx165 lx166 lx167 lx168 lx169) := by
  have e := e220
  have e0 : (0 : Int32).toInt = 0 := rfl
  have eT := v_eTT
  have e68 := v_6820
  have sa := ha.sB hMa
  have ex : (x3 - 1 : Int32).toInt = x3.toInt - 1 := q_subI rfl v_e1 (by omega) (by omega)
  have exn : (x3 - 1 : Int32).toInt.toNat = x3.toInt.toNat - 1 := by omega
  intro n
  induction n with
  | zero => intros; omega
  | succ n ih =>
    intro lx151 lx152 lx153 lx154 lx155 lx156 lx157 lx158 lx159 lx160 lx161 lx162 lx163 lx164 lx165 lx166 lx167 lx168 lx169 hn hl hl2 hr i1 i2 i3 i4 i5
    rw [S_Mil_root_L48.eq_2, F_Mil_root_L48.eq_2]
    by_cases hj : 10000 ≤ lx151
    · rw [if_pos hj, if_pos hj]
      exact ⟨trivial, hr, i1, i2, i3, i4, i5⟩
    rw [if_neg hj, if_neg hj]
    have hj2 := q_nleI hj
    obtain ⟨r, r1, r2, r3⟩ := hr
    have hrB : bB (Ma + 1) r := v_rB r2 hN2
    have sr := r3.sB hrB
    have hpB : bB (Ma + 2 + 1) (r ^ (x3 - 1 : Int32).toInt.toNat) := by
      rw [exn]
      exact v_rp r2 hN
    have hp := T_powerR (x3 := x3 - 1) (x4 := 6820) (t0_0 := lx155) (t0_1 := lx156) (t1_0 := lx157) r3 (by omega) (by omega) (by decide) i2 hpB (by omega)
    obtain ⟨v, q0, q1⟩ := hp
    have hv : v = r ^ (x3 - 1 : Int32).toInt.toNat := by
      rcases q0 with ⟨_, e1, he1, he2⟩ | ⟨_, h2, _⟩
      · have h3 := v_powA (v := r) (by omega) he1
        have h4 : (r ^ (x3 - 1 : Int32).toInt.toNat).natAbs < 2 ^ (31 * (Ma + 2 + 1)) := by
          have := hpB
          unfold bB at this
          rw [Nat.pow_mul]
          exact this
        have h5 : (2 : Nat) ^ (31 * (Ma + 2 + 1)) ≤ 2 ^ (6820 : Int32).toInt.toNat := Nat.pow_le_pow_right (by decide) (by rw [e68]; omega)
        omega
      · exact h2
    have hv0 : v ≠ 0 := by
      rw [hv]
      exact Int.pow_ne_zero (by omega)
    have hv1 : r = 1 → v = 1 := fun h => by rw [hv, h, Int.one_pow]
    clear q0
    generalize F_Mil_power 220 (x3 - 1) 6820 lx155 lx156 lx157 lx158 lx159 lx160 lx152 lx153 lx154 = p257 at q1 ⊢
    unfold S_Mil_root_c66 F_Mil_root_c66
    have h75 : P1 220 va (F_Big_copy (220 : Int32) R lx161 lx162 lx163 t12_0 t12_1 t13_0) := W_copy ha ha.fit (by decide)
    generalize (F_Big_copy (220 : Int32) R lx161 lx162 lx163 t12_0 t12_1 t13_0) = p285 at h75 ⊢
    unfold S_Mil_root_c75 F_Mil_root_c75
    have s75 := h75.sB hMa
    have h90 : S_Big_divideBy (220 : Int32) (220 : Int32) (220 : Int32) (p285.1 : Int32) (p285.2.1 : Int32) (p285.2.2 : (Nat → Int32)) (p257.2.1 : Int32) (p257.2.2.1 : Int32) (p257.2.2.2.1 : (Nat → Int32)) lx167 lx168 lx169 ∧ P3 220 220 220 (va.tmod v) v ((va.natAbs / v.natAbs : Nat) : Int) (F_Big_divideBy (220 : Int32) (220 : Int32) (220 : Int32) (p285.1 : Int32) (p285.2.1 : Int32) (p285.2.2 : (Nat → Int32)) (p257.2.1 : Int32) (p257.2.2.1 : Int32) (p257.2.2.2.1 : (Nat → Int32)) lx167 lx168 lx169) := W_divideBy h75 q1 hv0 (by omega) (by omega) (by decide)
    refine v_owe h90.1 ?_
    replace h90 := h90.2
    generalize (F_Big_divideBy (220 : Int32) (220 : Int32) (220 : Int32) (p285.1 : Int32) (p285.2.1 : Int32) (p285.2.2 : (Nat → Int32)) (p257.2.1 : Int32) (p257.2.2.1 : Int32) (p257.2.2.2.1 : (Nat → Int32)) lx167 lx168 lx169) = p330 at h90 ⊢
    unfold S_Mil_root_c90 F_Mil_root_c90
    have hqB := hMa.ndiv (v := v)
    have sq := h90.2.2.sB hqB
    have h101 : P1 220 r (F_Big_copy (220 : Int32) (220 : Int32) lx164 lx165 lx166 lx152 lx153 lx154) := W_copy r3 r3.fit (by decide)
    generalize (F_Big_copy (220 : Int32) (220 : Int32) lx164 lx165 lx166 lx152 lx153 lx154) = p360 at h101 ⊢
    unfold S_Mil_root_c101 F_Mil_root_c101
    have s101 := h101.sB hrB
    have h112 : P1 220 ((x3 - 1 : Int32).toInt * r + (0 : Int32).toInt) (F_Big_multiplySmall (220 : Int32) (x3 - 1 : Int32) (0 : Int32) (p360.1 : Int32) (p360.2.1 : Int32) (p360.2.2 : (Nat → Int32))) := W_mulS h101 (by omega) (by omega) (by decide) (by omega)
    generalize (F_Big_multiplySmall (220 : Int32) (x3 - 1 : Int32) (0 : Int32) (p360.1 : Int32) (p360.2.1 : Int32) (p360.2.2 : (Nat → Int32))) = p387 at h112 ⊢
    unfold S_Mil_root_c112 F_Mil_root_c112
    have hmn : 0 ≤ (x3.toInt - 1) * r := Int.mul_nonneg (by omega) (by omega)
    rw [ex, e0, Int.add_zero] at h112
    have hmB : bB (1 + (Ma + 1)) ((x3.toInt - 1) * r) := bB.mul (show (x3.toInt - 1).natAbs < 2147483648 ^ 1 by omega) hrB
    have s112 := h112.sB hmB
    have h123 : P1 220 ((x3.toInt - 1) * r + (((va.natAbs / v.natAbs : Nat) : Int).natAbs : Int)) (F_Big_addSize (220 : Int32) (220 : Int32) (p387.1 : Int32) (p387.2.1 : Int32) (p387.2.2 : (Nat → Int32)) (p330.2.2.2.2.2.2.1 : Int32) (p330.2.2.2.2.2.2.2.1 : Int32) (p330.2.2.2.2.2.2.2.2 : (Nat → Int32))) := W_addSize h112 hmn h90.2.2 (by omega) (by omega)
    generalize (F_Big_addSize (220 : Int32) (220 : Int32) (p387.1 : Int32) (p387.2.1 : Int32) (p387.2.2 : (Nat → Int32)) (p330.2.2.2.2.2.2.1 : Int32) (p330.2.2.2.2.2.2.2.1 : Int32) (p330.2.2.2.2.2.2.2.2 : (Nat → Int32))) = p410 at h123 ⊢
    unfold S_Mil_root_c123 F_Mil_root_c123
    have hd := W_divS (x := x3) h123 (by omega)
    generalize F_Big_divideSmall 220 x3 p410.1 p410.2.1 p410.2.2 = p434 at hd ⊢
    obtain ⟨_, w2, d2, d3, d4, d5⟩ := hd
    unfold S_Mil_root_c131 F_Mil_root_c131
    have hcm := W_cmp (R := 220) (R2 := 220) d5 r3
    by_cases hc : F_Big_compareSize 220 220 p434.2.1 p434.2.2.1 p434.2.2.2 lx152 lx153 lx154 < 0
    · rw [if_pos hc, if_pos hc]
      have hc2 := q_ltI hc
      have hw1 : 1 ≤ w2.natAbs := by
        refine v_nw1 (n := x3.toInt.toNat) (r := r.natAbs) (q := va.natAbs / v.natAbs) (a := va.natAbs) (by omega) (by omega) (fun h => ?_) (by omega) ?_
        · rw [hv1 (by omega)]
          exact Nat.div_one _
        · rw [d2]
          congr 1
          rw [Int.natAbs_natCast]
          have h8 : (x3.toInt - 1) * r = (((x3.toInt.toNat - 1) * r.natAbs : Nat) : Int) := by
            rw [Int.natCast_mul]
            congr 1
            · omega
            · omega
          rw [h8, ← Int.natCast_add, Int.natAbs_natCast]
      have hw0 : 0 ≤ w2 := d3 (Int.add_nonneg hmn (Int.natCast_nonneg _))
      have h158 : P1 220 w2 (F_Big_copy (220 : Int32) (220 : Int32) lx152 lx153 lx154 (p434.2.1 : Int32) (p434.2.2.1 : Int32) (p434.2.2.2 : (Nat → Int32))) := W_copy d5 d5.fit (by decide)
      generalize (F_Big_copy (220 : Int32) (220 : Int32) lx152 lx153 lx154 (p434.2.1 : Int32) (p434.2.2.1 : Int32) (p434.2.2.2 : (Nat → Int32))) = p468 at h158 ⊢
      unfold S_Mil_root_c158 F_Mil_root_c158
      have ej : (lx151 + 1 : Int32).toInt = lx151.toInt + 1 := q_addI rfl v_e1 (by omega) (by omega)
      exact ih _ _ _ _ _ _ _ _ _ _ _ _ _ _ _ _ _ _ _ (by omega) (by omega) (by omega) ⟨w2, by omega, by omega, h158⟩ h90.2.1.I trivial h90.1.I d5.I h90.2.2.I
    · rw [if_neg hc, if_neg hc]
      exact ⟨trivial, ⟨r, r1, r2, r3⟩, h90.2.1.I, trivial, h90.1.I, d5.I, h90.2.2.I⟩
theorem v_cd {b n : Nat} (hn : 2 ≤ n) : (b + n - 1) / n * (n - 1) ≤ b + n - 1 ∧ (b + n - 1) / n ≤ b ∧ (b + n - 1) / n * n ≤ b + n - 1 := by
  have h1 := Nat.div_mul_le_self (b + n - 1) n
  have h2 : (b + n - 1) / n * (n - 1) ≤ (b + n - 1) / n * n := Nat.mul_le_mul_left _ (by omega)
  refine ⟨by omega, ?_, h1⟩
  by_cases hb : b = 0
  · subst hb
    rw [Nat.div_eq_of_lt (by omega)]
    exact Nat.le_refl _
  · have h3 : (b + n - 1) / n < b + 1 := by
      apply (Nat.div_lt_iff_lt_mul (by omega)).mpr
      have : b * n + 1 * n = (b + 1) * n := (Nat.add_mul b 1 n).symm
      have h4 : b * 2 ≤ b * n := Nat.mul_le_mul_left _ hn
      omega
    omega
theorem T_root {R : Int32} {x3 : Int32} {t0_0 : Int32} {t0_1 : Int32} {t1_0 : (Nat → Int32)} {t2_0 : Int32} {t2_1 : Int32} {t3_0 : (Nat → Int32)} {t4_0 : Int32} {t4_1 : Int32} {t5_0 : (Nat → Int32)} {t6_0 : Int32} {t6_1 : Int32} {t7_0 : (Nat → Int32)} {t8_0 : Int32} {t8_1 : Int32} {t9_0 : (Nat → Int32)} {t10_0 : Int32} {t10_1 : Int32} {t11_0 : (Nat → Int32)} {t12_0 : Int32} {t12_1 : Int32} {t13_0 : (Nat → Int32)} {va : Int} {Ma : Nat} (ha : bO R t12_0 t12_1 t13_0 va) (hMa : bB Ma va) (hM1 : 1 ≤ Ma) (hMa2 : Ma + 4 ≤ 220) (hx : 1 ≤ x3.toInt) (hx2 : x3.toInt ≤ 64) (i1 : bI 220 t2_0 t2_1 t3_0) (i2 : bI 220 t4_0 t4_1 t5_0) (i3 : bI 220 t6_0 t6_1 t7_0) (i4 : bI 220 t8_0 t8_1 t9_0) (i5 : bI 220 t10_0 t10_1 t11_0) : (S_Mil_root R x3 t0_0 t0_1 t1_0 t2_0 t2_1 t3_0 t4_0 t4_1 t5_0 t6_0 t6_1 t7_0 t8_0 t8_1 t9_0 t10_0 t10_1 t11_0 t12_0 t12_1 t13_0) ∧ G6 (fun s n f => ∃ r : Int, ((r = va ∧ (va = 0 ∨ x3 = 1)) ∨ 1 ≤ r ∧ ∃ k : Nat, r.natAbs ≤ 2 ^ k ∧ k * x3.toInt.toNat ≤ 31 * Ma + x3.toInt.toNat - 1) ∧ bO 220 s n f r) (bI 220) (bI 220) (bI 220) (bI 220) (bI 220) (F_Mil_root R x3 t0_0 t0_1 t1_0 t2_0 t2_1 t3_0 t4_0 t4_1 t5_0 t6_0 t6_1 t7_0 t8_0 t8_1 t9_0 t10_0 t10_1 t11_0 t12_0 t12_1 t13_0) := by
  have e := e220
  have sa := ha.sB hMa
  unfold S_Mil_root F_Mil_root
  have h5 : P1 220 va (F_Big_copy (220 : Int32) R t0_0 t0_1 t1_0 t12_0 t12_1 t13_0) := W_copy ha ha.fit (by decide)
  generalize (F_Big_copy (220 : Int32) R t0_0 t0_1 t1_0 t12_0 t12_1 t13_0) = p72 at h5 ⊢
  unfold S_Mil_root_c5 F_Mil_root_c5
  by_cases h0 : t12_0 = 0
  · rw [if_pos h0, if_pos h0]
    exact ⟨trivial, ⟨va, Or.inl ⟨rfl, Or.inl (ha.nil.mp h0)⟩, h5⟩, i1, i2, i3, i4, i5⟩
  rw [if_neg h0, if_neg h0]
  have hva : va ≠ 0 := fun h => h0 (ha.nil.mpr h)
  by_cases h1 : x3 = 1
  · rw [if_pos h1, if_pos h1]
    exact ⟨trivial, ⟨va, Or.inl ⟨rfl, Or.inr h1⟩, h5⟩, i1, i2, i3, i4, i5⟩
  rw [if_neg h1, if_neg h1]
  have hx3 : 2 ≤ x3.toInt := by
    have : x3.toInt ≠ (1 : Int32).toInt := fun h => h1 (Int32.toInt_inj.mp h)
    have e1 := v_e1
    omega
  have h26 : P1 220 1 (F_Big_setLong (220 : Int32) (1 : Int64) (p72.1 : Int32) (p72.2.1 : Int32) (p72.2.2 : (Nat → Int32))) := W_setLong (x := 1) (by decide) (by decide)
  generalize (F_Big_setLong (220 : Int32) (1 : Int64) (p72.1 : Int32) (p72.2.1 : Int32) (p72.2.2 : (Nat → Int32))) = p101 at h26 ⊢
  unfold S_Mil_root_c26 F_Mil_root_c26
  obtain ⟨b, b1, b2, b3, b4⟩ := V_bits (R := R) (neg := t12_1) ha.1 ha.fit
  have hcl := q_clI (i := t12_0) rfl ha.s0
  obtain ⟨n, hn⟩ : ∃ n : Nat, x3.toInt = (n : Int) := ⟨x3.toInt.toNat, by omega⟩
  have k1 : (F_Big_bitLength R t12_0 t12_1 t13_0 + x3 : Int32).toInt = (b : Int) + n := q_addI b1 hn (by omega) (by omega)
  have k2 : (F_Big_bitLength R t12_0 t12_1 t13_0 + x3 - 1 : Int32).toInt = (b : Int) + n - 1 := q_subI k1 v_e1 (by omega) (by omega)
  have k3 : ((F_Big_bitLength R t12_0 t12_1 t13_0 + x3 - 1) / x3 : Int32).toInt = (((b + n - 1) / n : Nat) : Int) := by
    rw [q_divI k2 hn (by omega) (by omega), Int.natCast_ediv]
    congr 1
    omega
  obtain ⟨c1, c2, c3⟩ := v_cd (b := b) (n := n) (by omega)
  obtain ⟨d, ed⟩ := q_nm ((F_Big_bitLength R t12_0 t12_1 t13_0 + x3 - 1) / x3 : Int32)
  rw [ed] at k3 ⊢
  generalize (b + n - 1) / n = k at k3 c1 c2 c3
  have s26 := h26.sB v_one
  have hsh := W_shl (x := d) h26 (fun _ _ => by omega)
  have hcd := q_clI (i := d) k3 (by omega)
  rw [show d.toNatClampNeg = k by omega, Int.one_mul] at hsh
  generalize F_Big_shiftLeft 220 d p101.1 p101.2.1 p101.2.2 = p140 at hsh ⊢
  unfold S_Mil_root_c43 F_Mil_root_c43
  have hk : ((2 : Int) ^ k).natAbs = 2 ^ k := by rw [Int.natAbs_pow]; rfl
  have hk1 : (1 : Int) ≤ 2 ^ k := by
    have := v_p2 k
    omega
  have hnx : x3.toInt.toNat = n := by omega
  obtain ⟨f1, f2, f3⟩ := T_rootL (N := k) (t0_0 := t0_0) (t0_1 := t0_1) (t1_0 := t1_0) (t2_0 := t2_0) (t2_1 := t2_1) (t3_0 := t3_0) (t4_0 := t4_0) (t4_1 := t4_1) (t5_0 := t5_0) (t6_0 := t6_0) (t6_1 := t6_1) (t7_0 := t7_0) (t8_0 := t8_0) (t8_1 := t8_1) (t9_0 := t9_0) (t10_0 := t10_0) (t10_1 := t10_1) (t11_0 := t11_0) (p72 := p72) (p101 := p101) (p140 := p140) ha hva hMa hM1 hMa2 hx3 hx2 (by rw [hnx]; omega) (by omega) ((10000 - (0 : Int32).toInt).toNat + 1) 0 p140.1 p140.2.1 p140.2.2 t2_0 t2_1 t3_0 t4_0 t4_1 t5_0 t6_0 t6_1 t7_0 t8_0 t8_1 t9_0 t10_0 t10_1 t11_0 (by decide) (by decide) (by decide) ⟨_, hk1, by omega, hsh⟩ i1 i2 i3 i4 i5
  refine ⟨⟨hx, f1⟩, ?_, f3⟩
  obtain ⟨r, r1, r2, r3⟩ := f2
  exact ⟨r, Or.inr ⟨r1, k, r2, by rw [hnx]; omega⟩, r3⟩

