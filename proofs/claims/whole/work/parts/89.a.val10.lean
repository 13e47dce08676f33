/-! values: shifts -/
theorem t_amt : ∀ k : Fin 32, ((Int32.ofNat k.val) &&& 31).toBitVec.smod 32 = BitVec.ofNat 32 k.val := by decide +kernel
theorem t_amt2 : ∀ k : Fin 32, (((Int32.ofNat k.val).toUInt32 &&& Int32.toUInt32 31).toBitVec % 32).toNat = k.val := by decide +kernel
theorem v_amt {a : Int32} {k : Nat} (ha : a.toInt = (k : Int)) : a = Int32.ofNat k := by
  have h1 := s_len (R := a) (by omega)
  have h2 := q_clI (i := a) ha (by omega)
  have h3 : a.toNatClampNeg = k := by omega
  rw [h3] at h1
  exact h1.symm
theorem v_shlN {x a : Int32} {k : Nat} (ha : a.toInt = (k : Int)) (hk : k ≤ 31) : (x <<< (a &&& 31)).toBitVec.toNat = x.toBitVec.toNat * 2 ^ k % 4294967296 := by
  rw [v_amt ha, Int32.toBitVec_shiftLeft, t_amt ⟨k, by omega⟩, BitVec.shiftLeft_eq', BitVec.toNat_shiftLeft, Nat.shiftLeft_eq, BitVec.toNat_ofNat, Nat.mod_eq_of_lt (show k < 2 ^ 32 by omega)]
theorem v_ushrN {x a : Int32} {k : Nat} (ha : a.toInt = (k : Int)) (hk : k ≤ 31) : ((x.toUInt32 >>> (a.toUInt32 &&& Int32.toUInt32 31)).toInt32).toBitVec.toNat = x.toBitVec.toNat / 2 ^ k := by
  rw [v_amt ha]
  show (x.toUInt32 >>> ((Int32.ofNat k).toUInt32 &&& Int32.toUInt32 31)).toBitVec.toNat = _
  rw [UInt32.toBitVec_shiftRight, BitVec.ushiftRight_eq', BitVec.toNat_ushiftRight, t_amt2 ⟨k, by omega⟩, Nat.shiftRight_eq_div_pow]
  rfl
theorem v_nB {k : Nat} (hk : k ≤ 31) : (2 : Nat) ^ k * 2 ^ (31 - k) = 2147483648 := by
  rw [← Nat.pow_add, Nat.add_sub_cancel' hk]
theorem v_iB {k : Nat} (hk : k ≤ 31) : (2 : Int) ^ k * 2 ^ (31 - k) = 2147483648 := by
  rw [← Int.pow_add, Nat.add_sub_cancel' hk]
  rfl
/-- bits of two neighbours put together -/
theorem v_join {L M k : Nat} (hk : k ≤ 31) (hM : M < 2 ^ k) : (L * 2 ^ k % 4294967296 ||| M) % 2147483648 = L * 2 ^ k % 2147483648 + M := by
  have h1 := v_nB hk
  have h2 : (2 : Nat) ^ k ≤ 2147483648 := by
    have : (2 : Nat) ^ k ≤ 2 ^ 31 := Nat.pow_le_pow_right (by omega) hk
    exact this
  have e := Nat.or_mod_two_pow (a := L * 2 ^ k % 4294967296) (b := M) (n := 31)
  have e2 : (2 : Nat) ^ 31 = 2147483648 := rfl
  rw [e2] at e
  rw [e, Nat.mod_eq_of_lt (show M < 2147483648 by omega), show L * 2 ^ k % 4294967296 % 2147483648 = L * 2 ^ k % 2147483648 by omega]
  have e3 : L * 2 ^ k % 2147483648 = 2 ^ k * (L % 2 ^ (31 - k)) := by
    rw [← h1, Nat.mul_comm L, Nat.mul_mod_mul_left]
  rw [e3]
  exact (Nat.two_pow_add_eq_or_of_lt hM _).symm
theorem v_shlI {L M a b : Int32} {k : Nat} (hL : 0 ≤ L.toInt) (hM : 0 ≤ M.toInt) (ha : a.toInt = (k : Int)) (hb : b.toInt = ((31 - k : Nat) : Int)) (hk : k ≤ 31) : (((L <<< (a &&& 31)) ||| ((M.toUInt32 >>> (b.toUInt32 &&& Int32.toUInt32 31)).toInt32)) &&& 2147483647).toInt = L.toInt * 2 ^ k % 2147483648 + M.toInt / 2 ^ (31 - k) := by
  obtain ⟨l1, l2, -⟩ := s_nn hL
  obtain ⟨m1, m2, -⟩ := s_nn hM
  have e1 := v_shlN (x := L) ha hk
  have e2 := v_ushrN (x := M) hb (by omega)
  have h1 := v_nB hk
  have hlt : M.toBitVec.toNat / 2 ^ (31 - k) < 2 ^ k := by
    rw [Nat.div_lt_iff_lt_mul (Nat.two_pow_pos _), h1]
    exact m2
  have e3 : (((L <<< (a &&& 31)) ||| ((M.toUInt32 >>> (b.toUInt32 &&& Int32.toUInt32 31)).toInt32)) &&& 2147483647).toBitVec.toNat = L.toBitVec.toNat * 2 ^ k % 2147483648 + M.toBitVec.toNat / 2 ^ (31 - k) := by
    rw [Int32.toBitVec_and, BitVec.toNat_and, Int32.toBitVec_or, BitVec.toNat_or, e1, e2, ← v_join hk hlt]
    exact Nat.and_two_pow_sub_one_eq_mod _ 31
  have h2 : 2 ^ k * (L.toBitVec.toNat % 2 ^ (31 - k)) = L.toBitVec.toNat * 2 ^ k % 2147483648 := by
    rw [← h1, Nat.mul_comm L.toBitVec.toNat, Nat.mul_mod_mul_left]
  have h3 : L.toBitVec.toNat % 2 ^ (31 - k) + 1 ≤ 2 ^ (31 - k) := Nat.mod_lt _ (Nat.two_pow_pos _)
  have h4 : 2 ^ k * (L.toBitVec.toNat % 2 ^ (31 - k) + 1) ≤ 2 ^ k * 2 ^ (31 - k) := Nat.mul_le_mul_left _ h3
  rw [h1, Nat.mul_add, Nat.mul_one, h2] at h4
  have h5 := s_of e3 (by omega)
  rw [h5, l1, m1]
  simp only [Int.natCast_add, Int.natCast_emod, Int.natCast_mul, Int.natCast_pow, Int.natCast_ediv]
  rfl
theorem v_shrI {L M a b : Int32} {k : Nat} (hL : 0 ≤ L.toInt) (hM : 0 ≤ M.toInt) (ha : a.toInt = (k : Int)) (hb : b.toInt = ((31 - k : Nat) : Int)) (hk : k ≤ 31) : (((L.toUInt32 >>> (a.toUInt32 &&& Int32.toUInt32 31)).toInt32 ||| (M <<< (b &&& 31))) &&& 2147483647).toInt = L.toInt / 2 ^ k + M.toInt * 2 ^ (31 - k) % 2147483648 := by
  have h := v_shlI (L := M) (M := L) (a := b) (b := a) (k := 31 - k) hM hL hb (by rw [ha]; omega) (by omega)
  have e : 31 - (31 - k) = k := by omega
  rw [e] at h
  rw [Int32.or_comm, h, Int.add_comm]
theorem v_p2 (k : Nat) : (0 : Int) < 2 ^ k := Int.pow_pos (by decide)
theorem v_c1 {x : Int} {k : Nat} (hk : k ≤ 31) : x * 2 ^ k = 2147483648 * (x / 2 ^ (31 - k)) + x * 2 ^ k % 2147483648 := by
  have h1 : x * 2 ^ k / 2147483648 = x / 2 ^ (31 - k) := by
    rw [← v_iB hk, Int.mul_comm x]
    exact Int.mul_ediv_mul_of_pos _ _ (v_p2 k)
  have h2 := Int.emod_add_mul_ediv (x * 2 ^ k) 2147483648
  rw [h1] at h2
  omega
theorem v_c2 {x : Int} {k : Nat} (hk : k ≤ 31) : x * 2 ^ (31 - k) % 2147483648 * 2 ^ k = x % 2 ^ k * 2147483648 := by
  have h1 : x * 2 ^ (31 - k) % 2147483648 = 2 ^ (31 - k) * (x % 2 ^ k) := by
    rw [← v_iB hk, Int.mul_comm x, Int.mul_comm (2 ^ k)]
    exact Int.mul_emod_mul_of_pos _ _ (v_p2 _)
  rw [h1, ← v_iB hk]
  ac_rfl
theorem v_c3 {x : Int} {k : Nat} : x / 2 ^ k * 2 ^ k = x - x % 2 ^ k := by
  have h2 := Int.emod_add_mul_ediv x (2 ^ k)
  rw [Int.mul_comm]
  omega
/-- limb m of a number of s limbs -/
def v_lm (f : Nat → Int32) (s m : Nat) : Int := if m < s then (f m).toInt else 0
theorem v_lm0 {f : Nat → Int32} {s m : Nat} (ok : okL f s) : 0 ≤ v_lm f s m := by
  unfold v_lm
  split
  · exact ok _ ‹_›
  · exact Int.le_refl 0
theorem vL_lm {f : Nat → Int32} {s n : Nat} : vL f s (n + 1) = vL f s n + v_lm f s n * 2147483648 ^ n := rfl
def v_T (f : Nat → Int32) (s k m : Nat) : Int := v_lm f s m * 2 ^ k % 2147483648 + (if m = 0 then 0 else v_lm f s (m - 1) / 2 ^ (31 - k))
theorem v_shlId {V a k t c P r : Int} (h : a * k = 2147483648 * t + r) : (k * V - c * P) + (r + c) * P = k * (V + a * P) - t * (P * 2147483648) := by
  have h2 : a * k * P = (2147483648 * t + r) * P := by rw [h]
  have e1 : k * (a * P) = a * k * P := by ac_rfl
  have e2 : t * (P * 2147483648) = 2147483648 * t * P := by ac_rfl
  simp only [Int.add_mul, Int.mul_add] at h2 ⊢
  omega
theorem v_shlV {f h : Nat → Int32} {s k : Nat} (hk : k ≤ 31) : ∀ {n : Nat}, (∀ m, m < n → (h m).toInt = v_T f s k m) → vB h n = 2 ^ k * vL f s n - (if n = 0 then 0 else v_lm f s (n - 1) / 2 ^ (31 - k)) * 2147483648 ^ n
  | 0, _ => by
    show (0 : Int) = 2 ^ k * 0 - 0 * 1
    rw [Int.mul_zero]
    rfl
  | n + 1, hh => by
    have ih := v_shlV (f := f) (h := h) (s := s) hk (n := n) (fun m hm => hh m (by omega))
    show vB h n + (h n).toInt * _ = _
    rw [ih, hh n (by omega), vL_lm, v_pw, if_neg (show ¬ n + 1 = 0 by omega), show n + 1 - 1 = n by omega]
    unfold v_T
    exact v_shlId (v_c1 hk)
theorem v_limbN {R i s neg : Int32} {f : Nat → Int32} (h : i.toInt < 0) : (F_Big_limb R i s neg f).toInt = 0 := by
  unfold F_Big_limb
  rw [if_pos (Int32.lt_iff_toInt_lt.mpr h)]
  rfl
theorem v_split {f : Nat → Int32} {p : Nat} : ∀ {n : Nat}, vB f (p + n) = vB f p + 2147483648 ^ p * vB (fun i => f (p + i)) n
  | 0 => by
    show vB f p = vB f p + 2147483648 ^ p * 0
    rw [Int.mul_zero, Int.add_zero]
  | n + 1 => by
    have ih := v_split (f := f) (p := p) (n := n)
    show vB f (p + n) + (f (p + n)).toInt * 2147483648 ^ (p + n) = vB f p + 2147483648 ^ p * (vB (fun i => f (p + i)) n + (f (p + n)).toInt * 2147483648 ^ n)
    rw [ih, Int.pow_add, Int.mul_add]
    have e : 2147483648 ^ p * ((f (p + n)).toInt * 2147483648 ^ n) = (f (p + n)).toInt * (2147483648 ^ p * 2147483648 ^ n) := by ac_rfl
    omega
theorem V_shlL {R x2 s neg top a far : Int32} {g0 f : Nat → Int32} {k : Nat} (hs : 0 ≤ s.toInt) (hf : 0 ≤ far.toInt) (hk : k ≤ 30) (ha : a.toInt = (k : Int)) (ht : top.toInt ≤ 220) (ok : okL f s.toNatClampNeg) :
    ∀ (n : Nat) (i : Int32) (g : Nat → Int32), far.toInt - 1 ≤ i.toInt → i.toInt < top.toInt → (i.toInt - far.toInt + 1).toNat < n → (∀ j : Nat, (j : Int) ≤ i.toInt → g j = f j) →
    (∀ m : Nat, i.toInt < far.toInt + m → far.toInt + m < top.toInt → (g (far.toNatClampNeg + m)).toInt = v_T f s.toNatClampNeg k m) →
    ∃ h : Nat → Int32, F_Big_shiftLeft_L55 R x2 s neg g0 top a far n i g = ((F_Big_trim R top neg (F_jArr_fill R 0 far 0 h)).1, (F_Big_trim R top neg (F_jArr_fill R 0 far 0 h)).2, F_jArr_fill R 0 far 0 h) ∧ ∀ m : Nat, far.toInt + m < top.toInt → (h (far.toNatClampNeg + m)).toInt = v_T f s.toNatClampNeg k m := by
  have ef := q_clI (i := far) rfl hf
  have es := q_clI (i := s) rfl hs
  have s31 : (31 - a : Int32).toInt = ((31 - k : Nat) : Int) := by
    have := q_subI (a := 31) (b := a) (x := 31) (y := (k : Int)) rfl ha (by omega) (by omega)
    rw [this]
    omega
  intro n
  induction n with
  | zero => intro i g h1 h2 h3; omega
  | succ n ih =>
    intro i g h1 h2 h3 h4 h5
    rw [F_Big_shiftLeft_L55.eq_2]
    by_cases hc : i < far
    · rw [if_pos hc]
      have := q_ltI hc
      exact ⟨g, rfl, fun m hm => h5 m (by omega) hm⟩
    · rw [if_neg hc]
      have hc2 := q_nltI hc
      have ei := q_clI (i := i) rfl (by omega)
      have s1 : (i - far : Int32).toInt = i.toInt - far.toInt := q_subI rfl rfl (by omega) (by omega)
      have s2 : (i - far - 1 : Int32).toInt = i.toInt - far.toInt - 1 := q_subI (y := 1) s1 (by decide) (by omega) (by omega)
      have s3 := q_clI (i := i - far) s1 (by omega)
      obtain ⟨u, eu⟩ := q_nm (i - far : Int32)
      rw [eu] at s1 s2 s3 ⊢
      obtain ⟨w, ew⟩ := q_nm (u - 1 : Int32)
      rw [ew] at s2 ⊢
      obtain ⟨M, eM⟩ := q_nm u.toNatClampNeg
      have la := v_limb (R := R) (i := u) (s := s) (neg := neg) (f := g) (by omega) hs
      rw [h4 _ (by omega), eM] at la
      have lb : (F_Big_limb R w s neg g).toInt = if M = 0 then 0 else v_lm f s.toNatClampNeg (M - 1) := by
        by_cases hM : M = 0
        · rw [if_pos hM]
          exact v_limbN (by omega)
        · rw [if_neg hM]
          have lb := v_limb (R := R) (i := w) (s := s) (neg := neg) (f := g) (by omega) hs
          have e9 := q_clI (i := w) s2 (by omega)
          rw [h4 _ (by omega), show w.toNatClampNeg = M - 1 by omega] at lb
          exact lb
      obtain ⟨A, eA⟩ := q_nm (F_Big_limb R u s neg g)
      obtain ⟨B, eB⟩ := q_nm (F_Big_limb R w s neg g)
      rw [eA] at la ⊢
      rw [eB] at lb ⊢
      have la2 : A.toInt = v_lm f s.toNatClampNeg M := la
      have A0 : 0 ≤ A.toInt := by rw [la2]; exact v_lm0 ok
      have B0 : 0 ≤ B.toInt := by
        rw [lb]
        split
        · exact Int.le_refl 0
        · exact v_lm0 ok
      have q := v_shlI (L := A) (M := B) (a := a) (b := 31 - a) (k := k) A0 B0 ha s31 (by omega)
      obtain ⟨x, ex⟩ := q_nm (((A <<< (a &&& 31)) ||| ((B.toUInt32 >>> ((31 - a : Int32).toUInt32 &&& Int32.toUInt32 31)).toInt32)) &&& 2147483647 : Int32)
      rw [ex] at q ⊢
      have p1 : (i + (-1) : Int32).toInt = i.toInt + (-1) := q_addI (y := -1) rfl (by decide) (by omega) (by omega)
      obtain ⟨i', ei'⟩ := q_nm (i + (-1) : Int32)
      rw [ei'] at p1 ⊢
      refine ih i' (upd g i.toNatClampNeg x) (by omega) (by omega) (by omega) (fun j hj => by rw [v_ne (by omega)]; exact h4 j (by omega)) (fun m hm hm2 => ?_)
      by_cases hmM : far.toNatClampNeg + m = i.toNatClampNeg
      · rw [hmM, v_eq, q, la2, lb]
        have : m = M := by omega
        subst this
        unfold v_T
        congr 1
        split
        · exact Int.zero_ediv _
        · rfl
      · rw [v_ne hmM]
        exact h5 m (by omega) hm2
theorem v_p31 : ∀ n : Nat, (2 : Int) ^ (31 * n) = 2147483648 ^ n
  | 0 => rfl
  | n + 1 => by rw [v_pw, ← v_p31 n, Nat.mul_add, Int.pow_add]; rfl
theorem V_shl {R x s neg : Int32} {f : Nat → Int32} (hx : 0 < x.toInt) (hs : 0 < s.toInt) (hR : R.toInt ≤ 220) (hfit : s.toInt + x.toInt / 31 + 1 ≤ R.toInt) (ok : okL f s.toNatClampNeg) :
    ∃ (z : Int32) (h : Nat → Int32), F_Big_shiftLeft R x s neg f = (z, if neg = 0 then 0 else if z ≤ 0 then 0 else 1, h) ∧ 0 ≤ z.toInt ∧ z.toInt ≤ s.toInt + x.toInt / 31 + 1 ∧ okL h z.toNatClampNeg ∧ (0 < z.toInt → h (z.toNatClampNeg - 1) ≠ 0) ∧ vB h z.toNatClampNeg = vB f s.toNatClampNeg * 2 ^ x.toNatClampNeg := by
  have e0 : (0 : Int32).toInt = 0 := rfl
  have d1 : (x / 31 : Int32).toInt = x.toInt / 31 := q_divI (y := 31) rfl rfl (by omega) (by omega)
  have d2 : (x - x / 31 * 31 : Int32).toInt = x.toInt % 31 := s_rem (b := 31) (by omega) (by decide)
  have ex := q_clI (i := x) rfl (by omega)
  have es := q_clI (i := s) rfl (by omega)
  unfold F_Big_shiftLeft
  rw [if_neg (fun hh => by have := q_leI hh; omega), if_neg (fun hh => by rw [hh] at hs; omega)]
  obtain ⟨far, efar⟩ := q_nm (x / 31 : Int32)
  rw [efar] at d1 d2 ⊢
  obtain ⟨a, ea⟩ := q_nm (x - far * 31 : Int32)
  rw [ea] at d2 ⊢
  rw [if_pos (Int32.lt_iff_toInt_lt.mpr (by omega))]
  have t1 : (s + far : Int32).toInt = s.toInt + far.toInt := q_addI rfl rfl (by omega) (by omega)
  have t2 : (s + far + 1 : Int32).toInt = s.toInt + far.toInt + 1 := q_addI (y := 1) t1 rfl (by omega) (by omega)
  have t3 : (if (s + far + 1 : Int32) < R then (s + far + 1 : Int32) else R) = s + far + 1 := by
    split
    · rfl
    · have := q_nltI ‹_›
      exact Int32.toInt_inj.mp (by omega)
  rw [t3]
  obtain ⟨top, etop⟩ := q_nm (s + far + 1 : Int32)
  rw [etop] at t2 ⊢
  have t4 : (top - 1 : Int32).toInt = top.toInt - 1 := q_subI (y := 1) rfl rfl (by omega) (by omega)
  obtain ⟨tm, etm⟩ := q_nm (top - 1 : Int32)
  rw [etm] at t4 ⊢
  have ef := q_clI (i := far) rfl (by omega)
  have et := q_clI (i := top) rfl (by omega)
  obtain ⟨k, hk⟩ : ∃ k : Nat, a.toInt = (k : Int) := ⟨a.toInt.toNat, by omega⟩
  obtain ⟨h, r1, r2⟩ := V_shlL (R := R) (x2 := x) (s := s) (neg := neg) (top := top) (a := a) (far := far) (g0 := f) (f := f) (k := k) (by omega) (by omega) (by omega) hk (by omega) ok ((tm.toInt - (-1)).toNat + 1) tm f (by omega) (by omega) (by omega) (fun _ _ => rfl) (fun m hm hm2 => by omega)
  rw [r1]
  have fz := fun j => V_fill0 (R := R) (x2 := far) (f := h) (by omega) (by omega) j
  obtain ⟨g, eg⟩ := q_nm (F_jArr_fill R 0 far 0 h)
  rw [eg] at fz ⊢
  have g1 : ∀ m, m < s.toNatClampNeg + 1 → (g (far.toNatClampNeg + m)).toInt = v_T f s.toNatClampNeg k m := fun m hm => by
    rw [fz, if_neg (by omega)]
    exact r2 m (by omega)
  have g2 := v_shlV (f := f) (h := fun i => g (far.toNatClampNeg + i)) (s := s.toNatClampNeg) (k := k) (by omega) (n := s.toNatClampNeg + 1) g1
  have g3 : v_lm f s.toNatClampNeg (s.toNatClampNeg + 1 - 1) = 0 := by
    unfold v_lm
    rw [if_neg (by omega)]
  rw [if_neg (by omega), g3, Int.zero_ediv, Int.zero_mul, Int.sub_zero, vL_ge (by omega)] at g2
  have g4 := v_split (f := g) (p := far.toNatClampNeg) (n := s.toNatClampNeg + 1)
  rw [g2, v_zero (n := far.toNatClampNeg) (fun j hj => by rw [fz, if_pos hj]), Int.zero_add, show far.toNatClampNeg + (s.toNatClampNeg + 1) = top.toNatClampNeg by omega] at g4
  have okg : okL g top.toNatClampNeg := fun j hj => by
    rw [fz]
    split
    · exact Int.le_refl 0
    · obtain ⟨m, hm⟩ : ∃ m, j = far.toNatClampNeg + m := ⟨j - far.toNatClampNeg, by omega⟩
      subst hm
      rw [r2 m (by omega)]
      unfold v_T
      have h1 := Int.emod_nonneg (v_lm f s.toNatClampNeg m * 2 ^ k) (show (2147483648 : Int) ≠ 0 by decide)
      have h2 : 0 ≤ (if m = 0 then 0 else v_lm f s.toNatClampNeg (m - 1) / 2 ^ (31 - k) : Int) := by
        split
        · exact Int.le_refl 0
        · exact Int.ediv_nonneg (v_lm0 ok) (Int.le_of_lt (v_p2 _))
      omega
  obtain ⟨z, w1, w2, w3, w4, w5⟩ := V_trimT (R := R) (s := top) (neg := neg) (f := g) (by omega) (by omega)
  rw [w1]
  refine ⟨z, g, rfl, w2, by omega, okg.mono (by have := q_clI (i := z) rfl w2; omega), w4, ?_⟩
  rw [w5, g4, ← v_p31, show x.toNatClampNeg = 31 * far.toNatClampNeg + k by omega, Int.pow_add]
  ac_rfl
