/-! the value of limbs -/
def vB (f : Nat → Int32) : Nat → Int
  | 0 => 0
  | n + 1 => vB f n + (f n).toInt * 2147483648 ^ n
def okL (f : Nat → Int32) (n : Nat) : Prop := ∀ i, i < n → 0 ≤ (f i).toInt
theorem okL.mono {f : Nat → Int32} {n m : Nat} (h : okL f n) (hm : m ≤ n) : okL f m := fun i hi => h i (by omega)
theorem v_pos (n : Nat) : (0 : Int) < 2147483648 ^ n := Int.pow_pos (by decide)
theorem v_pw (n : Nat) : (2147483648 : Int) ^ (n + 1) = 2147483648 ^ n * 2147483648 := Int.pow_succ _ _
theorem v_nn {f : Nat → Int32} : ∀ {n : Nat}, okL f n → 0 ≤ vB f n
  | 0, _ => Int.le_refl 0
  | n + 1, h => by
    have h1 := v_nn (f := f) (n := n) (h.mono (by omega))
    have h2 := Int.mul_nonneg (h n (by omega)) (Int.le_of_lt (v_pos n))
    show 0 ≤ vB f n + _
    omega
theorem v_lt {f : Nat → Int32} : ∀ {n : Nat}, okL f n → vB f n < 2147483648 ^ n
  | 0, _ => by show (0 : Int) < 1; decide
  | n + 1, h => by
    have h1 := v_lt (f := f) (n := n) (h.mono (by omega))
    have h2 := Int32.toInt_lt (f n)
    have h3 : (f n).toInt * 2147483648 ^ n ≤ 2147483647 * 2147483648 ^ n := Int.mul_le_mul_of_nonneg_right (by omega) (Int.le_of_lt (v_pos n))
    have h4 := v_pw n
    show vB f n + _ < _
    rw [h4]
    omega
theorem v_ne {f : Nat → Int32} {i j : Nat} {x : Int32} (h : j ≠ i) : upd f i x j = f j := by simp [upd, h]
theorem v_eq {f : Nat → Int32} {i : Nat} {x : Int32} : upd f i x i = x := by simp [upd]
theorem v_upd_ge {f : Nat → Int32} {i : Nat} {x : Int32} : ∀ {n : Nat}, n ≤ i → vB (upd f i x) n = vB f n
  | 0, _ => rfl
  | n + 1, h => by
    show vB (upd f i x) n + _ = vB f n + _
    rw [v_upd_ge (n := n) (by omega), v_ne (by omega)]
theorem v_upd_in {f : Nat → Int32} {i : Nat} {x : Int32} : vB (upd f i x) (i + 1) = vB f i + x.toInt * 2147483648 ^ i := by
  show vB (upd f i x) i + _ = _
  rw [v_upd_ge (Nat.le_refl i), v_eq]
theorem v_upd_df {f : Nat → Int32} {i : Nat} {x : Int32} : ∀ {n : Nat}, i < n → vB (upd f i x) n - vB (upd f i x) (i + 1) = vB f n - vB f (i + 1)
  | 0, h => by omega
  | n + 1, h => by
    by_cases e : n = i
    · subst e; omega
    · have h1 := v_upd_df (f := f) (x := x) (n := n) (i := i) (by omega)
      show vB (upd f i x) n + (upd f i x n).toInt * _ - _ = vB f n + _ - _
      rw [v_ne (by omega)]
      omega
theorem okL_upd {f : Nat → Int32} {n i : Nat} {x : Int32} (h : okL f n) (hx : 0 ≤ x.toInt) : okL (upd f i x) n := fun j hj => by
  by_cases e : j = i
  · subst e; rw [v_eq]; exact hx
  · rw [v_ne e]; exact h j hj
theorem okL_push {f : Nat → Int32} {n : Nat} {x : Int32} (h : okL f n) (hx : 0 ≤ x.toInt) : okL (upd f n x) (n + 1) := fun j hj => by
  by_cases e : j = n
  · subst e; rw [v_eq]; exact hx
  · rw [v_ne e]; exact h j (by omega)
theorem v_and31 {x : Int64} (h : 0 ≤ x.toInt) : (x &&& 2147483647).toInt = x.toInt % 2147483648 := by
  obtain ⟨h1, h2, -⟩ := s_nnL h
  have h4 : (x &&& 2147483647).toBitVec.toNat = x.toBitVec.toNat % 2147483648 := by
    rw [Int64.toBitVec_and, BitVec.toNat_and]
    exact Nat.and_two_pow_sub_one_eq_mod _ 31
  have h5 := s_ofL h4 (by omega)
  rw [h5, h1]
  omega
theorem v_shr31 {x : Int64} (h : 0 ≤ x.toInt) : ((x.toUInt64 >>> ((31 : Int32).toInt64.toUInt64 &&& Int64.toUInt64 63)).toInt64).toInt = x.toInt / 2147483648 :=
  (s_ushrJ (x := x) (c := 31) 31 (by decide) (by decide)).2.2 h
theorem v_cmp0 {a b : Int64} (h : lg_cmp a b = 0) : a.toInt = b.toInt := by
  have := s_lcmp (a := a) (b := b)
  rw [h] at this
  have e : (0 : Int32).toInt = 0 := rfl
  omega
/-- one limb times a factor: the limb kept and the carry -/
theorem v_part {L x c : Int} (hL : 0 ≤ L) (hL2 : L < 2147483648) (hx : 0 ≤ x) (hx2 : x < 2147483648) (hc : 0 ≤ c) (hc2 : c < 2147483648) : 0 ≤ L * x + c ∧ L * x + c < 2147483648 * 2147483648 ∧ (L * x + c) / 2147483648 < 2147483648 := by
  have h1 : 0 ≤ L * x := Int.mul_nonneg hL hx
  have h2 : L * x ≤ 2147483647 * 2147483647 := Int.mul_le_mul (by omega) (by omega) hx (by decide)
  omega
theorem v_mulId {A L P S x c m k : Int} (h : L * x + c = m + 2147483648 * k) : (A + m * P) + x * (S - (A + L * P)) + k * (P * 2147483648) = A + x * (S - A) + c * P := by
  have h2 : (L * x + c) * P = (m + 2147483648 * k) * P := by rw [h]
  simp only [Int.mul_sub, Int.mul_add, Int.add_mul] at h2 ⊢
  have e1 : x * (L * P) = L * x * P := by rw [Int.mul_comm L x, Int.mul_assoc]
  have e2 : k * (P * 2147483648) = 2147483648 * k * P := by rw [Int.mul_comm P, ← Int.mul_assoc, Int.mul_comm k]
  omega
/-- times a factor: the loop -/
theorem V_mulS {R x2 x3 s neg : Int32} {g0 : Nat → Int32} (hx : 0 ≤ x2.toInt) (hs : 0 ≤ s.toInt) (hsR : s.toInt ≤ R.toInt) (hR : R.toInt ≤ 220) :
    ∀ (n : Nat) (i : Int32) (c : Int64) (f : Nat → Int32), 0 ≤ i.toInt → i.toInt ≤ s.toInt → 0 ≤ c.toInt → c.toInt < 2147483648 → okL f s.toNatClampNeg → (s.toInt - i.toInt).toNat < n →
    ∃ (z : Int32) (h : Nat → Int32), F_Big_multiplySmall_L6 R x2 x3 s neg g0 n i c f = (z, neg, h) ∧ s.toInt ≤ z.toInt ∧ z.toInt ≤ s.toInt + 1 ∧ z.toInt ≤ R.toInt ∧ okL h z.toNatClampNeg ∧
      (s.toInt < R.toInt → vB h z.toNatClampNeg = vB f i.toNatClampNeg + x2.toInt * (vB f s.toNatClampNeg - vB f i.toNatClampNeg) + c.toInt * 2147483648 ^ i.toNatClampNeg ∧ (z.toInt = s.toInt + 1 → h s.toNatClampNeg ≠ 0)) := by
  intro n
  induction n with
  | zero => intro i c f h1 h2 h3 h4 h5 h6; omega
  | succ n ih =>
    intro i c f h1 h2 h3 h4 h5 h6
    have ei := q_clI (i := i) rfl h1
    have es := q_clI (i := s) rfl hs
    rw [F_Big_multiplySmall_L6.eq_2]
    by_cases hc : s ≤ i
    · rw [if_pos hc]
      have hi : i = s := Int32.toInt_inj.mp (by have := q_leI hc; omega)
      subst hi
      by_cases c0 : (lg_cmp c 0 : Int32) = (0 : Int32)
      · rw [if_pos c0]
        have e0 : c.toInt = 0 := v_cmp0 c0
        refine ⟨i, f, rfl, by omega, by omega, hsR, h5, fun _ => ⟨?_, by omega⟩⟩
        rw [e0]
        simp
      · rw [if_neg c0]
        by_cases hr : R ≤ i
        · rw [if_pos hr]
          have := q_leI hr
          exact ⟨i, f, rfl, by omega, by omega, hsR, h5, fun h => by omega⟩
        · rw [if_neg hr]
          have hr2 := q_nleI hr
          have e1 : (i + 1 : Int32).toInt = i.toInt + 1 := q_addI (y := 1) rfl (by decide) (by omega) (by omega)
          have e2 : (i + 1 : Int32).toNatClampNeg = i.toNatClampNeg + 1 := by
            have := q_clI (i := i + 1) e1 (by omega)
            omega
          have e3 : c.toInt32.toInt = c.toInt := s_l2i (by omega) (by omega)
          refine ⟨i + 1, _, rfl, by omega, by omega, by omega, ?_, fun _ => ⟨?_, fun _ => ?_⟩⟩
          · rw [e2]
            exact okL_push h5 (by omega)
          · rw [e2, v_upd_in, e3]
            simp
          · rw [v_eq]
            intro e
            refine c0 ?_
            have e4 : c.toInt = 0 := by rw [← e3, e]; rfl
            exact q_cmE rfl rfl e4
    · rw [if_neg hc]
      have hc2 := q_nleI hc
      obtain ⟨L, eL⟩ := q_nm (f i.toNatClampNeg)
      rw [eL]
      have hL0 : 0 ≤ L.toInt := by rw [← eL]; exact h5 _ (by omega)
      have hL1 := Int32.toInt_lt L
      have hx1 := Int32.toInt_lt x2
      obtain ⟨p1, p2, p3⟩ := v_part hL0 hL1 hx hx1 h3 h4
      have hLx : 0 ≤ L.toInt * x2.toInt := Int.mul_nonneg hL0 hx
      have m1 : (L.toInt64 * x2.toInt64 : Int64).toInt = L.toInt * x2.toInt := q_mulL (q_i2l rfl) (q_i2l rfl) (by omega) (by omega)
      have m2 : (L.toInt64 * x2.toInt64 + c : Int64).toInt = L.toInt * x2.toInt + c.toInt := q_addL m1 rfl (by omega) (by omega)
      have m3 := v_and31 (x := L.toInt64 * x2.toInt64 + c) (by omega)
      have m4 := v_shr31 (x := L.toInt64 * x2.toInt64 + c) (by omega)
      rw [m2] at m3 m4
      have m5 := Int.emod_lt_of_pos (L.toInt * x2.toInt + c.toInt) (show (0 : Int) < 2147483648 by decide)
      have m6 := Int.emod_nonneg (L.toInt * x2.toInt + c.toInt) (show (2147483648 : Int) ≠ 0 by decide)
      have m7 := Int.emod_add_mul_ediv (L.toInt * x2.toInt + c.toInt) 2147483648
      have m8 : ((L.toInt64 * x2.toInt64 + c &&& 2147483647 : Int64).toInt32).toInt = (L.toInt * x2.toInt + c.toInt) % 2147483648 := by rw [s_l2i (by omega) (by omega), m3]
      have e1 : (i + 1 : Int32).toInt = i.toInt + 1 := q_addI (y := 1) rfl (by decide) (by omega) (by omega)
      have e2 : (i + 1 : Int32).toNatClampNeg = i.toNatClampNeg + 1 := by
        have := q_clI (i := i + 1) e1 (by omega)
        omega
      obtain ⟨z, h, r1, r2, r3, r4, r5, r6⟩ := ih (i + 1) _ _ (by omega) (by omega) (by rw [m4]; omega) (by rw [m4]; exact p3) (okL_upd (i := i.toNatClampNeg) (x := (L.toInt64 * x2.toInt64 + c &&& 2147483647 : Int64).toInt32) h5 (by omega)) (by omega)
      refine ⟨z, h, r1, r2, r3, r4, r5, fun hh => ?_⟩
      obtain ⟨r7, r8⟩ := r6 hh
      refine ⟨?_, r8⟩
      rw [r7, e2, v_upd_in, m8, m4]
      have d1 := v_upd_df (f := f) (i := i.toNatClampNeg) (x := (L.toInt64 * x2.toInt64 + c &&& 2147483647 : Int64).toInt32) (n := s.toNatClampNeg) (by omega)
      rw [v_upd_in, m8] at d1
      have d2 : vB f (i.toNatClampNeg + 1) = vB f i.toNatClampNeg + L.toInt * 2147483648 ^ i.toNatClampNeg := by rw [← eL]; rfl
      rw [d2] at d1
      rw [d1, v_pw]
      exact v_mulId m7.symm
