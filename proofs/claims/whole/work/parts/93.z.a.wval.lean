/-! the reference's rows of 16 bits: their value -/
def wV (f : Nat → Int32) : Nat → Int
  | 0 => 0
  | n + 1 => wV f n + (f n).toInt * 65536 ^ n
def wO (f : Nat → Int32) (n : Nat) : Prop := ∀ i, i < n → 0 ≤ (f i).toInt ∧ (f i).toInt < 65536
theorem wO.mono {f : Nat → Int32} {n m : Nat} (h : wO f n) (hm : m ≤ n) : wO f m := fun i hi => h i (by omega)
theorem w_pos (n : Nat) : (0 : Int) < 65536 ^ n := Int.pow_pos (by decide)
theorem w_pw (n : Nat) : (65536 : Int) ^ (n + 1) = 65536 ^ n * 65536 := Int.pow_succ _ _
theorem w_nn {f : Nat → Int32} : ∀ {n : Nat}, wO f n → 0 ≤ wV f n
  | 0, _ => Int.le_refl 0
  | n + 1, h => by
    have h1 := w_nn (f := f) (n := n) (h.mono (by omega))
    have h2 := Int.mul_nonneg (h n (by omega)).1 (Int.le_of_lt (w_pos n))
    show 0 ≤ wV f n + _
    omega
theorem w_lt {f : Nat → Int32} : ∀ {n : Nat}, wO f n → wV f n < 65536 ^ n
  | 0, _ => by show (0 : Int) < 1; decide
  | n + 1, h => by
    have h1 := w_lt (f := f) (n := n) (h.mono (by omega))
    have h2 := (h n (by omega)).2
    have h3 : (f n).toInt * 65536 ^ n ≤ 65535 * 65536 ^ n := Int.mul_le_mul_of_nonneg_right (by omega) (Int.le_of_lt (w_pos n))
    have h4 := w_pw n
    show wV f n + _ < _
    rw [h4]
    omega
theorem w_ext {f g : Nat → Int32} : ∀ {n : Nat}, (∀ i, i < n → f i = g i) → wV f n = wV g n
  | 0, _ => rfl
  | n + 1, h => by
    show wV f n + _ = wV g n + _
    rw [w_ext (n := n) (fun i hi => h i (by omega)), h n (by omega)]
theorem w_zer {f : Nat → Int32} {k : Nat} : ∀ {n : Nat}, k ≤ n → (∀ i, k ≤ i → i < n → f i = 0) → wV f n = wV f k
  | 0, hk, _ => by have : k = 0 := by omega
                   subst this; rfl
  | n + 1, hk, h => by
    by_cases e : k = n + 1
    · subst e; rfl
    · have h0 : (0 : Int32).toInt = 0 := rfl
      show wV f n + _ = _
      rw [w_zer (n := n) (by omega) (fun i a b => h i a (by omega)), h n (by omega) (by omega), h0]
      omega
theorem w_upd_ge {f : Nat → Int32} {i : Nat} {x : Int32} : ∀ {n : Nat}, n ≤ i → wV (upd f i x) n = wV f n
  | 0, _ => rfl
  | n + 1, h => by
    show wV (upd f i x) n + _ = wV f n + _
    rw [w_upd_ge (n := n) (by omega), v_ne (by omega)]
theorem w_upd {f : Nat → Int32} {i : Nat} {x : Int32} : ∀ {n : Nat}, i < n → wV (upd f i x) n = wV f n + (x.toInt - (f i).toInt) * 65536 ^ i
  | 0, h => by omega
  | n + 1, h => by
    show wV (upd f i x) n + _ = wV f n + _ + _
    by_cases e : n = i
    · subst e
      rw [w_upd_ge (Nat.le_refl _), v_eq, Int.sub_mul]
      omega
    · rw [w_upd (n := n) (by omega), v_ne e]
      omega
theorem wO_upd {f : Nat → Int32} {n i : Nat} {x : Int32} (h : wO f n) (hx : 0 ≤ x.toInt ∧ x.toInt < 65536) : wO (upd f i x) n := fun j hj => by
  by_cases e : j = i
  · subst e; rw [v_eq]; exact hx
  · rw [v_ne e]; exact h j hj
theorem w_ge {f : Nat → Int32} {k : Nat} : ∀ {n : Nat}, wO f n → k < n → f k ≠ 0 → (65536 : Int) ^ k ≤ wV f n
  | 0, _, h, _ => by omega
  | n + 1, ho, h, hk => by
    show _ ≤ wV f n + _
    have h1 := w_nn (f := f) (n := n) (ho.mono (by omega))
    have h2 := Int.mul_nonneg (ho n (by omega)).1 (Int.le_of_lt (w_pos n))
    by_cases e : k = n
    · subst e
      have h3 := (ho k (by omega)).1
      have h4 : (f k).toInt ≠ 0 := fun e => hk (Int32.toInt_inj.mp (by rw [e]; rfl))
      have h5 := Int.mul_le_mul_of_nonneg_right (show 1 ≤ (f k).toInt by omega) (Int.le_of_lt (w_pos k))
      omega
    · have := w_ge (n := n) (ho.mono (by omega)) (by omega) hk
      omega
/-- sixteen bits of a signed number, and the rest -/
theorem w_and {x : Int64} : (x &&& 65535).toInt = x.toInt % 65536 := by
  have h4 : (x &&& 65535).toBitVec.toNat = x.toBitVec.toNat % 65536 := by
    rw [Int64.toBitVec_and, BitVec.toNat_and]
    exact Nat.and_two_pow_sub_one_eq_mod _ 16
  have h5 := s_ofL h4 (by omega)
  rw [h5]
  have h6 : x.toInt = x.toBitVec.toInt := rfl
  rw [h6, BitVec.toInt_eq_toNat_cond]
  split <;> omega
theorem w_shr {x : Int64} : (x >>> ((16 : Int32).toInt64 &&& 63)).toInt = x.toInt / 65536 := by
  have hc : ((16 : Int32).toInt64 &&& 63).toBitVec.smod 64 = BitVec.ofNat 64 16 := by decide
  show (x >>> ((16 : Int32).toInt64 &&& 63)).toBitVec.toInt = _
  rw [Int64.toBitVec_shiftRight, hc, BitVec.sshiftRight_eq', BitVec.toInt_sshiftRight, Int.shiftRight_eq_div_pow]
  rfl
theorem w_and' {x : Int64} : ((x &&& 65535).toInt32).toInt = x.toInt % 65536 := by
  have h := w_and (x := x)
  have h1 := Int.emod_nonneg x.toInt (show (65536 : Int) ≠ 0 by decide)
  have h2 := Int.emod_lt_of_pos x.toInt (show (0 : Int) < 65536 by decide)
  rw [s_l2i (by omega) (by omega), h]
theorem w_shl {x : Int64} (h : 0 ≤ x.toInt) (h2 : x.toInt < 4294967296) : (x <<< ((16 : Int32).toInt64 &&& 63)).toInt = x.toInt * 65536 := by
  obtain ⟨h1, h3, -⟩ := s_nnL h
  have hc : ((16 : Int32).toInt64 &&& 63).toBitVec.smod 64 = BitVec.ofNat 64 16 := by decide
  have e : (x <<< ((16 : Int32).toInt64 &&& 63)).toBitVec.toNat = x.toBitVec.toNat * 65536 := by
    rw [Int64.toBitVec_shiftLeft, hc, BitVec.shiftLeft_eq', BitVec.toNat_shiftLeft, Nat.shiftLeft_eq]
    show x.toBitVec.toNat * 65536 % 18446744073709551616 = _
    omega
  have h5 := s_ofL e (by omega)
  rw [h5, h1]
  omega
theorem w_or {x : Int64} {y : Int32} (h : 0 ≤ x.toInt) (h2 : x.toInt < 140737488355328) (hm : x.toInt % 65536 = 0) (hy : 0 ≤ y.toInt ∧ y.toInt < 65536) : (x ||| y.toInt64).toInt = x.toInt + y.toInt := by
  obtain ⟨h1, h3, -⟩ := s_nnL h
  have ey : y.toInt64.toInt = y.toInt := q_i2l rfl
  obtain ⟨y1, y3, -⟩ := s_nnL (x := y.toInt64) (by omega)
  have e : (x ||| y.toInt64).toBitVec.toNat = x.toBitVec.toNat + y.toInt64.toBitVec.toNat := by
    rw [Int64.toBitVec_or, BitVec.toNat_or]
    have hx : x.toBitVec.toNat = 65536 * (x.toBitVec.toNat / 65536) := by omega
    rw [hx]
    have := Nat.two_pow_add_eq_or_of_lt (i := 16) (b := y.toInt64.toBitVec.toNat) (by omega) (x.toBitVec.toNat / 65536)
    exact this.symm
  have h5 := s_ofL e (by omega)
  rw [h5]
  omega
/-- the length of a row -/
theorem w_sizeL {N : Int32} {f : Nat → Int32} : ∀ (n : Nat) (k : Int32), 0 ≤ k.toInt → k.toInt ≤ N.toInt → k.toInt < n → (∀ i : Nat, k.toInt ≤ i → (i : Int) < N.toInt → f i = 0) →
    0 ≤ (F_WR_size_L3 N f n k).toInt ∧ (F_WR_size_L3 N f n k).toInt ≤ N.toInt ∧ (∀ i : Nat, (F_WR_size_L3 N f n k).toInt ≤ i → (i : Int) < N.toInt → f i = 0) ∧ (0 < (F_WR_size_L3 N f n k).toInt → f ((F_WR_size_L3 N f n k).toNatClampNeg - 1) ≠ 0) := by
  intro n
  induction n with
  | zero => intro k h0 h1 h2 h3; omega
  | succ n ih =>
    intro k h0 h1 h2 h3
    have e0 : (0 : Int32).toInt = 0 := rfl
    have hN := Int32.toInt_lt N
    rw [F_WR_size_L3.eq_2]
    by_cases c : k ≤ 0
    · rw [if_pos c]
      have := q_leI c
      exact ⟨h0, h1, h3, fun h => by omega⟩
    · rw [if_neg c]
      have c2 := q_nleI c
      have e1 : (k - 1 : Int32).toInt = k.toInt - 1 := q_subI (y := 1) rfl (by decide) (by omega) (by omega)
      have e2 : (k + (-1) : Int32).toInt = k.toInt + (-1) := q_addI (y := -1) rfl (by decide) (by omega) (by omega)
      have ek := q_clI (i := k) rfl h0
      have e3 := q_clI (i := k - 1) e1 (by omega)
      have e4 : (k - 1 : Int32).toNatClampNeg = k.toNatClampNeg - 1 := by omega
      rw [e4]
      by_cases z : f (k.toNatClampNeg - 1) = 0
      · rw [if_pos z]
        refine ih _ (by omega) (by omega) (by omega) fun i a b => ?_
        by_cases e : i = k.toNatClampNeg - 1
        · rw [e]; exact z
        · exact h3 i (by omega) b
      · rw [if_neg z]
        exact ⟨h0, h1, h3, fun _ => z⟩
def wS (N : Int32) (f : Nat → Int32) (z : Int32) : Prop := 0 ≤ z.toInt ∧ z.toInt ≤ N.toInt ∧ (∀ i : Nat, z.toInt ≤ i → (i : Int) < N.toInt → f i = 0) ∧ (0 < z.toInt → f (z.toNatClampNeg - 1) ≠ 0)
theorem R_size {N : Int32} {f : Nat → Int32} (h : 0 ≤ N.toInt) : wS N f (F_WR_size N f) := w_sizeL _ _ h (Int.le_refl _) (by omega) (fun i a b => by omega)
theorem wS.val {N z : Int32} {f : Nat → Int32} (h : wS N f z) : wV f N.toNatClampNeg = wV f z.toNatClampNeg := by
  obtain ⟨h0, h1, h2, -⟩ := h
  have e1 := q_clI (i := z) rfl h0
  have e2 := q_clI (i := N) rfl (by omega)
  exact w_zer (by omega) (fun i a b => h2 i (by omega) (by omega))
theorem wS.lt {N z : Int32} {f : Nat → Int32} (h : wS N f z) (ho : wO f N.toNatClampNeg) : wV f N.toNatClampNeg < 65536 ^ z.toNatClampNeg := by
  rw [h.val]
  have e1 := q_clI (i := z) rfl h.1
  have e2 := q_clI (i := N) rfl (by have := h.1; have := h.2.1; omega)
  exact w_lt (ho.mono (by have := h.2.1; omega))
theorem wS.ge {N z : Int32} {f : Nat → Int32} (h : wS N f z) (ho : wO f N.toNatClampNeg) (hz : 0 < z.toInt) : 65536 ^ (z.toNatClampNeg - 1) ≤ wV f N.toNatClampNeg := by
  have e1 := q_clI (i := z) rfl h.1
  have e2 := q_clI (i := N) rfl (by have := h.1; have := h.2.1; omega)
  exact w_ge ho (by have := h.2.1; omega) (h.2.2.2 hz)
/-- clear, copy -/
theorem w_clearL {N : Int32} {f0 : Nat → Int32} : ∀ (n : Nat) (k : Int32) (f : Nat → Int32), 0 ≤ k.toInt → k.toInt ≤ N.toInt → N.toInt - k.toInt < n → (∀ i : Nat, (i : Int) < k.toInt → f i = 0) → ∀ i : Nat, (i : Int) < N.toInt → F_WR_clear_L2 N f0 n k f i = 0 := by
  intro n
  induction n with
  | zero => intro k f h0 hk h1 h2 i hi; omega
  | succ n ih =>
    intro k f h0 hk h1 h2 i hi
    rw [F_WR_clear_L2.eq_2]
    have hN := Int32.toInt_lt N
    by_cases c : N ≤ k
    · rw [if_pos c]
      have := q_leI c
      exact h2 i (by omega)
    · rw [if_neg c]
      have c2 := q_nleI c
      have e1 : (k + 1 : Int32).toInt = k.toInt + 1 := q_addI (y := 1) rfl (by decide) (by omega) (by omega)
      have ek := q_clI (i := k) rfl h0
      refine ih _ _ (by omega) (by omega) (by omega) (fun j hj => ?_) i hi
      by_cases e : j = k.toNatClampNeg
      · rw [e, v_eq]
      · rw [v_ne e]; exact h2 j (by omega)
theorem R_clear {N : Int32} {f : Nat → Int32} (h0 : 0 ≤ N.toInt) (hN : N.toInt ≤ 20200) : ∀ i : Nat, (i : Int) < N.toInt → F_WR_clear N f i = 0 := w_clearL _ _ _ (by decide) h0 (by have : (0 : Int32).toInt = 0 := rfl; omega) (fun i hi => by have : (0 : Int32).toInt = 0 := rfl; omega)
theorem w_copyL {N1 N2 : Int32} {f g0 : Nat → Int32} : ∀ (n : Nat) (k : Int32) (g : Nat → Int32), 0 ≤ k.toInt → k.toInt ≤ N2.toInt → N2.toInt - k.toInt < n → (∀ i : Nat, (i : Int) < k.toInt → g i = if (i : Int) < N1.toInt then f i else 0) → ∀ i : Nat, (i : Int) < N2.toInt → F_WR_copy_L2 N1 N2 f g0 n k g i = if (i : Int) < N1.toInt then f i else 0 := by
  intro n
  induction n with
  | zero => intro k f h0 hk h1 h2 i hi; omega
  | succ n ih =>
    intro k g h0 hk h1 h2 i hi
    rw [F_WR_copy_L2.eq_2]
    have hN := Int32.toInt_lt N2
    by_cases c : N2 ≤ k
    · rw [if_pos c]
      have := q_leI c
      exact h2 i (by omega)
    · rw [if_neg c]
      have c2 := q_nleI c
      have e1 : (k + 1 : Int32).toInt = k.toInt + 1 := q_addI (y := 1) rfl (by decide) (by omega) (by omega)
      have ek := q_clI (i := k) rfl h0
      by_cases d : N1 ≤ k
      · rw [if_pos d]
        have d2 := q_leI d
        refine ih _ _ (by omega) (by omega) (by omega) (fun j hj => ?_) i hi
        by_cases e : j = k.toNatClampNeg
        · rw [e, v_eq, if_neg (by omega)]
        · rw [v_ne e]; exact h2 j (by omega)
      · rw [if_neg d]
        have d2 := q_nleI d
        refine ih _ _ (by omega) (by omega) (by omega) (fun j hj => ?_) i hi
        by_cases e : j = k.toNatClampNeg
        · rw [e, v_eq, if_pos (by omega)]
        · rw [v_ne e]; exact h2 j (by omega)
theorem R_copy {N1 N2 : Int32} {f g : Nat → Int32} (h0 : 0 ≤ N2.toInt) (hN : N2.toInt ≤ 20200) : ∀ i : Nat, (i : Int) < N2.toInt → F_WR_copy N1 N2 f g i = if (i : Int) < N1.toInt then f i else 0 := w_copyL _ _ _ (by decide) h0 (by have : (0 : Int32).toInt = 0 := rfl; omega) (fun i hi => by have : (0 : Int32).toInt = 0 := rfl; omega)
