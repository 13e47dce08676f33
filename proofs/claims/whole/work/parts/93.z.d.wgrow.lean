/-! the reference's rows: grow, shrink -/
theorem w_growId {A a c m k P S y : Int} (h : m + 65536 * k = c + a * y) : (A + m * P) + y * (S - (A + a * P)) + k * (P * 65536) = A + y * (S - A) + c * P := by
  have h2 : (m + 65536 * k) * P = (c + a * y) * P := by rw [h]
  simp only [Int.mul_sub, Int.mul_add, Int.add_mul] at h2 ⊢
  have e1 : y * (a * P) = a * y * P := by rw [Int.mul_comm a y, Int.mul_assoc]
  have e2 : k * (P * 65536) = 65536 * k * P := by rw [Int.mul_comm P, ← Int.mul_assoc, Int.mul_comm k]
  omega
theorem w_growL {N y x3 z : Int32} {f0 : Nat → Int32} {T : Int} (h0 : 0 ≤ N.toInt) (hN : N.toInt ≤ 20200) (hy : 0 ≤ y.toInt ∧ y.toInt ≤ 65536) (hz : z.toInt ≤ N.toInt) : ∀ (n : Nat) (k : Int32) (c : Int64) (f : Nat → Int32), 0 ≤ k.toInt → k.toInt ≤ N.toInt → N.toInt - k.toInt < n → 0 ≤ c.toInt → c.toInt ≤ 65536 → wO f N.toNatClampNeg → (∀ i : Nat, k.toInt ≤ i → z.toInt ≤ i → (i : Int) < N.toInt → f i = 0) → wE (wV f k.toNatClampNeg + y.toInt * (wV f N.toNatClampNeg - wV f k.toNatClampNeg) + c.toInt * 65536 ^ k.toNatClampNeg) T →
    wJ N.toNatClampNeg T (F_WR_grow_L12 N y x3 f0 z n k c f) := by
  intro n
  induction n with
  | zero => intro k c f k0 k1 k2 c0 c1 ho hf hT; omega
  | succ n ih =>
    intro k c f k0 k1 k2 c0 c1 ho hf hT
    have eN := q_clI (i := N) rfl h0
    have ek := q_clI (i := k) rfl k0
    rw [F_WR_grow_L12.eq_2]
    have go : wJ N.toNatClampNeg T (F_WR_grow_J25 (F_WR_grow_L12 N y x3 f0 z n) N y x3 f0 z k c f) := by
      unfold F_WR_grow_J25
      by_cases d : k < N
      · rw [if_pos d]
        have d2 := q_ltI d
        have e1 : (k + 1 : Int32).toInt = k.toInt + 1 := q_addI (y := 1) rfl (by decide) (by omega) (by omega)
        have ek1 := q_clI (i := k + 1) e1 (by omega)
        have ekk : (k + 1 : Int32).toNatClampNeg = k.toNatClampNeg + 1 := by omega
        have ekN : k.toNatClampNeg < N.toNatClampNeg := by omega
        obtain ⟨a, ea⟩ := q_nm (f k.toNatClampNeg)
        have ha : 0 ≤ a.toInt ∧ a.toInt < 65536 := by rw [← ea]; exact ho _ ekN
        rw [ea]
        have n1 : 0 ≤ a.toInt * y.toInt := Int.mul_nonneg ha.1 hy.1
        have n2 : a.toInt * y.toInt ≤ 65535 * 65536 := Int.mul_le_mul (by omega) hy.2 hy.1 (by decide)
        have n3 : (a.toInt64 * y.toInt64 : Int64).toInt = a.toInt * y.toInt := q_mulL (q_i2l rfl) (q_i2l rfl) (by omega) (by omega)
        have u2 : (c + a.toInt64 * y.toInt64 : Int64).toInt = c.toInt + a.toInt * y.toInt := q_addL rfl n3 (by omega) (by omega)
        generalize (c + a.toInt64 * y.toInt64 : Int64) = w at u2 ⊢
        have w1 := w_and' (x := w)
        have w2 := w_shr (x := w)
        rw [u2] at w1 w2
        generalize ((w &&& 65535).toInt32 : Int32) = m at w1 ⊢
        generalize (w >>> ((16 : Int32).toInt64 &&& 63) : Int64) = c' at w2 ⊢
        have m1 : 0 ≤ m.toInt ∧ m.toInt < 65536 := by rw [w1]; exact ⟨Int.emod_nonneg _ (by decide), Int.emod_lt_of_pos _ (by decide)⟩
        have m2 : m.toInt + 65536 * c'.toInt = c.toInt + a.toInt * y.toInt := by rw [w1, w2]; exact Int.emod_add_mul_ediv _ _
        refine ih (k + 1) c' (upd f k.toNatClampNeg m) (by omega) (by omega) (by omega) (by omega) (by omega) (wO_upd ho m1) (fun i i1 i2 i3 => by rw [v_ne (by omega)]; exact hf i (by omega) i2 i3) ?_
        have hT : _ = _ := hT
        show _ = _
        have s1 : wV (upd f k.toNatClampNeg m) (k.toNatClampNeg + 1) = wV f k.toNatClampNeg + m.toInt * 65536 ^ k.toNatClampNeg := by
          show wV (upd f k.toNatClampNeg m) k.toNatClampNeg + _ = _
          rw [w_upd_ge (Nat.le_refl _), v_eq]
        rw [← hT, ekk, s1, w_upd ekN, w_pw, ea, ← w_growId (A := wV f k.toNatClampNeg) (P := 65536 ^ k.toNatClampNeg) (S := wV f N.toNatClampNeg) m2]
        generalize wV f N.toNatClampNeg = u1
        generalize wV f k.toNatClampNeg = u2
        rw [Int.sub_mul]
        generalize (65536 : Int) ^ k.toNatClampNeg = P
        have e5 : u1 + (m.toInt * P - a.toInt * P) - (u2 + m.toInt * P) = u1 - (u2 + a.toInt * P) := by clear ih hf hT; omega
        rw [e5]
      · rw [if_neg d]
        have d2 := q_nltI d
        have e1 : k.toNatClampNeg = N.toNatClampNeg := by omega
        refine wJ.mk ho (q := c.toInt) ?_
        have hT : _ = _ := hT
        rw [← hT, e1, Int.sub_self, Int.mul_zero, Int.add_zero]
    by_cases c1 : k < z
    · rw [if_pos c1]; exact go
    · rw [if_neg c1]
      have c2 := q_nltI c1
      by_cases zc : lg_cmp c 0 = 0
      · rw [if_pos zc]
        have z2 : c.toInt = 0 := v_cmp0 zc
        refine wJ.mk ho (q := 0) ?_
        have ekN : k.toNatClampNeg ≤ N.toNatClampNeg := by omega
        have e5 : wV f N.toNatClampNeg = wV f k.toNatClampNeg := w_zer ekN (fun i a b => hf i (by omega) (by omega) (by omega))
        have hT : _ = _ := hT
        rw [← hT, e5, z2, Int.sub_self, Int.mul_zero, Int.zero_mul, Int.zero_mul]
        simp only [Int.add_zero]
      · rw [if_neg zc]; exact go
/-- times a small number, and a small number more, up to the row's room -/
theorem R_grow {N y x : Int32} {f : Nat → Int32} (h0 : 0 ≤ N.toInt) (hN : N.toInt ≤ 20200) (hy : 0 ≤ y.toInt ∧ y.toInt ≤ 65536) (hx : 0 ≤ x.toInt ∧ x.toInt ≤ 65536) (ho : wO f N.toNatClampNeg) :
    wJ N.toNatClampNeg (y.toInt * wV f N.toNatClampNeg + x.toInt) (F_WR_grow N y x f) := by
  have e0 : (0 : Int32).toInt = 0 := rfl
  have hs := R_size (f := f) h0
  have ex : x.toInt64.toInt = x.toInt := q_i2l rfl
  unfold F_WR_grow
  refine w_growL (x3 := x) (f0 := f) h0 hN hy hs.2.1 ((20200 - (0 : Int32).toInt).toNat + 1) 0 x.toInt64 f (by decide) (by omega) (by omega) (by omega) (by omega) ho (fun i _ a b => hs.2.2.1 i a b) ?_
  show 0 + y.toInt * (_ - 0) + x.toInt64.toInt * 1 = _
  rw [Int.sub_zero, ex, Int.mul_one, Int.zero_add]
theorem w_shrId {V A a c m k P y : Int} (h : c * 65536 + a = k * y + m) : (V + (k - a) * P - A) * y + (m * P + A) = (V - (A + a * P)) * y + (c * (P * 65536) + (A + a * P)) := by
  have h2 : (c * 65536 + a) * P = (k * y + m) * P := by rw [h]
  simp only [Int.mul_sub, Int.sub_mul, Int.mul_add, Int.add_mul] at h2 ⊢
  have e1 : k * P * y = k * y * P := by rw [Int.mul_assoc, Int.mul_comm P, ← Int.mul_assoc]
  have e2 : c * (P * 65536) = c * 65536 * P := by rw [Int.mul_comm P, ← Int.mul_assoc]
  omega
theorem w_divL {a : Int64} {y : Int} {b : Int64} (h : 0 ≤ a.toInt) (hb : b.toInt = y) (hy : 0 < y) : (a / b).toInt = a.toInt / y := by
  have h1 : a.toInt.tdiv y = a.toInt / y := Int.tdiv_eq_ediv_of_nonneg h
  have h5 : a.toInt / y ≤ a.toInt := Int.ediv_le_self y h
  have h4 : 0 ≤ a.toInt / y := Int.ediv_nonneg h (by omega)
  have h6 := Int64.toInt_lt a
  rw [Int64.toInt_div, hb, h1]
  exact q_bmL (by omega) (by omega)
/-- divided by a small number: what is left, and the quotient -/
def wH (n : Nat) (y T : Int) (r : Int32 × (Nat → Int32)) : Prop := wO r.2 n ∧ 0 ≤ r.1.toInt ∧ r.1.toInt < y ∧ wE (wV r.2 n * y + r.1.toInt) T
theorem w_shrinkL {N y : Int32} {f0 : Nat → Int32} {T : Int} (h0 : 0 ≤ N.toInt) (hN : N.toInt ≤ 20200) (hy : 0 < y.toInt ∧ y.toInt ≤ 65536) : ∀ (n K : Nat) (k : Int32) (c : Int64) (f : Nat → Int32), (K : Int) = k.toInt + 1 → k.toInt < N.toInt → k.toInt + 1 < n → 0 ≤ c.toInt → c.toInt < y.toInt → wO f N.toNatClampNeg → wE ((wV f N.toNatClampNeg - wV f K) * y.toInt + (c.toInt * 65536 ^ K + wV f K)) T →
    S_WR_shrink_L10 N y f0 n k c f ∧ wH N.toNatClampNeg y.toInt T (F_WR_shrink_L10 N y f0 n k c f) := by
  intro n
  induction n with
  | zero => intro K k c f k0 k1 k2 c0 c1 ho hT; omega
  | succ n ih =>
    intro K k c f k0 k1 k2 c0 c1 ho hT
    have e0 : (0 : Int32).toInt = 0 := rfl
    have eN := q_clI (i := N) rfl h0
    rw [S_WR_shrink_L10.eq_2, F_WR_shrink_L10.eq_2]
    by_cases d : k < 0
    · rw [if_pos d, if_pos d]
      have d2 := q_ltI d
      have ec : c.toInt32.toInt = c.toInt := s_l2i (by omega) (by omega)
      have e1 : K = 0 := by omega
      refine ⟨trivial, ho, ?_, ?_, ?_⟩
      · show 0 ≤ c.toInt32.toInt; omega
      · show c.toInt32.toInt < _; omega
      · show wV f N.toNatClampNeg * y.toInt + c.toInt32.toInt = _
        have hT : _ = _ := hT
        rw [← hT, e1, ec]
        show _ = (_ - 0) * _ + (_ * 1 + 0)
        rw [Int.sub_zero, Int.mul_one, Int.add_zero]
    · rw [if_neg d, if_neg d]
      have d2 := q_nltI d
      have ek := q_clI (i := k) rfl (by omega)
      have e2 : (k + (-1) : Int32).toInt = k.toInt + (-1) := q_addI (y := -1) rfl (by decide) (by omega) (by omega)
      obtain ⟨j, ej⟩ : ∃ j, k.toNatClampNeg = j := ⟨_, rfl⟩
      have e3 : K = j + 1 := by omega
      subst e3
      rw [ej] at ek ⊢
      have jN : j < N.toNatClampNeg := by omega
      have ey : y.toInt64.toInt = y.toInt := q_i2l rfl
      obtain ⟨a, ea⟩ := q_nm (f j)
      have ha : 0 ≤ a.toInt ∧ a.toInt < 65536 := by rw [← ea]; exact ho _ jN
      rw [ea]
      have u1 : (c <<< ((16 : Int32).toInt64 &&& 63)).toInt = c.toInt * 65536 := w_shl c0 (by omega)
      have u2 := w_or (x := c <<< ((16 : Int32).toInt64 &&& 63)) (y := a) (by omega) (by omega) (by omega) ha
      rw [u1] at u2
      generalize ((c <<< ((16 : Int32).toInt64 &&& 63)) ||| a.toInt64 : Int64) = w at u2 ⊢
      have w1 := w_divL (a := w) (b := y.toInt64) (by omega) ey hy.1
      rw [u2] at w1
      have q1 := Int.mul_ediv_self_le (x := c.toInt * 65536 + a.toInt) (k := y.toInt) (by omega)
      have q2 := Int.lt_mul_ediv_self_add (x := c.toInt * 65536 + a.toInt) (k := y.toInt) hy.1
      have q3 : 0 ≤ (c.toInt * 65536 + a.toInt) / y.toInt := Int.ediv_nonneg (by omega) (by omega)
      have q4 : (c.toInt * 65536 + a.toInt) / y.toInt < 65536 := Int.ediv_lt_of_lt_mul hy.1 (by
        have : (c.toInt + 1) * 65536 ≤ y.toInt * 65536 := Int.mul_le_mul_of_nonneg_right (by omega) (by decide)
        omega)
      rw [← w1] at q1 q2 q3 q4
      generalize (w / y.toInt64 : Int64) = Q at q1 q2 q3 q4 ⊢
      have q5 : 0 ≤ Q.toInt * y.toInt := Int.mul_nonneg q3 (by omega)
      have q6 : y.toInt * Q.toInt = Q.toInt * y.toInt := Int.mul_comm _ _
      have w2 : (Q * y.toInt64 : Int64).toInt = Q.toInt * y.toInt := q_mulL rfl ey (by omega) (by omega)
      have w3 : (w - Q * y.toInt64 : Int64).toInt = (c.toInt * 65536 + a.toInt) - Q.toInt * y.toInt := q_subL u2 w2 (by omega) (by omega)
      have w4 : Q.toInt32.toInt = Q.toInt := s_l2i (by omega) (by omega)
      generalize (w - Q * y.toInt64 : Int64) = c' at w3 ⊢
      refine v_cons (by omega) ?_
      refine ih j (k + (-1)) c' (upd f j Q.toInt32) (by omega) (by omega) (by omega) (by omega) (by omega) (wO_upd ho (by omega)) ?_
      have hT : (wV f N.toNatClampNeg - (wV f j + (f j).toInt * 65536 ^ j)) * y.toInt + (c.toInt * 65536 ^ (j + 1) + (wV f j + (f j).toInt * 65536 ^ j)) = T := hT
      show _ = _
      rw [← hT, w_upd jN, w_upd_ge (Nat.le_refl _), ea, w4, w_pw]
      exact w_shrId (by clear hT; omega)
theorem R_shrink {N y : Int32} {f : Nat → Int32} (h0 : 0 ≤ N.toInt) (hN : N.toInt ≤ 20200) (hy : 0 < y.toInt ∧ y.toInt ≤ 65536) (ho : wO f N.toNatClampNeg) :
    S_WR_shrink N y f ∧ wH N.toNatClampNeg y.toInt (wV f N.toNatClampNeg) (F_WR_shrink N y f) := by
  have hs := R_size (f := f) h0
  unfold S_WR_shrink F_WR_shrink
  generalize F_WR_size N f = z at hs ⊢
  have hz0 := hs.1
  have hz1 := hs.2.1
  have e1 : (z - 1 : Int32).toInt = z.toInt - 1 := q_subI (y := 1) rfl (by decide) (by omega) (by omega)
  have ez := q_clI (i := z) rfl hz0
  refine w_shrinkL (f0 := f) h0 hN hy (((z - 1 : Int32).toInt - (-1)).toNat + 1) z.toNatClampNeg (z - 1) 0 f (by omega) (by omega) (by omega) (by decide) hy.1 ho ?_
  show (_ - _) * _ + (0 * _ + _) = _
  rw [hs.val, Int.sub_self, Int.zero_mul, Int.zero_mul, Int.zero_add, Int.zero_add]
