/-! the reference's rows: join -/
/-- a row of n limbs that holds T, up to its room -/
def wJ (n : Nat) (T : Int) (h : Nat → Int32) : Prop := wO h n ∧ wV h n = T % 65536 ^ n
theorem w_mod {v q P T : Int} (h0 : 0 ≤ v) (h1 : v < P) (h : v + q * P = T) : v = T % P := by
  rw [← h, Int.add_mul_emod_self_right, Int.emod_eq_of_lt h0 h1]
theorem wJ.mk {n : Nat} {T q : Int} {h : Nat → Int32} (ho : wO h n) (e : wV h n + q * 65536 ^ n = T) : wJ n T h := ⟨ho, w_mod (w_nn ho) (w_lt ho) e⟩
theorem wJ.val {n : Nat} {T : Int} {h : Nat → Int32} (w : wJ n T h) (h0 : 0 ≤ T) (h1 : T < 65536 ^ n) : wV h n = T := by rw [w.2, Int.emod_eq_of_lt h0 h1]
theorem w_negL {a : Int64} {x : Int} (ha : a.toInt = x) (h : -9223372036854775807 ≤ x) : (-a).toInt = -x := by
  have h1 := Int64.toInt_lt a
  rw [Int64.toInt_neg, ha]
  exact q_bmL (by omega) (by omega)
/-- the rest of a row -/
def wT (g : Nat → Int32) (s k : Nat) : Int := if k < s then wV g s - wV g k else 0
theorem wT_s {g : Nat → Int32} {s k : Nat} (h : k < s) : wT g s k = (g k).toInt * 65536 ^ k + wT g s (k + 1) := by
  unfold wT
  rw [if_pos h]
  have e : wV g (k + 1) = wV g k + (g k).toInt * 65536 ^ k := rfl
  by_cases h2 : k + 1 < s
  · rw [if_pos h2, e]
    generalize wV g s = u1
    generalize wV g k = u2
    generalize (g k).toInt * 65536 ^ k = u3
    omega
  · rw [if_neg h2]
    have : s = k + 1 := by omega
    subst this
    rw [e]
    generalize wV g k = u2
    generalize (g k).toInt * 65536 ^ k = u3
    omega
theorem wT_0 {g : Nat → Int32} {s k : Nat} (h : s ≤ k) : wT g s k = 0 := by unfold wT; rw [if_neg (by omega)]
theorem wT_a {g : Nat → Int32} {s : Nat} : wT g s 0 = wV g s := by
  unfold wT
  split
  · show _ - 0 = _; rw [Int.sub_zero]
  · have : s = 0 := by omega
    rw [this]; rfl
theorem w_joinId {V a c x m k P t : Int} (h : m + 65536 * k = c + a + x) : V + (m - a) * P + k * (P * 65536) + t = V + c * P + (x * P + t) := by
  have h2 : (m + 65536 * k) * P = (c + a + x) * P := by rw [h]
  simp only [Int.add_mul, Int.sub_mul] at h2 ⊢
  have e : k * (P * 65536) = 65536 * k * P := by rw [Int.mul_comm P, ← Int.mul_assoc, Int.mul_comm k]
  omega
theorem w_joinL {N M s : Int32} {y : Int64} {x5 : Int32} {f0 g : Nat → Int32} {σ T : Int} (hσ : σ = if x5 = 0 then 1 else -1) (h0 : 0 ≤ N.toInt) (hN : N.toInt ≤ 20200) (hs : 0 ≤ s.toInt) (hsN : s.toInt ≤ N.toInt) (hsM : s.toInt ≤ M.toInt) (hg : wO g s.toNatClampNeg) (hy : 0 ≤ y.toInt ∧ y.toInt ≤ 8589934592) : ∀ (n : Nat) (k : Int32) (c : Int64) (f : Nat → Int32), 0 ≤ k.toInt → k.toInt ≤ N.toInt → N.toInt - k.toInt < n → -17179869184 ≤ c.toInt → c.toInt ≤ 17179869184 → wO f N.toNatClampNeg → wE (wV f N.toNatClampNeg + c.toInt * 65536 ^ k.toNatClampNeg + σ * (y.toInt * wT g s.toNatClampNeg k.toNatClampNeg)) T →
    S_WR_join_L6 N M s y x5 f0 g n k c f ∧ wJ N.toNatClampNeg T (F_WR_join_L6 N M s y x5 f0 g n k c f) := by
  intro n
  induction n with
  | zero => intro k c f k0 k1 k2 c0 c1 ho hT; omega
  | succ n ih =>
    intro k c f k0 k1 k2 c0 c1 ho hT
    have eN := q_clI (i := N) rfl h0
    have es := q_clI (i := s) rfl hs
    have ek := q_clI (i := k) rfl k0
    rw [S_WR_join_L6.eq_2, F_WR_join_L6.eq_2]
    by_cases d : N ≤ k
    · rw [if_pos d, if_pos d]
      have d2 := q_leI d
      have e1 : k.toNatClampNeg = N.toNatClampNeg := by omega
      refine ⟨trivial, wJ.mk ho (q := c.toInt) ?_⟩
      have hT : _ = _ := hT
      rw [← hT, e1, wT_0 (by omega), Int.mul_zero, Int.mul_zero, Int.add_zero]
    · rw [if_neg d, if_neg d]
      have d2 := q_nleI d
      have e1 : (k + 1 : Int32).toInt = k.toInt + 1 := q_addI (y := 1) rfl (by decide) (by omega) (by omega)
      have ek1 := q_clI (i := k + 1) e1 (by omega)
      have ekk : (k + 1 : Int32).toNatClampNeg = k.toNatClampNeg + 1 := by omega
      have ekN : k.toNatClampNeg < N.toNatClampNeg := by omega
      obtain ⟨a, ea⟩ := q_nm (f k.toNatClampNeg)
      have ha : 0 ≤ a.toInt ∧ a.toInt < 65536 := by rw [← ea]; exact ho _ ekN
      have go : ∀ (x : Int64) (X : Int), x.toInt = X → -562949953421312 ≤ X → X ≤ 562949953421312 → wE (σ * (y.toInt * wT g s.toNatClampNeg k.toNatClampNeg)) (X * 65536 ^ k.toNatClampNeg + σ * (y.toInt * wT g s.toNatClampNeg (k.toNatClampNeg + 1))) →
          S_WR_join_L6 N M s y x5 f0 g n (k + 1) ((c + a.toInt64 + x) >>> ((16 : Int32).toInt64 &&& 63)) (upd f k.toNatClampNeg ((c + a.toInt64 + x) &&& 65535).toInt32) ∧ wJ N.toNatClampNeg T (F_WR_join_L6 N M s y x5 f0 g n (k + 1) ((c + a.toInt64 + x) >>> ((16 : Int32).toInt64 &&& 63)) (upd f k.toNatClampNeg ((c + a.toInt64 + x) &&& 65535).toInt32)) := by
        intro x X hx x1 x2 hX
        have u1 : (c + a.toInt64 : Int64).toInt = c.toInt + a.toInt := q_addL rfl (q_i2l rfl) (by omega) (by omega)
        have u2 : (c + a.toInt64 + x : Int64).toInt = c.toInt + a.toInt + X := q_addL u1 hx (by omega) (by omega)
        generalize (c + a.toInt64 + x : Int64) = w at u2 ⊢
        have w1 := w_and' (x := w)
        have w2 := w_shr (x := w)
        rw [u2] at w1 w2
        generalize ((w &&& 65535).toInt32 : Int32) = m at w1 ⊢
        generalize (w >>> ((16 : Int32).toInt64 &&& 63) : Int64) = c' at w2 ⊢
        have m1 : 0 ≤ m.toInt ∧ m.toInt < 65536 := by rw [w1]; exact ⟨Int.emod_nonneg _ (by decide), Int.emod_lt_of_pos _ (by decide)⟩
        have m2 : m.toInt + 65536 * c'.toInt = c.toInt + a.toInt + X := by rw [w1, w2]; exact Int.emod_add_mul_ediv _ _
        refine ih (k + 1) c' (upd f k.toNatClampNeg m) (by omega) (by omega) (by omega) (by omega) (by omega) (wO_upd ho m1) ?_
        have hT : _ = _ := hT
        have hX : _ = _ := hX
        show _ = _
        rw [← hT, hX, ekk, w_upd ekN, ea, w_pw]
        exact w_joinId m2
      by_cases d3 : k < s
      · rw [if_pos d3, if_pos d3]
        have d4 := q_ltI d3
        have d5 : ¬ s ≤ k := fun h => by have := q_leI h; omega
        have eks : k.toNatClampNeg < s.toNatClampNeg := by omega
        unfold S_WR_join_J26 F_WR_join_J26
        rw [if_neg d5, if_neg d5]
        refine v_cons (by omega) ?_
        obtain ⟨b, eb⟩ := q_nm (g k.toNatClampNeg)
        have hb : 0 ≤ b.toInt ∧ b.toInt < 65536 := by rw [← eb]; exact hg _ eks
        have n1 : 0 ≤ b.toInt * y.toInt := Int.mul_nonneg hb.1 hy.1
        have n2 : b.toInt * y.toInt ≤ 65535 * 8589934592 := Int.mul_le_mul (by omega) hy.2 hy.1 (by decide)
        have n3 : (b.toInt64 * y : Int64).toInt = b.toInt * y.toInt := q_mulL (q_i2l rfl) rfl (by omega) (by omega)
        have n4 : wE (y.toInt * wT g s.toNatClampNeg k.toNatClampNeg) (b.toInt * y.toInt * 65536 ^ k.toNatClampNeg + y.toInt * wT g s.toNatClampNeg (k.toNatClampNeg + 1)) := by
          show _ = _
          rw [wT_s eks, eb, Int.mul_add, ← Int.mul_assoc, Int.mul_comm y.toInt b.toInt]
        rw [eb]
        generalize (b.toInt64 * y : Int64) = x at n3 ⊢
        unfold S_WR_join_J43 F_WR_join_J43
        rw [ea]
        by_cases w : x5 = 0
        · rw [if_pos w, if_pos w]
          rw [if_pos w] at hσ
          unfold S_WR_join_J66 F_WR_join_J66
          refine go x _ n3 (by omega) (by omega) ?_
          have n4 : _ = _ := n4
          show _ = _
          rw [hσ, n4, Int.one_mul, Int.one_mul]
        · rw [if_neg w, if_neg w]
          rw [if_neg w] at hσ
          unfold S_WR_join_J66 F_WR_join_J66
          refine go (-x) (-(b.toInt * y.toInt)) (w_negL n3 (by omega)) (by omega) (by omega) ?_
          have n4 : _ = _ := n4
          show _ = _
          rw [hσ, n4, Int.neg_mul, Int.one_mul, Int.neg_mul, Int.neg_mul, Int.one_mul, Int.neg_add]
      · rw [if_neg d3, if_neg d3]
        have d4 := q_nltI d3
        have d5 : s ≤ k := q_Ile rfl rfl (by omega)
        have t0 : wE (wT g s.toNatClampNeg k.toNatClampNeg) 0 := wT_0 (by omega)
        have t1 : wE (wT g s.toNatClampNeg (k.toNatClampNeg + 1)) 0 := wT_0 (by omega)
        have tt : wE (σ * (y.toInt * wT g s.toNatClampNeg k.toNatClampNeg)) (0 * 65536 ^ k.toNatClampNeg + σ * (y.toInt * wT g s.toNatClampNeg (k.toNatClampNeg + 1))) := by
          have t0 : _ = _ := t0
          have t1 : _ = _ := t1
          show _ = _
          rw [t0, t1, Int.mul_zero, Int.mul_zero, Int.zero_mul, Int.zero_add]
        by_cases z : lg_cmp c 0 = 0
        · rw [if_pos z, if_pos z]
          have z2 : c.toInt = 0 := v_cmp0 z
          refine ⟨trivial, wJ.mk ho (q := 0) ?_⟩
          have hT : _ = _ := hT
          have t0 : _ = _ := t0
          rw [← hT, t0, z2, Int.mul_zero, Int.mul_zero, Int.zero_mul, Int.zero_mul]
          simp only [Int.add_zero]
        · rw [if_neg z, if_neg z]
          unfold S_WR_join_J26 F_WR_join_J26
          rw [if_pos d5, if_pos d5]
          unfold S_WR_join_J43 F_WR_join_J43
          rw [ea]
          by_cases w : x5 = 0
          · rw [if_pos w, if_pos w]
            unfold S_WR_join_J66 F_WR_join_J66
            exact go 0 0 rfl (by omega) (by omega) tt
          · rw [if_neg w, if_neg w]
            unfold S_WR_join_J66 F_WR_join_J66
            exact go (-0) 0 rfl (by omega) (by omega) tt
/-- a row and a multiple of another, added or taken away, up to the row's room -/
theorem R_join {N M s : Int32} {y : Int64} {x5 : Int32} {f g : Nat → Int32} {σ : Int} (hσ : σ = if x5 = 0 then 1 else -1) (h0 : 0 ≤ N.toInt) (hN : N.toInt ≤ 20200) (hs : 0 ≤ s.toInt) (hsN : s.toInt ≤ N.toInt) (hsM : s.toInt ≤ M.toInt) (hg : wO g s.toNatClampNeg) (hy : 0 ≤ y.toInt ∧ y.toInt ≤ 8589934592) (ho : wO f N.toNatClampNeg) :
    S_WR_join N M s y x5 f g ∧ wJ N.toNatClampNeg (wV f N.toNatClampNeg + σ * (y.toInt * wV g s.toNatClampNeg)) (F_WR_join N M s y x5 f g) := by
  have e0 : (0 : Int32).toInt = 0 := rfl
  unfold S_WR_join F_WR_join
  refine w_joinL (M := M) (x5 := x5) (f0 := f) hσ h0 hN hs hsN hsM hg hy ((20200 - (0 : Int32).toInt).toNat + 1) 0 0 f (by decide) (by omega) (by omega) (by decide) (by decide) ho ?_
  show _ + 0 * _ + σ * (y.toInt * wT g s.toNatClampNeg 0) = _
  rw [wT_a, Int.zero_mul, Int.add_zero]
