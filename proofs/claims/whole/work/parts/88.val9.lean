/-! values: products -/
theorem v_setT {f : Nat → Int32} {i n : Nat} {x : Int32} (h : i < n) : vB (upd f i x) n = vB f n + (x.toInt - (f i).toInt) * 2147483648 ^ i := by
  have d1 := v_upd_df (f := f) (x := x) h
  rw [v_upd_in] at d1
  have d2 : vB f (i + 1) = vB f i + (f i).toInt * 2147483648 ^ i := rfl
  rw [d2] at d1
  rw [Int.sub_mul]
  omega
theorem V_fillL {R x1 x2 x3 : Int32} {g0 : Nat → Int32} (hx : x2.toInt ≤ 1000000) : ∀ (n : Nat) (i : Int32) (f : Nat → Int32), 0 ≤ i.toInt → i.toInt ≤ 1000000 → (x2.toInt - i.toInt).toNat < n →
    ∀ k, F_jArr_fill_L10 R x1 x2 x3 g0 n i f k = if i.toInt ≤ (k : Int) ∧ (k : Int) < x2.toInt then x3 else f k := by
  intro n
  induction n with
  | zero => intro i f h1 h2 h3; omega
  | succ n ih =>
    intro i f h1 h2 h3 k
    have ei := q_clI (i := i) rfl h1
    rw [F_jArr_fill_L10.eq_2]
    by_cases hc : x2 ≤ i
    · have := q_leI hc
      rw [if_pos hc, if_neg (by omega)]
    · have := q_nleI hc
      obtain ⟨e1, e2⟩ := v_sc h1 (by omega)
      rw [if_neg hc, ih (i + 1) _ (by omega) (by omega) (by omega) k, e1]
      by_cases hk : k = i.toNatClampNeg
      · subst hk
        rw [if_neg (by omega), if_pos (by omega), v_eq]
      · rw [v_ne hk]
        by_cases h4 : i.toInt + 1 ≤ (k : Int) ∧ (k : Int) < x2.toInt
        · rw [if_pos h4, if_pos (by omega)]
        · rw [if_neg h4, if_neg (by omega)]
theorem V_fill0 {R x2 : Int32} {f : Nat → Int32} (h : 0 ≤ x2.toInt) (h2 : x2.toInt ≤ 220) (k : Nat) : F_jArr_fill R 0 x2 0 f k = if k < x2.toNatClampNeg then 0 else f k := by
  have e := q_clI (i := x2) rfl h
  have e0 : (0 : Int32).toInt = 0 := rfl
  unfold F_jArr_fill
  rw [V_fillL (by omega) _ _ _ (by omega) (by omega) (by omega)]
  by_cases c : k < x2.toNatClampNeg
  · rw [if_pos c, if_pos (by omega)]
  · rw [if_neg c, if_neg (by omega)]
theorem v_zero {f : Nat → Int32} : ∀ {n : Nat}, (∀ k, k < n → f k = 0) → vB f n = 0
  | 0, _ => rfl
  | n + 1, h => by
    have h1 := v_zero (f := f) (n := n) (fun k hk => h k (by omega))
    have e0 : (0 : Int32).toInt = 0 := rfl
    show vB f n + (f n).toInt * _ = 0
    rw [h1, h n (by omega), e0, Int.zero_mul]
    rfl
theorem v_prodId {V m x k a b c P Q A B : Int} (h : m + 2147483648 * k = a * b + x + c) : (V + (m - x) * (P * Q)) + a * (A - (B + b * Q)) * P + k * (P * (Q * 2147483648)) = V + a * (A - B) * P + c * (P * Q) := by
  have h2 : (m + 2147483648 * k) * (P * Q) = (a * b + x + c) * (P * Q) := by rw [h]
  have e1 : a * (b * Q) * P = a * b * (P * Q) := by ac_rfl
  have e2 : k * (P * (Q * 2147483648)) = 2147483648 * k * (P * Q) := by ac_rfl
  simp only [Int.add_mul, Int.sub_mul, Int.mul_sub, Int.mul_add] at h2 ⊢
  omega
theorem V_prodI {K : Int32 → (Nat → Int32) → (Int32 × Int32 × (Nat → Int32))} {R R2 R3 s0 n0 sa na sb nb t ii e : Int32} {g0 ga gb g1 : Nat → Int32} {fa : Int64} (hi : 0 ≤ ii.toInt) (he : 0 ≤ e.toInt) (hie : ii.toInt + e.toInt < t.toInt) (ht : t.toInt ≤ 220) (ha : 0 ≤ fa.toInt) (ha2 : fa.toInt < 2147483648) (okb : okL gb e.toNatClampNeg) :
    ∀ (n : Nat) (j : Int32) (c : Int64) (f : Nat → Int32), 0 ≤ j.toInt → j.toInt ≤ e.toInt → 0 ≤ c.toInt → c.toInt < 2147483648 → okL f t.toNatClampNeg → f (ii.toNatClampNeg + e.toNatClampNeg) = 0 → (e.toInt - j.toInt).toNat < n →
    ∃ h : Nat → Int32, F_Big_product_L69 K R R2 R3 s0 n0 g0 sa na ga sb nb gb t ii g1 fa e n j c f = K (ii + 1) h ∧ okL h t.toNatClampNeg ∧ (∀ k, ii.toNatClampNeg + e.toNatClampNeg < k → h k = f k) ∧
      vB h t.toNatClampNeg = vB f t.toNatClampNeg + fa.toInt * (vB gb e.toNatClampNeg - vB gb j.toNatClampNeg) * 2147483648 ^ ii.toNatClampNeg + c.toInt * (2147483648 ^ ii.toNatClampNeg * 2147483648 ^ j.toNatClampNeg) := by
  have eI := q_clI (i := ii) rfl hi
  have eE := q_clI (i := e) rfl he
  have eT := q_clI (i := t) rfl (by omega)
  intro n
  induction n with
  | zero => intro j c f h1 h2 h3 h4 h5 h6 h7; omega
  | succ n ih =>
    intro j c f h1 h2 h3 h4 h5 h6 h7
    have eJ := q_clI (i := j) rfl h1
    rw [F_Big_product_L69.eq_2]
    by_cases hc : e ≤ j
    · rw [if_pos hc]
      have hj : j = e := Int32.toInt_inj.mp (by have := q_leI hc; omega)
      subst hj
      have s1 : (ii + j : Int32).toInt = ii.toInt + j.toInt := q_addI rfl rfl (by omega) (by omega)
      have s2 : (ii + j : Int32).toNatClampNeg = ii.toNatClampNeg + j.toNatClampNeg := by
        have := q_clI (i := ii + j) s1 (by omega)
        omega
      rw [if_neg (fun hh => by have := q_leI hh; omega), s2]
      have e3 : c.toInt32.toInt = c.toInt := s_l2i (by omega) (by omega)
      refine ⟨_, rfl, okL_upd h5 (by omega), fun k hk => v_ne (by omega), ?_⟩
      have e0 : (0 : Int32).toInt = 0 := rfl
      rw [v_setT (by omega), h6, e3, Int.sub_self, Int.mul_zero, Int.zero_mul, Int.pow_add, e0, Int.sub_zero, Int.add_zero]
    · rw [if_neg hc]
      have hc2 := q_nleI hc
      have s1 : (ii + j : Int32).toInt = ii.toInt + j.toInt := q_addI rfl rfl (by omega) (by omega)
      have s2 : (ii + j : Int32).toNatClampNeg = ii.toNatClampNeg + j.toNatClampNeg := by
        have := q_clI (i := ii + j) s1 (by omega)
        omega
      rw [s2]
      obtain ⟨b, eB⟩ := q_nm (gb j.toNatClampNeg)
      obtain ⟨x, eX⟩ := q_nm (f (ii.toNatClampNeg + j.toNatClampNeg))
      rw [eB, eX]
      have b0 : 0 ≤ b.toInt := by rw [← eB]; exact okb _ (by omega)
      have b1 := Int32.toInt_lt b
      have x0 : 0 ≤ x.toInt := by rw [← eX]; exact h5 _ (by omega)
      have x1 := Int32.toInt_lt x
      have p1 : 0 ≤ fa.toInt * b.toInt := Int.mul_nonneg ha b0
      have p2 : fa.toInt * b.toInt ≤ 2147483647 * 2147483647 := Int.mul_le_mul (by omega) (by omega) b0 (by decide)
      have m1 : (fa * b.toInt64 : Int64).toInt = fa.toInt * b.toInt := q_mulL rfl (q_i2l rfl) (by omega) (by omega)
      have m2 : (fa * b.toInt64 + x.toInt64 : Int64).toInt = fa.toInt * b.toInt + x.toInt := q_addL m1 (q_i2l rfl) (by omega) (by omega)
      have m3 : (fa * b.toInt64 + x.toInt64 + c : Int64).toInt = fa.toInt * b.toInt + x.toInt + c.toInt := q_addL m2 rfl (by omega) (by omega)
      obtain ⟨p, ep⟩ := q_nm (fa * b.toInt64 + x.toInt64 + c : Int64)
      rw [ep] at m3 ⊢
      have m4 := v_and31 (x := p) (by omega)
      have m5 := v_shr31 (x := p) (by omega)
      obtain ⟨c', ec⟩ := q_nm ((p.toUInt64 >>> ((31 : Int32).toInt64.toUInt64 &&& Int64.toUInt64 63)).toInt64)
      obtain ⟨w, ew⟩ := q_nm (p &&& 2147483647 : Int64)
      rw [ec] at m5 ⊢
      rw [ew] at m4 ⊢
      have m6 : w.toInt32.toInt = w.toInt := s_l2i (by omega) (by omega)
      obtain ⟨m, em⟩ := q_nm (w.toInt32)
      rw [em] at m6 ⊢
      have m7 : m.toInt + 2147483648 * c'.toInt = fa.toInt * b.toInt + x.toInt + c.toInt := by omega
      obtain ⟨e1, e2⟩ := v_sc h1 (by omega)
      obtain ⟨h, r1, r2, r3, r4⟩ := ih (j + 1) c' (upd f (ii.toNatClampNeg + j.toNatClampNeg) m) (by omega) (by omega) (by omega) (by omega) (okL_upd h5 (by omega)) (by rw [v_ne (by omega)]; exact h6) (by omega)
      refine ⟨h, r1, r2, fun k hk => by rw [r3 k hk, v_ne (by omega)], ?_⟩
      rw [r4, e2, v_setT (by omega), eX]
      obtain ⟨J, eJJ⟩ := q_nm j.toNatClampNeg
      rw [eJJ] at eB ⊢
      have d2 : vB gb (J + 1) = vB gb J + b.toInt * 2147483648 ^ J := by rw [← eB]; rfl
      rw [d2, v_pw, Int.pow_add]
      exact v_prodId m7
theorem v_proId {V S A a P B : Int} : V + a * (B - 0) * P + 0 * (P * 1) + (S - (A + a * P)) * B = V + (S - A) * B := by
  have e1 : a * B * P = a * P * B := by ac_rfl
  simp only [Int.add_mul, Int.sub_mul, Int.sub_zero, Int.zero_mul]
  omega
theorem V_prodO {R R2 R3 s0 n0 sa na sb nb t : Int32} {g0 ga gb : Nat → Int32} (hsa : 0 ≤ sa.toInt) (hsb : 0 ≤ sb.toInt) (htt : t.toInt = sa.toInt + sb.toInt) (ht : t.toInt ≤ 220) (oka : okL ga sa.toNatClampNeg) (okb : okL gb sb.toNatClampNeg) :
    ∀ (n : Nat) (i : Int32) (f : Nat → Int32), 0 ≤ i.toInt → i.toInt ≤ sa.toInt → okL f t.toNatClampNeg → (∀ k, i.toNatClampNeg + sb.toNatClampNeg ≤ k → k < t.toNatClampNeg → f k = 0) → (sa.toInt - i.toInt).toNat < n →
    ∃ h : Nat → Int32, F_Big_product_L31 R R2 R3 s0 n0 g0 sa na ga sb nb gb t n i f = ((F_Big_trim R t (if na = nb then 0 else 1) h).1, (F_Big_trim R t (if na = nb then 0 else 1) h).2, h) ∧ okL h t.toNatClampNeg ∧
      vB h t.toNatClampNeg = vB f t.toNatClampNeg + (vB ga sa.toNatClampNeg - vB ga i.toNatClampNeg) * vB gb sb.toNatClampNeg := by
  have eA := q_clI (i := sa) rfl hsa
  have eB := q_clI (i := sb) rfl hsb
  have eT := q_clI (i := t) rfl (by omega)
  intro n
  induction n with
  | zero => intro i f h1 h2 h3 h4 h5; omega
  | succ n ih =>
    intro i f h1 h2 h3 h4 h5
    have eI := q_clI (i := i) rfl h1
    rw [F_Big_product_L31.eq_2]
    by_cases hc : sa ≤ i
    · rw [if_pos hc]
      have hi : i = sa := Int32.toInt_inj.mp (by have := q_leI hc; omega)
      subst hi
      refine ⟨f, ?_, h3, by rw [Int.sub_self, Int.zero_mul, Int.add_zero]⟩
      by_cases hn : na = nb
      · rw [if_pos hn, if_pos hn]
      · rw [if_neg hn, if_neg hn]
    · rw [if_neg hc]
      have hc2 := q_nleI hc
      have s1 : (t - i : Int32).toInt = t.toInt - i.toInt := q_subI rfl rfl (by omega) (by omega)
      rw [if_neg (fun hh => by have := q_ltI hh; omega)]
      obtain ⟨a, ea⟩ := q_nm (ga i.toNatClampNeg)
      rw [ea]
      have a0 : 0 ≤ a.toInt := by rw [← ea]; exact oka _ (by omega)
      have a1 := Int32.toInt_lt a
      have a2 : a.toInt64.toInt = a.toInt := q_i2l rfl
      have e0 : (0 : Int32).toInt = 0 := rfl
      have e00 : (0 : Int64).toInt = 0 := rfl
      have e01 : (0 : Int32).toNatClampNeg = 0 := rfl
      obtain ⟨h, r1, r2, r3, r4⟩ := V_prodI (K := F_Big_product_L31 R R2 R3 s0 n0 g0 sa na ga sb nb gb t n) (R := R) (R2 := R2) (R3 := R3) (s0 := s0) (n0 := n0) (sa := sa) (na := na) (sb := sb) (nb := nb) (t := t) (ii := i) (e := sb) (g0 := g0) (ga := ga) (gb := gb) (g1 := f) (fa := a.toInt64) h1 hsb (by omega) ht (by omega) (by omega) okb ((220 - (0 : Int32).toInt).toNat + 1) 0 0 f (by omega) (by omega) (by omega) (by omega) h3 (h4 _ (by omega) (by omega)) (by omega)
      rw [r1]
      obtain ⟨e1, e2⟩ := v_sc h1 (by omega)
      obtain ⟨h', w1, w2, w3⟩ := ih (i + 1) h (by omega) (by omega) r2 (fun k hk hk2 => by rw [r3 k (by omega)]; exact h4 k (by omega) hk2) (by omega)
      refine ⟨h', w1, w2, ?_⟩
      rw [w3, r4, e2, e00, e01, a2]
      obtain ⟨I, eII⟩ := q_nm i.toNatClampNeg
      rw [eII] at ea ⊢
      have d2 : vB ga (I + 1) = vB ga I + a.toInt * 2147483648 ^ I := by rw [← ea]; rfl
      rw [d2]
      exact v_proId
/-- trim as a whole -/
theorem V_trimT {R s neg : Int32} {f : Nat → Int32} (hs : 0 ≤ s.toInt) (hs2 : s.toInt ≤ 1000000) : ∃ z : Int32, F_Big_trim R s neg f = (z, if neg = 0 then 0 else if z ≤ 0 then 0 else 1) ∧ 0 ≤ z.toInt ∧ z.toInt ≤ s.toInt ∧ (0 < z.toInt → f (z.toNatClampNeg - 1) ≠ 0) ∧ vB f z.toNatClampNeg = vB f s.toNatClampNeg := by
  unfold F_Big_trim
  exact V_trim _ _ hs (by omega)
theorem V_product {R R2 R3 s0 n0 sa na sb nb : Int32} {g0 ga gb : Nat → Int32} (hsa : 0 ≤ sa.toInt) (hsb : 0 ≤ sb.toInt) (hR : R.toInt ≤ 220) (hf : sa.toInt + sb.toInt ≤ R.toInt) (oka : okL ga sa.toNatClampNeg) (okb : okL gb sb.toNatClampNeg) :
    ∃ (z : Int32) (h : Nat → Int32), F_Big_product R R2 R3 s0 n0 g0 sa na ga sb nb gb = (z, if na = nb then 0 else if z ≤ 0 then 0 else 1, h) ∧ 0 ≤ z.toInt ∧ z.toInt ≤ sa.toInt + sb.toInt ∧ okL h z.toNatClampNeg ∧ (0 < z.toInt → h (z.toNatClampNeg - 1) ≠ 0) ∧
      vB h z.toNatClampNeg = vB ga sa.toNatClampNeg * vB gb sb.toNatClampNeg := by
  have s1 : (sa + sb : Int32).toInt = sa.toInt + sb.toInt := q_addI rfl rfl (by omega) (by omega)
  have e0 : (0 : Int32).toInt = 0 := rfl
  have e01 : (0 : Int32).toNatClampNeg = 0 := rfl
  have hlt : ¬ R < (sa + sb : Int32) := fun hh => by have := q_ltI hh; omega
  unfold F_Big_product
  rw [if_neg hlt]
  have eT := q_clI (i := sa + sb) s1 (by omega)
  obtain ⟨t, et⟩ := q_nm (sa + sb : Int32)
  rw [et] at s1 eT ⊢
  have fz := fun k => V_fill0 (R := R) (x2 := t) (f := g0) (by omega) (by omega) k
  obtain ⟨f, ef⟩ := q_nm (F_jArr_fill R 0 t 0 g0)
  rw [ef] at fz ⊢
  have hz : ∀ k, k < t.toNatClampNeg → f k = 0 := fun k hk => by rw [fz, if_pos hk]
  obtain ⟨h, r1, r2, r3⟩ := V_prodO (R := R) (R2 := R2) (R3 := R3) (s0 := s0) (n0 := n0) (sa := sa) (na := na) (sb := sb) (nb := nb) (t := t) (g0 := g0) (ga := ga) (gb := gb) hsa hsb s1 (by omega) oka okb ((220 - (0 : Int32).toInt).toNat + 1) 0 f (by omega) (by omega) (fun k hk => by rw [hz k hk, e0]; exact Int.le_refl 0) (fun k _ hk => hz k hk) (by omega)
  obtain ⟨z, t1, t2, t3, t4, t5⟩ := V_trimT (R := R) (s := t) (neg := if na = nb then 0 else 1) (f := h) (by omega) (by omega)
  rw [r1, t1]
  refine ⟨z, h, ?_, t2, by omega, r2.mono (by have := q_clI (i := z) rfl t2; omega), t4, ?_⟩
  · by_cases hn : na = nb
    · rw [if_pos hn, if_pos hn, if_pos rfl]
    · rw [if_neg hn, if_neg hn, if_neg (by decide)]
  · rw [t5, r3, v_zero hz, e01]
    show 0 + (_ - 0) * _ = _
    rw [Int.sub_zero, Int.zero_add]
