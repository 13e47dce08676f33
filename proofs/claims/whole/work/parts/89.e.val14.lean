/-! values: a figure's worth taken away -/
theorem v_and31J {x : Int64} : 0 ≤ (x &&& 2147483647).toInt ∧ (x &&& 2147483647).toInt = x.toInt % 2147483648 := by
  have h4 : (x &&& 2147483647).toBitVec.toNat = x.toBitVec.toNat % 2147483648 := by
    rw [Int64.toBitVec_and, BitVec.toNat_and]
    exact Nat.and_two_pow_sub_one_eq_mod _ 31
  have h5 := s_ofL h4 (by omega)
  have h6 : x.toInt = x.toBitVec.toInt := rfl
  have h7 := BitVec.toInt_eq_toNat_bmod x.toBitVec
  have h8 := x.toBitVec.isLt
  rw [h5, h6, h7, Int.bmod_def]
  split <;> omega
theorem v_shu {f : Nat → Int32} {p j : Nat} {x : Int32} : (fun i => upd f (p + j) x (p + i)) = upd (fun i => f (p + i)) j x := by
  funext i
  by_cases h : i = j
  · subst h
    rw [v_eq, v_eq]
  · rw [v_ne h, v_ne (by omega)]
theorem v_add2 {a c : Int32} (ha : 0 ≤ a.toInt) (hc : 0 ≤ c.toInt) (hc1 : c.toInt ≤ 1) : ∃ w : Int, 0 ≤ w ∧ w ≤ 1 ∧ 0 ≤ ((a + c) &&& 2147483647).toInt ∧ ((a + c) &&& 2147483647).toInt + 2147483648 * w = a.toInt + c.toInt := by
  have h1 := v_and31I (x := a + c)
  have h3 := Int32.toInt_lt a
  have h5 : (a + c).toInt = a.toInt + c.toInt ∨ (a + c).toInt = a.toInt + c.toInt - 4294967296 := by
    have e : ((2 ^ 32 : Nat) : Int) = 4294967296 := rfl
    rw [Int32.toInt_add, Int.bmod_def, e]
    split <;> omega
  refine ⟨(a.toInt + c.toInt) / 2147483648, by omega, by omega, h1.1, ?_⟩
  rw [h1.2]
  omega
theorem v_gbId {V m k a b c P A D : Int} (h : m + 2147483648 * k = a + b + c) : V + (m - a) * P + (A - (D + b * P)) + k * (P * 2147483648) = V + (A - D) + c * P := by
  have h2 : (m + 2147483648 * k) * P = (a + b + c) * P := by rw [h]
  have e2 : k * (P * 2147483648) = 2147483648 * k * P := by ac_rfl
  simp only [Int.add_mul, Int.sub_mul] at h2 ⊢
  omega
theorem v_cl2 {a b : Int32} (ha : 0 ≤ a.toInt) (hb : 0 ≤ b.toInt) (h : a.toInt + b.toInt ≤ 1000000) : (a + b : Int32).toInt = a.toInt + b.toInt ∧ (a + b : Int32).toNatClampNeg = a.toNatClampNeg + b.toNatClampNeg := by
  have s1 : (a + b : Int32).toInt = a.toInt + b.toInt := q_addI rfl rfl (by omega) (by omega)
  have := q_clI (i := a + b) s1 (by omega)
  have := q_clI (i := a) rfl ha
  have := q_clI (i := b) rfl hb
  exact ⟨s1, by omega⟩
theorem V_gbL {R p R2 s neg s2 neg2 : Int32} {g0 d : Nat → Int32} (hp : 0 ≤ p.toInt) (h2 : 0 ≤ s2.toInt) (hps : p.toInt + s2.toInt < s.toInt) (hsR : s.toInt ≤ R.toInt) (hR : R.toInt ≤ 220) (okd : okL d s2.toNatClampNeg) :
    ∀ (n : Nat) (i c : Int32) (f : Nat → Int32), 0 ≤ i.toInt → i.toInt ≤ s2.toInt → 0 ≤ c.toInt → c.toInt ≤ 1 → okL f s.toNatClampNeg → (s2.toInt - i.toInt).toNat < n →
    ∃ (h : Nat → Int32) (w : Int), F_Big_giveBack_L11 R p R2 s neg g0 s2 neg2 d n i c f = h ∧ okL h s.toNatClampNeg ∧ (∀ k, k < p.toNatClampNeg ∨ p.toNatClampNeg + s2.toNatClampNeg < k → h k = f k) ∧ 0 ≤ w ∧ w ≤ 1 ∧
      vB (fun i => h (p.toNatClampNeg + i)) (s2.toNatClampNeg + 1) + w * 2147483648 ^ (s2.toNatClampNeg + 1) = vB (fun i => f (p.toNatClampNeg + i)) (s2.toNatClampNeg + 1) + (vB d s2.toNatClampNeg - vB d i.toNatClampNeg) + c.toInt * 2147483648 ^ i.toNatClampNeg := by
  have ep := q_clI (i := p) rfl hp
  have e2 := q_clI (i := s2) rfl h2
  have es := q_clI (i := s) rfl (by omega)
  intro n
  induction n with
  | zero => intro i c f h1 h3 h4 h5 h6 h7; omega
  | succ n ih =>
    intro i c f h1 h3 h4 h5 h6 h7
    have ei := q_clI (i := i) rfl h1
    rw [F_Big_giveBack_L11.eq_2]
    by_cases hc : s2 ≤ i
    · rw [if_pos hc]
      have hi : i = s2 := Int32.toInt_inj.mp (by have := q_leI hc; omega)
      subst hi
      obtain ⟨c1, c2⟩ := v_cl2 hp h2 (by omega)
      obtain ⟨u, eu⟩ := q_nm (p + i : Int32)
      rw [eu] at c1 c2 ⊢
      rw [if_neg (fun hh => by have := q_leI hh; omega)]
      have la := v_limb (R := R) (i := u) (s := s) (neg := neg) (f := f) (by omega) (by omega)
      rw [if_pos (by omega), c2] at la
      obtain ⟨a, ea⟩ := q_nm (F_Big_limb R u s neg f)
      rw [ea] at la ⊢
      have a0 : 0 ≤ a.toInt := by rw [la]; exact h6 _ (by omega)
      obtain ⟨w, w1, w2, w3, w4⟩ := v_add2 a0 h4 h5
      obtain ⟨m, em⟩ := q_nm ((a + c) &&& 2147483647 : Int32)
      rw [em] at w3 w4 ⊢
      rw [c2]
      refine ⟨_, w, rfl, okL_upd h6 w3, fun k hk => v_ne (by omega), w1, w2, ?_⟩
      rw [v_shu, v_setT (by omega), Int.sub_self, Int.add_zero, ← la, v_pw]
      have h9 : (m.toInt + 2147483648 * w) * 2147483648 ^ i.toNatClampNeg = (a.toInt + c.toInt) * 2147483648 ^ i.toNatClampNeg := by rw [w4]
      have h10 : w * (2147483648 ^ i.toNatClampNeg * 2147483648) = 2147483648 * w * 2147483648 ^ i.toNatClampNeg := by ac_rfl
      simp only [Int.add_mul, Int.sub_mul] at h9 ⊢
      omega
    · rw [if_neg hc]
      have hc2 := q_nleI hc
      obtain ⟨c1, c2⟩ := v_cl2 hp h1 (by omega)
      obtain ⟨u, eu⟩ := q_nm (p + i : Int32)
      rw [eu] at c1 c2 ⊢
      have la := v_limb (R := R) (i := u) (s := s) (neg := neg) (f := f) (by omega) (by omega)
      rw [if_pos (by omega), c2] at la
      obtain ⟨a, ea⟩ := q_nm (F_Big_limb R u s neg f)
      rw [ea] at la ⊢
      have a0 : 0 ≤ a.toInt := by rw [la]; exact h6 _ (by omega)
      obtain ⟨b, eb⟩ := q_nm (d i.toNatClampNeg)
      rw [eb]
      have b0 : 0 ≤ b.toInt := by rw [← eb]; exact okd _ (by omega)
      obtain ⟨q1, q2, q3, q4⟩ := v_add3 a0 b0 h4 h5
      obtain ⟨m, em⟩ := q_nm ((a + b + c) &&& 2147483647 : Int32)
      obtain ⟨k, ek⟩ := q_nm (((a + b + c).toUInt32 >>> ((31 : Int32).toUInt32 &&& Int32.toUInt32 31)).toInt32)
      rw [em] at q1 q2 ⊢
      rw [ek] at q2 q3 q4 ⊢
      obtain ⟨e1, e3⟩ := v_sc h1 (by omega)
      rw [c2]
      obtain ⟨h, w, r1, r2, r3, r4, r5, r6⟩ := ih (i + 1) k (upd f (p.toNatClampNeg + i.toNatClampNeg) m) (by omega) (by omega) q3 q4 (okL_upd h6 q1) (by omega)
      refine ⟨h, w, r1, r2, fun j hj => by rw [r3 j hj, v_ne (by omega)], r4, r5, ?_⟩
      rw [r6, v_shu, v_setT (by omega), e3, ← la]
      obtain ⟨I, eI⟩ := q_nm i.toNatClampNeg
      rw [eI] at eb ⊢
      have d2 : vB d (I + 1) = vB d I + b.toInt * 2147483648 ^ I := by rw [← eb]; rfl
      rw [d2, v_pw]
      exact v_gbId q2
theorem v_tkId {V m k x t d o P A D : Int} (h : m - 2147483648 * k = x - (o + t * d)) : V + (m - x) * P - t * (A - (D + d * P)) - k * (P * 2147483648) = V - t * (A - D) - o * P := by
  have h2 : (m - 2147483648 * k) * P = (x - (o + t * d)) * P := by rw [h]
  have e2 : k * (P * 2147483648) = 2147483648 * k * P := by ac_rfl
  have e3 : t * (d * P) = t * d * P := by ac_rfl
  simp only [Int.add_mul, Int.sub_mul, Int.mul_add, Int.mul_sub] at h2 ⊢
  omega
theorem V_tkL {R p R2 s neg s2 neg2 : Int32} {g0 d : Nat → Int32} {t : Int64} (hp : 0 ≤ p.toInt) (h2 : 0 ≤ s2.toInt) (hps : p.toInt + s2.toInt < s.toInt) (hsR : s.toInt ≤ R.toInt) (hR : R.toInt ≤ 220) (okd : okL d s2.toNatClampNeg) (ht : 0 ≤ t.toInt) (ht2 : t.toInt ≤ 2147483647) :
    ∀ (n : Nat) (i : Int32) (o : Int64) (f : Nat → Int32), 0 ≤ i.toInt → i.toInt ≤ s2.toInt → 0 ≤ o.toInt → o.toInt ≤ 2147483648 → okL f s.toNatClampNeg → (s2.toInt - i.toInt).toNat < n →
    ∃ (h : Nat → Int32) (y : Int64) (o' : Int), F_Big_takeTimes_L21 R p R2 s neg g0 s2 neg2 d t n i o f = (if y.toInt < 0 then (t.toInt32 - 1, F_Big_giveBack R p R2 s neg (upd h (p.toNatClampNeg + s2.toNatClampNeg) (y &&& 2147483647).toInt32) s2 neg2 d) else (t.toInt32, upd h (p.toNatClampNeg + s2.toNatClampNeg) (y &&& 2147483647).toInt32)) ∧
      okL h s.toNatClampNeg ∧ (∀ k, k < p.toNatClampNeg ∨ p.toNatClampNeg + s2.toNatClampNeg ≤ k → h k = f k) ∧ y.toInt = (f (p.toNatClampNeg + s2.toNatClampNeg)).toInt - o' ∧ 0 ≤ o' ∧ o' ≤ 2147483648 ∧
      vB (fun i => h (p.toNatClampNeg + i)) s2.toNatClampNeg - o' * 2147483648 ^ s2.toNatClampNeg = vB (fun i => f (p.toNatClampNeg + i)) s2.toNatClampNeg - t.toInt * (vB d s2.toNatClampNeg - vB d i.toNatClampNeg) - o.toInt * 2147483648 ^ i.toNatClampNeg := by
  have ep := q_clI (i := p) rfl hp
  have e2 := q_clI (i := s2) rfl h2
  have es := q_clI (i := s) rfl (by omega)
  have e0 : (0 : Int32).toInt = 0 := rfl
  have e00 : (0 : Int64).toInt = 0 := rfl
  intro n
  induction n with
  | zero => intro i o f h1 h3 h4 h5 h6 h7; omega
  | succ n ih =>
    intro i o f h1 h3 h4 h5 h6 h7
    have ei := q_clI (i := i) rfl h1
    rw [F_Big_takeTimes_L21.eq_2]
    by_cases hc : s2 ≤ i
    · rw [if_pos hc]
      have hi : i = s2 := Int32.toInt_inj.mp (by have := q_leI hc; omega)
      subst hi
      obtain ⟨c1, c2⟩ := v_cl2 hp h2 (by omega)
      obtain ⟨u, eu⟩ := q_nm (p + i : Int32)
      rw [eu] at c1 c2 ⊢
      rw [if_neg (fun hh => by have := q_leI hh; omega)]
      have la := v_limb (R := R) (i := u) (s := s) (neg := neg) (f := f) (by omega) (by omega)
      rw [if_pos (by omega), c2] at la
      obtain ⟨a, ea⟩ := q_nm (F_Big_limb R u s neg f)
      rw [ea] at la ⊢
      have a0 : 0 ≤ a.toInt := by rw [la]; exact h6 _ (by omega)
      have a1 := Int32.toInt_lt a
      have m1 : (a.toInt64 - o : Int64).toInt = a.toInt - o.toInt := q_subL (q_i2l rfl) rfl (by omega) (by omega)
      obtain ⟨y, ey⟩ := q_nm (a.toInt64 - o : Int64)
      rw [ey] at m1 ⊢
      rw [c2]
      refine ⟨f, y, o.toInt, ?_, h6, fun _ _ => rfl, by rw [← la]; exact m1, h4, h5, by rw [Int.sub_self, Int.mul_zero, Int.sub_zero]⟩
      unfold F_Big_takeTimes_J143
      by_cases hy : y.toInt < 0
      · rw [if_pos hy, if_pos (v_lcmpN.mpr (by omega))]
      · rw [if_neg hy, if_neg (fun hh => hy (by have := v_lcmpN.mp hh; omega))]
    · rw [if_neg hc]
      have hc2 := q_nleI hc
      obtain ⟨c1, c2⟩ := v_cl2 hp h1 (by omega)
      have la := v_limb (R := R) (i := p + i) (s := s) (neg := neg) (f := f) (by omega) (by omega)
      rw [if_pos (by omega), c2] at la
      obtain ⟨a, ea⟩ := q_nm (F_Big_limb R (p + i) s neg f)
      rw [ea] at la ⊢
      have a0 : 0 ≤ a.toInt := by rw [la]; exact h6 _ (by omega)
      have a1 := Int32.toInt_lt a
      obtain ⟨b, eb⟩ := q_nm (d i.toNatClampNeg)
      rw [eb]
      have b0 : 0 ≤ b.toInt := by rw [← eb]; exact okd _ (by omega)
      have b1 := Int32.toInt_lt b
      have p1 : 0 ≤ t.toInt * b.toInt := Int.mul_nonneg ht b0
      have p2 : t.toInt * b.toInt ≤ 2147483647 * 2147483647 := Int.mul_le_mul ht2 (by omega) b0 (by decide)
      have m1 : (t * b.toInt64 : Int64).toInt = t.toInt * b.toInt := q_mulL rfl (q_i2l rfl) (by omega) (by omega)
      have m2 : (o + t * b.toInt64 : Int64).toInt = o.toInt + t.toInt * b.toInt := q_addL rfl m1 (by omega) (by omega)
      obtain ⟨y, ey⟩ := q_nm (o + t * b.toInt64 : Int64)
      rw [ey] at m2 ⊢
      have m3 := v_and31 (x := y) (by omega)
      have m4 := v_shr31 (x := y) (by omega)
      obtain ⟨w, ew⟩ := q_nm (y &&& 2147483647 : Int64)
      obtain ⟨k, ek⟩ := q_nm ((y.toUInt64 >>> ((31 : Int32).toInt64.toUInt64 &&& Int64.toUInt64 63)).toInt64)
      rw [ew] at m3 ⊢
      rw [ek] at m4 ⊢
      have m5 : (a.toInt64 - w : Int64).toInt = a.toInt - w.toInt := q_subL (q_i2l rfl) rfl (by omega) (by omega)
      obtain ⟨l, el⟩ := q_nm (a.toInt64 - w : Int64)
      rw [el] at m5 ⊢
      have m6 := v_and31J (x := l)
      have m7 : (l &&& 2147483647).toInt32.toInt = (l &&& 2147483647).toInt := s_l2i (by omega) (by omega)
      obtain ⟨m, em⟩ := q_nm (l &&& 2147483647).toInt32
      rw [m6.2, em] at m7
      obtain ⟨e1, e3⟩ := v_sc h1 (by omega)
      have go : ∀ bw : Int32, bw.toInt = (if l.toInt < 0 then 1 else 0) → ∃ (h : Nat → Int32) (y : Int64) (o' : Int), F_Big_takeTimes_J78 (F_Big_takeTimes_L21 R p R2 s neg g0 s2 neg2 d t n) R p R2 s neg g0 s2 neg2 d t i o f l k bw = (if y.toInt < 0 then (t.toInt32 - 1, F_Big_giveBack R p R2 s neg (upd h (p.toNatClampNeg + s2.toNatClampNeg) (y &&& 2147483647).toInt32) s2 neg2 d) else (t.toInt32, upd h (p.toNatClampNeg + s2.toNatClampNeg) (y &&& 2147483647).toInt32)) ∧
          okL h s.toNatClampNeg ∧ (∀ k, k < p.toNatClampNeg ∨ p.toNatClampNeg + s2.toNatClampNeg ≤ k → h k = f k) ∧ y.toInt = (f (p.toNatClampNeg + s2.toNatClampNeg)).toInt - o' ∧ 0 ≤ o' ∧ o' ≤ 2147483648 ∧
          vB (fun i => h (p.toNatClampNeg + i)) s2.toNatClampNeg - o' * 2147483648 ^ s2.toNatClampNeg = vB (fun i => f (p.toNatClampNeg + i)) s2.toNatClampNeg - t.toInt * (vB d s2.toNatClampNeg - vB d i.toNatClampNeg) - o.toInt * 2147483648 ^ i.toNatClampNeg := by
        intro bw hb
        unfold F_Big_takeTimes_J78
        rw [em, c2]
        have hbb : 0 ≤ bw.toInt ∧ bw.toInt ≤ 1 ∧ l.toInt % 2147483648 = l.toInt + 2147483648 * bw.toInt := by
          rw [hb]
          split <;> omega
        have m8 : (k + bw.toInt64 : Int64).toInt = k.toInt + bw.toInt := q_addL rfl (q_i2l rfl) (by omega) (by omega)
        obtain ⟨k', ek'⟩ := q_nm (k + bw.toInt64 : Int64)
        rw [ek'] at m8 ⊢
        obtain ⟨h, z, o', r1, r2, r3, r4, r5, r6, r7⟩ := ih (i + 1) k' (upd f (p.toNatClampNeg + i.toNatClampNeg) m) (by omega) (by omega) (by omega) (by omega) (okL_upd h6 (by omega)) (by omega)
        refine ⟨h, z, o', r1, r2, fun j hj => by rw [r3 j hj, v_ne (by omega)], ?_, r5, r6, ?_⟩
        · rw [r4, v_ne (by omega)]
        · rw [r7, v_shu, v_setT (by omega), e3, ← la]
          obtain ⟨I, eI⟩ := q_nm i.toNatClampNeg
          rw [eI] at eb ⊢
          have d2 : vB d (I + 1) = vB d I + b.toInt * 2147483648 ^ I := by rw [← eb]; rfl
          rw [d2, v_pw]
          exact v_tkId (by omega)
      by_cases hl : (0 : Int32) ≤ lg_cmp l 0
      · rw [if_pos hl]
        refine go 0 ?_
        rw [if_neg (fun hh => by have h8 := v_lcmpN.mpr (show l.toInt < (0 : Int64).toInt by omega); have := q_leI hl; have := q_ltI h8; omega)]
        rfl
      · rw [if_neg hl]
        refine go 1 ?_
        have h8 := Int32.not_le.mp hl
        have := v_lcmpN.mp h8
        rw [if_pos (by omega)]
        rfl
