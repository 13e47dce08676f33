/-! values, for whole: what the class tells of a whole -/
theorem t_limN {f : Nat → Int32} {s j A : Nat} (ok : okL f s) (hA : vB f s = (A : Int)) (hj : j < s) : (f j).toBitVec.toNat = A / 2 ^ (31 * j) % 2 ^ 31 := by
  have h := v_limD ok hj
  have h2 := v_natI (ok j hj)
  rw [hA] at h
  have e : ((A / 2147483648 ^ j % 2147483648 : Nat) : Int) = (A : Int) / 2147483648 ^ j % 2147483648 := by
    rw [Int.natCast_emod, Int.natCast_ediv, Int.natCast_pow]
    rfl
  rw [Nat.pow_mul, show (2 : Nat) ^ 31 = 2147483648 from rfl]
  exact Int.ofNat_inj.mp (h2.trans (h.trans e.symm))
theorem pN_le (m : Nat) : ∀ n : Nat, pN n m ≤ n
  | 0 => Nat.le_refl _
  | n + 1 => by
    have ih := pN_le m n
    show pN n m + m / 2 ^ n % 2 ≤ n + 1
    omega
theorem pN_enough {a b m : Nat} (ha : m < 2 ^ a) (hb : m < 2 ^ b) : pN a m = pN b m := by
  rcases Nat.le_total a b with h | h
  · have := pN_top ha (b - a)
    rw [show a + (b - a) = b by omega] at this
    exact this.symm
  · have := pN_top hb (a - b)
    rw [show b + (a - b) = a by omega] at this
    exact this
theorem V_obL {R s n : Int32} {f : Nat → Int32} {v : Int} (h : bO R s n f v) : ∀ (m : Nat) (i c : Int32) (k : Nat), i.toInt = (k : Int) → k ≤ s.toNatClampNeg → s.toNatClampNeg - k < m → c.toInt = (pN (31 * k) v.natAbs : Int) → ∃ c' : Int32, c'.toInt = (pN (31 * s.toNatClampNeg) v.natAbs : Int) ∧ F_Big_otherBits_L4 R s n f m i c = (if n = 0 then c' else (c' - 1 : Int32) + F_Big_lowestOne R s n f) := by
  intro m
  induction m with
  | zero => intro i c k _ _ h3; exact absurd h3 (Nat.not_lt_zero _)
  | succ m ih =>
    intro i c k hi hk hm hc
    have hs := q_clI (i := s) rfl h.s0
    have hf := h.fit
    have ik := q_clI hi (by omega)
    rw [F_Big_otherBits_L4.eq_2]
    by_cases c1 : s ≤ i
    · have c2 := q_leI c1
      have ek : k = s.toNatClampNeg := by omega
      rw [if_pos c1]
      rw [ek] at hc
      exact ⟨c, hc, rfl⟩
    · have c2 := q_nleI c1
      have ek : i.toNatClampNeg = k := by omega
      have hA : vB f s.toNatClampNeg = (v.natAbs : Int) := h.abs
      have hl := t_limN h.1.2.1 hA (j := k) (by omega)
      have hb := V_bitCount (f k)
      rw [hl, pN_top (n := 31) (k := 1) (Nat.mod_lt _ (by decide)), pN_mod (Nat.le_refl _)] at hb
      have hs1 : pN (31 * (k + 1)) v.natAbs = pN (31 * k) v.natAbs + pN 31 (v.natAbs / 2 ^ (31 * k)) := by
        rw [Nat.mul_add, Nat.mul_one, pN_add]
      have b1 := pN_le v.natAbs (31 * k)
      have b2 := pN_le (v.natAbs / 2 ^ (31 * k)) 31
      rw [if_neg c1, ek]
      generalize F_jInt_bitCount (f k) = z at hb ⊢
      generalize pN (31 * k) v.natAbs = p at hc hs1 b1
      generalize pN 31 (v.natAbs / 2 ^ (31 * k)) = p2 at hb hs1 b2
      have e1 : (i + 1 : Int32).toInt = ((k + 1 : Nat) : Int) := by
        rw [q_addI (y := 1) hi rfl (by omega) (by omega)]
        omega
      have e2 : (c + z : Int32).toInt = ((p + p2 : Nat) : Int) := by
        rw [q_addI hc hb (by omega) (by omega)]
        omega
      refine ih _ _ (k + 1) e1 (by omega) (by omega) ?_
      rw [e2, hs1]
theorem V_otherBits {R s n : Int32} {f : Nat → Int32} {v : Int} (h : bO R s n f v) (hv : v.natAbs < 2 ^ 2048) : (F_Big_otherBits R s n f).toInt = (tCnt v (if v < 0 then 1 else 0) 2048 : Int) := by
  have hs := q_clI (i := s) rfl h.s0
  have hf := h.fit
  obtain ⟨c, c1, c2⟩ := V_obL h (((220 - (0 : Int32).toInt).toNat + 1)) 0 0 0 rfl (Nat.zero_le _) (by have : ((220 - (0 : Int32).toInt).toNat + 1) = 221 := rfl; omega) rfl
  have hA : vB f s.toNatClampNeg = (v.natAbs : Int) := h.abs
  have hlt : v.natAbs < 2 ^ (31 * s.toNatClampNeg) := by
    have l := v_lt h.1.2.1
    rw [hA] at l
    rw [Nat.pow_mul, show (2 : Nat) ^ 31 = 2147483648 from rfl]
    exact Int.ofNat_lt.mp (by rw [Int.natCast_pow]; exact l)
  rw [pN_enough hlt hv] at c1
  unfold F_Big_otherBits
  rw [c2]
  rcases h.ngB with ⟨n0, vn⟩ | ⟨n1, vn⟩
  · rw [if_pos n0, if_neg vn, c1, ← tCnt_nat, show ((v.natAbs : Nat) : Int) = v by omega]
  · obtain ⟨t, k, l1, l2, l3⟩ := W_lowE h (by omega)
    have hn : t < 2048 := by
      apply (Nat.pow_lt_pow_iff_right (a := 2) (by decide)).mp
      refine Nat.lt_of_le_of_lt ?_ hv
      rw [l3]
      exact Nat.le_mul_of_pos_right _ (by omega)
    have p := pN_pred (n := 2048) l3 hn
    have b1 := pN_le v.natAbs 2048
    have b2 := pN_le (v.natAbs - 1) 2048
    have e1 : tCnt v 1 2048 = pN 2048 (v.natAbs - 1) := by
      rw [tCnt_cpl, show -v - 1 = ((v.natAbs - 1 : Nat) : Int) by omega, tCnt_nat]
    rw [n1, if_neg (show ¬ (1 : Int32) = 0 by decide), if_pos vn, e1]
    rw [n1] at l1
    generalize F_Big_lowestOne R s 1 f = z at l1 ⊢
    generalize pN 2048 (v.natAbs - 1) = x at p b2 ⊢
    generalize pN 2048 v.natAbs = y at p c1 b1
    clear l3 hv hlt hA
    have e2 : (c - 1 : Int32).toInt = (y : Int) - 1 := q_subI c1 rfl (by omega) (by omega)
    rw [q_addI e2 l1 (by omega) (by omega)]
    omega
theorem V_lengthInBits {R s n : Int32} {f : Nat → Int32} {v : Int} (h : bO R s n f v) (hv : v.natAbs < 2 ^ 2048) : (F_Big_lengthInBits R s n f).toInt = (tLen v (if v < 0 then 1 else 0) 2048 : Int) := by
  obtain ⟨b, b1, b2, b3, b4⟩ := W_blen h
  unfold F_Big_lengthInBits
  have z0 : v = 0 → b = 0 := fun z => by
    have hs := h.nil.mpr z
    unfold F_Big_bitLength at b1
    rw [if_pos hs] at b1
    have : (0 : Int32).toInt = 0 := rfl
    omega
  rcases h.ngB with ⟨n0, vn⟩ | ⟨n1, vn⟩
  · have e := tLen_eq (n := 2048) (m := v.natAbs) (b := b) hv b3 (fun c => b4 (by omega)) (fun c => z0 (by omega))
    rw [if_pos n0, if_neg vn, b1, ← e, show ((v.natAbs : Nat) : Int) = v by omega]
  · obtain ⟨t, k, l1, l2, l3⟩ := W_lowE h (by omega)
    obtain ⟨b5, b6⟩ := b4 (by omega)
    have hp : 0 < 2 ^ t := Nat.pow_pos (by decide)
    have e0 : -v - 1 = ((v.natAbs - 1 : Nat) : Int) := by omega
    have hb1 : (F_Big_bitLength R s n f - 1 : Int32).toInt = (b : Int) - 1 := q_subI b1 rfl (by omega) (by omega)
    rw [if_pos vn, tLen_cpl, e0]
    rw [n1, if_neg (show ¬ (1 : Int32) = 0 by decide)]
    rw [n1] at b1 l1 hb1
    generalize F_Big_bitLength R s 1 f = z at b1 hb1 ⊢
    generalize F_Big_lowestOne R s 1 f = y at l1 ⊢
    have hA : 0 < v.natAbs := by omega
    generalize v.natAbs = A at b3 b6 hv l3 hA ⊢
    by_cases c : y = (z - 1 : Int32)
    · rw [if_pos c, hb1]
      rw [c, hb1] at l1
      have tb : t = b - 1 := by omega
      have hk : k = 0 := by
        rcases Nat.eq_zero_or_pos k with k0 | k0
        · exact k0
        · exfalso
          have g1 : 2 ^ t * 2 ≤ A := by
            rw [l3]
            exact Nat.mul_le_mul_left _ (by omega)
          have g2 : 2 ^ b = 2 ^ t * 2 := by rw [← Nat.pow_succ, tb, Nat.succ_eq_add_one, Nat.sub_add_cancel b5]
          rw [g2] at b3
          exact Nat.lt_irrefl _ (Nat.lt_of_lt_of_le b3 g1)
      rw [hk, Nat.mul_zero, Nat.zero_add, Nat.mul_one] at l3
      have e : tLen ((A - 1 : Nat) : Int) 0 2048 = b - 1 := by
        refine tLen_eq (by omega) (by rw [l3, ← tb]; omega) (fun c => ?_) (fun c => ?_)
        · have t0 : t ≠ 0 := fun t0 => by rw [t0, Nat.pow_zero] at l3; omega
          refine ⟨by omega, ?_⟩
          have g3 : 2 ^ t = 2 ^ (t - 1) * 2 := by rw [← Nat.pow_succ, Nat.succ_eq_add_one, Nat.sub_add_cancel (by omega)]
          have g4 : 0 < 2 ^ (t - 1) := Nat.pow_pos (by decide)
          rw [← tb]
          omega
        · rcases Nat.eq_zero_or_pos t with t0 | t0
          · omega
          · have g3 : 2 ^ t = 2 ^ (t - 1) * 2 := by rw [← Nat.pow_succ, Nat.succ_eq_add_one, Nat.sub_add_cancel (by omega)]
            have g4 : 0 < 2 ^ (t - 1) := Nat.pow_pos (by decide)
            omega
      rw [e]
      omega
    · rw [if_neg c, b1]
      have c2 : t ≠ b - 1 := fun tb => c (Int32.toInt_inj.mp (by rw [hb1, l1]; omega))
      have g1 : A ≠ 2 ^ (b - 1) := fun g => by
        have tb : t < b - 1 := by
          have u : 2 ^ t ≤ A := by rw [l3]; exact Nat.le_mul_of_pos_right _ (by omega)
          have := (Nat.pow_lt_pow_iff_right (a := 2) (by decide)).mp (Nat.lt_of_le_of_lt u b3)
          omega
        obtain ⟨d, hd⟩ : ∃ d, b - 1 = t + (d + 1) := ⟨b - 1 - t - 1, by omega⟩
        rw [hd, Nat.pow_add] at g
        have g2 := Nat.eq_of_mul_eq_mul_left hp (l3.symm.trans g)
        rw [Nat.pow_succ] at g2
        omega
      have e : tLen ((A - 1 : Nat) : Int) 0 2048 = b := by
        refine tLen_eq (by omega) (by omega) (fun _ => ⟨b5, by omega⟩) (fun c => ?_)
        exfalso
        have g4 : 0 < 2 ^ (b - 1) := Nat.pow_pos (by decide)
        omega
      rw [e]
