/-! values, for whole: the reference's DecimalRows: toPrecision -/
/-- how many zeros are at the end, at most so many -/
def dzN (u : Int) : Nat → Nat
  | 0 => 0
  | f + 1 => if u % 10 = 0 then dzN (u / 10) f + 1 else 0
theorem dzN_c {c : Int} (hc : c % 10 ≠ 0) : ∀ (K a k : Nat), k ≤ a → k ≤ K → (k = a ∨ k = K) → dzN (c * 10 ^ a) K = k
  | 0, a, k, h1, h2, h3 => by
    show 0 = k
    omega
  | K + 1, 0, k, h1, h2, h3 => by
    show (if (c * 10 ^ 0) % 10 = 0 then _ else 0) = k
    rw [Int.pow_zero, Int.mul_one, if_neg hc]
    omega
  | K + 1, a + 1, k, h1, h2, h3 => by
    obtain ⟨m, rfl⟩ : ∃ m, k = m + 1 := ⟨k - 1, by omega⟩
    have e1 : (c * 10 ^ (a + 1)) % 10 = 0 := by
      rw [u_pw, ← Int.mul_assoc]
      exact Int.mul_emod_left _ _
    have e2 : (c * 10 ^ (a + 1)) / 10 = c * 10 ^ a := by
      rw [u_pw, ← Int.mul_assoc]
      exact Int.mul_ediv_cancel _ (by decide)
    show (if (c * 10 ^ (a + 1)) % 10 = 0 then dzN ((c * 10 ^ (a + 1)) / 10) K + 1 else 0) = m + 1
    rw [if_pos e1, e2, dzN_c hc K a m (by omega) (by omega) (by omega)]
/-- too many figures by one -/
def sFull (p : Nat) (w u : Int) : Int × Int := if u = 10 ^ p then (10 ^ (p - 1), w - 1) else (u, w)
/-- t / 10 of scale w rounded to p figures, as near to the scale wish as it can be where it is exact -/
def sSht (m b st : Int32) (p : Nat) (t wish w : Int) : Option (Int × Int) := if t % 10 = 0 ∧ st = 0 then some (t / 10 / 10 ^ (dzN (t / 10) (w - wish).toNat), w - (dzN (t / 10) (w - wish).toNat : Int)) else (sRnd m b st t).map (sFull p w)
theorem sSht_x {m b : Int32} {p a k z : Nat} {t wish w c : Int} (hc : c % 10 ≠ 0) (ht : t = 10 * (c * 10 ^ a)) (hk : k + z = a) (h1 : k ≤ (w - wish).toNat) (h2 : k = a ∨ k = (w - wish).toNat) : sSht m b 0 p t wish w = some (c * 10 ^ z, w - (k : Int)) := by
  have e1 : t % 10 = 0 := by
    rw [ht]
    exact Int.mul_emod_right _ _
  have e2 : t / 10 = c * 10 ^ a := by
    rw [ht]
    exact Int.mul_ediv_cancel_left _ (by decide)
  have e3 : c * 10 ^ a / 10 ^ k = c * 10 ^ z := by
    rw [show a = z + k by omega, Int.pow_add, ← Int.mul_assoc]
    exact Int.mul_ediv_cancel _ (Int.ne_of_gt (u_pos k))
  unfold sSht
  rw [if_pos ⟨e1, rfl⟩, e2, dzN_c hc _ a k (by omega) h1 h2, e3]
theorem u_T10 {v : Int} {e : Nat} : (10 * v) / 10 ^ e / 10 = v / 10 ^ e := by
  rw [Int.ediv_ediv_of_nonneg (Int.le_of_lt (u_pos e)), Int.mul_comm (10 ^ e) 10, Int.mul_ediv_mul_of_pos _ _ (by decide)]
theorem r_0 {v : Int} {e : Nat} {m : Int32} (h : rSt v e m = 0) : (10 * v) % 10 ^ e = 0 ∧ m = 0 := by
  unfold rSt at h
  by_cases g : (10 * v) % 10 ^ e = 0 ∧ m = 0
  · exact g
  · rw [if_neg g] at h
    exact absurd h (by decide)
/-- more figures than are kept: it is not exact -/
theorem r_ne {v c : Int} {e i : Nat} (hv : v = c * 10 ^ i) (hc : c % 10 ≠ 0) (hi : i < e) : ¬ ((10 * v) / 10 ^ e % 10 = 0 ∧ rSt v e 0 = 0) := by
  intro ⟨h1, h2⟩
  have h3 := (r_0 h2).1
  have h4 := Int.emod_add_mul_ediv (10 * v) (10 ^ e)
  rw [h3] at h4
  generalize (10 * v) / 10 ^ e = T at h1 h4
  obtain ⟨d, rfl⟩ : ∃ d, e = i + 1 + d := ⟨e - (i + 1), by omega⟩
  obtain ⟨q, rfl⟩ : ∃ q, T = 10 * q := ⟨T / 10, by omega⟩
  have h5 : v = 10 ^ (i + 1 + d) * q := by
    have e1 : (10 : Int) ^ (i + 1 + d) * (10 * q) = 10 * (10 ^ (i + 1 + d) * q) := by ac_rfl
    rw [e1] at h4
    omega
  have h6 : c * 10 ^ i = (q * 10 ^ d * 10) * 10 ^ i := by
    rw [← hv, h5, Int.pow_add, Int.pow_add, Int.pow_one]
    ac_rfl
  have h7 := Int.eq_of_mul_eq_mul_right (Int.ne_of_gt (u_pos i)) h6
  apply hc
  rw [h7]
  exact Int.mul_emod_left _ _
/-- the exact case in figures -/
theorem r_tx {v c : Int} {n p j : Nat} (hv : v = c * 10 ^ (n - j)) (hp : j ≤ p) (hn : j ≤ n) : (10 * v * 10 ^ (p - n)) / 10 ^ (n - p) = 10 * (c * 10 ^ (p - j)) ∧ (10 * v) % 10 ^ (n - p) = 0 := by
  rcases Nat.le_total n p with h | h
  · rw [show n - p = 0 by omega, Int.pow_zero, Int.ediv_one, Int.emod_one, hv, show p - j = (n - j) + (p - n) by omega, Int.pow_add]
    refine ⟨?_, rfl⟩
    ac_rfl
  · have e : 10 * v = 10 * (c * 10 ^ (p - j)) * 10 ^ (n - p) := by
      rw [hv, show n - j = (p - j) + (n - p) by omega, Int.pow_add]
      ac_rfl
    rw [show p - n = 0 by omega, Int.pow_zero, Int.mul_one, e]
    exact ⟨Int.mul_ediv_cancel _ (Int.ne_of_gt (u_pos _)), Int.mul_emod_left _ _⟩
theorem V_tp129 {x2 : Int32} {x3 : Int64} {x4 : Int32} {x5 : Int32} {t0_0 : Int32} {t0_1 : Int32} {t0_2 : Int32} {t0_3 : Int64} {t0_4 : Int32} {t0_5 : Int32} {t0_6 : Int32} {t0_7 : Int32} {t0_8 : Int32} {t0_9 : Int32} {t0_10 : Int32} {t1_0 : (Nat → Int32)} {t2_0 : (Nat → Int32)} {t3_0 : (Nat → Int32)} {t4_0 : (Nat → Int32)} {t5_0 : (Nat → Int32)} {p75 : (Int32 × Int32 × Int32 × Int64 × Int32 × Int32 × Int32 × Int32 × Int32 × Int32 × Int32 × (Nat → Int32))} {y36 : Int32} {y37 : Int32} {y38 : Int32} {y39 : Int64} {y40 : Int32} {y41 : Int32} {y42 : Int32} {y43 : Int32} {y44 : Int32} {y45 : Int32} {y46 : Int32} {f47 : (Nat → Int32)} {D : Nat → Int × Int} {v : Int} {p n : Nat} (hD : dRv t1_0 t2_0 t3_0 t4_0 D) (hx5 : 0 ≤ x5.toInt ∧ x5.toInt ≤ 9) (hp : x2.toInt = (p : Int)) (hp1 : 1 ≤ p) (hT : gT v y38 f47) (hn : y38.toInt = (n : Int)) (hpn : p ≤ n) (hn2 : n ≤ 4399) (h39 : -100000 ≤ y39.toInt ∧ y39.toInt ≤ 100000) (h40 : y40 = 0 ∨ y40 = 1) (h41 : y41 = 0 ∨ y41 = 1) (hne : ¬ ((10 * v) / 10 ^ (n - p) % 10 = 0 ∧ rSt v (n - p) y40 = 0)) : dAn x5 D ((sSht x4 y41 (rSt v (n - p) y40) p ((10 * v) / 10 ^ (n - p)) x3.toInt (y39.toInt - ((n - p : Nat) : Int))).map (fun q => (sgI y41 q.1, q.2))) y36 y46 (F_DR_toPrecision_J129 x2 x3 x4 x5 t0_0 t0_1 t0_2 t0_3 t0_4 t0_5 t0_6 t0_7 t0_8 t0_9 t0_10 t1_0 t2_0 t3_0 t4_0 t5_0 p75 y36 y37 y38 y39 y40 y41 y42 y43 y44 y45 y46 f47).1 (F_DR_toPrecision_J129 x2 x3 x4 x5 t0_0 t0_1 t0_2 t0_3 t0_4 t0_5 t0_6 t0_7 t0_8 t0_9 t0_10 t1_0 t2_0 t3_0 t4_0 t5_0 p75 y36 y37 y38 y39 y40 y41 y42 y43 y44 y45 y46 f47).2.2.2.2.2.2.2.2.2.2.2.1 (F_DR_toPrecision_J129 x2 x3 x4 x5 t0_0 t0_1 t0_2 t0_3 t0_4 t0_5 t0_6 t0_7 t0_8 t0_9 t0_10 t1_0 t2_0 t3_0 t4_0 t5_0 p75 y36 y37 y38 y39 y40 y41 y42 y43 y44 y45 y46 f47).2.2.2.2.2.2.2.2.2.2.2.2.1 (F_DR_toPrecision_J129 x2 x3 x4 x5 t0_0 t0_1 t0_2 t0_3 t0_4 t0_5 t0_6 t0_7 t0_8 t0_9 t0_10 t1_0 t2_0 t3_0 t4_0 t5_0 p75 y36 y37 y38 y39 y40 y41 y42 y43 y44 y45 y46 f47).2.2.2.2.2.2.2.2.2.2.2.2.2.1 (F_DR_toPrecision_J129 x2 x3 x4 x5 t0_0 t0_1 t0_2 t0_3 t0_4 t0_5 t0_6 t0_7 t0_8 t0_9 t0_10 t1_0 t2_0 t3_0 t4_0 t5_0 p75 y36 y37 y38 y39 y40 y41 y42 y43 y44 y45 y46 f47).2.2.2.2.2.2.2.2.2.2.2.2.2.2.1 := by
  obtain ⟨g1, g2, g3, g4⟩ := hT
  have nc := q_clI hn (by omega)
  have nx : y38.toNatClampNeg = n := by omega
  unfold F_DR_toPrecision_J129
  have hc := V_DR_cut (x2 := x2) (x3 := x4) (t0_0 := y36) (t0_1 := y37) (t0_2 := y38) (t0_3 := y39) (t0_4 := y40) (t0_5 := y41) (t0_6 := y42) (t0_7 := y43) (t0_8 := y44) (t0_9 := y45) (t0_10 := y46) (t1_0 := f47) (e := n - p) ⟨by omega, by omega⟩ ⟨by omega, by omega⟩ (by omega) g2 g3 h40 ⟨by omega, by omega⟩
  generalize F_DR_cut x2 x4 y36 y37 y38 y39 y40 y41 y42 y43 y44 y45 y46 f47 = y at hc ⊢
  unfold F_DR_toPrecision_c133 sSht
  rw [if_neg hne]
  unfold sRnd
  rw [u_T10]
  generalize rGr x4 y41 (rSt v (n - p) y40) ((10 * v) / 10 ^ (n - p)) = G at hc ⊢
  rcases hc with ⟨gg, r0, r1⟩ | ⟨gn, r0, r1, r2, r3, r4, r5, r6, r7, r8, r9, r10, r11, r12, r13⟩
  · rw [if_pos r0, if_pos gg]
    exact Or.inr ⟨Or.inl rfl, r1, hD⟩
  · rw [if_neg (show ¬ y.1 = 0 by rw [r0]; decide), if_neg gn]
    rw [show x2.toInt.toNat = p by omega] at r3
    generalize v / 10 ^ (n - p) + G.toInt = R at r3 r13 ⊢
    have wb : -200000 ≤ y39.toInt - ((n - p : Nat) : Int) ∧ y39.toInt - ((n - p : Nat) : Int) ≤ 200000 := by omega
    generalize y39.toInt - ((n - p : Nat) : Int) = w at r4 wb ⊢
    show dAn x5 D (some (sgI y41 (sFull p w R).1, (sFull p w R).2)) y36 y46 _ _ _ _ _
    have b6 : y.2.2.2.2.2.2.1 = 0 ∨ y.2.2.2.2.2.2.1 = 1 := by
      rw [r6]
      exact h41
    rcases r3 with s1 | ⟨s1, s2⟩
    · have sc := q_clI s1 (by omega)
      have sx : y.2.2.2.1.toNatClampNeg = p := by omega
      have lt : R < 10 ^ p := by
        rw [← r13, sx]
        rw [sx] at r12
        exact u_lt r12
      rw [if_pos (Int32.le_iff_toInt_le.mpr (by omega)), show sFull p w R = (R, w) from if_neg (Int.ne_of_lt lt)]
      have hs := dSv_e (V_DR_store (x2 := x5) (t0_0 := y.2.1) (t0_1 := y.2.2.1) (t0_2 := y.2.2.2.1) (t0_3 := y.2.2.2.2.1) (t0_4 := y.2.2.2.2.2.1) (t0_5 := y.2.2.2.2.2.2.1) (t0_6 := y.2.2.2.2.2.2.2.1) (t0_7 := y.2.2.2.2.2.2.2.2.1) (t0_8 := y.2.2.2.2.2.2.2.2.2.1) (t0_9 := y.2.2.2.2.2.2.2.2.2.2.1) (t0_10 := y.2.2.2.2.2.2.2.2.2.2.2.1) (t5_0 := y.2.2.2.2.2.2.2.2.2.2.2.2) hD hx5 b6 ⟨by omega, by omega⟩ r12 r13) r1 r6 r11 r4
      generalize F_DR_store x5 y.2.1 y.2.2.1 y.2.2.2.1 y.2.2.2.2.1 y.2.2.2.2.2.1 y.2.2.2.2.2.2.1 y.2.2.2.2.2.2.2.1 y.2.2.2.2.2.2.2.2.1 y.2.2.2.2.2.2.2.2.2.1 y.2.2.2.2.2.2.2.2.2.2.1 y.2.2.2.2.2.2.2.2.2.2.2.1 t1_0 t2_0 t3_0 t4_0 y.2.2.2.2.2.2.2.2.2.2.2.2 = o at hs ⊢
      unfold F_DR_toPrecision_c170
      exact hs.an
    · have sc := q_clI s1 (by omega)
      have sx : y.2.2.2.1.toNatClampNeg = p + 1 := by omega
      rw [sx] at r12 r13
      have e1 : (y.2.2.2.1 - 1 : Int32).toInt = (p : Int) := by
        rw [q_subI (y := 1) s1 rfl (by omega) (by omega)]
        omega
      have e1c := q_clI e1 (by omega)
      have e1x : (y.2.2.2.1 - 1 : Int32).toNatClampNeg = p := by omega
      have e4 : (y.2.2.2.2.1 - 1 : Int64).toInt = w - 1 := q_subL r4 rfl (by omega) (by omega)
      have e5 : uV y.2.2.2.2.2.2.2.2.2.2.2.2 (p + 1) = uV y.2.2.2.2.2.2.2.2.2.2.2.2 p * 10 + (y.2.2.2.2.2.2.2.2.2.2.2.2 p).toInt := rfl
      have e6 := r12 p (by omega)
      have e7 : (10 : Int) ^ p = 10 ^ (p - 1) * 10 := by
        obtain ⟨k, rfl⟩ : ∃ k, p = k + 1 := ⟨p - 1, by omega⟩
        rw [Nat.add_sub_cancel]
        exact u_pw k
      have e8 : uV y.2.2.2.2.2.2.2.2.2.2.2.2 (y.2.2.2.1 - 1 : Int32).toNatClampNeg = 10 ^ (p - 1) := by
        rw [e1x]
        omega
      rw [if_neg (fun c => by have := q_leI c; omega), show sFull p w R = (10 ^ (p - 1), w - 1) from if_pos s2]
      have hs := dSv_e (V_DR_store (x2 := x5) (t0_0 := y.2.1) (t0_1 := y.2.2.1) (t0_2 := y.2.2.2.1 - 1) (t0_3 := y.2.2.2.2.1 - 1) (t0_4 := y.2.2.2.2.2.1) (t0_5 := y.2.2.2.2.2.2.1) (t0_6 := y.2.2.2.2.2.2.2.1) (t0_7 := y.2.2.2.2.2.2.2.2.1) (t0_8 := y.2.2.2.2.2.2.2.2.2.1) (t0_9 := y.2.2.2.2.2.2.2.2.2.2.1) (t0_10 := y.2.2.2.2.2.2.2.2.2.2.2.1) (t5_0 := y.2.2.2.2.2.2.2.2.2.2.2.2) hD hx5 b6 ⟨by omega, by omega⟩ (by rw [e1x]; exact r12.mono (by omega)) e8) r1 r6 r11 e4
      generalize F_DR_store x5 y.2.1 y.2.2.1 (y.2.2.2.1 - 1) (y.2.2.2.2.1 - 1) y.2.2.2.2.2.1 y.2.2.2.2.2.2.1 y.2.2.2.2.2.2.2.1 y.2.2.2.2.2.2.2.2.1 y.2.2.2.2.2.2.2.2.2.1 y.2.2.2.2.2.2.2.2.2.2.1 y.2.2.2.2.2.2.2.2.2.2.2.1 t1_0 t2_0 t3_0 t4_0 y.2.2.2.2.2.2.2.2.2.2.2.2 = o at hs ⊢
      unfold F_DR_toPrecision_c170_6
      exact hs.an
theorem d_lst {x5 : Int32} {D : Nat → Int × Int} {t1_0 t2_0 t3_0 t4_0 : Nat → Int32} {c : Int} {j z : Nat} {a0 a1 : Int32} {s : Int64} {a4 b a6 a7 a8 a9 a10 : Int32} {r : Int32 × Int32 × Int32 × Int64 × Int32 × Int32 × Int32 × Int32 × Int32 × Int32 × Int32 × (Nat → Int32)} (hD : dRv t1_0 t2_0 t3_0 t4_0 D) (hx5 : 0 ≤ x5.toInt ∧ x5.toInt ≤ 9) (hb : b = 0 ∨ b = 1) (hj : j + z ≤ 4400) (hl : QV_len c j z a0 a1 s a4 b a6 a7 a8 a9 a10 r) : dSv x5 D (sgI b (c * 10 ^ z), s.toInt) a0 a10 (F_DR_store x5 r.1 r.2.1 r.2.2.1 r.2.2.2.1 r.2.2.2.2.1 r.2.2.2.2.2.1 r.2.2.2.2.2.2.1 r.2.2.2.2.2.2.2.1 r.2.2.2.2.2.2.2.2.1 r.2.2.2.2.2.2.2.2.2.1 r.2.2.2.2.2.2.2.2.2.2.1 t1_0 t2_0 t3_0 t4_0 r.2.2.2.2.2.2.2.2.2.2.2) := by
  obtain ⟨l0, l1, l2, l3, l4, l5, l6, l7, l8, l9, l10, l11, l12⟩ := hl
  have nc := q_clI l2 (by omega)
  have nx : r.2.2.1.toNatClampNeg = j + z := by omega
  exact dSv_e (V_DR_store (x2 := x5) (t0_0 := r.1) (t0_1 := r.2.1) (t0_2 := r.2.2.1) (t0_3 := r.2.2.2.1) (t0_4 := r.2.2.2.2.1) (t0_5 := r.2.2.2.2.2.1) (t0_6 := r.2.2.2.2.2.2.1) (t0_7 := r.2.2.2.2.2.2.2.1) (t0_8 := r.2.2.2.2.2.2.2.2.1) (t0_9 := r.2.2.2.2.2.2.2.2.2.1) (t0_10 := r.2.2.2.2.2.2.2.2.2.2.1) (t5_0 := r.2.2.2.2.2.2.2.2.2.2.2) hD hx5 (by rw [l5]; exact hb) ⟨by omega, by omega⟩ (by rw [nx]; exact l11) (by rw [nx]; exact l12)) l0 l5 l10 (congrArg Int64.toInt l3)
theorem V_tp32 {x2 : Int32} {x3 : Int64} {x4 : Int32} {x5 : Int32} {t0_0 : Int32} {t0_1 : Int32} {t0_2 : Int32} {t0_3 : Int64} {t0_4 : Int32} {t0_5 : Int32} {t0_6 : Int32} {t0_7 : Int32} {t0_8 : Int32} {t0_9 : Int32} {t0_10 : Int32} {t1_0 : (Nat → Int32)} {t2_0 : (Nat → Int32)} {t3_0 : (Nat → Int32)} {t4_0 : (Nat → Int32)} {t5_0 : (Nat → Int32)} {p75 : (Int32 × Int32 × Int32 × Int64 × Int32 × Int32 × Int32 × Int32 × Int32 × Int32 × Int32 × (Nat → Int32))} {y36 : Int32} {y37 : Int32} {y38 : Int32} {y39 : Int64} {y40 : Int32} {y41 : Int32} {y42 : Int32} {y43 : Int32} {y44 : Int32} {y45 : Int32} {y46 : Int32} {f47 : (Nat → Int32)} {D : Nat → Int × Int} {v : Int} {p n : Nat} (hD : dRv t1_0 t2_0 t3_0 t4_0 D) (hx5 : 0 ≤ x5.toInt ∧ x5.toInt ≤ 9) (hp : x2.toInt = (p : Int)) (hp1 : 1 ≤ p ∧ p ≤ 4399) (hT : gT v y38 f47) (hv0 : v ≠ 0) (hn : y38.toInt = (n : Int)) (hn2 : n ≤ 4399) (h3 : -100000 ≤ x3.toInt ∧ x3.toInt ≤ 100000) (h39 : -100000 ≤ y39.toInt ∧ y39.toInt ≤ 100000) (h40 : y40 = 0 ∨ (y40 = 1 ∧ p ≤ n)) (h41 : y41 = 0 ∨ y41 = 1) : dAn x5 D ((sSht x4 y41 (rSt v (n - p) y40) p ((10 * v * 10 ^ (p - n)) / 10 ^ (n - p)) x3.toInt (y39.toInt + (p : Int) - (n : Int))).map (fun q => (sgI y41 q.1, q.2))) y36 y46 (F_DR_toPrecision_J32 x2 x3 x4 x5 t0_0 t0_1 t0_2 t0_3 t0_4 t0_5 t0_6 t0_7 t0_8 t0_9 t0_10 t1_0 t2_0 t3_0 t4_0 t5_0 p75 y36 y37 y38 y39 y40 y41 y42 y43 y44 y45 y46 f47).1 (F_DR_toPrecision_J32 x2 x3 x4 x5 t0_0 t0_1 t0_2 t0_3 t0_4 t0_5 t0_6 t0_7 t0_8 t0_9 t0_10 t1_0 t2_0 t3_0 t4_0 t5_0 p75 y36 y37 y38 y39 y40 y41 y42 y43 y44 y45 y46 f47).2.2.2.2.2.2.2.2.2.2.2.1 (F_DR_toPrecision_J32 x2 x3 x4 x5 t0_0 t0_1 t0_2 t0_3 t0_4 t0_5 t0_6 t0_7 t0_8 t0_9 t0_10 t1_0 t2_0 t3_0 t4_0 t5_0 p75 y36 y37 y38 y39 y40 y41 y42 y43 y44 y45 y46 f47).2.2.2.2.2.2.2.2.2.2.2.2.1 (F_DR_toPrecision_J32 x2 x3 x4 x5 t0_0 t0_1 t0_2 t0_3 t0_4 t0_5 t0_6 t0_7 t0_8 t0_9 t0_10 t1_0 t2_0 t3_0 t4_0 t5_0 p75 y36 y37 y38 y39 y40 y41 y42 y43 y44 y45 y46 f47).2.2.2.2.2.2.2.2.2.2.2.2.2.1 (F_DR_toPrecision_J32 x2 x3 x4 x5 t0_0 t0_1 t0_2 t0_3 t0_4 t0_5 t0_6 t0_7 t0_8 t0_9 t0_10 t1_0 t2_0 t3_0 t4_0 t5_0 p75 y36 y37 y38 y39 y40 y41 y42 y43 y44 y45 y46 f47).2.2.2.2.2.2.2.2.2.2.2.2.2.2.1 := by
  have e0 : (0 : Int64).toInt = 0 := rfl
  have hT2 := hT
  obtain ⟨g1, g2, g3, g4⟩ := hT2
  have nc := q_clI hn (by omega)
  have nx : y38.toNatClampNeg = n := by omega
  have cut : (hpn : p ≤ n) → ¬ ((10 * v) / 10 ^ (n - p) % 10 = 0 ∧ rSt v (n - p) y40 = 0) → dAn x5 D ((sSht x4 y41 (rSt v (n - p) y40) p ((10 * v * 10 ^ (p - n)) / 10 ^ (n - p)) x3.toInt (y39.toInt + (p : Int) - (n : Int))).map (fun q => (sgI y41 q.1, q.2))) y36 y46 (F_DR_toPrecision_J129 x2 x3 x4 x5 t0_0 t0_1 t0_2 t0_3 t0_4 t0_5 t0_6 t0_7 t0_8 t0_9 t0_10 t1_0 t2_0 t3_0 t4_0 t5_0 p75 y36 y37 y38 y39 y40 y41 y42 y43 y44 y45 y46 f47).1 (F_DR_toPrecision_J129 x2 x3 x4 x5 t0_0 t0_1 t0_2 t0_3 t0_4 t0_5 t0_6 t0_7 t0_8 t0_9 t0_10 t1_0 t2_0 t3_0 t4_0 t5_0 p75 y36 y37 y38 y39 y40 y41 y42 y43 y44 y45 y46 f47).2.2.2.2.2.2.2.2.2.2.2.1 (F_DR_toPrecision_J129 x2 x3 x4 x5 t0_0 t0_1 t0_2 t0_3 t0_4 t0_5 t0_6 t0_7 t0_8 t0_9 t0_10 t1_0 t2_0 t3_0 t4_0 t5_0 p75 y36 y37 y38 y39 y40 y41 y42 y43 y44 y45 y46 f47).2.2.2.2.2.2.2.2.2.2.2.2.1 (F_DR_toPrecision_J129 x2 x3 x4 x5 t0_0 t0_1 t0_2 t0_3 t0_4 t0_5 t0_6 t0_7 t0_8 t0_9 t0_10 t1_0 t2_0 t3_0 t4_0 t5_0 p75 y36 y37 y38 y39 y40 y41 y42 y43 y44 y45 y46 f47).2.2.2.2.2.2.2.2.2.2.2.2.2.1 (F_DR_toPrecision_J129 x2 x3 x4 x5 t0_0 t0_1 t0_2 t0_3 t0_4 t0_5 t0_6 t0_7 t0_8 t0_9 t0_10 t1_0 t2_0 t3_0 t4_0 t5_0 p75 y36 y37 y38 y39 y40 y41 y42 y43 y44 y45 y46 f47).2.2.2.2.2.2.2.2.2.2.2.2.2.2.1 := fun hpn hne => by
    rw [show p - n = 0 by omega, Int.pow_zero, Int.mul_one, show y39.toInt + (p : Int) - (n : Int) = y39.toInt - ((n - p : Nat) : Int) by omega]
    exact V_tp129 hD hx5 hp hp1.1 hT hn hpn hn2 h39 (h40.imp id (fun h => h.1)) h41 hne
  unfold F_DR_toPrecision_J32
  by_cases c0 : y40 = 0
  · rw [if_pos c0]
    obtain ⟨j, n1, n2, n3, n4, n5⟩ := V_DR_needed (t0_0 := y36) (t0_1 := y37) (t0_2 := y38) (t0_3 := y39) (t0_4 := y40) (t0_5 := y41) (t0_6 := y42) (t0_7 := y43) (t0_8 := y44) (t0_9 := y45) (t0_10 := y46) (t1_0 := f47) g1
    generalize F_DR_needed y36 y37 y38 y39 y40 y41 y42 y43 y44 y45 y46 f47 = N at n1 ⊢
    rw [nx] at n3 n4 g2 g3 g4
    have hv : v = uV f47 j * 10 ^ (n - j) := by
      rw [← u_tail (m := n - j) (fun i i1 i2 => n4 i i1 (by omega)), show j + (n - j) = n by omega]
      exact g3.symm
    have hc : uV f47 j % 10 ≠ 0 := by
      rcases n5 with h | h
      · subst h
        have f0 := g2 0 (by omega)
        have e1 : uV f47 1 = 0 * 10 + (f47 0).toInt := rfl
        intro z
        apply hv0
        rw [hv, show uV f47 1 = 0 by omega, Int.zero_mul]
      · obtain ⟨i, rfl⟩ : ∃ i, j = i + 1 := ⟨j - 1, by omega⟩
        exact u_lastN (g2.mono (by omega)) h
    by_cases c1 : x2 < N
    · have c2 := q_ltI c1
      rw [if_pos c1]
      refine cut (by omega) ?_
      rw [c0]
      exact r_ne hv hc (by omega)
    · have c2 := q_nltI c1
      rw [if_neg c1]
      have Nc := q_clI n1 (by omega)
      have Nx : N.toNatClampNeg = j := by omega
      obtain ⟨t1, t2⟩ := r_tx (p := p) hv (by omega) n3
      have st : rSt v (n - p) y40 = 0 := if_pos ⟨t2, c0⟩
      have e1 : (y38 - N : Int32).toInt = (n : Int) - (j : Int) := q_subI hn n1 (by omega) (by omega)
      have e2 : (y39 - (y38 - N).toInt64 : Int64).toInt = y39.toInt - ((n : Int) - (j : Int)) := q_subL rfl ((Int32.toInt_toInt64 _).trans e1) (by omega) (by omega)
      generalize y39 - (y38 - N).toInt64 = ss at e2 ⊢
      clear e1
      have e3 : (x3 - ss : Int64).toInt = x3.toInt - (y39.toInt - ((n : Int) - (j : Int))) := q_subL rfl e2 (by omega) (by omega)
      generalize x3 - ss = dd at e3 ⊢
      have e4 : ((x2 - N).toInt64 : Int64).toInt = (p : Int) - (j : Int) := (Int32.toInt_toInt64 _).trans (q_subI hp n1 (by omega) (by omega))
      generalize (x2 - N).toInt64 = pp at e4 ⊢
      rw [st, t1]
      clear t1 t2 hv st
      -- z zeros behind the needed ones
      have key : ∀ (l : Int64) (z : Nat), l.toInt = (z : Int) → z + j ≤ p → p - j - z ≤ (y39.toInt + (p : Int) - (n : Int) - x3.toInt).toNat → (z = 0 ∨ p - j - z = (y39.toInt + (p : Int) - (n : Int) - x3.toInt).toNat) → ∀ r, F_DR_lengthen l y36 y37 N ss y40 y41 y42 y43 y44 y45 y46 f47 = r → dAn x5 D ((sSht x4 y41 0 p (10 * (uV f47 j * 10 ^ (p - j))) x3.toInt (y39.toInt + (p : Int) - (n : Int))).map (fun q => (sgI y41 q.1, q.2))) y36 y46 (F_DR_store x5 r.1 r.2.1 r.2.2.1 r.2.2.2.1 r.2.2.2.2.1 r.2.2.2.2.2.1 r.2.2.2.2.2.2.1 r.2.2.2.2.2.2.2.1 r.2.2.2.2.2.2.2.2.1 r.2.2.2.2.2.2.2.2.2.1 r.2.2.2.2.2.2.2.2.2.2.1 t1_0 t2_0 t3_0 t4_0 r.2.2.2.2.2.2.2.2.2.2.2).1 (F_DR_store x5 r.1 r.2.1 r.2.2.1 r.2.2.2.1 r.2.2.2.2.1 r.2.2.2.2.2.1 r.2.2.2.2.2.2.1 r.2.2.2.2.2.2.2.1 r.2.2.2.2.2.2.2.2.1 r.2.2.2.2.2.2.2.2.2.1 r.2.2.2.2.2.2.2.2.2.2.1 t1_0 t2_0 t3_0 t4_0 r.2.2.2.2.2.2.2.2.2.2.2).2.2.2.2.2.2.2.2.2.2.2.1 (F_DR_store x5 r.1 r.2.1 r.2.2.1 r.2.2.2.1 r.2.2.2.2.1 r.2.2.2.2.2.1 r.2.2.2.2.2.2.1 r.2.2.2.2.2.2.2.1 r.2.2.2.2.2.2.2.2.1 r.2.2.2.2.2.2.2.2.2.1 r.2.2.2.2.2.2.2.2.2.2.1 t1_0 t2_0 t3_0 t4_0 r.2.2.2.2.2.2.2.2.2.2.2).2.2.2.2.2.2.2.2.2.2.2.2.1 (F_DR_store x5 r.1 r.2.1 r.2.2.1 r.2.2.2.1 r.2.2.2.2.1 r.2.2.2.2.2.1 r.2.2.2.2.2.2.1 r.2.2.2.2.2.2.2.1 r.2.2.2.2.2.2.2.2.1 r.2.2.2.2.2.2.2.2.2.1 r.2.2.2.2.2.2.2.2.2.2.1 t1_0 t2_0 t3_0 t4_0 r.2.2.2.2.2.2.2.2.2.2.2).2.2.2.2.2.2.2.2.2.2.2.2.2.1 (F_DR_store x5 r.1 r.2.1 r.2.2.1 r.2.2.2.1 r.2.2.2.2.1 r.2.2.2.2.2.1 r.2.2.2.2.2.2.1 r.2.2.2.2.2.2.2.1 r.2.2.2.2.2.2.2.2.1 r.2.2.2.2.2.2.2.2.2.1 r.2.2.2.2.2.2.2.2.2.2.1 t1_0 t2_0 t3_0 t4_0 r.2.2.2.2.2.2.2.2.2.2.2).2.2.2.2.2.2.2.2.2.2.2.2.2.2.1 := fun l z hl hz hk1 hk2 r hr => by
        have hlen := V_DR_lengthen (x2 := l) (t0_0 := y36) (t0_1 := y37) (t0_2 := N) (t0_3 := ss) (t0_4 := y40) (t0_5 := y41) (t0_6 := y42) (t0_7 := y43) (t0_8 := y44) (t0_9 := y45) (t0_10 := y46) (t1_0 := f47) (z := z) (by omega) hl (by omega) (by rw [Nx]; exact g2.mono n3) rfl
        rw [hr, Nx] at hlen
        have hs := d_lst hD hx5 h41 (by omega) hlen
        rw [q_addL e2 hl (by omega) (by omega)] at hs
        rw [sSht_x (k := p - j - z) (z := z) hc rfl (by omega) hk1 (by omega)]
        refine dAn_o hs.an ?_
        show some (sgI y41 (uV f47 j * 10 ^ z), y39.toInt - ((n : Int) - (j : Int)) + (z : Int)) = some (sgI y41 (uV f47 j * 10 ^ z), y39.toInt + (p : Int) - (n : Int) - ((p - j - z : Nat) : Int))
        rw [show y39.toInt - ((n : Int) - (j : Int)) + (z : Int) = y39.toInt + (p : Int) - (n : Int) - ((p - j - z : Nat) : Int) by omega]
      by_cases d1 : 0 ≤ lg_cmp dd 0
      · have d2 := g_lc5 d1
        rw [if_pos d1]
        by_cases f1 : lg_cmp dd pp ≤ 0
        · have f2 := g_lc3 f1
          rw [if_pos f1]
          have kk := key dd (x3.toInt - (y39.toInt - ((n : Int) - (j : Int)))).toNat (by omega) (by omega) (by omega) (by omega) _ rfl
          generalize F_DR_lengthen dd y36 y37 N ss y40 y41 y42 y43 y44 y45 y46 f47 = r at kk ⊢
          unfold F_DR_toPrecision_c119
          generalize F_DR_store x5 r.1 r.2.1 r.2.2.1 r.2.2.2.1 r.2.2.2.2.1 r.2.2.2.2.2.1 r.2.2.2.2.2.2.1 r.2.2.2.2.2.2.2.1 r.2.2.2.2.2.2.2.2.1 r.2.2.2.2.2.2.2.2.2.1 r.2.2.2.2.2.2.2.2.2.2.1 t1_0 t2_0 t3_0 t4_0 r.2.2.2.2.2.2.2.2.2.2.2 = o at kk ⊢
          unfold F_DR_toPrecision_c125
          exact kk
        · have f2 := g_lc4 f1
          rw [if_neg f1]
          have kk := key pp (p - j) (by omega) (by omega) (by omega) (by omega) _ rfl
          generalize F_DR_lengthen pp y36 y37 N ss y40 y41 y42 y43 y44 y45 y46 f47 = r at kk ⊢
          unfold F_DR_toPrecision_c119_9
          generalize F_DR_store x5 r.1 r.2.1 r.2.2.1 r.2.2.2.1 r.2.2.2.2.1 r.2.2.2.2.2.1 r.2.2.2.2.2.2.1 r.2.2.2.2.2.2.2.1 r.2.2.2.2.2.2.2.2.1 r.2.2.2.2.2.2.2.2.2.1 r.2.2.2.2.2.2.2.2.2.2.1 t1_0 t2_0 t3_0 t4_0 r.2.2.2.2.2.2.2.2.2.2.2 = o at kk ⊢
          unfold F_DR_toPrecision_c125_10
          exact kk
      · have d2 := g_lc6 d1
        rw [if_neg d1]
        have kk := key 0 0 rfl (by omega) (by omega) (by omega) _ rfl
        generalize F_DR_lengthen 0 y36 y37 N ss y40 y41 y42 y43 y44 y45 y46 f47 = r at kk ⊢
        unfold F_DR_toPrecision_c119_11
        generalize F_DR_store x5 r.1 r.2.1 r.2.2.1 r.2.2.2.1 r.2.2.2.2.1 r.2.2.2.2.2.1 r.2.2.2.2.2.2.1 r.2.2.2.2.2.2.2.1 r.2.2.2.2.2.2.2.2.1 r.2.2.2.2.2.2.2.2.2.1 r.2.2.2.2.2.2.2.2.2.2.1 t1_0 t2_0 t3_0 t4_0 r.2.2.2.2.2.2.2.2.2.2.2 = o at kk ⊢
        unfold F_DR_toPrecision_c125_12
        exact kk
  · rw [if_neg c0]
    obtain ⟨h1, h2⟩ : y40 = 1 ∧ p ≤ n := h40.resolve_left c0
    refine cut h2 (fun h => c0 (r_0 h.2).2)
theorem V_DR_toPrecision {x2 : Int32} {x3 : Int64} {x4 : Int32} {x5 : Int32} {t0_0 : Int32} {t0_1 : Int32} {t0_2 : Int32} {t0_3 : Int64} {t0_4 : Int32} {t0_5 : Int32} {t0_6 : Int32} {t0_7 : Int32} {t0_8 : Int32} {t0_9 : Int32} {t0_10 : Int32} {t1_0 : (Nat → Int32)} {t2_0 : (Nat → Int32)} {t3_0 : (Nat → Int32)} {t4_0 : (Nat → Int32)} {t5_0 : (Nat → Int32)} {D : Nat → Int × Int} {v : Int} {p : Nat} (hD : dRv t1_0 t2_0 t3_0 t4_0 D) (hx5 : 0 ≤ x5.toInt ∧ x5.toInt ≤ 9) (hp : x2.toInt = (p : Int)) (hp1 : 1 ≤ p ∧ p ≤ 4399) (h2 : 0 ≤ t0_2.toInt ∧ t0_2.toInt ≤ 4399) (hg : gO t5_0 t0_2.toNatClampNeg) (hv : uV t5_0 t0_2.toNatClampNeg = v) (h3 : -100000 ≤ x3.toInt ∧ x3.toInt ≤ 100000) (hs : -100000 ≤ t0_3.toInt ∧ t0_3.toInt ≤ 100000) (h4 : t0_4 = 0 ∨ (t0_4 = 1 ∧ (10 : Int) ^ (p - 1) ≤ v)) (hb : t0_5 = 0 ∨ t0_5 = 1) : (v = 0 → dAn x5 D (some (0, x3.toInt)) t0_0 t0_10 (F_DR_toPrecision x2 x3 x4 x5 t0_0 t0_1 t0_2 t0_3 t0_4 t0_5 t0_6 t0_7 t0_8 t0_9 t0_10 t1_0 t2_0 t3_0 t4_0 t5_0).1 (F_DR_toPrecision x2 x3 x4 x5 t0_0 t0_1 t0_2 t0_3 t0_4 t0_5 t0_6 t0_7 t0_8 t0_9 t0_10 t1_0 t2_0 t3_0 t4_0 t5_0).2.2.2.2.2.2.2.2.2.2.2.1 (F_DR_toPrecision x2 x3 x4 x5 t0_0 t0_1 t0_2 t0_3 t0_4 t0_5 t0_6 t0_7 t0_8 t0_9 t0_10 t1_0 t2_0 t3_0 t4_0 t5_0).2.2.2.2.2.2.2.2.2.2.2.2.1 (F_DR_toPrecision x2 x3 x4 x5 t0_0 t0_1 t0_2 t0_3 t0_4 t0_5 t0_6 t0_7 t0_8 t0_9 t0_10 t1_0 t2_0 t3_0 t4_0 t5_0).2.2.2.2.2.2.2.2.2.2.2.2.2.1 (F_DR_toPrecision x2 x3 x4 x5 t0_0 t0_1 t0_2 t0_3 t0_4 t0_5 t0_6 t0_7 t0_8 t0_9 t0_10 t1_0 t2_0 t3_0 t4_0 t5_0).2.2.2.2.2.2.2.2.2.2.2.2.2.2.1) ∧ (v ≠ 0 → ∀ n : Nat, vG v n → dAn x5 D ((sSht x4 t0_5 (rSt v (n - p) t0_4) p ((10 * v * 10 ^ (p - n)) / 10 ^ (n - p)) x3.toInt (t0_3.toInt + (p : Int) - (n : Int))).map (fun q => (sgI t0_5 q.1, q.2))) t0_0 t0_10 (F_DR_toPrecision x2 x3 x4 x5 t0_0 t0_1 t0_2 t0_3 t0_4 t0_5 t0_6 t0_7 t0_8 t0_9 t0_10 t1_0 t2_0 t3_0 t4_0 t5_0).1 (F_DR_toPrecision x2 x3 x4 x5 t0_0 t0_1 t0_2 t0_3 t0_4 t0_5 t0_6 t0_7 t0_8 t0_9 t0_10 t1_0 t2_0 t3_0 t4_0 t5_0).2.2.2.2.2.2.2.2.2.2.2.1 (F_DR_toPrecision x2 x3 x4 x5 t0_0 t0_1 t0_2 t0_3 t0_4 t0_5 t0_6 t0_7 t0_8 t0_9 t0_10 t1_0 t2_0 t3_0 t4_0 t5_0).2.2.2.2.2.2.2.2.2.2.2.2.1 (F_DR_toPrecision x2 x3 x4 x5 t0_0 t0_1 t0_2 t0_3 t0_4 t0_5 t0_6 t0_7 t0_8 t0_9 t0_10 t1_0 t2_0 t3_0 t4_0 t5_0).2.2.2.2.2.2.2.2.2.2.2.2.2.1 (F_DR_toPrecision x2 x3 x4 x5 t0_0 t0_1 t0_2 t0_3 t0_4 t0_5 t0_6 t0_7 t0_8 t0_9 t0_10 t1_0 t2_0 t3_0 t4_0 t5_0).2.2.2.2.2.2.2.2.2.2.2.2.2.2.1) := by
  have e00 : (0 : Int32).toNatClampNeg = 0 := rfl
  have ht := V_DR_trim (t0_0 := t0_0) (t0_1 := t0_1) (t0_2 := t0_2) (t0_3 := t0_3) (t0_4 := t0_4) (t0_5 := t0_5) (t0_6 := t0_6) (t0_7 := t0_7) (t0_8 := t0_8) (t0_9 := t0_9) (t0_10 := t0_10) (t1_0 := t5_0) hb ⟨h2.1, by omega⟩ hg hv
  have nn := q_clI (i := t0_2) rfl h2.1
  have vlt : v < 10 ^ 4399 := by
    rw [← hv]
    exact Int.lt_of_lt_of_le (u_lt hg) (u_pwle (by omega))
  have v0 : 0 ≤ v := by
    rw [← hv]
    exact u_nn hg
  unfold F_DR_toPrecision
  generalize F_DR_trim t0_0 t0_1 t0_2 t0_3 t0_4 t0_5 t0_6 t0_7 t0_8 t0_9 t0_10 t5_0 = y at ht ⊢
  obtain ⟨hT, y5, y0, y1, y3, y4, y6, y7, y8, y9, y10⟩ := ht
  have hT2 := hT
  obtain ⟨g1, g2, g3, g4⟩ := hT2
  have yc := q_clI (i := y.2.2.1) rfl (by omega)
  have f0 : y.2.2.2.2.2.2.2.2.2.2.2 0 = 0 ↔ v = 0 := by
    constructor
    · intro h
      by_cases z : v = 0
      · exact z
      · exact absurd h (u_ld g2 (by omega) (by rw [g3]; exact g4) (by rw [g3]; exact z))
    · intro h
      exact u_hd g2 (by omega) (by rw [g3]; exact h)
  unfold F_DR_toPrecision_c1
  rw [e00]
  constructor
  · intro z
    have p1 := u_pos (p - 1)
    have z4 : t0_4 = 0 := h4.elim id (fun h => by have := h.2; omega)
    rw [if_pos (f0.mpr z), if_pos (y4.trans z4)]
    have b5 : y.2.2.2.2.2.1 = 0 := by
      rw [y5, if_pos z]
    have hst := dSv_e (V_DR_store (x2 := x5) (t0_0 := y.1) (t0_1 := y.2.1) (t0_2 := y.2.2.1) (t0_3 := x3) (t0_4 := y.2.2.2.2.1) (t0_5 := y.2.2.2.2.2.1) (t0_6 := y.2.2.2.2.2.2.1) (t0_7 := y.2.2.2.2.2.2.2.1) (t0_8 := y.2.2.2.2.2.2.2.2.1) (t0_9 := y.2.2.2.2.2.2.2.2.2.1) (t0_10 := y.2.2.2.2.2.2.2.2.2.2.1) (t5_0 := y.2.2.2.2.2.2.2.2.2.2.2) hD hx5 (Or.inl b5) ⟨by omega, g1.2⟩ g2 g3) y0 b5 y10 rfl
    generalize F_DR_store x5 y.1 y.2.1 y.2.2.1 x3 y.2.2.2.2.1 y.2.2.2.2.2.1 y.2.2.2.2.2.2.1 y.2.2.2.2.2.2.2.1 y.2.2.2.2.2.2.2.2.1 y.2.2.2.2.2.2.2.2.2.1 y.2.2.2.2.2.2.2.2.2.2.1 t1_0 t2_0 t3_0 t4_0 y.2.2.2.2.2.2.2.2.2.2.2 = o at hst ⊢
    unfold F_DR_toPrecision_c28
    rw [z] at hst
    exact hst.an
  · intro z n hn
    have en := vG_U hn g4
    have n4 : n ≤ 4399 := (vG_le hn (by omega)).mpr (by
      have h1 : ((v.natAbs : Nat) : Int) < ((10 ^ 4399 : Nat) : Int) := by
        rw [Int.natAbs_of_nonneg v0, Int.natCast_pow]
        exact vlt
      exact Int.ofNat_lt.mp h1)
    have hpn : t0_4 = 0 ∨ (t0_4 = 1 ∧ p ≤ n) := h4.imp id (fun h => ⟨h.1, by
      by_cases c : p ≤ n
      · exact c
      · exfalso
        have h1 := (d_bdI hn z).2
        rw [Int.natAbs_of_nonneg v0] at h1
        have h2 : (10 : Int) ^ n ≤ 10 ^ (p - 1) := u_pwle (by omega)
        exact absurd (Int.lt_of_lt_of_le h1 (Int.le_trans h2 h.2)) (Int.lt_irrefl _)⟩)
    have b5 : y.2.2.2.2.2.1 = t0_5 := by
      rw [y5, if_neg z]
    rw [if_neg (fun c => z (f0.mp c))]
    have h := V_tp32 (x2 := x2) (x3 := x3) (x4 := x4) (t0_0 := t0_0) (t0_1 := t0_1) (t0_2 := t0_2) (t0_3 := t0_3) (t0_4 := t0_4) (t0_5 := t0_5) (t0_6 := t0_6) (t0_7 := t0_7) (t0_8 := t0_8) (t0_9 := t0_9) (t0_10 := t0_10) (t5_0 := t5_0) (p75 := y) (y36 := y.1) (y37 := y.2.1) (y38 := y.2.2.1) (y39 := y.2.2.2.1) (y40 := y.2.2.2.2.1) (y41 := y.2.2.2.2.2.1) (y42 := y.2.2.2.2.2.2.1) (y43 := y.2.2.2.2.2.2.2.1) (y44 := y.2.2.2.2.2.2.2.2.1) (y45 := y.2.2.2.2.2.2.2.2.2.1) (y46 := y.2.2.2.2.2.2.2.2.2.2.1) (f47 := y.2.2.2.2.2.2.2.2.2.2.2) (n := n) hD hx5 hp hp1 hT z (by omega) n4 h3 (by rw [y3]; exact hs) (by rw [y4]; exact hpn) (by rw [b5]; exact hb)
    generalize F_DR_toPrecision_J32 x2 x3 x4 x5 t0_0 t0_1 t0_2 t0_3 t0_4 t0_5 t0_6 t0_7 t0_8 t0_9 t0_10 t1_0 t2_0 t3_0 t4_0 t5_0 y y.1 y.2.1 y.2.2.1 y.2.2.2.1 y.2.2.2.2.1 y.2.2.2.2.2.1 y.2.2.2.2.2.2.1 y.2.2.2.2.2.2.2.1 y.2.2.2.2.2.2.2.2.1 y.2.2.2.2.2.2.2.2.2.1 y.2.2.2.2.2.2.2.2.2.2.1 y.2.2.2.2.2.2.2.2.2.2.2 = o at h ⊢
    rw [b5, y4, y3, y0, y10] at h
    exact h
