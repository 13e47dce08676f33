/-! values, for whole: the reference's DecimalRows: times -/
theorem u_tmI {V c E V0 r P T d q f w k : Int} (h : V + c * E = V0 + r * (P * T)) (hw : w = f + r * k + c) (hq : w = 10 * q + d) (M : Int) (hE : E = P * M) : (V + (d - f) * E) + q * (E * 10) = V0 + r * (P * (k * M + T)) := by
  have e1 : w * E = 10 * q * E + d * E := by rw [hq, Int.add_mul]
  have e2 : w * E = f * E + r * k * E + c * E := by rw [hw, Int.add_mul, Int.add_mul]
  have e3 : q * (E * 10) = 10 * q * E := by rw [Int.mul_comm E 10, ← Int.mul_assoc, Int.mul_comm q 10]
  have e4 : r * (P * (k * M + T)) = r * k * E + r * (P * T) := by
    rw [hE, Int.mul_add P, Int.mul_add r, Int.mul_left_comm P k M, ← Int.mul_assoc r k]
  rw [Int.sub_mul]
  omega
theorem V_tm4 {K_F_DR_times_L14 : Int32 → (Nat → Int32) → (Int32 × Int32 × Int32 × Int32 × Int64 × Int32 × Int32 × Int32 × Int32 × Int32 × Int32 × Int32 × (Nat → Int32) × (Nat → Int32))} {K_F_DR_times_L39 : Int32 → (Nat → Int32) → (Int32 × Int32 × Int32 × Int32 × Int64 × Int32 × Int32 × Int32 × Int32 × Int32 × Int32 × Int32 × (Nat → Int32) × (Nat → Int32))} {x2 : Int32} {t0_0 : Int32} {t0_1 : Int32} {t0_2 : Int32} {t0_3 : Int64} {t0_4 : Int32} {t0_5 : Int32} {t0_6 : Int32} {t0_7 : Int32} {t0_8 : Int32} {t0_9 : Int32} {t0_10 : Int32} {t1_0 : (Nat → Int32)} {t2_0 : (Nat → Int32)} {t3_0 : (Nat → Int32)} {t4_0 : (Nat → Int32)} {t5_0 : (Nat → Int32)} {t6_0 : (Nat → Int32)} {a39 : Int32} {lx42 : Int32} {lx43 : (Nat → Int32)} {lx65 : Int32} {lx66 : (Nat → Int32)} {P : Int32 × Int32 × Int32 × Int32 × Int64 × Int32 × Int32 × Int32 × Int32 × Int32 × Int32 × Int32 × (Nat → Int32) × (Nat → Int32) → Prop} {s m i : Nat} {V0 : Int} (hg1 : gO t1_0 10000) (hx : 0 ≤ x2.toInt ∧ x2.toInt ≤ 9) (hi : lx65.toInt = (i : Int)) (his : i < s) (hs : s ≤ 1000) (hm : m ≤ 1000) (hr : 0 ≤ (t5_0 i).toInt ∧ (t5_0 i).toInt ≤ 9) (hK : ∀ f : Nat → Int32, gO f (s + m) → (∀ k, k < i → f k = 0) → uV f (s + m) = V0 + (t5_0 i).toInt * (10 ^ (s - 1 - i) * uV (fun t => t1_0 (1000 * x2.toNatClampNeg + t)) m) → P (K_F_DR_times_L39 (lx65 + (-1)) f)) : ∀ (n : Nat) (lx222 : Int32) (lx223 : Int32) (lx224 : (Nat → Int32)), ∀ k : Nat, lx222.toInt = (k : Int) - 1 → k ≤ m → k < n → gO lx224 (s + m) → (∀ t, t ≤ i → lx224 t = 0) → (0 ≤ lx223.toInt ∧ lx223.toInt ≤ 9) → uV lx224 (s + m) + lx223.toInt * 10 ^ (s + m - 1 - (i + k)) = V0 + (t5_0 i).toInt * (10 ^ (s - 1 - i) * uV (fun t => t1_0 (1000 * x2.toNatClampNeg + (t + k))) (m - k)) → P (F_DR_times_L56 K_F_DR_times_L14 K_F_DR_times_L39 x2 t0_0 t0_1 t0_2 t0_3 t0_4 t0_5 t0_6 t0_7 t0_8 t0_9 t0_10 t1_0 t2_0 t3_0 t4_0 t5_0 t6_0 a39 lx42 lx43 lx65 lx66 n lx222 lx223 lx224) := by
  have e0 : (0 : Int32).toInt = 0 := rfl
  have e10 : (10 : Int32).toInt = 10 := rfl
  have ic := q_clI hi (by omega)
  have ix : lx65.toNatClampNeg = i := by omega
  intro n
  induction n with
  | zero => intro _ _ _ k _ _ h; exact absurd h (Nat.not_lt_zero _)
  | succ n ih =>
    intro lx222 lx223 lx224 k hk hkm hkn hg hz hc hv
    rw [F_DR_times_L56.eq_2, ix]
    by_cases c : lx222 < 0
    · have c2 := q_ltI c
      have k0 : k = 0 := by omega
      subst k0
      have fi : lx224 i = 0 := hz i (Nat.le_refl _)
      have ei : (lx224 i + lx223 : Int32).toInt = lx223.toInt := by
        rw [fi, q_addI e0 rfl (by omega) (by omega)]
        omega
      rw [if_pos c]
      refine hK _ (gO_upd hg (by rw [ei]; exact hc)) (fun t ht => ?_) ?_
      · rw [v_ne (by omega)]
        exact hz t (by omega)
      · rw [u_upd (by omega), ei, fi, e0, Int.sub_zero]
        rw [Nat.add_zero] at hv
        exact hv
    · have c2 := q_nltI c
      obtain ⟨j, rfl⟩ : ∃ j, k = j + 1 := ⟨k - 1, by omega⟩
      have hj : lx222.toInt = (j : Int) := by omega
      have jc := q_clI hj (by omega)
      have jx : lx222.toNatClampNeg = j := by omega
      have gx := (g_ix (k := lx222) hx ⟨by omega, by omega⟩).2
      rw [jx] at gx
      have e1 : wE ((lx222 + (-1) : Int32).toInt) ((j : Int) - 1) := by
        show (lx222 + (-1) : Int32).toInt = (j : Int) - 1
        rw [q_addI (y := -1) hj rfl (by omega) (by omega)]
        omega
      have s1 : (lx65 + lx222 : Int32).toInt = ((i + j : Nat) : Int) := by
        rw [q_addI hi hj (by omega) (by omega)]
        omega
      have s2 : (lx65 + lx222 + 1 : Int32).toInt = ((i + j + 1 : Nat) : Int) := by
        rw [q_addI (y := 1) s1 rfl (by omega) (by omega)]
        omega
      have s2c := q_clI s2 (by omega)
      have sx : (lx65 + lx222 + 1 : Int32).toNatClampNeg = i + j + 1 := by omega
      have hd := hg1 (1000 * x2.toNatClampNeg + j) (by have := q_clI (i := x2) rfl hx.1; omega)
      have hf := hg (i + j + 1) (by omega)
      rw [if_neg c, sx, gx]
      generalize hkd : t1_0 (1000 * x2.toNatClampNeg + j) = kd at hd ⊢
      generalize hfd : lx224 (i + j + 1) = fd at hf ⊢
      have p81 : (t5_0 i * kd : Int32).toInt = (t5_0 i).toInt * kd.toInt := by
        have h1 : 0 ≤ (t5_0 i).toInt * kd.toInt := Int.mul_nonneg hr.1 hd.1
        have h2 : (t5_0 i).toInt * kd.toInt ≤ 9 * 9 := Int.mul_le_mul hr.2 hd.2 hd.1 (by decide)
        exact q_mulI rfl rfl (by omega) (by omega)
      have b81 : 0 ≤ (t5_0 i).toInt * kd.toInt ∧ (t5_0 i).toInt * kd.toInt ≤ 81 := ⟨Int.mul_nonneg hr.1 hd.1, Int.mul_le_mul hr.2 hd.2 hd.1 (by decide)⟩
      have w1 : (fd + t5_0 i * kd : Int32).toInt = fd.toInt + (t5_0 i).toInt * kd.toInt := q_addI rfl p81 (by omega) (by omega)
      have w2 : (fd + t5_0 i * kd + lx223 : Int32).toInt = fd.toInt + (t5_0 i).toInt * kd.toInt + lx223.toInt := q_addI w1 rfl (by omega) (by omega)
      generalize hw : fd + t5_0 i * kd + lx223 = w at w2 ⊢
      have wq : (w / 10 : Int32).toInt = w.toInt / 10 := q_divI rfl e10 (by omega) (by decide)
      have wr : (w - w / 10 * 10 : Int32).toInt = w.toInt % 10 := by
        rw [v_rem (by omega) (by decide), e10]
      generalize w / 10 = q at wq wr ⊢
      generalize w - q * 10 = d at wr ⊢
      refine ih _ _ _ j e1 (by omega) (by omega) (gO_upd hg (by rw [wr]; omega)) (fun t ht => ?_) (by rw [wq]; omega) ?_
      · rw [v_ne (by omega)]
        exact hz t ht
      · have em : m - j = (m - (j + 1)) + 1 := by omega
        have ee : s + m - 1 - (i + j) = (s + m - 1 - (i + (j + 1))) + 1 := by omega
        have eE : (10 : Int) ^ (s + m - 1 - (i + (j + 1))) = 10 ^ (s - 1 - i) * 10 ^ (m - (j + 1)) := by
          rw [← Int.pow_add]
          exact congrArg (fun e : Nat => (10 : Int) ^ e) (by omega)
        have ex : ∀ t, t < m - (j + 1) → (fun t => (fun t => t1_0 (1000 * x2.toNatClampNeg + t)) (t + (j + 1))) t = (fun t => t1_0 (1000 * x2.toNatClampNeg + (t + (j + 1)))) t := fun t _ => rfl
        have hl := u_lst (f := fun t => t1_0 (1000 * x2.toNatClampNeg + t)) (j := j) (m := m - (j + 1))
        rw [em, ee, u_pw, u_upd (by omega), show s + m - 1 - (i + j + 1) = s + m - 1 - (i + (j + 1)) by omega, hfd]
        have hl2 : uV (fun t => t1_0 (1000 * x2.toNatClampNeg + (t + j))) (m - (j + 1) + 1) = kd.toInt * 10 ^ (m - (j + 1)) + uV (fun t => t1_0 (1000 * x2.toNatClampNeg + (t + (j + 1)))) (m - (j + 1)) := by
          rw [← hkd]
          exact hl
        rw [hl2]
        exact u_tmI hv w2 (by rw [wq, wr]; omega) _ eE
def QV_times (v : Int) (b a0 a1 : Int32) (a3 : Int64) (a4 a6 a7 a8 a9 a10 : Int32) (p : Int32 × Int32 × Int32 × Int32 × Int64 × Int32 × Int32 × Int32 × Int32 × Int32 × Int32 × Int32 × (Nat → Int32) × (Nat → Int32)) : Prop := ((1000 < p.2.2.2.1.toInt ∧ p.1 = 0) ∨ (p.2.2.2.1.toInt ≤ 1000 ∧ p.1 = 1)) ∧ gT v p.2.2.2.1 p.2.2.2.2.2.2.2.2.2.2.2.2.1 ∧ p.2.2.2.2.2.2.1 = (if v = 0 then 0 else b) ∧ p.2.1 = a0 ∧ p.2.2.1 = a1 ∧ p.2.2.2.2.1 = a3 ∧ p.2.2.2.2.2.1 = a4 ∧ p.2.2.2.2.2.2.2.1 = a6 ∧ p.2.2.2.2.2.2.2.2.1 = a7 ∧ p.2.2.2.2.2.2.2.2.2.1 = a8 ∧ p.2.2.2.2.2.2.2.2.2.2.1 = a9 ∧ p.2.2.2.2.2.2.2.2.2.2.2.1 = a10
theorem V_tmJ {K_F_DR_times_L14 : Int32 → (Nat → Int32) → (Int32 × Int32 × Int32 × Int32 × Int64 × Int32 × Int32 × Int32 × Int32 × Int32 × Int32 × Int32 × (Nat → Int32) × (Nat → Int32))} {K_F_DR_times_L39 : Int32 → (Nat → Int32) → (Int32 × Int32 × Int32 × Int32 × Int64 × Int32 × Int32 × Int32 × Int32 × Int32 × Int32 × Int32 × (Nat → Int32) × (Nat → Int32))} {K_F_DR_times_L155 : Int32 → (Nat → Int32) → (Int32 × Int32 × Int32 × Int32 × Int64 × Int32 × Int32 × Int32 × Int32 × Int32 × Int32 × Int32 × (Nat → Int32) × (Nat → Int32))} {x2 : Int32} {t0_0 : Int32} {t0_1 : Int32} {t0_2 : Int32} {t0_3 : Int64} {t0_4 : Int32} {t0_5 : Int32} {t0_6 : Int32} {t0_7 : Int32} {t0_8 : Int32} {t0_9 : Int32} {t0_10 : Int32} {t1_0 : (Nat → Int32)} {t2_0 : (Nat → Int32)} {t3_0 : (Nat → Int32)} {t4_0 : (Nat → Int32)} {t5_0 : (Nat → Int32)} {t6_0 : (Nat → Int32)} {a39 : Int32} {lx42 : Int32} {lx43 : (Nat → Int32)} {lx65 : Int32} {lx66 : (Nat → Int32)} {lx87 : Int32} {lx88 : (Nat → Int32)} {lx109 : Int32} {v : Int} (h109 : lx109 = 0 ∨ lx109 = 1) (h2 : 0 ≤ a39.toInt ∧ a39.toInt ≤ 4400) (hg : gO lx88 a39.toNatClampNeg) (hv : uV lx88 a39.toNatClampNeg = v) : QV_times v lx109 t0_0 t0_1 (t0_3 + (t4_0 x2.toNatClampNeg).toInt64) t0_4 t0_6 t0_7 t0_8 t0_9 t0_10 (F_DR_times_J199 K_F_DR_times_L14 K_F_DR_times_L39 K_F_DR_times_L155 x2 t0_0 t0_1 t0_2 t0_3 t0_4 t0_5 t0_6 t0_7 t0_8 t0_9 t0_10 t1_0 t2_0 t3_0 t4_0 t5_0 t6_0 a39 lx42 lx43 lx65 lx66 lx87 lx88 lx109) := by
  have eK : (1000 : Int32).toInt = 1000 := rfl
  unfold F_DR_times_J199
  have ht := V_DR_trim (t0_0 := t0_0) (t0_1 := t0_1) (t0_2 := a39) (t0_3 := t0_3 + (t4_0 x2.toNatClampNeg).toInt64) (t0_4 := t0_4) (t0_5 := lx109) (t0_6 := t0_6) (t0_7 := t0_7) (t0_8 := t0_8) (t0_9 := t0_9) (t0_10 := t0_10) (t1_0 := lx88) h109 h2 hg hv
  generalize F_DR_trim t0_0 t0_1 a39 (t0_3 + (t4_0 x2.toNatClampNeg).toInt64) t0_4 lx109 t0_6 t0_7 t0_8 t0_9 t0_10 lx88 = p at ht ⊢
  unfold F_DR_times_c219
  obtain ⟨hT, q5, q0, q1, q3, q4, q6, q7, q8, q9, q10⟩ := ht
  by_cases c : (1000 : Int32) < p.2.2.1
  · have c2 := q_ltI c
    rw [if_pos c]
    exact ⟨Or.inl ⟨by rw [← eK]; exact c2, rfl⟩, hT, q5, q0, q1, q3, q4, q6, q7, q8, q9, q10⟩
  · have c2 := q_nltI c
    rw [if_neg c]
    exact ⟨Or.inr ⟨by rw [← eK]; exact c2, rfl⟩, hT, q5, q0, q1, q3, q4, q6, q7, q8, q9, q10⟩
/-- the sign of a product -/
def sXor (a b : Int32) : Int32 := if a = b then 0 else 1
theorem sXor_01 {a b : Int32} : sXor a b = 0 ∨ sXor a b = 1 := by
  unfold sXor
  split
  · exact Or.inl rfl
  · exact Or.inr rfl
theorem V_tm2 {K_F_DR_times_L14 : Int32 → (Nat → Int32) → (Int32 × Int32 × Int32 × Int32 × Int64 × Int32 × Int32 × Int32 × Int32 × Int32 × Int32 × Int32 × (Nat → Int32) × (Nat → Int32))} {K_F_DR_times_L39 : Int32 → (Nat → Int32) → (Int32 × Int32 × Int32 × Int32 × Int64 × Int32 × Int32 × Int32 × Int32 × Int32 × Int32 × Int32 × (Nat → Int32) × (Nat → Int32))} {x2 : Int32} {t0_0 : Int32} {t0_1 : Int32} {t0_2 : Int32} {t0_3 : Int64} {t0_4 : Int32} {t0_5 : Int32} {t0_6 : Int32} {t0_7 : Int32} {t0_8 : Int32} {t0_9 : Int32} {t0_10 : Int32} {t1_0 : (Nat → Int32)} {t2_0 : (Nat → Int32)} {t3_0 : (Nat → Int32)} {t4_0 : (Nat → Int32)} {t5_0 : (Nat → Int32)} {t6_0 : (Nat → Int32)} {a39 : Int32} {lx42 : Int32} {lx43 : (Nat → Int32)} {lx65 : Int32} {lx66 : (Nat → Int32)} {v : Int} {N : Nat} (hN : a39.toInt = (N : Int)) (hN2 : N ≤ 4400) (hg : gO lx66 N) (hv : uV lx66 N = v) : ∀ (n : Nat) (lx87 : Int32) (lx88 : (Nat → Int32)), ∀ k : Nat, lx87.toInt = (k : Int) → k ≤ N → 12200 - k < n → (∀ i, i < k → lx88 i = lx66 i) → QV_times v (sXor t0_5 (t3_0 x2.toNatClampNeg)) t0_0 t0_1 (t0_3 + (t4_0 x2.toNatClampNeg).toInt64) t0_4 t0_6 t0_7 t0_8 t0_9 t0_10 (F_DR_times_L155 K_F_DR_times_L14 K_F_DR_times_L39 x2 t0_0 t0_1 t0_2 t0_3 t0_4 t0_5 t0_6 t0_7 t0_8 t0_9 t0_10 t1_0 t2_0 t3_0 t4_0 t5_0 t6_0 a39 lx42 lx43 lx65 lx66 n lx87 lx88) := by
  have nc := q_clI hN (by omega)
  have nx : a39.toNatClampNeg = N := by omega
  intro n
  induction n with
  | zero => intro _ _ k _ _ h; exact absurd h (Nat.not_lt_zero _)
  | succ n ih =>
    intro lx87 lx88 k hk hkN hkn ho
    have q0 := q_clI hk (by omega)
    have ix0 : lx87.toNatClampNeg = k := by omega
    rw [F_DR_times_L155.eq_2, ix0]
    by_cases c : a39 ≤ lx87
    · have c2 := q_leI c
      have ek : k = N := by omega
      subst ek
      rw [if_pos c]
      have gA : gO lx88 a39.toNatClampNeg := by
        rw [nx]
        intro i hi
        rw [ho i hi]
        exact hg i hi
      have vA : uV lx88 a39.toNatClampNeg = v := by
        rw [nx, u_ext ho]
        exact hv
      by_cases d : t0_5 = t3_0 x2.toNatClampNeg
      · have e9 : sXor t0_5 (t3_0 x2.toNatClampNeg) = 0 := if_pos d
        rw [if_pos d, e9]
        exact V_tmJ (Or.inl rfl) ⟨by omega, by omega⟩ gA vA
      · have e9 : sXor t0_5 (t3_0 x2.toNatClampNeg) = 1 := if_neg d
        rw [if_neg d, e9]
        exact V_tmJ (Or.inr rfl) ⟨by omega, by omega⟩ gA vA
    · have c2 := q_nleI c
      rw [if_neg c]
      have e1 : (lx87 + 1 : Int32).toInt = ((k + 1 : Nat) : Int) := by
        rw [q_addI (y := 1) hk rfl (by omega) (by omega)]
        omega
      refine ih _ _ (k + 1) e1 (by omega) (by omega) (fun i hi => ?_)
      by_cases ci : i = k
      · rw [ci, v_eq]
      · rw [v_ne ci]
        exact ho i (by omega)
theorem V_tm3 {K_F_DR_times_L14 : Int32 → (Nat → Int32) → (Int32 × Int32 × Int32 × Int32 × Int64 × Int32 × Int32 × Int32 × Int32 × Int32 × Int32 × Int32 × (Nat → Int32) × (Nat → Int32))} {x2 : Int32} {t0_0 : Int32} {t0_1 : Int32} {t0_2 : Int32} {t0_3 : Int64} {t0_4 : Int32} {t0_5 : Int32} {t0_6 : Int32} {t0_7 : Int32} {t0_8 : Int32} {t0_9 : Int32} {t0_10 : Int32} {t1_0 : (Nat → Int32)} {t2_0 : (Nat → Int32)} {t3_0 : (Nat → Int32)} {t4_0 : (Nat → Int32)} {t5_0 : (Nat → Int32)} {t6_0 : (Nat → Int32)} {a39 : Int32} {lx42 : Int32} {lx43 : (Nat → Int32)} {s m : Nat} {B : Int} (hg1 : gO t1_0 10000) (hx : 0 ≤ x2.toInt ∧ x2.toInt ≤ 9) (hN : a39.toInt = ((s + m : Nat) : Int)) (hs : s ≤ 1000) (hm1 : 1 ≤ m) (hm : m ≤ 1000) (hm2 : (t2_0 x2.toNatClampNeg).toInt = (m : Int)) (hB : uV (fun t => t1_0 (1000 * x2.toNatClampNeg + t)) m = B) (hgr : gO t5_0 s) : ∀ (n : Nat) (lx65 : Int32) (lx66 : (Nat → Int32)), ∀ k : Nat, lx65.toInt = (k : Int) - 1 → k ≤ s → k < n → gO lx66 (s + m) → (∀ t, t < k → lx66 t = 0) → uV lx66 (s + m) = uV (fun t => t5_0 (t + k)) (s - k) * B → QV_times (uV t5_0 s * B) (sXor t0_5 (t3_0 x2.toNatClampNeg)) t0_0 t0_1 (t0_3 + (t4_0 x2.toNatClampNeg).toInt64) t0_4 t0_6 t0_7 t0_8 t0_9 t0_10 (F_DR_times_L39 K_F_DR_times_L14 x2 t0_0 t0_1 t0_2 t0_3 t0_4 t0_5 t0_6 t0_7 t0_8 t0_9 t0_10 t1_0 t2_0 t3_0 t4_0 t5_0 t6_0 a39 lx42 lx43 n lx65 lx66) := by
  have e0 : (0 : Int32).toInt = 0 := rfl
  intro n
  induction n with
  | zero => intro _ _ k _ _ h; exact absurd h (Nat.not_lt_zero _)
  | succ n ih =>
    intro lx65 lx66 k hk hks hkn hg hz hv
    rw [F_DR_times_L39.eq_2]
    by_cases c : lx65 < 0
    · have c2 := q_ltI c
      have k0 : k = 0 := by omega
      subst k0
      rw [if_pos c]
      exact V_tm2 hN (by omega) hg hv _ _ _ 0 rfl (Nat.zero_le _) (by decide) (fun i h => absurd h (Nat.not_lt_zero _))
    · have c2 := q_nltI c
      obtain ⟨i, rfl⟩ : ∃ i, k = i + 1 := ⟨k - 1, by omega⟩
      have hi : lx65.toInt = (i : Int) := by omega
      have e1 : wE ((lx65 + (-1) : Int32).toInt) ((i : Int) - 1) := by
        show (lx65 + (-1) : Int32).toInt = (i : Int) - 1
        rw [q_addI (y := -1) hi rfl (by omega) (by omega)]
        omega
      have e2 : (t2_0 x2.toNatClampNeg - 1 : Int32).toInt = (m : Int) - 1 := q_subI hm2 rfl (by omega) (by omega)
      rw [if_neg c]
      refine V_tm4 (V0 := uV lx66 (s + m)) (m := m) hg1 hx hi (by omega) hs hm (hgr i (by omega)) (fun f hf hfz hfv => ?_) _ _ _ _ m e2 (Nat.le_refl _) (by rw [e2]; omega) hg (fun t ht => hz t (by omega)) ⟨by decide, by decide⟩ ?_
      · refine ih _ _ i e1 (by omega) (by omega) hf hfz ?_
        have es : s - i = (s - (i + 1)) + 1 := by omega
        have hl := u_lst (f := t5_0) (j := i) (m := s - (i + 1))
        rw [hfv, hv, es, hl, hB, show s - 1 - i = s - (i + 1) by omega, Int.add_mul, Int.mul_assoc]
        omega
      · rw [Nat.sub_self, e0, Int.zero_mul, Int.add_zero]
        show uV lx66 (s + m) = uV lx66 (s + m) + _ * (_ * (0 : Int))
        rw [Int.mul_zero, Int.mul_zero, Int.add_zero]
theorem V_tm1 {x2 : Int32} {t0_0 : Int32} {t0_1 : Int32} {t0_2 : Int32} {t0_3 : Int64} {t0_4 : Int32} {t0_5 : Int32} {t0_6 : Int32} {t0_7 : Int32} {t0_8 : Int32} {t0_9 : Int32} {t0_10 : Int32} {t1_0 : (Nat → Int32)} {t2_0 : (Nat → Int32)} {t3_0 : (Nat → Int32)} {t4_0 : (Nat → Int32)} {t5_0 : (Nat → Int32)} {t6_0 : (Nat → Int32)} {a39 : Int32} {s m : Nat} {B : Int} (hg1 : gO t1_0 10000) (hx : 0 ≤ x2.toInt ∧ x2.toInt ≤ 9) (hN : a39.toInt = ((s + m : Nat) : Int)) (hs2 : t0_2.toInt = (s : Int)) (hs1 : 1 ≤ s) (hs : s ≤ 1000) (hm1 : 1 ≤ m) (hm : m ≤ 1000) (hm2 : (t2_0 x2.toNatClampNeg).toInt = (m : Int)) (hB : uV (fun t => t1_0 (1000 * x2.toNatClampNeg + t)) m = B) (hgr : gO t5_0 s) : ∀ (n : Nat) (lx42 : Int32) (lx43 : (Nat → Int32)), ∀ k : Nat, lx42.toInt = (k : Int) → k ≤ s + m → 12200 - k < n → (∀ i, i < k → lx43 i = 0) → QV_times (uV t5_0 s * B) (sXor t0_5 (t3_0 x2.toNatClampNeg)) t0_0 t0_1 (t0_3 + (t4_0 x2.toNatClampNeg).toInt64) t0_4 t0_6 t0_7 t0_8 t0_9 t0_10 (F_DR_times_L14 x2 t0_0 t0_1 t0_2 t0_3 t0_4 t0_5 t0_6 t0_7 t0_8 t0_9 t0_10 t1_0 t2_0 t3_0 t4_0 t5_0 t6_0 a39 n lx42 lx43) := by
  intro n
  induction n with
  | zero => intro _ _ k _ _ h; exact absurd h (Nat.not_lt_zero _)
  | succ n ih =>
    intro lx42 lx43 k hk hkN hkn ho
    have q0 := q_clI hk (by omega)
    have ix0 : lx42.toNatClampNeg = k := by omega
    rw [F_DR_times_L14.eq_2, ix0]
    by_cases c : a39 ≤ lx42
    · have c2 := q_leI c
      have ek : k = s + m := by omega
      subst ek
      rw [if_pos c]
      have e2 : (t0_2 - 1 : Int32).toInt = (s : Int) - 1 := q_subI hs2 rfl (by omega) (by omega)
      refine V_tm3 hg1 hx hN hs hm1 hm hm2 hB hgr _ _ _ s e2 (Nat.le_refl _) (by rw [e2]; omega) (fun i hi => by rw [ho i hi]; exact ⟨by decide, by decide⟩) (fun t ht => ho t (by omega)) ?_
      rw [u_zer ho, Nat.sub_self]
      show (0 : Int) = 0 * B
      rw [Int.zero_mul]
    · have c2 := q_nleI c
      rw [if_neg c]
      have e1 : (lx42 + 1 : Int32).toInt = ((k + 1 : Nat) : Int) := by
        rw [q_addI (y := 1) hk rfl (by omega) (by omega)]
        omega
      refine ih _ _ (k + 1) e1 (by omega) (by omega) (fun i hi => ?_)
      by_cases ci : i = k
      · rw [ci, v_eq]
      · rw [v_ne ci]
        exact ho i (by omega)
theorem V_DR_times {x2 : Int32} {t0_0 : Int32} {t0_1 : Int32} {t0_2 : Int32} {t0_3 : Int64} {t0_4 : Int32} {t0_5 : Int32} {t0_6 : Int32} {t0_7 : Int32} {t0_8 : Int32} {t0_9 : Int32} {t0_10 : Int32} {t1_0 : (Nat → Int32)} {t2_0 : (Nat → Int32)} {t3_0 : (Nat → Int32)} {t4_0 : (Nat → Int32)} {t5_0 : (Nat → Int32)} {t6_0 : (Nat → Int32)} {D : Nat → Int × Int} {v : Int} (hD : dRv t1_0 t2_0 t3_0 t4_0 D) (hx : 0 ≤ x2.toInt ∧ x2.toInt ≤ 9) (h2 : 1 ≤ t0_2.toInt ∧ t0_2.toInt ≤ 1000) (hg : gO t5_0 t0_2.toNatClampNeg) (hv : uV t5_0 t0_2.toNatClampNeg = v) : QV_times (v * ((D x2.toNatClampNeg).1.natAbs : Int)) (sXor t0_5 (t3_0 x2.toNatClampNeg)) t0_0 t0_1 (t0_3 + (t4_0 x2.toNatClampNeg).toInt64) t0_4 t0_6 t0_7 t0_8 t0_9 t0_10 (F_DR_times x2 t0_0 t0_1 t0_2 t0_3 t0_4 t0_5 t0_6 t0_7 t0_8 t0_9 t0_10 t1_0 t2_0 t3_0 t4_0 t5_0 t6_0) := by
  have hxc := q_clI (i := x2) rfl hx.1
  obtain ⟨a1, a2, _⟩ := hD.2 x2.toNatClampNeg (by omega)
  have ma := q_clI (i := t2_0 x2.toNatClampNeg) rfl (by omega)
  have hn := q_clI (i := t0_2) rfl (by omega)
  have eN : (t0_2 + t2_0 x2.toNatClampNeg : Int32).toInt = ((t0_2.toNatClampNeg + (t2_0 x2.toNatClampNeg).toNatClampNeg : Nat) : Int) := by
    rw [q_addI rfl rfl (by omega) (by omega)]
    omega
  rw [← hv]
  unfold F_DR_times
  exact V_tm1 hD.1 hx eN hn.symm (by omega) (by omega) (by omega) (by omega) ma.symm a2 hg _ _ _ 0 rfl (Nat.zero_le _) (by decide) (fun i h => absurd h (Nat.not_lt_zero _))
theorem sXor_sg {a b : Int} {v w : Int} (ha : v = (a.natAbs : Int)) (hb : w = (b.natAbs : Int)) : sgI (if v * w = 0 then 0 else sXor (sF a) (sF b)) (v * w) = a * b := by
  by_cases z : v * w = 0
  · rw [if_pos z, z]
    have : a * b = 0 := by
      have e : (a * b).natAbs = a.natAbs * b.natAbs := Int.natAbs_mul _ _
      have e2 : ((a.natAbs * b.natAbs : Nat) : Int) = 0 := by
        rw [Int.natCast_mul, ← ha, ← hb]
        exact z
      omega
    rw [this]
    rfl
  · rw [if_neg z, ha, hb]
    have sa := sF_sg (v := a)
    have sb := sF_sg (v := b)
    unfold sXor
    rcases sF_01 (v := a) with e | e <;> rcases sF_01 (v := b) with f | f <;> rw [e] at sa <;> rw [f] at sb <;> rw [e, f]
    · rw [if_pos rfl]
      show _ * _ = _
      rw [show (a.natAbs : Int) = a from sa, show (b.natAbs : Int) = b from sb]
    · rw [if_neg (by decide)]
      show -(_ * _) = _
      have sb2 : -(b.natAbs : Int) = b := sb
      rw [show (a.natAbs : Int) = a from sa, ← Int.mul_neg, sb2]
    · rw [if_neg (by decide)]
      show -(_ * _) = _
      have sa2 : -(a.natAbs : Int) = a := sa
      rw [show (b.natAbs : Int) = b from sb, ← Int.neg_mul, sa2]
    · rw [if_pos rfl]
      show _ * _ = _
      have sa2 : -(a.natAbs : Int) = a := sa
      have sb2 : -(b.natAbs : Int) = b := sb
      rw [← Int.neg_mul_neg, sa2, sb2]
