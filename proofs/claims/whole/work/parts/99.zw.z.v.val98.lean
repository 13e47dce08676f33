/-! values, for whole: the reference's DecimalRows: needed, strip -/
theorem V_neL {t0_0 : Int32} {t0_1 : Int32} {t0_2 : Int32} {t0_3 : Int64} {t0_4 : Int32} {t0_5 : Int32} {t0_6 : Int32} {t0_7 : Int32} {t0_8 : Int32} {t0_9 : Int32} {t0_10 : Int32} {t1_0 : (Nat → Int32)} {N : Nat} (hN : N ≤ 4400) : ∀ (n : Nat) (lx21 : Int32), ∀ k : Nat, lx21.toInt = (k : Int) → 1 ≤ k → k ≤ N → k < n → (∀ i, k ≤ i → i < N → t1_0 i = 0) → ∃ j : Nat, (F_DR_needed_L5 t0_0 t0_1 t0_2 t0_3 t0_4 t0_5 t0_6 t0_7 t0_8 t0_9 t0_10 t1_0 n lx21).toInt = (j : Int) ∧ 1 ≤ j ∧ j ≤ N ∧ (∀ i, j ≤ i → i < N → t1_0 i = 0) ∧ (j = 1 ∨ ¬ t1_0 (j - 1) = 0) := by
  have e1 : (1 : Int32).toInt = 1 := rfl
  intro n
  induction n with
  | zero => intro _ k _ _ _ h; exact absurd h (Nat.not_lt_zero _)
  | succ n ih =>
    intro lx21 k hk hk1 hkN hkn hz
    rw [F_DR_needed_L5.eq_2]
    by_cases c : lx21 ≤ 1
    · have c2 := q_leI c
      rw [if_pos c]
      exact ⟨k, hk, hk1, hkN, hz, Or.inl (by omega)⟩
    · have c2 := q_nleI c
      obtain ⟨m, rfl⟩ : ∃ m, k = m + 1 := ⟨k - 1, by omega⟩
      have e2 : (lx21 - 1 : Int32).toInt = (m : Int) := by
        rw [q_subI (y := 1) hk rfl (by omega) (by omega)]
        omega
      have e3 : wE ((lx21 + (-1) : Int32).toInt) ((m : Int)) := by
        show (lx21 + (-1) : Int32).toInt = (m : Int)
        rw [q_addI (y := -1) hk rfl (by omega) (by omega)]
        omega
      have q2 := q_clI e2 (by omega)
      have ix : (lx21 - 1 : Int32).toNatClampNeg = m := by omega
      rw [if_neg c, ix]
      by_cases d : t1_0 m = 0
      · rw [if_pos d]
        refine ih _ m e3 (by omega) (by omega) (by omega) (fun i i1 i2 => ?_)
        by_cases ci : i = m
        · rw [ci]
          exact d
        · exact hz i (by omega) i2
      · rw [if_neg d]
        exact ⟨m + 1, hk, hk1, hkN, hz, Or.inr (by rw [Nat.add_sub_cancel]; exact d)⟩
theorem V_DR_needed {t0_0 : Int32} {t0_1 : Int32} {t0_2 : Int32} {t0_3 : Int64} {t0_4 : Int32} {t0_5 : Int32} {t0_6 : Int32} {t0_7 : Int32} {t0_8 : Int32} {t0_9 : Int32} {t0_10 : Int32} {t1_0 : (Nat → Int32)} (h2 : 1 ≤ t0_2.toInt ∧ t0_2.toInt ≤ 4400) : ∃ j : Nat, (F_DR_needed t0_0 t0_1 t0_2 t0_3 t0_4 t0_5 t0_6 t0_7 t0_8 t0_9 t0_10 t1_0).toInt = (j : Int) ∧ 1 ≤ j ∧ j ≤ t0_2.toNatClampNeg ∧ (∀ i, j ≤ i → i < t0_2.toNatClampNeg → t1_0 i = 0) ∧ (j = 1 ∨ ¬ t1_0 (j - 1) = 0) := by
  have hn := q_clI (i := t0_2) rfl (by omega)
  unfold F_DR_needed
  exact V_neL (by omega) _ _ t0_2.toNatClampNeg hn.symm (by omega) (Nat.le_refl _) (by omega) (fun i i1 i2 => by omega)
/-- a number without the zeros at its end -/
def sStr (q r : Int × Int) : Prop := (q.1 = 0 ∧ r = (0, 0)) ∨ (q.1 ≠ 0 ∧ ∃ k : Nat, q.1 = r.1 * 10 ^ k ∧ r.1 % 10 ≠ 0 ∧ r.2 = q.2 - k)
theorem sStr_U {q r s : Int × Int} (h : sStr q r) (g : sStr q s) : r = s := by
  have key : ∀ {a b : Int} {i j : Nat}, a * 10 ^ i = b * 10 ^ j → a % 10 ≠ 0 → i ≤ j → b % 10 ≠ 0 → a = b ∧ i = j := fun {a b i j} e ha hij hb => by
    obtain ⟨d, rfl⟩ : ∃ d, j = i + d := ⟨j - i, by omega⟩
    have hp : (10 : Int) ^ i ≠ 0 := Int.ne_of_gt (u_pos i)
    rw [Int.pow_add, Int.mul_comm (10 ^ i) (10 ^ d), ← Int.mul_assoc] at e
    have e2 := Int.eq_of_mul_eq_mul_right hp e
    rcases Nat.eq_zero_or_pos d with z | z
    · subst z
      rw [Int.pow_zero, Int.mul_one] at e2
      exact ⟨e2, rfl⟩
    · exfalso
      obtain ⟨f, rfl⟩ : ∃ f, d = f + 1 := ⟨d - 1, by omega⟩
      rw [u_pw, ← Int.mul_assoc] at e2
      apply ha
      rw [e2]
      exact Int.mul_emod_left _ _
  rcases h with ⟨h1, h2⟩ | ⟨h1, k, h2, h3, h4⟩
  · rcases g with ⟨g1, g2⟩ | ⟨g1, _⟩
    · rw [h2, g2]
    · exact absurd h1 g1
  · rcases g with ⟨g1, _⟩ | ⟨_, j, g2, g3, g4⟩
    · exact absurd g1 h1
    · have e := h2.symm.trans g2
      rcases Nat.le_total k j with l | l
      · obtain ⟨a, b⟩ := key e h3 l g3
        exact Prod.ext a (by rw [h4, g4, b])
      · obtain ⟨a, b⟩ := key e.symm g3 l h3
        exact Prod.ext a.symm (by rw [h4, g4, b])
theorem u_tail {f : Nat → Int32} {j m : Nat} (h : ∀ i, j ≤ i → i < j + m → f i = 0) : uV f (j + m) = uV f j * 10 ^ m := by
  rw [u_split, u_zer (fun i hi => h (i + j) (by omega) (by omega)), Int.add_zero]
theorem u_lastN {f : Nat → Int32} {j : Nat} (hg : gO f (j + 1)) (h : ¬ f j = 0) : uV f (j + 1) % 10 ≠ 0 := by
  have h1 := hg j (by omega)
  have h2 : uV f (j + 1) = uV f j * 10 + (f j).toInt := rfl
  have h3 : (f j).toInt ≠ 0 := fun e => h (Int32.toInt_inj.mp e)
  rw [h2]
  generalize uV f j = z
  omega
theorem sgI_mul {b : Int32} {v w : Int} : sgI b (v * w) = sgI b v * w := by
  unfold sgI
  split
  · rfl
  · rw [Int.neg_mul]
theorem sgI_m10 {b : Int32} {v : Int} (h : v % 10 ≠ 0) : sgI b v % 10 ≠ 0 := by
  unfold sgI
  split
  · exact h
  · omega
theorem V_DR_strip {x2 : Int32} {x3 : Int32} {t0_0 : Int32} {t0_1 : Int32} {t0_2 : Int32} {t0_3 : Int64} {t0_4 : Int32} {t0_5 : Int32} {t0_6 : Int32} {t0_7 : Int32} {t0_8 : Int32} {t0_9 : Int32} {t0_10 : Int32} {t1_0 : (Nat → Int32)} {t2_0 : (Nat → Int32)} {t3_0 : (Nat → Int32)} {t4_0 : (Nat → Int32)} {t5_0 : (Nat → Int32)} {D : Nat → Int × Int} (hD : dRv t1_0 t2_0 t3_0 t4_0 D) (hx2 : 0 ≤ x2.toInt ∧ x2.toInt ≤ 9) (hx3 : 0 ≤ x3.toInt ∧ x3.toInt ≤ 9) : ∃ r : Int × Int, sStr (D x2.toNatClampNeg) r ∧ dAn x3 D (some r) 0 2 (F_DR_strip x2 x3 t0_0 t0_1 t0_2 t0_3 t0_4 t0_5 t0_6 t0_7 t0_8 t0_9 t0_10 t1_0 t2_0 t3_0 t4_0 t5_0).1 (F_DR_strip x2 x3 t0_0 t0_1 t0_2 t0_3 t0_4 t0_5 t0_6 t0_7 t0_8 t0_9 t0_10 t1_0 t2_0 t3_0 t4_0 t5_0).2.2.2.2.2.2.2.2.2.2.2.1 (F_DR_strip x2 x3 t0_0 t0_1 t0_2 t0_3 t0_4 t0_5 t0_6 t0_7 t0_8 t0_9 t0_10 t1_0 t2_0 t3_0 t4_0 t5_0).2.2.2.2.2.2.2.2.2.2.2.2.1 (F_DR_strip x2 x3 t0_0 t0_1 t0_2 t0_3 t0_4 t0_5 t0_6 t0_7 t0_8 t0_9 t0_10 t1_0 t2_0 t3_0 t4_0 t5_0).2.2.2.2.2.2.2.2.2.2.2.2.2.1 (F_DR_strip x2 x3 t0_0 t0_1 t0_2 t0_3 t0_4 t0_5 t0_6 t0_7 t0_8 t0_9 t0_10 t1_0 t2_0 t3_0 t4_0 t5_0).2.2.2.2.2.2.2.2.2.2.2.2.2.2.1 := by
  have e00 : (0 : Int32).toNatClampNeg = 0 := rfl
  have hxc := q_clI (i := x2) rfl hx2.1
  have hq := hD.2 x2.toNatClampNeg (by omega)
  unfold F_DR_strip
  rw [if_pos (g_no0 hx2), if_pos (g_no0 hx3)]
  unfold F_DR_strip_J20
  rw [if_pos (by decide)]
  have hl := V_DR_load (x2 := x2) (t0_0 := 0) (t0_1 := t0_1) (t0_2 := t0_2) (t0_3 := t0_3) (t0_4 := t0_4) (t0_5 := t0_5) (t0_6 := t0_6) (t0_7 := t0_7) (t0_8 := t0_8) (t0_9 := t0_9) (t0_10 := 2) (t5_0 := t5_0) hD hx2
  generalize F_DR_load x2 0 t0_1 t0_2 t0_3 t0_4 t0_5 t0_6 t0_7 t0_8 t0_9 2 t1_0 t2_0 t3_0 t4_0 t5_0 = p at hl ⊢
  unfold F_DR_strip_c38
  obtain ⟨⟨l1, l2, l3, l4⟩, l5, l6, l7, l8, l9, l10, l11, l12, l13, l14, l15⟩ := hl
  have l8' : p.2.2.2.2.2.1 = sF (D x2.toNatClampNeg).1 := l8
  have b5 : p.2.2.2.2.2.1 = 0 ∨ p.2.2.2.2.2.1 = 1 := by
    rw [l8']
    exact sF_01
  have hn := q_clI (i := p.2.2.1) rfl (by omega)
  rw [e00]
  by_cases c : p.2.2.2.2.2.2.2.2.2.2.2 0 = 0
  · have z : ((D x2.toNatClampNeg).1.natAbs : Int) = 0 := by
      by_cases z : ((D x2.toNatClampNeg).1.natAbs : Int) = 0
      · exact z
      · exact absurd c (u_ld l2 (by omega) (by rw [l3]; exact l4) (by rw [l3]; exact z))
    have z2 : (D x2.toNatClampNeg).1 = 0 := by omega
    rw [if_pos c]
    have hs := V_DR_store (x2 := x3) (t0_0 := p.1) (t0_1 := p.2.1) (t0_2 := p.2.2.1) (t0_3 := 0) (t0_4 := p.2.2.2.2.1) (t0_5 := p.2.2.2.2.2.1) (t0_6 := p.2.2.2.2.2.2.1) (t0_7 := p.2.2.2.2.2.2.2.1) (t0_8 := p.2.2.2.2.2.2.2.2.1) (t0_9 := p.2.2.2.2.2.2.2.2.2.1) (t0_10 := p.2.2.2.2.2.2.2.2.2.2.1) (t5_0 := p.2.2.2.2.2.2.2.2.2.2.2) hD hx3 b5 ⟨by omega, by omega⟩ l2 l3
    generalize F_DR_store x3 p.1 p.2.1 p.2.2.1 0 p.2.2.2.2.1 p.2.2.2.2.2.1 p.2.2.2.2.2.2.1 p.2.2.2.2.2.2.2.1 p.2.2.2.2.2.2.2.2.1 p.2.2.2.2.2.2.2.2.2.1 p.2.2.2.2.2.2.2.2.2.2.1 t1_0 t2_0 t3_0 t4_0 p.2.2.2.2.2.2.2.2.2.2.2 = r at hs ⊢
    unfold F_DR_strip_c86_4
    rw [l8', sF_sg, z2, l9, l15] at hs
    exact ⟨(0, 0), Or.inl ⟨z2, rfl⟩, hs.an⟩
  · have z : (D x2.toNatClampNeg).1 ≠ 0 := fun z => c (u_hd l2 (by omega) (by rw [l3, z]; rfl))
    rw [if_neg c]
    obtain ⟨j, j1, j2, j3, j4, j5⟩ := V_DR_needed (t0_0 := p.1) (t0_1 := p.2.1) (t0_2 := p.2.2.1) (t0_3 := p.2.2.2.1) (t0_4 := p.2.2.2.2.1) (t0_5 := p.2.2.2.2.2.1) (t0_6 := p.2.2.2.2.2.2.1) (t0_7 := p.2.2.2.2.2.2.2.1) (t0_8 := p.2.2.2.2.2.2.2.2.1) (t0_9 := p.2.2.2.2.2.2.2.2.2.1) (t0_10 := p.2.2.2.2.2.2.2.2.2.2.1) (t1_0 := p.2.2.2.2.2.2.2.2.2.2.2) l1
    generalize F_DR_needed p.1 p.2.1 p.2.2.1 p.2.2.2.1 p.2.2.2.2.1 p.2.2.2.2.2.1 p.2.2.2.2.2.2.1 p.2.2.2.2.2.2.2.1 p.2.2.2.2.2.2.2.2.1 p.2.2.2.2.2.2.2.2.2.1 p.2.2.2.2.2.2.2.2.2.2.1 p.2.2.2.2.2.2.2.2.2.2.2 = y at j1 ⊢
    have yc := q_clI j1 (by omega)
    have yn : y.toNatClampNeg = j := by omega
    obtain ⟨k, hk⟩ : ∃ k, p.2.2.1.toNatClampNeg = j + k := ⟨p.2.2.1.toNatClampNeg - j, by omega⟩
    have ev : uV p.2.2.2.2.2.2.2.2.2.2.2 j * 10 ^ k = ((D x2.toNatClampNeg).1.natAbs : Int) := by
      rw [← l3, hk]
      exact (u_tail (fun i i1 i2 => j4 i i1 (by omega))).symm
    have es : (p.2.2.2.1 - (p.2.2.1 - y : Int32).toInt64 : Int64).toInt = (D x2.toNatClampNeg).2 - k := by
      have s1 : (p.2.2.1 - y : Int32).toInt = (k : Int) := by
        rw [q_subI rfl j1 (by omega) (by omega)]
        omega
      have s2 : ((p.2.2.1 - y : Int32).toInt64).toInt = (k : Int) := by
        rw [Int32.toInt_toInt64]
        exact s1
      rw [q_subL l6 s2 (by omega) (by omega)]
    have hs := V_DR_store (x2 := x3) (v := uV p.2.2.2.2.2.2.2.2.2.2.2 j) (t0_0 := p.1) (t0_1 := p.2.1) (t0_2 := y) (t0_3 := p.2.2.2.1 - (p.2.2.1 - y : Int32).toInt64) (t0_4 := p.2.2.2.2.1) (t0_5 := p.2.2.2.2.2.1) (t0_6 := p.2.2.2.2.2.2.1) (t0_7 := p.2.2.2.2.2.2.2.1) (t0_8 := p.2.2.2.2.2.2.2.2.1) (t0_9 := p.2.2.2.2.2.2.2.2.2.1) (t0_10 := p.2.2.2.2.2.2.2.2.2.2.1) (t5_0 := p.2.2.2.2.2.2.2.2.2.2.2) hD hx3 b5 ⟨by omega, by omega⟩ (by rw [yn]; exact l2.mono (by omega)) (by rw [yn])
    generalize F_DR_store x3 p.1 p.2.1 y (p.2.2.2.1 - (p.2.2.1 - y : Int32).toInt64) p.2.2.2.2.1 p.2.2.2.2.2.1 p.2.2.2.2.2.2.1 p.2.2.2.2.2.2.2.1 p.2.2.2.2.2.2.2.2.1 p.2.2.2.2.2.2.2.2.2.1 p.2.2.2.2.2.2.2.2.2.2.1 t1_0 t2_0 t3_0 t4_0 p.2.2.2.2.2.2.2.2.2.2.2 = r at hs ⊢
    unfold F_DR_strip_c86
    rw [es, l9, l15] at hs
    refine ⟨_, Or.inr ⟨z, k, ?_, ?_, rfl⟩, hs.an⟩
    · show _ = sgI p.2.2.2.2.2.1 (uV p.2.2.2.2.2.2.2.2.2.2.2 j) * 10 ^ k
      rw [← sgI_mul, ev, l8', sF_sg]
    · show sgI p.2.2.2.2.2.1 (uV p.2.2.2.2.2.2.2.2.2.2.2 j) % 10 ≠ 0
      refine sgI_m10 ?_
      have hne : ¬ p.2.2.2.2.2.2.2.2.2.2.2 (j - 1) = 0 := by
        rcases j5 with j5 | j5
        · rw [j5]
          exact c
        · exact j5
      obtain ⟨i, rfl⟩ : ∃ i, j = i + 1 := ⟨j - 1, by omega⟩
      rw [Nat.add_sub_cancel] at hne
      exact u_lastN (l2.mono (by omega)) hne
