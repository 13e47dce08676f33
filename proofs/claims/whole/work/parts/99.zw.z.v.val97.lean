/-! values, for whole: the reference's DecimalRows: toScale, shift, put -/
def sF (v : Int) : Int32 := if v < 0 then 1 else 0
theorem sF_01 {v : Int} : sF v = 0 ∨ sF v = 1 := by
  unfold sF
  split
  · exact Or.inr rfl
  · exact Or.inl rfl
theorem sF_sg {v : Int} : sgI (sF v) (v.natAbs : Int) = v := by
  unfold sF sgI
  by_cases c : v < 0
  · rw [if_pos c, if_neg (by decide)]
    omega
  · rw [if_neg c, if_pos rfl]
    omega
theorem sF_z {v : Int} : (if (v.natAbs : Int) = 0 then 0 else sF v) = sF v := by
  by_cases c : (v.natAbs : Int) = 0
  · rw [if_pos c]
    unfold sF
    rw [if_neg (by omega)]
  · rw [if_neg c]
theorem g_no0 {x : Int32} (h : 0 ≤ x.toInt ∧ x.toInt ≤ 9) : F_DR_no x = 0 := by
  have e0 : (0 : Int32).toInt = 0 := rfl
  have e1 : (10 : Int32).toInt = 10 := rfl
  unfold F_DR_no
  rw [if_neg (fun c => by have := q_ltI c; omega), if_pos (Int32.lt_iff_toInt_lt.mpr (by omega))]
/-- q brought to the scale w -/
def sToS (m : Int32) (q : Int × Int) (w : Int) : Option (Int × Int) := (sScl m (sF q.1) q.1.natAbs q.2 w).map (fun u => (sgI (sF q.1) u, w))
theorem V_DR_toScale {x2 : Int32} {x3 : Int32} {x4 : Int32} {x5 : Int32} {t0_0 : Int32} {t0_1 : Int32} {t0_2 : Int32} {t0_3 : Int64} {t0_4 : Int32} {t0_5 : Int32} {t0_6 : Int32} {t0_7 : Int32} {t0_8 : Int32} {t0_9 : Int32} {t0_10 : Int32} {t1_0 : (Nat → Int32)} {t2_0 : (Nat → Int32)} {t3_0 : (Nat → Int32)} {t4_0 : (Nat → Int32)} {t5_0 : (Nat → Int32)} {D : Nat → Int × Int} (hD : dRv t1_0 t2_0 t3_0 t4_0 D) (hx2 : 0 ≤ x2.toInt ∧ x2.toInt ≤ 9) (hx3 : 0 ≤ x3.toInt ∧ x3.toInt ≤ 9) (h4 : -10000 ≤ x4.toInt ∧ x4.toInt ≤ 10000) (h5 : F_DR_noMode x5 = 0) : dAn x3 D (sToS x5 (D x2.toNatClampNeg) x4.toInt) 0 2 (F_DR_toScale x2 x3 x4 x5 t0_0 t0_1 t0_2 t0_3 t0_4 t0_5 t0_6 t0_7 t0_8 t0_9 t0_10 t1_0 t2_0 t3_0 t4_0 t5_0).1 (F_DR_toScale x2 x3 x4 x5 t0_0 t0_1 t0_2 t0_3 t0_4 t0_5 t0_6 t0_7 t0_8 t0_9 t0_10 t1_0 t2_0 t3_0 t4_0 t5_0).2.2.2.2.2.2.2.2.2.2.2.1 (F_DR_toScale x2 x3 x4 x5 t0_0 t0_1 t0_2 t0_3 t0_4 t0_5 t0_6 t0_7 t0_8 t0_9 t0_10 t1_0 t2_0 t3_0 t4_0 t5_0).2.2.2.2.2.2.2.2.2.2.2.2.1 (F_DR_toScale x2 x3 x4 x5 t0_0 t0_1 t0_2 t0_3 t0_4 t0_5 t0_6 t0_7 t0_8 t0_9 t0_10 t1_0 t2_0 t3_0 t4_0 t5_0).2.2.2.2.2.2.2.2.2.2.2.2.2.1 (F_DR_toScale x2 x3 x4 x5 t0_0 t0_1 t0_2 t0_3 t0_4 t0_5 t0_6 t0_7 t0_8 t0_9 t0_10 t1_0 t2_0 t3_0 t4_0 t5_0).2.2.2.2.2.2.2.2.2.2.2.2.2.2.1 := by
  have eA : (-10000 : Int32).toInt = -10000 := rfl
  have eB : (10000 : Int32).toInt = 10000 := rfl
  have hxc := q_clI (i := x2) rfl hx2.1
  have hq := hD.2 x2.toNatClampNeg (by omega)
  unfold F_DR_toScale
  rw [if_pos (g_no0 hx2), if_pos (g_no0 hx3), if_pos h5, if_neg (fun c => by have := q_ltI c; omega), if_pos (Int32.le_iff_toInt_le.mpr (by omega))]
  unfold F_DR_toScale_J42
  rw [if_pos rfl]
  have hl := V_DR_load (x2 := x2) (t0_0 := 0) (t0_1 := t0_1) (t0_2 := t0_2) (t0_3 := t0_3) (t0_4 := t0_4) (t0_5 := t0_5) (t0_6 := t0_6) (t0_7 := t0_7) (t0_8 := t0_8) (t0_9 := t0_9) (t0_10 := 2) (t5_0 := t5_0) hD hx2
  generalize F_DR_load x2 0 t0_1 t0_2 t0_3 t0_4 t0_5 t0_6 t0_7 t0_8 t0_9 2 t1_0 t2_0 t3_0 t4_0 t5_0 = p at hl ⊢
  unfold F_DR_toScale_c59
  obtain ⟨⟨l1, l2, l3, l4⟩, l5, l6, l7, l8, l9, l10, l11, l12, l13, l14, l15⟩ := hl
  have e4 : (x4.toInt64).toInt = x4.toInt := Int32.toInt_toInt64 x4
  have hb := V_DR_bring (x2 := x4.toInt64) (x3 := x5) (x4 := x3) (t0_0 := p.1) (t0_1 := p.2.1) (t0_2 := p.2.2.1) (t0_3 := p.2.2.2.1) (t0_4 := p.2.2.2.2.1) (t0_5 := p.2.2.2.2.2.1) (t0_6 := p.2.2.2.2.2.2.1) (t0_7 := p.2.2.2.2.2.2.2.1) (t0_8 := p.2.2.2.2.2.2.2.2.1) (t0_9 := p.2.2.2.2.2.2.2.2.2.1) (t0_10 := p.2.2.2.2.2.2.2.2.2.2.1) (t5_0 := p.2.2.2.2.2.2.2.2.2.2.2) hD hx3 ⟨by omega, by omega⟩ ⟨by omega, by omega⟩ ⟨by omega, by omega⟩ l7 (by rw [l8]; exact sF_01) l2 l3
  generalize F_DR_bring x4.toInt64 x5 x3 p.1 p.2.1 p.2.2.1 p.2.2.2.1 p.2.2.2.2.1 p.2.2.2.2.2.1 p.2.2.2.2.2.2.1 p.2.2.2.2.2.2.2.1 p.2.2.2.2.2.2.2.2.1 p.2.2.2.2.2.2.2.2.2.1 p.2.2.2.2.2.2.2.2.2.2.1 t1_0 t2_0 t3_0 t4_0 p.2.2.2.2.2.2.2.2.2.2.2 = r at hb ⊢
  unfold F_DR_toScale_c68
  have l8' : p.2.2.2.2.2.1 = sF (D x2.toNatClampNeg).1 := l8
  rw [l8', sF_z, l6, e4, l9, l15] at hb
  exact hb
theorem V_DR_shift {x2 : Int32} {x3 : Int32} {x4 : Int32} {t0_0 : Int32} {t0_1 : Int32} {t0_2 : Int32} {t0_3 : Int64} {t0_4 : Int32} {t0_5 : Int32} {t0_6 : Int32} {t0_7 : Int32} {t0_8 : Int32} {t0_9 : Int32} {t0_10 : Int32} {t1_0 : (Nat → Int32)} {t2_0 : (Nat → Int32)} {t3_0 : (Nat → Int32)} {t4_0 : (Nat → Int32)} {t5_0 : (Nat → Int32)} {D : Nat → Int × Int} (hD : dRv t1_0 t2_0 t3_0 t4_0 D) (hx2 : 0 ≤ x2.toInt ∧ x2.toInt ≤ 9) (hx3 : 0 ≤ x3.toInt ∧ x3.toInt ≤ 9) : dAn x3 D (some ((D x2.toNatClampNeg).1, (D x2.toNatClampNeg).2 - x4.toInt)) 0 2 (F_DR_shift x2 x3 x4 t0_0 t0_1 t0_2 t0_3 t0_4 t0_5 t0_6 t0_7 t0_8 t0_9 t0_10 t1_0 t2_0 t3_0 t4_0 t5_0).1 (F_DR_shift x2 x3 x4 t0_0 t0_1 t0_2 t0_3 t0_4 t0_5 t0_6 t0_7 t0_8 t0_9 t0_10 t1_0 t2_0 t3_0 t4_0 t5_0).2.2.2.2.2.2.2.2.2.2.2.1 (F_DR_shift x2 x3 x4 t0_0 t0_1 t0_2 t0_3 t0_4 t0_5 t0_6 t0_7 t0_8 t0_9 t0_10 t1_0 t2_0 t3_0 t4_0 t5_0).2.2.2.2.2.2.2.2.2.2.2.2.1 (F_DR_shift x2 x3 x4 t0_0 t0_1 t0_2 t0_3 t0_4 t0_5 t0_6 t0_7 t0_8 t0_9 t0_10 t1_0 t2_0 t3_0 t4_0 t5_0).2.2.2.2.2.2.2.2.2.2.2.2.2.1 (F_DR_shift x2 x3 x4 t0_0 t0_1 t0_2 t0_3 t0_4 t0_5 t0_6 t0_7 t0_8 t0_9 t0_10 t1_0 t2_0 t3_0 t4_0 t5_0).2.2.2.2.2.2.2.2.2.2.2.2.2.2.1 := by
  have hxc := q_clI (i := x2) rfl hx2.1
  have hq := hD.2 x2.toNatClampNeg (by omega)
  have b1 := Int32.toInt_lt x4
  have b2 := Int32.le_toInt x4
  unfold F_DR_shift
  rw [if_pos (g_no0 hx2), if_pos (g_no0 hx3)]
  unfold F_DR_shift_J20
  rw [if_pos rfl]
  have hl := V_DR_load (x2 := x2) (t0_0 := 0) (t0_1 := t0_1) (t0_2 := t0_2) (t0_3 := t0_3) (t0_4 := t0_4) (t0_5 := t0_5) (t0_6 := t0_6) (t0_7 := t0_7) (t0_8 := t0_8) (t0_9 := t0_9) (t0_10 := 2) (t5_0 := t5_0) hD hx2
  generalize F_DR_load x2 0 t0_1 t0_2 t0_3 t0_4 t0_5 t0_6 t0_7 t0_8 t0_9 2 t1_0 t2_0 t3_0 t4_0 t5_0 = p at hl ⊢
  unfold F_DR_shift_c37
  obtain ⟨⟨l1, l2, l3, l4⟩, l5, l6, l7, l8, l9, l10, l11, l12, l13, l14, l15⟩ := hl
  have e4 : (x4.toInt64).toInt = x4.toInt := Int32.toInt_toInt64 x4
  have es : (p.2.2.2.1 - x4.toInt64 : Int64).toInt = (D x2.toNatClampNeg).2 - x4.toInt := q_subL l6 e4 (by omega) (by omega)
  have hs := V_DR_store (x2 := x3) (t0_0 := p.1) (t0_1 := p.2.1) (t0_2 := p.2.2.1) (t0_3 := p.2.2.2.1 - x4.toInt64) (t0_4 := p.2.2.2.2.1) (t0_5 := p.2.2.2.2.2.1) (t0_6 := p.2.2.2.2.2.2.1) (t0_7 := p.2.2.2.2.2.2.2.1) (t0_8 := p.2.2.2.2.2.2.2.2.1) (t0_9 := p.2.2.2.2.2.2.2.2.2.1) (t0_10 := p.2.2.2.2.2.2.2.2.2.2.1) (t5_0 := p.2.2.2.2.2.2.2.2.2.2.2) hD hx3 (by rw [l8]; exact sF_01) ⟨by omega, by omega⟩ l2 l3
  generalize F_DR_store x3 p.1 p.2.1 p.2.2.1 (p.2.2.2.1 - x4.toInt64) p.2.2.2.2.1 p.2.2.2.2.2.1 p.2.2.2.2.2.2.1 p.2.2.2.2.2.2.2.1 p.2.2.2.2.2.2.2.2.1 p.2.2.2.2.2.2.2.2.2.1 p.2.2.2.2.2.2.2.2.2.2.1 t1_0 t2_0 t3_0 t4_0 p.2.2.2.2.2.2.2.2.2.2.2 = r at hs ⊢
  unfold F_DR_shift_c53
  have l8' : p.2.2.2.2.2.1 = sF (D x2.toNatClampNeg).1 := l8
  rw [l8', sF_sg, es, l9, l15] at hs
  exact hs.an
theorem u_lst {f : Nat → Int32} {j m : Nat} : uV (fun i => f (i + j)) (m + 1) = (f j).toInt * 10 ^ m + uV (fun i => f (i + (j + 1))) m := by
  rw [u_tl]
  have e : ∀ i, i < m → (fun i => (fun i => f (i + j)) (i + 1)) i = (fun i => f (i + (j + 1))) i := fun i _ => by
    show f (i + 1 + j) = f (i + (j + 1))
    rw [show i + 1 + j = i + (j + 1) by omega]
  rw [u_ext e, Nat.zero_add]
theorem u_l10 {x : Int64} : ((x - x / 10 * 10 : Int64).toInt = x.toInt.tmod 10) ∧ ((x / 10 : Int64).toInt = x.toInt.tdiv 10) := by
  have e10 : (10 : Int64).toInt = 10 := rfl
  have b1 := Int64.toInt_lt x
  have b2 := Int64.le_toInt x
  have d1 : (x / 10 : Int64).toInt = x.toInt.tdiv 10 := by
    rw [Int64.toInt_div, e10]
    have h1 : (x.toInt.tdiv 10).natAbs ≤ x.toInt.natAbs := by
      rw [Int.natAbs_tdiv]
      exact Nat.div_le_self _ _
    have h2 : (x.toInt.tdiv 10).natAbs = x.toInt.natAbs / 10 := Int.natAbs_tdiv _ _
    exact q_bmL (by omega) (by omega)
  refine ⟨?_, d1⟩
  have h3 := Int.tmod_add_mul_tdiv x.toInt 10
  have h4 : (x.toInt.tdiv 10).natAbs = x.toInt.natAbs / 10 := Int.natAbs_tdiv _ _
  have m1 : (x / 10 * 10 : Int64).toInt = x.toInt.tdiv 10 * 10 := q_mulL d1 e10 (by omega) (by omega)
  have h5 : (x.toInt.tmod 10).natAbs = x.toInt.natAbs % 10 := Int.natAbs_tmod _ _
  rw [q_subL rfl m1 (by omega) (by omega)]
  omega
theorem u_putI {a d E T q : Int} (h : a = 10 * q + d) : d * E + T + q * (E * 10) = T + a * E := by
  rw [h, Int.add_mul, Int.mul_comm 10 q, Int.mul_assoc q 10 E, Int.mul_comm 10 E]
  omega
theorem V_puL {x2 : Int32} {x3 : Int64} {x4 : Int32} {t0_0 : Int32} {t0_1 : Int32} {t0_2 : Int32} {t0_3 : Int64} {t0_4 : Int32} {t0_5 : Int32} {t0_6 : Int32} {t0_7 : Int32} {t0_8 : Int32} {t0_9 : Int32} {t0_10 : Int32} {t1_0 : (Nat → Int32)} {t2_0 : (Nat → Int32)} {t3_0 : (Nat → Int32)} {t4_0 : (Nat → Int32)} {t5_0 : (Nat → Int32)} {lx39 : Int32} {lx63 : Int32} {j82 : Int64} {D : Nat → Int × Int} {A : Nat} (hD : dRv t1_0 t2_0 t3_0 t4_0 D) (hx : 0 ≤ x2.toInt ∧ x2.toInt ≤ 9) (hA : (A : Int) < 10 ^ 19) (h63 : lx63 = 0 ∨ lx63 = 1) : ∀ (n : Nat) (lx91 : Int32) (lx92 : Int64) (lx93 : (Nat → Int32)), ∀ j : Nat, lx91.toInt = (j : Int) - 1 → j ≤ 19 → j < n → (∀ i, j ≤ i → i < 19 → 0 ≤ (lx93 i).toInt ∧ (lx93 i).toInt ≤ 9) → uV (fun i => lx93 (i + j)) (19 - j) + (lx92.toInt.natAbs : Int) * 10 ^ (19 - j) = (A : Int) → dAn x2 D (some (sgI lx63 A, j82.toInt)) lx39 2 (F_DR_put_L69 x2 x3 x4 t0_0 t0_1 t0_2 t0_3 t0_4 t0_5 t0_6 t0_7 t0_8 t0_9 t0_10 t1_0 t2_0 t3_0 t4_0 t5_0 lx39 lx63 j82 n lx91 lx92 lx93).1 (F_DR_put_L69 x2 x3 x4 t0_0 t0_1 t0_2 t0_3 t0_4 t0_5 t0_6 t0_7 t0_8 t0_9 t0_10 t1_0 t2_0 t3_0 t4_0 t5_0 lx39 lx63 j82 n lx91 lx92 lx93).2.2.2.2.2.2.2.2.2.2.2.1 (F_DR_put_L69 x2 x3 x4 t0_0 t0_1 t0_2 t0_3 t0_4 t0_5 t0_6 t0_7 t0_8 t0_9 t0_10 t1_0 t2_0 t3_0 t4_0 t5_0 lx39 lx63 j82 n lx91 lx92 lx93).2.2.2.2.2.2.2.2.2.2.2.2.1 (F_DR_put_L69 x2 x3 x4 t0_0 t0_1 t0_2 t0_3 t0_4 t0_5 t0_6 t0_7 t0_8 t0_9 t0_10 t1_0 t2_0 t3_0 t4_0 t5_0 lx39 lx63 j82 n lx91 lx92 lx93).2.2.2.2.2.2.2.2.2.2.2.2.2.1 (F_DR_put_L69 x2 x3 x4 t0_0 t0_1 t0_2 t0_3 t0_4 t0_5 t0_6 t0_7 t0_8 t0_9 t0_10 t1_0 t2_0 t3_0 t4_0 t5_0 lx39 lx63 j82 n lx91 lx92 lx93).2.2.2.2.2.2.2.2.2.2.2.2.2.2.1 := by
  have e0 : (0 : Int32).toInt = 0 := rfl
  have eL : (0 : Int64).toInt = 0 := rfl
  have e19 : (19 : Int32).toNatClampNeg = 19 := rfl
  intro n
  induction n with
  | zero => intro _ _ _ j _ _ h; exact absurd h (Nat.not_lt_zero _)
  | succ n ih =>
    intro lx91 lx92 lx93 j hj hj19 hjn hg hv
    rw [F_DR_put_L69.eq_2]
    by_cases c : lx91 < 0
    · have c2 := q_ltI c
      have j0 : j = 0 := by omega
      subst j0
      rw [if_pos c]
      have g19 : gO lx93 19 := fun i hi => hg i (Nat.zero_le _) hi
      have ex : uV (fun i => lx93 (i + 0)) (19 - 0) = uV lx93 19 := rfl
      rw [ex, Nat.sub_zero] at hv
      have z : lx92.toInt.natAbs = 0 := by
        have h1 := u_nn g19
        rcases Nat.eq_zero_or_pos lx92.toInt.natAbs with z | z
        · exact z
        · exfalso
          have h2 : (10 : Int) ^ 19 = 10000000000000000000 := rfl
          rw [h2] at hv hA
          omega
      rw [z] at hv
      have hv2 : uV lx93 19 = (A : Int) := by
        rw [← hv]
        show _ = _ + (0 : Int) * _
        rw [Int.zero_mul, Int.add_zero]
      have hs : dSv x2 D (sgI lx63 (A : Int), j82.toInt) lx39 2 (F_DR_store x2 lx39 t0_1 (19 : Int32) j82 (0 : Int32) lx63 t0_6 t0_7 t0_8 t0_9 (2 : Int32) t1_0 t2_0 t3_0 t4_0 lx93) := V_DR_store hD hx h63 ⟨by decide, by decide⟩ g19 hv2
      generalize (F_DR_store x2 lx39 t0_1 (19 : Int32) j82 (0 : Int32) lx63 t0_6 t0_7 t0_8 t0_9 (2 : Int32) t1_0 t2_0 t3_0 t4_0 lx93) = p160 at hs ⊢
      unfold F_DR_put_c121
      exact hs.an
    · have c2 := q_nltI c
      obtain ⟨k, rfl⟩ : ∃ k, j = k + 1 := ⟨j - 1, by omega⟩
      have hk : lx91.toInt = (k : Int) := by omega
      have q0 := q_clI hk (by omega)
      have ix : lx91.toNatClampNeg = k := by omega
      have e1 : wE ((lx91 + (-1) : Int32).toInt) ((k : Int) - 1) := by
        show (lx91 + (-1) : Int32).toInt = (k : Int) - 1
        rw [q_addI (y := -1) hk rfl (by omega) (by omega)]
        omega
      obtain ⟨m1, m2⟩ := u_l10 (x := lx92)
      have a1 : (lx92.toInt.tdiv 10).natAbs = lx92.toInt.natAbs / 10 := Int.natAbs_tdiv _ _
      have a2 : (lx92.toInt.tmod 10).natAbs = lx92.toInt.natAbs % 10 := Int.natAbs_tmod _ _
      have key : ∀ d : Int32, d.toInt = ((lx92.toInt.natAbs % 10 : Nat) : Int) → (∀ i, k ≤ i → i < 19 → 0 ≤ (upd lx93 k d i).toInt ∧ (upd lx93 k d i).toInt ≤ 9) ∧ uV (fun i => upd lx93 k d (i + k)) (19 - k) + ((lx92 / 10 : Int64).toInt.natAbs : Int) * 10 ^ (19 - k) = (A : Int) := fun d hd => by
        refine ⟨fun i i1 i2 => ?_, ?_⟩
        · by_cases ci : i = k
          · rw [ci, v_eq, hd]
            omega
          · rw [v_ne ci]
            exact hg i (by omega) i2
        · have ex : ∀ i, i < 19 - (k + 1) → (fun i => upd lx93 k d (i + (k + 1))) i = (fun i => lx93 (i + (k + 1))) i := fun i _ => v_ne (by omega)
          rw [show 19 - k = (19 - (k + 1)) + 1 by omega, u_lst, v_eq, u_ext ex, u_pw, m2, a1, hd]
          rw [u_putI (a := (lx92.toInt.natAbs : Int)) (by omega)]
          exact hv
      rw [if_neg c, ix]
      by_cases d : 0 ≤ lg_cmp (lx92 - lx92 / 10 * 10 : Int64) 0
      · have d2 := g_lc5 d
        rw [if_pos d]
        have hd : ((lx92 - lx92 / 10 * 10 : Int64).toInt32).toInt = ((lx92.toInt.natAbs % 10 : Nat) : Int) := by
          rw [s_l2i (by omega) (by omega)]
          omega
        obtain ⟨k1, k2⟩ := key _ hd
        exact ih _ _ _ k e1 (by omega) (by omega) k1 k2
      · have d2 := g_lc6 d
        rw [if_neg d]
        have en : (-(lx92 - lx92 / 10 * 10) : Int64).toInt = -(lx92.toInt.tmod 10) := by
          rw [Int64.toInt_neg, m1]
          exact q_bmL (by omega) (by omega)
        have hd : ((-(lx92 - lx92 / 10 * 10) : Int64).toInt32).toInt = ((lx92.toInt.natAbs % 10 : Nat) : Int) := by
          rw [s_l2i (by omega) (by omega)]
          omega
        obtain ⟨k1, k2⟩ := key _ hd
        exact ih _ _ _ k e1 (by omega) (by omega) k1 k2
theorem V_DR_put {x2 : Int32} {x3 : Int64} {x4 : Int32} {t0_0 : Int32} {t0_1 : Int32} {t0_2 : Int32} {t0_3 : Int64} {t0_4 : Int32} {t0_5 : Int32} {t0_6 : Int32} {t0_7 : Int32} {t0_8 : Int32} {t0_9 : Int32} {t0_10 : Int32} {t1_0 : (Nat → Int32)} {t2_0 : (Nat → Int32)} {t3_0 : (Nat → Int32)} {t4_0 : (Nat → Int32)} {t5_0 : (Nat → Int32)} {D : Nat → Int × Int} (hD : dRv t1_0 t2_0 t3_0 t4_0 D) (hx : 0 ≤ x2.toInt ∧ x2.toInt ≤ 9) : dAn x2 D (some (x3.toInt, x4.toInt)) 0 2 (F_DR_put x2 x3 x4 t0_0 t0_1 t0_2 t0_3 t0_4 t0_5 t0_6 t0_7 t0_8 t0_9 t0_10 t1_0 t2_0 t3_0 t4_0 t5_0).1 (F_DR_put x2 x3 x4 t0_0 t0_1 t0_2 t0_3 t0_4 t0_5 t0_6 t0_7 t0_8 t0_9 t0_10 t1_0 t2_0 t3_0 t4_0 t5_0).2.2.2.2.2.2.2.2.2.2.2.1 (F_DR_put x2 x3 x4 t0_0 t0_1 t0_2 t0_3 t0_4 t0_5 t0_6 t0_7 t0_8 t0_9 t0_10 t1_0 t2_0 t3_0 t4_0 t5_0).2.2.2.2.2.2.2.2.2.2.2.2.1 (F_DR_put x2 x3 x4 t0_0 t0_1 t0_2 t0_3 t0_4 t0_5 t0_6 t0_7 t0_8 t0_9 t0_10 t1_0 t2_0 t3_0 t4_0 t5_0).2.2.2.2.2.2.2.2.2.2.2.2.2.1 (F_DR_put x2 x3 x4 t0_0 t0_1 t0_2 t0_3 t0_4 t0_5 t0_6 t0_7 t0_8 t0_9 t0_10 t1_0 t2_0 t3_0 t4_0 t5_0).2.2.2.2.2.2.2.2.2.2.2.2.2.2.1 := by
  have eL : (0 : Int64).toInt = 0 := rfl
  have e4 : (x4.toInt64).toInt = x4.toInt := Int32.toInt_toInt64 x4
  have b1 := Int64.toInt_lt x3
  have b2 := Int64.le_toInt x3
  have hA : ((x3.toInt.natAbs : Nat) : Int) < 10 ^ 19 := by
    have h2 : (10 : Int) ^ 19 = 10000000000000000000 := rfl
    omega
  have st : uV (fun i => t5_0 (i + 19)) (19 - 19) + (x3.toInt.natAbs : Int) * 10 ^ (19 - 19) = (x3.toInt.natAbs : Int) := by
    rw [Nat.sub_self, Int.pow_zero, Int.mul_one]
    exact Int.zero_add _
  have hs := sF_sg (v := x3.toInt)
  unfold F_DR_put
  rw [if_pos (g_no0 hx)]
  unfold F_DR_put_J13
  rw [if_pos (by decide)]
  unfold sF at hs
  by_cases c : 0 ≤ lg_cmp x3 0
  · have c2 := g_lc5 c
    rw [if_pos c]
    unfold F_DR_put_J41
    rw [if_neg (by omega)] at hs
    have h := V_puL (lx39 := 0) (lx63 := 0) (j82 := x4.toInt64) (t0_0 := t0_0) (t0_1 := t0_1) (t0_2 := t0_2) (t0_3 := t0_3) (t0_4 := t0_4) (t0_5 := t0_5) (t0_6 := t0_6) (t0_7 := t0_7) (t0_8 := t0_8) (t0_9 := t0_9) (t0_10 := t0_10) (t5_0 := t5_0) (x3 := x3) (x4 := x4) hD hx hA (Or.inl rfl) (((18 : Int32).toInt - (-1)).toNat + 1) 18 x3 t5_0 19 (by decide) (Nat.le_refl _) (by decide) (fun i h1 h2 => by omega) st
    rw [hs, e4] at h
    exact h
  · have c2 := g_lc6 c
    rw [if_neg c]
    unfold F_DR_put_J41
    rw [if_pos (by omega)] at hs
    have h := V_puL (lx39 := 0) (lx63 := 1) (j82 := x4.toInt64) (t0_0 := t0_0) (t0_1 := t0_1) (t0_2 := t0_2) (t0_3 := t0_3) (t0_4 := t0_4) (t0_5 := t0_5) (t0_6 := t0_6) (t0_7 := t0_7) (t0_8 := t0_8) (t0_9 := t0_9) (t0_10 := t0_10) (t5_0 := t5_0) (x3 := x3) (x4 := x4) hD hx hA (Or.inr rfl) (((18 : Int32).toInt - (-1)).toNat + 1) 18 x3 t5_0 19 (by decide) (Nat.le_refl _) (by decide) (fun i h1 h2 => by omega) st
    rw [hs, e4] at h
    exact h
