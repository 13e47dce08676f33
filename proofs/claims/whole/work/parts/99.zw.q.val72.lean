/-! values, for whole: keepWhole and wholeBy (class) -/
/-- what a call leaves that would put o into a whole register that had vt -/
def cAn (o : Option Int) (vt : Int) (c s n : Int32) (f : Nat → Int32) : Prop := (∃ v : Int, o = some v ∧ v.natAbs < 2 ^ 2048 ∧ c = 0 ∧ bO 68 s n f v) ∨ ((o = none ∨ ∃ v : Int, o = some v ∧ 2 ^ 2048 ≤ v.natAbs) ∧ c = 2 ∧ bO 68 s n f vt)
theorem cAn.c0 {o : Option Int} {vt : Int} {c s n : Int32} {f : Nat → Int32} (h : cAn o vt c s n f) (hc : c = 0) : cAn o vt 0 s n f := by rw [hc] at h; exact h
theorem V_keepWhole {x2 : Int32} {t0_0 : Int32} {t0_1 : Int32} {t1_0 : (Nat → Int32)} {t2_0 : Int32} {t2_1 : Int32} {t3_0 : (Nat → Int32)} {v vt : Int} (h : bO 220 t0_0 t0_1 t1_0 v) (ht : bO 68 t2_0 t2_1 t3_0 vt) : cAn (some v) vt (F_NH_keepWhole x2 t0_0 t0_1 t1_0 t2_0 t2_1 t3_0).1 (F_NH_keepWhole x2 t0_0 t0_1 t1_0 t2_0 t2_1 t3_0).2.1 (F_NH_keepWhole x2 t0_0 t0_1 t1_0 t2_0 t2_1 t3_0).2.2.1 (F_NH_keepWhole x2 t0_0 t0_1 t1_0 t2_0 t2_1 t3_0).2.2.2 := by
  have e68 : (68 : Int32).toInt = 68 := rfl
  have e48 : (2048 : Int32).toInt = 2048 := rfl
  unfold F_NH_keepWhole
  rw [v_canH0, v_canH1]
  by_cases g : 2048 < F_Big_bitLength 220 t0_0 t0_1 t1_0
  · rw [if_pos g, if_neg (by decide)]
    have g2 := q_ltI g
    have hb := (W_bitsN (x := 2048) h g2).resolve_right (by decide)
    exact Or.inr ⟨Or.inr ⟨v, rfl, hb⟩, rfl, ht⟩
  · rw [if_neg g, if_pos rfl]
    have g2 := q_nltI g
    have hb := W_bits (x := 2048) h g2
    have s := h.sB (e2048b hb)
    have hc := W_copy (R := 68) (s := t2_0) (neg := t2_1) (f := t3_0) h (by omega) (by decide)
    exact Or.inl ⟨v, rfl, hb, rfl, hc⟩
noncomputable def sRoot (N A : Nat) : Nat := (nw_ex N A).choose
theorem sRoot_R (N A : Nat) : nwR N A (sRoot N A) := (nw_ex N A).choose_spec
noncomputable def sWB (how : Int32) (a n : Int) : Option Int := if how = 0 then some (a ^ n.toNat) else if how = 1 then (if a < 0 then none else some (sRoot (n.toNat - 1) a.natAbs : Int)) else (if a ≠ 0 ∧ 2048 < n then none else some (sShf a (if n < -2048 then -2048 else n)))
theorem v_pw2048 {v : Int} {e N : Nat} (h : 2 ^ 2048 ≤ (v ^ e).natAbs) (he : e ≤ N) : 2 ^ 2048 ≤ (v ^ N).natAbs := by
  have hp : 1 < 2 ^ 2048 := Nat.one_lt_two_pow (by decide)
  have hv : v ≠ 0 := fun h9 => by
    rw [h9] at h
    cases e with
    | zero =>
      rw [Int.pow_zero] at h
      exact absurd h (Nat.not_le.mpr hp)
    | succ e =>
      rw [Int.zero_pow (by omega)] at h
      exact absurd h (Nat.not_le.mpr (Nat.lt_trans Nat.zero_lt_one hp))
  exact Nat.le_trans h (v_powA hv he)
theorem V_wbC94 {x2 : Int32} {x3 : Int32} {x4 : Int32} {x5 : Int32} {t0_0 : Int32} {t0_1 : Int32} {t1_0 : (Nat → Int32)} {t2_0 : Int32} {t2_1 : Int32} {t3_0 : (Nat → Int32)} {t4_0 : Int32} {t4_1 : Int32} {t5_0 : (Nat → Int32)} {t6_0 : Int32} {t6_1 : Int32} {t7_0 : (Nat → Int32)} {t8_0 : Int32} {t8_1 : Int32} {t9_0 : (Nat → Int32)} {t10_0 : Int32} {t10_1 : Int32} {t11_0 : (Nat → Int32)} {t12_0 : Int32} {t12_1 : Int32} {t13_0 : (Nat → Int32)} {t14_0 : Int32} {t14_1 : Int32} {t15_0 : (Nat → Int32)} {t16_0 : Int32} {t16_1 : Int32} {t17_0 : (Nat → Int32)} {lx73 : Int32} {lx109 : Int32} {lx145 : Int32} {p517 : (Int32 × Int32 × Int32 × (Nat → Int32) × Int32 × Int32 × (Nat → Int32))} {v vt : Int} (h : bO 220 p517.2.1 p517.2.2.1 p517.2.2.2.1 v) (hc : p517.1 = 1) (ht : bO 68 t16_0 t16_1 t17_0 vt) : cAn (some v) vt (F_NH_wholeBy_c94 x2 x3 x4 x5 t0_0 t0_1 t1_0 t2_0 t2_1 t3_0 t4_0 t4_1 t5_0 t6_0 t6_1 t7_0 t8_0 t8_1 t9_0 t10_0 t10_1 t11_0 t12_0 t12_1 t13_0 t14_0 t14_1 t15_0 t16_0 t16_1 t17_0 lx73 lx109 lx145 p517).1 (F_NH_wholeBy_c94 x2 x3 x4 x5 t0_0 t0_1 t1_0 t2_0 t2_1 t3_0 t4_0 t4_1 t5_0 t6_0 t6_1 t7_0 t8_0 t8_1 t9_0 t10_0 t10_1 t11_0 t12_0 t12_1 t13_0 t14_0 t14_1 t15_0 t16_0 t16_1 t17_0 lx73 lx109 lx145 p517).2.2.2.2.2.2.2.2.2.2.2.2.2.2.2.2.2.2.2.2.2.2.1 (F_NH_wholeBy_c94 x2 x3 x4 x5 t0_0 t0_1 t1_0 t2_0 t2_1 t3_0 t4_0 t4_1 t5_0 t6_0 t6_1 t7_0 t8_0 t8_1 t9_0 t10_0 t10_1 t11_0 t12_0 t12_1 t13_0 t14_0 t14_1 t15_0 t16_0 t16_1 t17_0 lx73 lx109 lx145 p517).2.2.2.2.2.2.2.2.2.2.2.2.2.2.2.2.2.2.2.2.2.2.2.1 (F_NH_wholeBy_c94 x2 x3 x4 x5 t0_0 t0_1 t1_0 t2_0 t2_1 t3_0 t4_0 t4_1 t5_0 t6_0 t6_1 t7_0 t8_0 t8_1 t9_0 t10_0 t10_1 t11_0 t12_0 t12_1 t13_0 t14_0 t14_1 t15_0 t16_0 t16_1 t17_0 lx73 lx109 lx145 p517).2.2.2.2.2.2.2.2.2.2.2.2.2.2.2.2.2.2.2.2.2.2.2.2 := by
  unfold F_NH_wholeBy_c94
  rw [hc, v_canH1, if_pos rfl]
  have h1 : P1 220 v (F_Big_copy (220 : Int32) (220 : Int32) t0_0 t0_1 t1_0 (p517.2.1 : Int32) (p517.2.2.1 : Int32) (p517.2.2.2.1 : (Nat → Int32))) := W_copy h h.fit (by decide)
  generalize (F_Big_copy (220 : Int32) (220 : Int32) t0_0 t0_1 t1_0 (p517.2.1 : Int32) (p517.2.2.1 : Int32) (p517.2.2.2.1 : (Nat → Int32))) = p554 at h1 ⊢
  unfold F_NH_wholeBy_c114
  have h2 : (fun p => cAn (some v) vt p.1 p.2.1 p.2.2.1 p.2.2.2) (F_NH_keepWhole x5 (p554.1 : Int32) (p554.2.1 : Int32) (p554.2.2 : (Nat → Int32)) t16_0 t16_1 t17_0) := V_keepWhole h1 ht
  generalize (F_NH_keepWhole x5 (p554.1 : Int32) (p554.2.1 : Int32) (p554.2.2 : (Nat → Int32)) t16_0 t16_1 t17_0) = p577 at h2 ⊢
  unfold F_NH_wholeBy_c187_12
  split
  · rename_i g
    exact h2.c0 g
  · exact h2
theorem V_wbJ138 {x2 : Int32} {x3 : Int32} {x4 : Int32} {x5 : Int32} {t0_0 : Int32} {t0_1 : Int32} {t1_0 : (Nat → Int32)} {t2_0 : Int32} {t2_1 : Int32} {t3_0 : (Nat → Int32)} {t4_0 : Int32} {t4_1 : Int32} {t5_0 : (Nat → Int32)} {t6_0 : Int32} {t6_1 : Int32} {t7_0 : (Nat → Int32)} {t8_0 : Int32} {t8_1 : Int32} {t9_0 : (Nat → Int32)} {t10_0 : Int32} {t10_1 : Int32} {t11_0 : (Nat → Int32)} {t12_0 : Int32} {t12_1 : Int32} {t13_0 : (Nat → Int32)} {t14_0 : Int32} {t14_1 : Int32} {t15_0 : (Nat → Int32)} {t16_0 : Int32} {t16_1 : Int32} {t17_0 : (Nat → Int32)} {lx73 : Int32} {lx109 : Int32} {lx145 : Int32} {lx295 : Int32} {va vt : Int} {N : Nat} (ha : bO 68 t14_0 t14_1 t15_0 va) (hA : bB 67 va) (ha0 : 0 ≤ va) (hn : x4.toInt = (N : Int) + 1) (hN : N ≤ 63) (hc : lx295 = 1) (ht : bO 68 t16_0 t16_1 t17_0 vt) : cAn (some (sRoot N va.natAbs : Int)) vt (F_NH_wholeBy_J138 x2 x3 x4 x5 t0_0 t0_1 t1_0 t2_0 t2_1 t3_0 t4_0 t4_1 t5_0 t6_0 t6_1 t7_0 t8_0 t8_1 t9_0 t10_0 t10_1 t11_0 t12_0 t12_1 t13_0 t14_0 t14_1 t15_0 t16_0 t16_1 t17_0 lx73 lx109 lx145 lx295).1 (F_NH_wholeBy_J138 x2 x3 x4 x5 t0_0 t0_1 t1_0 t2_0 t2_1 t3_0 t4_0 t4_1 t5_0 t6_0 t6_1 t7_0 t8_0 t8_1 t9_0 t10_0 t10_1 t11_0 t12_0 t12_1 t13_0 t14_0 t14_1 t15_0 t16_0 t16_1 t17_0 lx73 lx109 lx145 lx295).2.2.2.2.2.2.2.2.2.2.2.2.2.2.2.2.2.2.2.2.2.2.1 (F_NH_wholeBy_J138 x2 x3 x4 x5 t0_0 t0_1 t1_0 t2_0 t2_1 t3_0 t4_0 t4_1 t5_0 t6_0 t6_1 t7_0 t8_0 t8_1 t9_0 t10_0 t10_1 t11_0 t12_0 t12_1 t13_0 t14_0 t14_1 t15_0 t16_0 t16_1 t17_0 lx73 lx109 lx145 lx295).2.2.2.2.2.2.2.2.2.2.2.2.2.2.2.2.2.2.2.2.2.2.2.1 (F_NH_wholeBy_J138 x2 x3 x4 x5 t0_0 t0_1 t1_0 t2_0 t2_1 t3_0 t4_0 t4_1 t5_0 t6_0 t6_1 t7_0 t8_0 t8_1 t9_0 t10_0 t10_1 t11_0 t12_0 t12_1 t13_0 t14_0 t14_1 t15_0 t16_0 t16_1 t17_0 lx73 lx109 lx145 lx295).2.2.2.2.2.2.2.2.2.2.2.2.2.2.2.2.2.2.2.2.2.2.2.2 := by
  unfold F_NH_wholeBy_J138
  rw [hc, v_canH1, if_pos rfl]
  have hrt := (V_root (t0_0 := t6_0) (t0_1 := t6_1) (t1_0 := t7_0) (t2_0 := t4_0) (t2_1 := t4_1) (t3_0 := t5_0) (t4_0 := t8_0) (t4_1 := t8_1) (t5_0 := t9_0) (t6_0 := t10_0) (t6_1 := t10_1) (t7_0 := t11_0) (t8_0 := t12_0) (t8_1 := t12_1) (t9_0 := t13_0) (t10_0 := t2_0) (t10_1 := t2_1) (t11_0 := t3_0) (x3 := x4) (Ma := 67) ha ha0 hA (by decide) (by decide) hn hN (sRoot_R N va.natAbs)).2.1
  generalize F_Mil_root 68 x4 t6_0 t6_1 t7_0 t4_0 t4_1 t5_0 t8_0 t8_1 t9_0 t10_0 t10_1 t11_0 t12_0 t12_1 t13_0 t2_0 t2_1 t3_0 t14_0 t14_1 t15_0 = p394 at hrt ⊢
  unfold F_NH_wholeBy_c148
  have h1 : P1 220 (sRoot N va.natAbs : Int) (F_Big_copy 220 220 t0_0 t0_1 t1_0 p394.1 p394.2.1 p394.2.2.1) := W_copy hrt hrt.fit (by decide)
  generalize F_Big_copy 220 220 t0_0 t0_1 t1_0 p394.1 p394.2.1 p394.2.2.1 = p433 at h1 ⊢
  unfold F_NH_wholeBy_c165
  have h2 : (fun p : Int32 × Int32 × Int32 × (Nat → Int32) => cAn (some (sRoot N va.natAbs : Int)) vt p.1 p.2.1 p.2.2.1 p.2.2.2) (F_NH_keepWhole x5 p433.1 p433.2.1 p433.2.2 t16_0 t16_1 t17_0) := V_keepWhole h1 ht
  generalize F_NH_keepWhole x5 p433.1 p433.2.1 p433.2.2 t16_0 t16_1 t17_0 = p456 at h2 ⊢
  unfold F_NH_wholeBy_c187_9
  split
  · rename_i g
    exact h2.c0 g
  · exact h2
theorem V_wbJ69 {x2 : Int32} {x3 : Int32} {x4 : Int32} {x5 : Int32} {t0_0 : Int32} {t0_1 : Int32} {t1_0 : (Nat → Int32)} {t2_0 : Int32} {t2_1 : Int32} {t3_0 : (Nat → Int32)} {t4_0 : Int32} {t4_1 : Int32} {t5_0 : (Nat → Int32)} {t6_0 : Int32} {t6_1 : Int32} {t7_0 : (Nat → Int32)} {t8_0 : Int32} {t8_1 : Int32} {t9_0 : (Nat → Int32)} {t10_0 : Int32} {t10_1 : Int32} {t11_0 : (Nat → Int32)} {t12_0 : Int32} {t12_1 : Int32} {t13_0 : (Nat → Int32)} {t14_0 : Int32} {t14_1 : Int32} {t15_0 : (Nat → Int32)} {t16_0 : Int32} {t16_1 : Int32} {t17_0 : (Nat → Int32)} {lx73 : Int32} {lx109 : Int32} {lx145 : Int32} {va vt : Int} (ha : bO 68 t14_0 t14_1 t15_0 va) (hA : bB 67 va) (ht : bO 68 t16_0 t16_1 t17_0 vt) (h0 : x2 = 0 → 0 ≤ x4.toInt) (h1 : x2 = 1 → 1 ≤ x4.toInt ∧ x4.toInt ≤ 64) (hc : lx145 = 1) : cAn (sWB x2 va x4.toInt) vt (F_NH_wholeBy_J69 x2 x3 x4 x5 t0_0 t0_1 t1_0 t2_0 t2_1 t3_0 t4_0 t4_1 t5_0 t6_0 t6_1 t7_0 t8_0 t8_1 t9_0 t10_0 t10_1 t11_0 t12_0 t12_1 t13_0 t14_0 t14_1 t15_0 t16_0 t16_1 t17_0 lx73 lx109 lx145).1 (F_NH_wholeBy_J69 x2 x3 x4 x5 t0_0 t0_1 t1_0 t2_0 t2_1 t3_0 t4_0 t4_1 t5_0 t6_0 t6_1 t7_0 t8_0 t8_1 t9_0 t10_0 t10_1 t11_0 t12_0 t12_1 t13_0 t14_0 t14_1 t15_0 t16_0 t16_1 t17_0 lx73 lx109 lx145).2.2.2.2.2.2.2.2.2.2.2.2.2.2.2.2.2.2.2.2.2.2.1 (F_NH_wholeBy_J69 x2 x3 x4 x5 t0_0 t0_1 t1_0 t2_0 t2_1 t3_0 t4_0 t4_1 t5_0 t6_0 t6_1 t7_0 t8_0 t8_1 t9_0 t10_0 t10_1 t11_0 t12_0 t12_1 t13_0 t14_0 t14_1 t15_0 t16_0 t16_1 t17_0 lx73 lx109 lx145).2.2.2.2.2.2.2.2.2.2.2.2.2.2.2.2.2.2.2.2.2.2.2.1 (F_NH_wholeBy_J69 x2 x3 x4 x5 t0_0 t0_1 t1_0 t2_0 t2_1 t3_0 t4_0 t4_1 t5_0 t6_0 t6_1 t7_0 t8_0 t8_1 t9_0 t10_0 t10_1 t11_0 t12_0 t12_1 t13_0 t14_0 t14_1 t15_0 t16_0 t16_1 t17_0 lx73 lx109 lx145).2.2.2.2.2.2.2.2.2.2.2.2.2.2.2.2.2.2.2.2.2.2.2.2 := by
  have e48 : (2048 : Int32).toInt = 2048 := rfl
  have sa : t14_0.toInt ≤ 68 := ha.2.2.2.1
  unfold F_NH_wholeBy_J69
  rw [hc, v_need1, if_pos rfl]
  unfold sWB
  by_cases c0 : x2 = 0
  · rw [if_pos c0, if_pos c0]
    have hp := T_power (N := 67) (x3 := x4) (x4 := 2048) (t0_0 := t4_0) (t0_1 := t4_1) (t1_0 := t5_0) (t2_0 := t8_0) (t2_1 := t8_1) (t3_0 := t9_0) ha (h0 c0) (by decide) trivial (by decide) (by decide) (by omega)
    obtain ⟨v, q0, q1⟩ := hp
    generalize F_Mil_power 68 x4 2048 t4_0 t4_1 t5_0 t8_0 t8_1 t9_0 t14_0 t14_1 t15_0 = p517 at q0 q1 ⊢
    rcases q0 with ⟨k0, e, k1, k2⟩ | ⟨k0, k1, k2⟩
    · unfold F_NH_wholeBy_c94
      rw [k0, v_canH0, if_neg (by decide)]
      exact Or.inr ⟨Or.inr ⟨_, rfl, v_pw2048 k2 k1⟩, rfl, ht⟩
    · rw [← k1]
      exact V_wbC94 q1 k0 ht
  rw [if_neg c0, if_neg c0]
  by_cases c1 : x2 = 1
  · rw [if_pos c1, if_pos c1]
    obtain ⟨n1, n2⟩ := h1 c1
    by_cases d : F_Big_sign 68 t14_0 t14_1 < 0
    · rw [if_pos d]
      have hneg : va < 0 := Classical.byContradiction fun h9 => by
        have e0 : (0 : Int32).toInt = 0 := rfl
        have d2 := q_ltI d
        unfold F_Big_sign at d2
        rcases ha.sgn with ⟨k, _⟩ | ⟨_, k⟩
        · rw [k] at d2
          split at d2
          · exact absurd d2 (by decide)
          · exact absurd d2 (by decide)
        · omega
      rw [if_pos hneg]
      unfold F_NH_wholeBy_J138
      rw [v_canH0, if_neg (by decide)]
      exact Or.inr ⟨Or.inl rfl, rfl, ht⟩
    · rw [if_neg d]
      have hv := v_sgnN ha d
      rw [if_neg (by omega)]
      exact V_wbJ138 ha hA hv (by omega) (by omega) rfl ht
  · rw [if_neg c1, if_neg c1]
    have hs := V_shifted (x3 := x4) (t0_0 := t0_0) (t0_1 := t0_1) (t1_0 := t1_0) (t2_0 := t12_0) (t2_1 := t12_1) (t3_0 := t13_0) ha hA (by decide)
    generalize F_Mil_shifted 68 x4 t0_0 t0_1 t1_0 t12_0 t12_1 t13_0 t14_0 t14_1 t15_0 = p219 at hs ⊢
    unfold F_NH_wholeBy_c178
    rcases hs with ⟨k0, k1, k2⟩ | ⟨k0, k1, k2⟩
    · rw [if_pos (show va ≠ 0 ∧ 2048 < x4.toInt from ⟨k1, k2⟩), k0, v_canH0, if_neg (show ¬ (2 : Int32) = 0 by decide)]
      exact Or.inr ⟨Or.inl rfl, rfl, ht⟩
    · rw [if_neg (show ¬ (va ≠ 0 ∧ 2048 < x4.toInt) by omega), k0, v_canH1, if_pos (show (0 : Int32) = 0 from rfl)]
      have h2 : (fun p : Int32 × Int32 × Int32 × (Nat → Int32) => cAn (some (sShf va (if x4.toInt < -2048 then -2048 else x4.toInt))) vt p.1 p.2.1 p.2.2.1 p.2.2.2) (F_NH_keepWhole x5 p219.2.1 p219.2.2.1 p219.2.2.2.1 t16_0 t16_1 t17_0) := V_keepWhole k2 ht
      generalize F_NH_keepWhole x5 p219.2.1 p219.2.2.1 p219.2.2.2.1 t16_0 t16_1 t17_0 = p255 at h2 ⊢
      unfold F_NH_wholeBy_c187
      by_cases g : p255.1 = 0
      · rw [if_pos g]
        exact h2.c0 g
      · rw [if_neg g]
        exact h2
