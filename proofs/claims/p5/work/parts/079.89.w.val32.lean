/-! values: Mill's bits -/
theorem v_not31 {x : Int32} (h : 0 ≤ x.toInt) : ((x ^^^ (-1)) &&& 2147483647 : Int32).toInt = 2147483647 - x.toInt := by
  have h1 := (v_and31I (x := x ^^^ (-1))).2
  have h2 : (x ^^^ (-1) : Int32).toBitVec.toNat = 4294967295 - x.toBitVec.toNat := by
    rw [Int32.toBitVec_xor]
    have e : (-1 : Int32).toBitVec = BitVec.allOnes 32 := rfl
    rw [e, BitVec.xor_allOnes, BitVec.toNat_not]
  have h3 := v_natI h
  have h6 := Int32.toInt_lt x
  have h4 : (x ^^^ (-1) : Int32).toInt = ((x ^^^ (-1) : Int32).toBitVec).toInt := rfl
  rw [BitVec.toInt_eq_toNat_cond, h2] at h4
  split at h4 <;> omega
theorem v_mixN {x a b : Int32} (ha : 0 ≤ a.toInt) (hb : 0 ≤ b.toInt) : 0 ≤ (F_Mil_mixed x a b).toInt := by
  have h1 := Int32.toInt_lt a
  have h2 := Int32.toInt_lt b
  unfold F_Mil_mixed
  split
  · exact (s_and hb).1
  · split
    · exact (s_or 31 (by decide) ⟨ha, h1⟩ ⟨hb, h2⟩).1
    · split
      · exact (s_xor 31 (by decide) ⟨ha, h1⟩ ⟨hb, h2⟩).1
      · exact (s_andL ha).1
theorem v_mixT {x n m : Int32} (h : F_Mil_mixed x (if n = 0 then 0 else 1) (if m = 0 then 0 else 1) = 1) : 0 < (F_Mil_mixed x (if n = 0 then 0 else 2147483647) (if m = 0 then 0 else 2147483647)).toInt := by
  unfold F_Mil_mixed at h ⊢
  by_cases c1 : x = 8
  · rw [if_pos c1] at h ⊢
    by_cases c2 : n = 0 <;> by_cases c3 : m = 0
    all_goals (first | rw [if_pos c2] at h ⊢ | rw [if_neg c2] at h ⊢)
    all_goals (first | rw [if_pos c3] at h ⊢ | rw [if_neg c3] at h ⊢)
    all_goals (revert h; decide)
  rw [if_neg c1] at h ⊢
  by_cases c4 : x = 9
  · rw [if_pos c4] at h ⊢
    by_cases c2 : n = 0 <;> by_cases c3 : m = 0
    all_goals (first | rw [if_pos c2] at h ⊢ | rw [if_neg c2] at h ⊢)
    all_goals (first | rw [if_pos c3] at h ⊢ | rw [if_neg c3] at h ⊢)
    all_goals (revert h; decide)
  rw [if_neg c4] at h ⊢
  by_cases c5 : x = 10
  · rw [if_pos c5] at h ⊢
    by_cases c2 : n = 0 <;> by_cases c3 : m = 0
    all_goals (first | rw [if_pos c2] at h ⊢ | rw [if_neg c2] at h ⊢)
    all_goals (first | rw [if_pos c3] at h ⊢ | rw [if_neg c3] at h ⊢)
    all_goals (revert h; decide)
  rw [if_neg c5] at h ⊢
  by_cases c2 : n = 0 <;> by_cases c3 : m = 0
  all_goals (first | rw [if_pos c2] at h ⊢ | rw [if_neg c2] at h ⊢)
  all_goals (first | rw [if_pos c3] at h ⊢ | rw [if_neg c3] at h ⊢)
  all_goals (revert h; decide)
theorem v_limN {R i s n : Int32} {f : Nat → Int32} (hi : 0 ≤ i.toInt) (h : bN s f) : 0 ≤ (F_Big_limb R i s n f).toInt := by
  rw [v_limb hi h.1]
  split
  · rename_i h1
    exact h.2.1 _ h1
  · exact Int.le_refl _
theorem v_endN {R i lo s n : Int32} {f : Nat → Int32} (hi : 0 ≤ i.toInt) (h : bN s f) : 0 ≤ (F_Big_endlessLimb R i lo s n f).toInt := by
  unfold F_Big_endlessLimb
  split
  · exact v_limN hi h
  · split
    · split
      · exact v_and31I.1
      · exact v_and31I.1
    · exact Int.le_refl _
theorem v_endT {R i lo s n : Int32} {f : Nat → Int32} (hi : 0 ≤ i.toInt) (hs : s.toInt ≤ i.toInt) (hl : n ≠ 0 → lo.toInt < i.toInt) : F_Big_endlessLimb R i lo s n f = (if n = 0 then 0 else 2147483647) := by
  have e0 : (0 : Int32).toInt = 0 := rfl
  have h1 : F_Big_limb R i s n f = 0 := by
    unfold F_Big_limb
    rw [if_neg (fun hh => by have := q_ltI hh; omega), if_pos (Int32.le_iff_toInt_le.mpr hs)]
  unfold F_Big_endlessLimb
  rw [h1]
  by_cases hn : n = 0
  · rw [if_pos hn, if_pos hn]
  · have h2 := hl hn
    rw [if_neg hn, if_neg hn, if_pos (Int32.le_iff_toInt_le.mpr (by omega)), if_neg (fun hh => by rw [hh] at h2; omega)]
    decide
theorem v_lowL {R s n : Int32} {f : Nat → Int32} (h : bN s f) (hs : 0 < s.toInt) (hs2 : s.toInt ≤ 220) : ∀ (m : Nat) (j : Int32), 0 ≤ j.toInt → j.toInt < s.toInt → s.toInt - j.toInt < (m : Int) → (F_Big_lowestLimb_L2 R s n f m j).toInt < s.toInt := by
  intro m
  induction m with
  | zero => intros; omega
  | succ m ih =>
    intro j h1 h2 h3
    rw [F_Big_lowestLimb_L2.eq_2, if_neg (fun hh => by have := q_leI hh; omega)]
    split
    · rename_i h4
      have ej := v_sc h1 (by omega)
      by_cases h5 : j.toInt + 1 = s.toInt
      · exfalso
        have c1 := q_clI (i := j) rfl h1
        have c2 := q_clI (i := s) rfl h.1
        apply h.2.2 hs
        rw [show s.toNatClampNeg - 1 = j.toNatClampNeg by omega]
        exact h4
      · exact ih _ (by omega) (by omega) (by omega)
    · exact h2
theorem v_low {R s n : Int32} {f : Nat → Int32} (h : bN s f) (hs : 0 < s.toInt) (hs2 : s.toInt ≤ 220) : (F_Big_lowestLimb R s n f).toInt < s.toInt := by
  unfold F_Big_lowestLimb
  exact v_lowL h hs hs2 _ _ (by decide) hs (by rw [show (0 : Int32).toInt = 0 from rfl]; omega)
theorem v_mbStep {A c P V l s k : Int} (h : A + c * P = P - V) (h2 : s + 2147483648 * k = 2147483647 - l + c) : A + s * P + k * (P * 2147483648) = P * 2147483648 - (V + l * P) := by
  have h3 : (s + 2147483648 * k) * P = (2147483647 - l + c) * P := by rw [h2]
  rw [Int.add_mul, Int.add_mul, Int.sub_mul] at h3
  have e1 : k * (P * 2147483648) = 2147483648 * k * P := by
    rw [Int.mul_comm P, ← Int.mul_assoc, Int.mul_comm k]
  rw [e1]
  omega
theorem v_mbV {V P l : Int} (h0 : 0 ≤ V) (h : V < P) (l0 : 0 ≤ l) (l1 : l < 2147483648) : 0 ≤ V + l * P ∧ V + l * P < P * 2147483648 ∧ (0 < l → 0 < V + l * P) := by
  have h1 : 0 ≤ l * P := Int.mul_nonneg l0 (by omega)
  have h2 : l * P ≤ 2147483647 * P := Int.mul_le_mul_of_nonneg_right (by omega) (by omega)
  refine ⟨by omega, by omega, fun h3 => ?_⟩
  have h4 : 1 * P ≤ l * P := Int.mul_le_mul_of_nonneg_right (by omega) (by omega)
  omega
/-- what the loop keeps where the answer is below 0 -/
def mB (T i : Nat) (c : Int) (A : Int) : Prop := ∃ V : Int, 0 ≤ V ∧ V < 2147483648 ^ i ∧ A + c * 2147483648 ^ i = 2147483648 ^ i - V ∧ (i = T → 0 < V)
theorem T_mbL {x2 : Int32} {R : Int32} {R2 : Int32} {t0_0 : Int32} {t0_1 : Int32} {t1_0 : (Nat → Int32)} {t2_0 : Int32} {t2_1 : Int32} {t3_0 : (Nat → Int32)} {t4_0 : Int32} {t4_1 : Int32} {t5_0 : (Nat → Int32)} {a40 : Int32} {a33 : Int32} {a28 : Int32} {lx45 : Int32} {lx60 : Int32} {lx80 : Int32} {lx95 : Int32} {p122 : (Int32 × Int32)} {va vb : Int} {T : Nat} (ha : bO R t2_0 t2_1 t3_0 va) (hb : bO R2 t4_0 t4_1 t5_0 vb) (hT : a28.toInt = (T : Int)) (hT2 : T ≤ 220) (ha2 : t2_0.toInt < (T : Int)) (hb2 : t4_0.toInt < (T : Int)) (hla : t2_1 ≠ 0 → a33.toInt < t2_0.toInt) (hlb : t4_1 ≠ 0 → a40.toInt < t4_0.toInt) (hbel : lx80 = 0 ∨ (lx80 = 1 ∧ F_Mil_mixed x2 (if t2_1 = 0 then 0 else 1) (if t4_1 = 0 then 0 else 1) = 1)) : ∀ (n : Nat) (lx133 : Int32) (lx134 : Int32) (lx135 : Int32) (lx136 : Int32) (lx137 : (Nat → Int32)), ∀ i : Nat, lx133.toInt = (i : Int) → i ≤ T → T - i < n → lx135.toInt = (i : Int) → okL lx137 i → 0 ≤ lx134.toInt → lx134.toInt ≤ 1 → (lx80 = 0 → lx134.toInt = 0) → (lx80 = 1 → mB T i lx134.toInt (vB lx137 i)) → G1 (bJ 220) (F_Mil_mixBits_L88 x2 R R2 t0_0 t0_1 t1_0 t2_0 t2_1 t3_0 t4_0 t4_1 t5_0 a40 a33 a28 lx45 lx60 lx80 lx95 p122 n lx133 lx134 lx135 lx136 lx137) := by
  have e := e220
  have e0 : (0 : Int32).toInt = 0 := rfl
  intro n
  induction n with
  | zero => intros; omega
  | succ n ih =>
    intro lx133 lx134 lx135 lx136 lx137 i hi hiT hn hs ok c0 c1 hc hm
    rw [F_Mil_mixBits_L88.eq_2]
    have cs := q_clI (i := lx135) hs (by omega)
    have cs' : lx135.toNatClampNeg = i := by omega
    by_cases hj : a28 ≤ lx133
    · rw [if_pos hj]
      have hj2 := q_leI hj
      have hiT2 : i = T := by omega
      unfold F_Mil_mixBits_c168
      obtain ⟨z, z1, z2, z3, z4, z5⟩ := V_trimT (R := 220) (neg := lx136) (f := lx137) (s := lx135) (by omega) (by omega)
      rw [z1]
      have cz := q_clI (i := z) rfl z2
      have hN : bN z lx137 := ⟨z2, fun j hj => ok j (by omega), z4⟩
      rw [cs'] at z5
      rcases hbel with h0 | ⟨h1, _⟩
      · rw [h0]
        exact ⟨_, bO.mk0 hN (show z.toInt ≤ _ by omega) (by decide)⟩
      · rw [h1]
        obtain ⟨V, V0, V1, V2, V3⟩ := hm h1
        have V4 := V3 hiT2
        have hpos : 0 < vB lx137 i := by
          have hvn := v_nn ok
          by_cases hcc : lx134.toInt = 0
          · rw [hcc, Int.zero_mul] at V2
            omega
          · have : lx134.toInt = 1 := by omega
            rw [this, Int.one_mul] at V2
            omega
        have hzp : 0 < z.toInt := by
          apply hN.pos.mpr
          show 0 < vB lx137 z.toNatClampNeg
          rw [z5]
          exact hpos
        exact ⟨_, hN, Or.inr ⟨rfl, hzp⟩, rfl, by show z.toInt ≤ _; omega, by decide⟩
    · rw [if_neg hj]
      have hj2 := q_nleI hj
      have m0 := v_mixN (x := x2) (v_endN (R := R) (lo := a33) (n := t2_1) (i := lx133) (by omega) ha.1) (v_endN (R := R2) (lo := a40) (n := t4_1) (i := lx133) (by omega) hb.1)
      have m1 := Int32.toInt_lt (F_Mil_mixed x2 (F_Big_endlessLimb R lx133 a33 t2_0 t2_1 t3_0) (F_Big_endlessLimb R2 lx133 a40 t4_0 t4_1 t5_0))
      have mT : lx80 = 1 → i + 1 = T → 0 < (F_Mil_mixed x2 (F_Big_endlessLimb R lx133 a33 t2_0 t2_1 t3_0) (F_Big_endlessLimb R2 lx133 a40 t4_0 t4_1 t5_0)).toInt := by
        intro h1 h2
        rcases hbel with h0 | ⟨_, h3⟩
        · rw [h0] at h1
          exact absurd h1 (by decide)
        · rw [v_endT (by omega) (by omega) (fun h9 => by have := hla h9; omega), v_endT (by omega) (by omega) (fun h9 => by have := hlb h9; omega)]
          exact v_mixT h3
      generalize F_Mil_mixed x2 (F_Big_endlessLimb R lx133 a33 t2_0 t2_1 t3_0) (F_Big_endlessLimb R2 lx133 a40 t4_0 t4_1 t5_0) = lm at m0 m1 mT ⊢
      have ej := v_sc (i := lx133) (by omega) (by omega)
      have es := v_sc (i := lx135) (by omega) (by omega)
      by_cases hb0 : lx80 = 0
      · rw [if_pos hb0]
        have hcc := hc hb0
        unfold F_Mil_mixBits_J134 F_Mil_mixBits_c148 F_Big_push
        rw [if_neg (fun hh => by have := q_leI hh; omega)]
        have a2 := v_add3 (a := lm) (b := 0) (c := lx134) m0 (by decide) c0 c1
        rw [Int32.add_zero] at a2
        refine ih _ _ _ _ _ (i + 1) (by rw [ej.1]; omega) (by omega) (by omega) (by show (lx135 + 1 : Int32).toInt = _; rw [es.1]; omega) ?_ a2.2.2.1 a2.2.2.2 (fun _ => ?_) (fun h9 => by rw [hb0] at h9; exact absurd h9 (by decide))
        · show okL (upd lx137 lx135.toNatClampNeg _) _
          rw [cs']
          exact okL_push ok a2.1
        · omega
      · rw [if_neg hb0]
        have hb1 : lx80 = 1 := by
          rcases hbel with h0 | ⟨h1, _⟩
          · exact absurd h0 hb0
          · exact h1
        have hno := v_not31 m0
        have hno0 := (v_and31I (x := lm ^^^ (-1))).1
        generalize ((lm ^^^ (-1)) &&& 2147483647 : Int32) = nl at hno hno0 ⊢
        unfold F_Mil_mixBits_J134 F_Mil_mixBits_c148 F_Big_push
        rw [if_neg (fun hh => by have := q_leI hh; omega)]
        have a2 := v_add3 (a := nl) (b := 0) (c := lx134) hno0 (by decide) c0 c1
        rw [Int32.add_zero] at a2
        obtain ⟨V, V0, V1, V2, V3⟩ := hm hb1
        refine ih _ _ _ _ _ (i + 1) (by rw [ej.1]; omega) (by omega) (by omega) (by show (lx135 + 1 : Int32).toInt = _; rw [es.1]; omega) ?_ a2.2.2.1 a2.2.2.2 (fun h9 => absurd h9 hb0) (fun _ => ?_)
        · show okL (upd lx137 lx135.toNatClampNeg _) _
          rw [cs']
          exact okL_push ok a2.1
        · show mB T (i + 1) _ (vB (upd lx137 lx135.toNatClampNeg _) (i + 1))
          rw [cs', v_upd_in]
          obtain ⟨w1, w2, w3⟩ := v_mbV V0 V1 m0 m1
          refine ⟨V + lm.toInt * 2147483648 ^ i, w1, ?_, ?_, fun h9 => w3 (mT hb1 h9)⟩
          · rw [Int.pow_succ]
            exact w2
          · rw [Int.pow_succ]
            exact v_mbStep V2 (by omega)
theorem T_mixBits {x2 : Int32} {R : Int32} {R2 : Int32} {t0_0 : Int32} {t0_1 : Int32} {t1_0 : (Nat → Int32)} {t2_0 : Int32} {t2_1 : Int32} {t3_0 : (Nat → Int32)} {t4_0 : Int32} {t4_1 : Int32} {t5_0 : (Nat → Int32)} {va vb : Int} (ha : bO R t2_0 t2_1 t3_0 va) (hb : bO R2 t4_0 t4_1 t5_0 vb) (ha2 : t2_0.toInt < 220) (hb2 : t4_0.toInt < 220) : G1 (bJ 220) (F_Mil_mixBits x2 R R2 t0_0 t0_1 t1_0 t2_0 t2_1 t3_0 t4_0 t4_1 t5_0) := by
  have e := e220
  have e0 : (0 : Int32).toInt = 0 := rfl
  have a0 := ha.s0
  have b0 := hb.s0
  have hla : t2_1 ≠ 0 → (F_Big_lowestLimb R t2_0 t2_1 t3_0).toInt < t2_0.toInt := fun h => by
    rcases ha.2.1 with h1 | ⟨_, h1⟩
    · exact absurd h1 h
    · exact v_low ha.1 h1 ha.fit
  have hlb : t4_1 ≠ 0 → (F_Big_lowestLimb R2 t4_0 t4_1 t5_0).toInt < t4_0.toInt := fun h => by
    rcases hb.2.1 with h1 | ⟨_, h1⟩
    · exact absurd h1 h
    · exact v_low hb.1 h1 hb.fit
  have hmx : (if t2_0 < t4_0 then t4_0 else t2_0 : Int32).toInt = (if t2_0.toInt < t4_0.toInt then t4_0.toInt else t2_0.toInt) := by
    split
    · rename_i h
      rw [if_pos (q_ltI h)]
    · rename_i h
      rw [if_neg (by have := q_nltI h; omega)]
  have hT := v_sc (i := (if t2_0 < t4_0 then t4_0 else t2_0 : Int32)) (by rw [hmx]; split <;> omega) (by rw [hmx]; split <;> omega)
  obtain ⟨T, hTT⟩ : ∃ T : Nat, ((if t2_0 < t4_0 then t4_0 else t2_0 : Int32) + 1).toInt = (T : Int) := ⟨_, (Int.toNat_of_nonneg (by rw [hT.1, hmx]; split <;> omega)).symm⟩
  have hT1 : t2_0.toInt < (T : Int) ∧ t4_0.toInt < (T : Int) ∧ T ≤ 220 := by
    rw [hT.1, hmx] at hTT
    split at hTT <;> omega
  unfold F_Mil_mixBits
  generalize ((if t2_0 < t4_0 then t4_0 else t2_0 : Int32) + 1) = a28 at hTT ⊢
  generalize F_Big_lowestLimb R t2_0 t2_1 t3_0 = a33 at hla ⊢
  generalize F_Big_lowestLimb R2 t4_0 t4_1 t5_0 = a40 at hlb ⊢
  have fin : ∀ lx45 lx60 lx80 lx95 : Int32, (lx80 = 0 ∧ lx95 = 0) ∨ (lx80 = 1 ∧ lx95 = 1 ∧ F_Mil_mixed x2 (if t2_1 = 0 then 0 else 1) (if t4_1 = 0 then 0 else 1) = 1) → G1 (bJ 220) (F_Mil_mixBits_J76 x2 R R2 t0_0 t0_1 t1_0 t2_0 t2_1 t3_0 t4_0 t4_1 t5_0 a40 a33 a28 lx45 lx60 lx80 lx95) := by
    intro lx45 lx60 lx80 lx95 h
    unfold F_Mil_mixBits_J76 F_Mil_mixBits_c82
    refine T_mbL ha hb hTT hT1.2.2 hT1.1 hT1.2.1 hla hlb (h.imp (fun h => h.1) (fun h => ⟨h.1, h.2.2⟩)) _ _ _ _ _ _ 0 rfl (by omega) (by rw [e0]; omega) rfl (fun j hj => absurd hj (by omega)) ?_ ?_ ?_ ?_
    · rcases h with ⟨_, h⟩ | ⟨_, h, _⟩ <;> rw [h] <;> decide
    · rcases h with ⟨_, h⟩ | ⟨_, h, _⟩ <;> rw [h] <;> decide
    · intro h9
      rcases h with ⟨_, h⟩ | ⟨h, _⟩
      · rw [h]; rfl
      · rw [h] at h9; exact absurd h9 (by decide)
    · intro h9
      rcases h with ⟨h, _⟩ | ⟨_, h, _⟩
      · rw [h] at h9; exact absurd h9 (by decide)
      · rw [h]
        refine ⟨0, by decide, by decide, ?_, by omega⟩
        show (0 : Int) + 1 * 2147483648 ^ 0 = 2147483648 ^ 0 - 0
        decide
  have mid : ∀ lx45 lx60 : Int32, lx45 = (if t2_1 = 0 then 0 else 1) → lx60 = (if t4_1 = 0 then 0 else 1) → G1 (bJ 220) (F_Mil_mixBits_J52 x2 R R2 t0_0 t0_1 t1_0 t2_0 t2_1 t3_0 t4_0 t4_1 t5_0 a40 a33 a28 lx45 lx60) := by
    intro lx45 lx60 h1 h2
    unfold F_Mil_mixBits_J52
    rw [← h1, ← h2] at fin
    by_cases h : F_Mil_mixed x2 lx45 lx60 = 1
    · rw [if_pos h]
      unfold F_Mil_mixBits_J64
      rw [if_neg (by decide)]
      exact fin lx45 lx60 1 1 (Or.inr ⟨rfl, rfl, h⟩)
    · rw [if_neg h]
      unfold F_Mil_mixBits_J64
      rw [if_pos rfl]
      exact fin lx45 lx60 0 0 (Or.inl ⟨rfl, rfl⟩)
  by_cases h1 : t2_1 = 0
  · rw [if_pos h1]
    unfold F_Mil_mixBits_J40
    by_cases h2 : t4_1 = 0
    · rw [if_pos h2]
      exact mid 0 0 (by rw [if_pos h1]) (by rw [if_pos h2])
    · rw [if_neg h2]
      exact mid 0 1 (by rw [if_pos h1]) (by rw [if_neg h2])
  · rw [if_neg h1]
    unfold F_Mil_mixBits_J40
    by_cases h2 : t4_1 = 0
    · rw [if_pos h2]
      exact mid 1 0 (by rw [if_neg h1]) (by rw [if_pos h2])
    · rw [if_neg h2]
      exact mid 1 1 (by rw [if_neg h1]) (by rw [if_neg h2])

/-! values: decimals: figures dropped, numbers settled -/
theorem v_tB {k M : Nat} (h : 196 * k ≤ 1829 * M) : 10 ^ k ≤ 2147483648 ^ M := by
  have e : (2147483648 : Nat) ^ M = 2 ^ (31 * M) := by rw [Nat.pow_mul]
  rw [e]
  have k1 : (10 : Nat) ^ 59 ≤ 2 ^ 196 := by decide +kernel
  have h2 : (10 ^ 59) ^ k ≤ (2 ^ 196) ^ k := Nat.pow_le_pow_left k1 k
  rw [← Nat.pow_mul, ← Nat.pow_mul] at h2
  have h3 : (2 : Nat) ^ (196 * k) ≤ 2 ^ (59 * (31 * M)) := Nat.pow_le_pow_right (by decide) (by omega)
  have h4 : (10 ^ k) ^ 59 ≤ (2 ^ (31 * M)) ^ 59 := by
    rw [← Nat.pow_mul, ← Nat.pow_mul, Nat.mul_comm k, Nat.mul_comm (31 * M)]
    exact Nat.le_trans h2 h3
  exact (Nat.pow_le_pow_iff_left (by decide)).mp h4
theorem v_tBB {k M : Nat} {v : Int} (hv : v.natAbs < 10 ^ k) (h : 196 * k ≤ 1829 * M) : bB M v := Nat.lt_of_lt_of_le hv (v_tB h)
theorem v_rt {v k : Nat} {x c : Nat} (hv : v < 10 ^ c) (hk : c + x ≤ k) : v * 10 ^ x < 10 ^ k := by
  have h1 : v * 10 ^ x < 10 ^ c * 10 ^ x := Nat.mul_lt_mul_of_pos_right hv (Nat.pow_pos (by decide))
  rw [← Nat.pow_add] at h1
  exact Nat.lt_of_lt_of_le h1 (Nat.pow_le_pow_right (by decide) hk)
theorem v_oi (x : Int32) (h : x = 0 ∨ x = 1) : (x ||| 0 = 0 ∨ x ||| 0 = 1) ∧ (x ||| 1 = 0 ∨ x ||| 1 = 1) := by
  rcases h with h | h <;> rw [h] <;> decide
theorem v_dt (x : Int32) (hx : 0 < x.toInt) : 1 ≤ (Int32.ofNat (10 ^ (if 9 < x then 9 else x : Int32).toNatClampNeg)).toInt ∧ (Int32.ofNat (10 ^ (if 9 < x then 9 else x : Int32).toNatClampNeg)).toInt.toNat = 10 ^ (if 9 < x.toInt then 9 else x.toInt.toNat) := by
  have e9 : (9 : Int32).toInt = 9 := rfl
  have ht : (if 9 < x then 9 else x : Int32).toNatClampNeg = (if 9 < x.toInt then 9 else x.toInt.toNat) := by
    by_cases h9 : 9 < x
    · have := q_ltI h9
      rw [if_pos h9, if_pos (by omega)]
      rfl
    · have := q_nltI h9
      rw [if_neg h9, if_neg (by omega)]
      rfl
  rw [ht]
  have hl : (if 9 < x.toInt then 9 else x.toInt.toNat) < 10 := by split <;> omega
  have h10 := v_ten ⟨(if 9 < x.toInt then 9 else x.toInt.toNat), hl⟩
  dsimp only at h10
  rw [h10]
  have hp := v_t10 (if 9 < x.toInt then 9 else x.toInt.toNat)
  refine ⟨by omega, ?_⟩
  apply Int.ofNat_inj.mp
  rw [Int.toNat_of_nonneg (by omega), Int.natCast_pow]
  rfl
/-- figures dropped -/
theorem T_dfL {R : Int32} {x2 : Int32} {t0_0 : Int32} {t0_1 : Int32} {t1_0 : (Nat → Int32)}  : ∀ (n : Nat) (lx16 : Int32) (lx17 : Int32) (lx18 : Int32) (lx19 : Int32) (lx20 : (Nat → Int32)), ∀ v : Int, lx16.toInt < (n : Int) → 0 < n → (lx17 = 0 ∨ lx17 = 1) → bO R lx18 lx19 lx20 v → ∃ w : Int, w.natAbs = v.natAbs / 10 ^ lx16.toInt.toNat ∧ (0 ≤ v → 0 ≤ w) ∧ (v ≤ 0 → w ≤ 0) ∧ Gr1 (fun r => r = 0 ∨ r = 1) (bW R w) (F_Big_dropFigures_L4 R x2 t0_0 t0_1 t1_0 n lx16 lx17 lx18 lx19 lx20) := by
  have e0 : (0 : Int32).toInt = 0 := rfl
  intro n
  induction n with
  | zero => intros; omega
  | succ n ih =>
    intro lx16 lx17 lx18 lx19 lx20 v hn h0 hr hv
    rw [F_Big_dropFigures_L4.eq_2]
    by_cases g1 : lx16 ≤ 0
    · rw [if_pos g1]
      have g2 := q_leI g1
      refine ⟨v, ?_, id, id, hr, hv⟩
      rw [show lx16.toInt.toNat = 0 by omega, Nat.pow_zero, Nat.div_one]
    rw [if_neg g1]
    have g1' := q_nleI g1
    by_cases g2 : lx18 ≤ 0
    · rw [if_pos g2]
      have g3 := q_leI g2
      have hv0 : v = 0 := by
        have := hv.pos
        omega
      refine ⟨v, ?_, id, id, hr, hv⟩
      rw [hv0]
      exact (Nat.zero_div _).symm
    rw [if_neg g2]
    obtain ⟨t1, t2⟩ := v_dt lx16 (by omega)
    generalize Int32.ofNat (10 ^ (if 9 < lx16 then 9 else lx16 : Int32).toNatClampNeg) = t at t1 t2 ⊢
    obtain ⟨d1, w, d2, d3, d4, d5⟩ := W_divS (x := t) hv t1
    generalize F_Big_divideSmall R t lx18 lx19 lx20 = p at d1 d5 ⊢
    have lt := Int32.toInt_lt lx16
    have ej : (lx16 + (-9) : Int32).toInt = lx16.toInt + (-9) := q_addI (b := -9) (y := -9) rfl (by decide) (by omega) (by omega)
    obtain ⟨j, hj⟩ := q_nm (lx16 + (-9) : Int32)
    rw [hj] at ej ⊢
    clear hj
    have fin : ∀ b : Int32, (b = 0 ∨ b = 1) → ∃ w : Int, w.natAbs = v.natAbs / 10 ^ lx16.toInt.toNat ∧ (0 ≤ v → 0 ≤ w) ∧ (v ≤ 0 → w ≤ 0) ∧ Gr1 (fun r => r = 0 ∨ r = 1) (bW R w) (F_Big_dropFigures_L4 R x2 t0_0 t0_1 t1_0 n j b p.2.1 p.2.2.1 p.2.2.2) := by
      intro b hb
      obtain ⟨u, u1, u2, u3, u4⟩ := ih j b p.2.1 p.2.2.1 p.2.2.2 w (by omega) (by omega) hb d5
      refine ⟨u, ?_, fun h => u2 (d3 h), fun h => u3 (d4 h), u4⟩
      have hx : (if 9 < lx16.toInt then 9 else lx16.toInt.toNat) + j.toInt.toNat = lx16.toInt.toNat := by
        split <;> omega
      rw [u1, d2, t2, Nat.div_div_eq_div_mul, ← Nat.pow_add, hx]
    by_cases g3 : p.1 = 0
    · rw [if_pos g3]
      exact fin _ (v_oi _ hr).1
    · rw [if_neg g3]
      exact fin _ (v_oi _ hr).2
theorem W_drop {R : Int32} {x2 : Int32} {t0_0 : Int32} {t0_1 : Int32} {t1_0 : (Nat → Int32)} {v : Int} (hv : bO R t0_0 t0_1 t1_0 v) : ∃ w : Int, w.natAbs = v.natAbs / 10 ^ x2.toInt.toNat ∧ (0 ≤ v → 0 ≤ w) ∧ (v ≤ 0 → w ≤ 0) ∧ Gr1 (fun r => r = 0 ∨ r = 1) (bW R w) (F_Big_dropFigures R x2 t0_0 t0_1 t1_0) := by
  unfold F_Big_dropFigures
  exact T_dfL _ _ _ _ _ _ v (by omega) (by omega) (Or.inl rfl) hv
/-- a decimal: its number of a room R, scale, figures -/
def dO (R s n : Int32) (f : Nat → Int32) (sc fc : Int32) (v : Int) : Prop := bO R s n f v ∧ (∃ c : Nat, fc.toInt = (c : Int) ∧ vF v c ∧ c ≤ 1000) ∧ -10000 ≤ sc.toInt ∧ sc.toInt ≤ 10000
theorem dO.B {R s n sc fc : Int32} {f : Nat → Int32} {v : Int} (h : dO R s n f sc fc v) : bB 108 v := by
  obtain ⟨_, ⟨c, _, h2, h3⟩, _⟩ := h
  exact v_tBB h2.2.1 (by omega)
/-- settled: as it was, or the number with its figures -/
theorem T_settle {R : Int32} {x3 : Int64} {R2 : Int32} {t0_0 : Int32} {t0_1 : Int32} {t1_0 : (Nat → Int32)} {t2_0 : Int32} {t2_1 : Int32} {t3_0 : (Nat → Int32)} {t4_0 : Int32} {t4_1 : Int32} {t5_0 : Int32} {t5_1 : Int32} {t6_0 : (Nat → Int32)} {v : Int} {M : Nat} (h : bO R t2_0 t2_1 t3_0 v) (hM : bB M v) (hM2 : M + 1 < 220) (hw : bI 220 t0_0 t0_1 t1_0) (hR2 : 108 ≤ R2.toInt) (hR3 : R2.toInt ≤ 220) (hd : ∃ u, dO R2 t5_0 t5_1 t6_0 t4_0 t4_1 u) : (S_DW_settle R x3 R2 t0_0 t0_1 t1_0 t2_0 t2_1 t3_0 t4_0 t4_1 t5_0 t5_1 t6_0) ∧ ((F_DW_settle R x3 R2 t0_0 t0_1 t1_0 t2_0 t2_1 t3_0 t4_0 t4_1 t5_0 t5_1 t6_0).1 = 0 ∨ (F_DW_settle R x3 R2 t0_0 t0_1 t1_0 t2_0 t2_1 t3_0 t4_0 t4_1 t5_0 t5_1 t6_0).1 = 1) ∧ bI 220 (F_DW_settle R x3 R2 t0_0 t0_1 t1_0 t2_0 t2_1 t3_0 t4_0 t4_1 t5_0 t5_1 t6_0).2.1 (F_DW_settle R x3 R2 t0_0 t0_1 t1_0 t2_0 t2_1 t3_0 t4_0 t4_1 t5_0 t5_1 t6_0).2.2.1 (F_DW_settle R x3 R2 t0_0 t0_1 t1_0 t2_0 t2_1 t3_0 t4_0 t4_1 t5_0 t5_1 t6_0).2.2.2.1 ∧ (∃ u, dO R2 (F_DW_settle R x3 R2 t0_0 t0_1 t1_0 t2_0 t2_1 t3_0 t4_0 t4_1 t5_0 t5_1 t6_0).2.2.2.2.2.2.1 (F_DW_settle R x3 R2 t0_0 t0_1 t1_0 t2_0 t2_1 t3_0 t4_0 t4_1 t5_0 t5_1 t6_0).2.2.2.2.2.2.2.1 (F_DW_settle R x3 R2 t0_0 t0_1 t1_0 t2_0 t2_1 t3_0 t4_0 t4_1 t5_0 t5_1 t6_0).2.2.2.2.2.2.2.2 (F_DW_settle R x3 R2 t0_0 t0_1 t1_0 t2_0 t2_1 t3_0 t4_0 t4_1 t5_0 t5_1 t6_0).2.2.2.2.1 (F_DW_settle R x3 R2 t0_0 t0_1 t1_0 t2_0 t2_1 t3_0 t4_0 t4_1 t5_0 t5_1 t6_0).2.2.2.2.2.1 u) := by
  have e := e220
  have ek : (1000 : Int32).toInt = 1000 := rfl
  unfold S_DW_settle F_DW_settle
  have h5 := T_countFigures h hM hM2 hw
  generalize F_Mil_countFigures R t0_0 t0_1 t1_0 t2_0 t2_1 t3_0 = p49 at h5 ⊢
  obtain ⟨⟨c, c1, c2⟩, h6⟩ := h5
  unfold S_DW_settle_c5 F_DW_settle_c5
  by_cases g1 : 1000 < p49.1
  · rw [if_pos g1, if_pos g1]
    exact ⟨trivial, Or.inl rfl, h6, hd⟩
  rw [if_neg g1, if_neg g1]
  have g1' := q_nltI g1
  by_cases g2 : lg_cmp x3 (-10000) < 0
  · rw [if_pos g2, if_pos g2]
    exact ⟨trivial, Or.inl rfl, h6, hd⟩
  rw [if_neg g2, if_neg g2]
  have g2' := q_k2 g2
  by_cases g3 : lg_cmp x3 10000 ≤ 0
  · rw [if_pos g3, if_pos g3]
    have g3' := q_k5 g3
    have m1 : (-10000 : Int64).toInt = -10000 := rfl
    have m2 : (10000 : Int64).toInt = 10000 := rfl
    have hB : bB 108 v := v_tBB c2.2.1 (by omega)
    have hs := h.sB hB
    have h42 : P1 R2 v (F_Big_copy R2 R t5_0 t5_1 t6_0 t2_0 t2_1 t3_0) := W_copy h (by omega) hR3
    generalize (F_Big_copy R2 R t5_0 t5_1 t6_0 t2_0 t2_1 t3_0) = p88 at h42 ⊢
    unfold S_DW_settle_c42 F_DW_settle_c42
    have hl := s_l2i (x := x3) (by omega) (by omega)
    refine ⟨⟨?_, trivial⟩, Or.inr rfl, h6, v, h42, ⟨c, c1, c2, by omega⟩, ?_, ?_⟩
    · have := c2.1
      omega
    · show -10000 ≤ x3.toInt32.toInt
      omega
    · show x3.toInt32.toInt ≤ 10000
      omega
  · rw [if_neg g3, if_neg g3]
    exact ⟨trivial, Or.inl rfl, h6, hd⟩

/-! values: DecimalWork -/
abbrev bK : bT := fun s n f => ∃ v : Int, bO 220 s n f v ∧ bB 218 v
theorem bK.I {s n : Int32} {f : Nat → Int32} (_ : bK s n f) : bI 220 s n f := trivial
theorem bO.K {s n : Int32} {f : Nat → Int32} {v : Int} {M : Nat} (h : bO 220 s n f v) (hM : bB M v) (h2 : M ≤ 218) : bK s n f := ⟨v, h, hM.mono h2⟩
theorem v_cn {x : Int32} : x.toNatClampNeg = x.toInt.toNat := rfl
theorem T_take {R : Int32} {t0_0 : Int64} {t0_1 : Int32} {t1_0 : Int32} {t1_1 : Int32} {t2_0 : (Nat → Int32)} {t3_0 : Int32} {t3_1 : Int32} {t4_0 : Int32} {t4_1 : Int32} {t5_0 : (Nat → Int32)} {v : Int} (h : bO R t4_0 t4_1 t5_0 v) : (F_DW_take R t0_0 t0_1 t1_0 t1_1 t2_0 t3_0 t3_1 t4_0 t4_1 t5_0).1.toInt = t3_0.toInt ∧ bO 220 (F_DW_take R t0_0 t0_1 t1_0 t1_1 t2_0 t3_0 t3_1 t4_0 t4_1 t5_0).2.2.1 (F_DW_take R t0_0 t0_1 t1_0 t1_1 t2_0 t3_0 t3_1 t4_0 t4_1 t5_0).2.2.2.1 (F_DW_take R t0_0 t0_1 t1_0 t1_1 t2_0 t3_0 t3_1 t4_0 t4_1 t5_0).2.2.2.2 v := by
  unfold F_DW_take
  have h1 : P1 220 v (F_Big_copy (220 : Int32) R t1_0 t1_1 t2_0 t4_0 t4_1 t5_0) := W_copy h h.fit (by decide)
  generalize (F_Big_copy (220 : Int32) R t1_0 t1_1 t2_0 t4_0 t4_1 t5_0) = p41 at h1 ⊢
  unfold F_DW_take_c11
  exact ⟨q_i2l rfl, h1⟩
theorem v_abT {v : Int} {x M : Nat} (h : v.natAbs * 10 ^ x < 2147483648 ^ M) : bB M (v * 10 ^ x) := by
  unfold bB
  rw [Int.natAbs_mul, Int.natAbs_pow]
  exact h
theorem T_sumJ {R : Int32} {R2 : Int32} {x4 : Int32} {t0_0 : Int64} {t0_1 : Int32} {t1_0 : Int32} {t1_1 : Int32} {t2_0 : (Nat → Int32)} {t3_0 : Int32} {t3_1 : Int32} {t4_0 : (Nat → Int32)} {t5_0 : Int32} {t5_1 : Int32} {t6_0 : Int32} {t6_1 : Int32} {t7_0 : (Nat → Int32)} {t8_0 : Int32} {t8_1 : Int32} {t9_0 : Int32} {t9_1 : Int32} {t10_0 : (Nat → Int32)} {j64 : Int64} {j58 : Int64} {j50 : Int64} {va vb : Int} (ha : bO R t6_0 t6_1 t7_0 va) (hb : bO R2 t9_0 t9_1 t10_0 vb) (hx : x4 = 0 ∨ x4 = 1) (m1 : va.natAbs * 10 ^ j58.toInt32.toNatClampNeg < 2147483648 ^ 108) (m2 : vb.natAbs * 10 ^ j64.toInt32.toNatClampNeg < 2147483648 ^ 108) : (F_DW_sum_J92 R R2 x4 t0_0 t0_1 t1_0 t1_1 t2_0 t3_0 t3_1 t4_0 t5_0 t5_1 t6_0 t6_1 t7_0 t8_0 t8_1 t9_0 t9_1 t10_0 j64 j58 j50).1 = 1 ∧ G2 bK (bI 220) (F_DW_sum_J92 R R2 x4 t0_0 t0_1 t1_0 t1_1 t2_0 t3_0 t3_1 t4_0 t5_0 t5_1 t6_0 t6_1 t7_0 t8_0 t8_1 t9_0 t9_1 t10_0 j64 j58 j50).2.2.2 := by
  have e := e220
  unfold F_DW_sum_J92
  have h1 : P1 220 va (F_Big_copy (220 : Int32) R t1_0 t1_1 t2_0 t6_0 t6_1 t7_0) := W_copy ha ha.fit (by decide)
  generalize (F_Big_copy (220 : Int32) R t1_0 t1_1 t2_0 t6_0 t6_1 t7_0) = p116 at h1 ⊢
  unfold F_DW_sum_c103
  have h2 : P1 220 (va * 10 ^ j58.toInt32.toNatClampNeg) (F_Big_timesTen (220 : Int32) (j58.toInt32 : Int32) (p116.1 : Int32) (p116.2.1 : Int32) (p116.2.2 : (Nat → Int32))) := W_ten (M := 108) h1 (by decide) m1
  generalize (F_Big_timesTen (220 : Int32) (j58.toInt32 : Int32) (p116.1 : Int32) (p116.2.1 : Int32) (p116.2.2 : (Nat → Int32))) = p142 at h2 ⊢
  unfold F_DW_sum_c116
  have h3 : P1 220 vb (F_Big_copy (220 : Int32) R2 t3_0 t3_1 t4_0 t9_0 t9_1 t10_0) := W_copy hb hb.fit (by decide)
  generalize (F_Big_copy (220 : Int32) R2 t3_0 t3_1 t4_0 t9_0 t9_1 t10_0) = p166 at h3 ⊢
  unfold F_DW_sum_c130
  have h4 : P1 220 (vb * 10 ^ j64.toInt32.toNatClampNeg) (F_Big_timesTen (220 : Int32) (j64.toInt32 : Int32) (p166.1 : Int32) (p166.2.1 : Int32) (p166.2.2 : (Nat → Int32))) := W_ten (M := 108) h3 (by decide) m2
  generalize (F_Big_timesTen (220 : Int32) (j64.toInt32 : Int32) (p166.1 : Int32) (p166.2.1 : Int32) (p166.2.2 : (Nat → Int32))) = p192 at h4 ⊢
  unfold F_DW_sum_c143
  have b2 := v_abT m1
  have b4 := v_abT m2
  have s2 := h2.sB b2
  have s4 := h4.sB b4
  have h5 : P1 220 (if x4 = 0 then va * 10 ^ j58.toInt32.toNatClampNeg + vb * 10 ^ j64.toInt32.toNatClampNeg else va * 10 ^ j58.toInt32.toNatClampNeg - vb * 10 ^ j64.toInt32.toNatClampNeg) (F_Big_addSigned (220 : Int32) (220 : Int32) x4 (p142.1 : Int32) (p142.2.1 : Int32) (p142.2.2 : (Nat → Int32)) (p192.1 : Int32) (p192.2.1 : Int32) (p192.2.2 : (Nat → Int32))) := W_add h2 h4 hx (by omega) (by omega)
  generalize (F_Big_addSigned (220 : Int32) (220 : Int32) x4 (p142.1 : Int32) (p142.2.1 : Int32) (p142.2.2 : (Nat → Int32)) (p192.1 : Int32) (p192.2.1 : Int32) (p192.2.2 : (Nat → Int32))) = p215 at h5 ⊢
  unfold F_DW_sum_c161
  refine ⟨rfl, ⟨_, h5, ?_⟩, h4.I⟩
  split
  · exact (b2.add b4).mono (by decide)
  · exact (b2.sub b4).mono (by decide)
theorem v_sumX {v : Int} {c : Nat} {s f r : Int32} {j : Int64} (hb : bO r s f (fun _ => 0) v ∨ True) (hv : v = 0 ∨ (v.natAbs < 10 ^ c ∧ (c : Int) + j.toInt ≤ 1001)) (j0 : 0 ≤ j.toInt) (j1 : j.toInt ≤ 20000) : v.natAbs * 10 ^ j.toInt32.toNatClampNeg < 2147483648 ^ 108 := by
  rcases hv with h | ⟨h1, h2⟩
  · rw [h, show (0 : Int).natAbs = 0 from rfl, Nat.zero_mul]
    exact Nat.pow_pos (by decide)
  · have hl := s_l2i (x := j) (by omega) (by omega)
    exact Nat.lt_of_lt_of_le (v_rt (k := 1001) h1 (by rw [v_cn, hl]; omega)) (v_tB (by decide))
theorem v_max {a b : Int32} : (if a < b then b else a : Int32).toInt = (if a.toInt < b.toInt then b.toInt else a.toInt) := by
  split
  · rename_i h
    rw [if_pos (q_ltI h)]
  · rename_i h
    rw [if_neg (by have := q_nltI h; omega)]
theorem T_sum {R : Int32} {R2 : Int32} {x4 : Int32} {t0_0 : Int64} {t0_1 : Int32} {t1_0 : Int32} {t1_1 : Int32} {t2_0 : (Nat → Int32)} {t3_0 : Int32} {t3_1 : Int32} {t4_0 : (Nat → Int32)} {t5_0 : Int32} {t5_1 : Int32} {t6_0 : Int32} {t6_1 : Int32} {t7_0 : (Nat → Int32)} {t8_0 : Int32} {t8_1 : Int32} {t9_0 : Int32} {t9_1 : Int32} {t10_0 : (Nat → Int32)} {va vb : Int} (ha : dO R t6_0 t6_1 t7_0 t5_0 t5_1 va) (hb : dO R2 t9_0 t9_1 t10_0 t8_0 t8_1 vb) (hx : x4 = 0 ∨ x4 = 1) (i1 : bI 220 t1_0 t1_1 t2_0) (i2 : bI 220 t3_0 t3_1 t4_0) : ((F_DW_sum R R2 x4 t0_0 t0_1 t1_0 t1_1 t2_0 t3_0 t3_1 t4_0 t5_0 t5_1 t6_0 t6_1 t7_0 t8_0 t8_1 t9_0 t9_1 t10_0).1 = 0 ∧ G2 (bI 220) (bI 220) (F_DW_sum R R2 x4 t0_0 t0_1 t1_0 t1_1 t2_0 t3_0 t3_1 t4_0 t5_0 t5_1 t6_0 t6_1 t7_0 t8_0 t8_1 t9_0 t9_1 t10_0).2.2.2) ∨ ((F_DW_sum R R2 x4 t0_0 t0_1 t1_0 t1_1 t2_0 t3_0 t3_1 t4_0 t5_0 t5_1 t6_0 t6_1 t7_0 t8_0 t8_1 t9_0 t9_1 t10_0).1 = 1 ∧ G2 bK (bI 220) (F_DW_sum R R2 x4 t0_0 t0_1 t1_0 t1_1 t2_0 t3_0 t3_1 t4_0 t5_0 t5_1 t6_0 t6_1 t7_0 t8_0 t8_1 t9_0 t9_1 t10_0).2.2.2) := by
  obtain ⟨ha1, ⟨ca, ca1, ca2, ca3⟩, ha3, ha4⟩ := ha
  obtain ⟨hb1, ⟨cb, cb1, cb2, cb3⟩, hb3, hb4⟩ := hb
  have eK : (1001 : Int64).toInt = 1001 := rfl
  have hm := v_max (a := t5_0) (b := t8_0)
  have hml : (if t5_0 < t8_0 then t8_0 else t5_0 : Int32).toInt64.toInt = (if t5_0.toInt < t8_0.toInt then t8_0.toInt else t5_0.toInt) := q_i2l hm
  have kA : ((if t5_0 < t8_0 then t8_0 else t5_0 : Int32).toInt64 - t5_0.toInt64 : Int64).toInt = (if t5_0.toInt < t8_0.toInt then t8_0.toInt else t5_0.toInt) - t5_0.toInt := q_subL hml (q_i2l rfl) (by split <;> omega) (by split <;> omega)
  have kB : ((if t5_0 < t8_0 then t8_0 else t5_0 : Int32).toInt64 - t8_0.toInt64 : Int64).toInt = (if t5_0.toInt < t8_0.toInt then t8_0.toInt else t5_0.toInt) - t8_0.toInt := q_subL hml (q_i2l rfl) (by split <;> omega) (by split <;> omega)
  unfold F_DW_sum
  generalize ((if t5_0 < t8_0 then t8_0 else t5_0 : Int32).toInt64 - t5_0.toInt64 : Int64) = j58 at kA ⊢
  generalize ((if t5_0 < t8_0 then t8_0 else t5_0 : Int32).toInt64 - t8_0.toInt64 : Int64) = j64 at kB ⊢
  generalize (if t5_0 < t8_0 then t8_0 else t5_0 : Int32).toInt64 = j50
  have a0 : 0 ≤ j58.toInt ∧ j58.toInt ≤ 20000 := by
    rw [kA]
    split <;> omega
  have b0 : 0 ≤ j64.toInt ∧ j64.toInt ≤ 20000 := by
    rw [kB]
    split <;> omega
  have kb : (t8_1.toInt64 + j64 : Int64).toInt = (cb : Int) + j64.toInt := q_addL (q_i2l cb1) rfl (by omega) (by omega)
  have ka : (t5_1.toInt64 + j58 : Int64).toInt = (ca : Int) + j58.toInt := q_addL (q_i2l ca1) rfl (by omega) (by omega)
  have J : (va = 0 ∨ (va.natAbs < 10 ^ ca ∧ (ca : Int) + j58.toInt ≤ 1001)) → (F_DW_sum_J65 R R2 x4 t0_0 t0_1 t1_0 t1_1 t2_0 t3_0 t3_1 t4_0 t5_0 t5_1 t6_0 t6_1 t7_0 t8_0 t8_1 t9_0 t9_1 t10_0 j64 j58 j50).1 = 0 ∧ G2 (bI 220) (bI 220) (F_DW_sum_J65 R R2 x4 t0_0 t0_1 t1_0 t1_1 t2_0 t3_0 t3_1 t4_0 t5_0 t5_1 t6_0 t6_1 t7_0 t8_0 t8_1 t9_0 t9_1 t10_0 j64 j58 j50).2.2.2 ∨ (F_DW_sum_J65 R R2 x4 t0_0 t0_1 t1_0 t1_1 t2_0 t3_0 t3_1 t4_0 t5_0 t5_1 t6_0 t6_1 t7_0 t8_0 t8_1 t9_0 t9_1 t10_0 j64 j58 j50).1 = 1 ∧ G2 bK (bI 220) (F_DW_sum_J65 R R2 x4 t0_0 t0_1 t1_0 t1_1 t2_0 t3_0 t3_1 t4_0 t5_0 t5_1 t6_0 t6_1 t7_0 t8_0 t8_1 t9_0 t9_1 t10_0 j64 j58 j50).2.2.2 := by
    intro hA
    have mA := v_sumX (s := 0) (f := 0) (r := 0) (Or.inr trivial) hA a0.1 a0.2
    unfold F_DW_sum_J65
    by_cases g : t9_0 ≤ 0
    · rw [if_pos g]
      have g' := q_leI g
      have e0 : (0 : Int32).toInt = 0 := rfl
      have vb0 : vb = 0 := by
        have := hb1.pos
        omega
      exact Or.inr (T_sumJ ha1 hb1 hx mA (v_sumX (c := 0) (s := 0) (f := 0) (r := 0) (Or.inr trivial) (Or.inl vb0) b0.1 b0.2))
    · rw [if_neg g]
      by_cases g2 : lg_cmp (t8_1.toInt64 + j64) 1001 ≤ 0
      · rw [if_pos g2]
        have g2' := q_k5 g2
        exact Or.inr (T_sumJ ha1 hb1 hx mA (v_sumX (s := 0) (f := 0) (r := 0) (Or.inr trivial) (Or.inr ⟨cb2.2.1, by omega⟩) b0.1 b0.2))
      · rw [if_neg g2]
        exact Or.inl ⟨rfl, i1, i2⟩
  by_cases g : t6_0 ≤ 0
  · rw [if_pos g]
    have g' := q_leI g
    have e0 : (0 : Int32).toInt = 0 := rfl
    have va0 : va = 0 := by
      have := ha1.pos
      omega
    exact J (Or.inl va0)
  · rw [if_neg g]
    by_cases g2 : 0 < lg_cmp (t5_1.toInt64 + j58) 1001
    · rw [if_pos g2]
      exact Or.inl ⟨rfl, i1, i2⟩
    · rw [if_neg g2]
      have g2' := q_k4 g2
      exact J (Or.inr ⟨ca2.2.1, by omega⟩)
theorem T_multiply {R : Int32} {R2 : Int32} {t0_0 : Int64} {t0_1 : Int32} {t1_0 : Int32} {t1_1 : Int32} {t2_0 : (Nat → Int32)} {t3_0 : Int32} {t3_1 : Int32} {t4_0 : Int32} {t4_1 : Int32} {t5_0 : (Nat → Int32)} {t6_0 : Int32} {t6_1 : Int32} {t7_0 : Int32} {t7_1 : Int32} {t8_0 : (Nat → Int32)} {va vb : Int} (ha : dO R t4_0 t4_1 t5_0 t3_0 t3_1 va) (hb : dO R2 t7_0 t7_1 t8_0 t6_0 t6_1 vb) : G1 bK (F_DW_multiply R R2 t0_0 t0_1 t1_0 t1_1 t2_0 t3_0 t3_1 t4_0 t4_1 t5_0 t6_0 t6_1 t7_0 t7_1 t8_0).2.2 := by
  have e := e220
  have sa := ha.1.sB ha.B
  have sb := hb.1.sB hb.B
  unfold F_DW_multiply
  have h1 : P1 220 (va * vb) (F_Big_product (220 : Int32) R R2 t1_0 t1_1 t2_0 t4_0 t4_1 t5_0 t7_0 t7_1 t8_0) := W_product ha.1 hb.1 (by decide) (by omega)
  generalize (F_Big_product (220 : Int32) R R2 t1_0 t1_1 t2_0 t4_0 t4_1 t5_0 t7_0 t7_1 t8_0) = p53 at h1 ⊢
  unfold F_DW_multiply_c15
  exact h1.K (ha.B.mul hb.B) (by decide)
theorem T_raise {R : Int32} {x3 : Int32} {t0_0 : Int64} {t0_1 : Int32} {t1_0 : Int32} {t1_1 : Int32} {t2_0 : (Nat → Int32)} {t3_0 : Int32} {t3_1 : Int32} {t4_0 : (Nat → Int32)} {t5_0 : Int32} {t5_1 : Int32} {t6_0 : (Nat → Int32)} {t7_0 : Int32} {t7_1 : Int32} {t8_0 : Int32} {t8_1 : Int32} {t9_0 : (Nat → Int32)} {va : Int} (ha : dO R t8_0 t8_1 t9_0 t7_0 t7_1 va) (hx : 0 ≤ x3.toInt) (i2 : bI 220 t5_0 t5_1 t6_0) : ((F_DW_raise R x3 t0_0 t0_1 t1_0 t1_1 t2_0 t3_0 t3_1 t4_0 t5_0 t5_1 t6_0 t7_0 t7_1 t8_0 t8_1 t9_0).1 = 0 ∧ G3 (bI 220) (bI 220) (bI 220) (F_DW_raise R x3 t0_0 t0_1 t1_0 t1_1 t2_0 t3_0 t3_1 t4_0 t5_0 t5_1 t6_0 t7_0 t7_1 t8_0 t8_1 t9_0).2.2.2) ∨ ((F_DW_raise R x3 t0_0 t0_1 t1_0 t1_1 t2_0 t3_0 t3_1 t4_0 t5_0 t5_1 t6_0 t7_0 t7_1 t8_0 t8_1 t9_0).1 = 1 ∧ G3 bK (bI 220) (bI 220) (F_DW_raise R x3 t0_0 t0_1 t1_0 t1_1 t2_0 t3_0 t3_1 t4_0 t5_0 t5_1 t6_0 t7_0 t7_1 t8_0 t8_1 t9_0).2.2.2) := by
  have e := e220
  have sa := ha.1.sB ha.B
  unfold F_DW_raise
  have hp := T_power (x3 := x3) (x4 := 3330) (t0_0 := t3_0) (t0_1 := t3_1) (t1_0 := t4_0) (N := 108) ha.1 hx (by decide) i2 (by decide) (by decide) (by omega)
  generalize F_Mil_power R x3 3330 t3_0 t3_1 t4_0 t5_0 t5_1 t6_0 t8_0 t8_1 t9_0 = p78 at hp ⊢
  obtain ⟨v, q0, q1⟩ := hp
  unfold F_DW_raise_c24
  have h1 : P1 220 v (F_Big_copy (220 : Int32) (220 : Int32) t1_0 t1_1 t2_0 (p78.2.1 : Int32) (p78.2.2.1 : Int32) (p78.2.2.2.1 : (Nat → Int32))) := W_copy q1 q1.fit (by decide)
  generalize (F_Big_copy (220 : Int32) (220 : Int32) t1_0 t1_1 t2_0 (p78.2.1 : Int32) (p78.2.2.1 : Int32) (p78.2.2.2.1 : (Nat → Int32))) = p106 at h1 ⊢
  unfold F_DW_raise_c42
  rcases q0 with ⟨h2, _⟩ | ⟨h2, h3, h4⟩
  · exact Or.inl ⟨h2, h1.I, q1.I, trivial⟩
  · exact Or.inr ⟨h2, h1.K (v_pB (N := 108) (by decide) h4) (by decide), q1.I, trivial⟩
theorem T_strip {R : Int32} {t0_0 : Int64} {t0_1 : Int32} {t1_0 : Int32} {t1_1 : Int32} {t2_0 : (Nat → Int32)} {t3_0 : Int32} {t3_1 : Int32} {t4_0 : (Nat → Int32)} {t5_0 : Int32} {t5_1 : Int32} {t6_0 : Int32} {t6_1 : Int32} {t7_0 : (Nat → Int32)} {va : Int} (ha : dO R t6_0 t6_1 t7_0 t5_0 t5_1 va) (i1 : bI 220 t3_0 t3_1 t4_0) : G2 bK (bI 220) (F_DW_strip R t0_0 t0_1 t1_0 t1_1 t2_0 t3_0 t3_1 t4_0 t5_0 t5_1 t6_0 t6_1 t7_0).2.2 := by
  unfold F_DW_strip
  have h1 := T_take (t0_0 := t0_0) (t0_1 := t0_1) (t1_0 := t1_0) (t1_1 := t1_1) (t2_0 := t2_0) (t3_0 := t5_0) (t3_1 := t5_1) ha.1
  generalize F_DW_take R t0_0 t0_1 t1_0 t1_1 t2_0 t5_0 t5_1 t6_0 t6_1 t7_0 = p54 at h1 ⊢
  unfold F_DW_strip_c2
  split
  · exact ⟨h1.2.K ha.B (by decide), i1⟩
  · have h2 := T_dropZeros (x3 := 1000) h1.2 i1
    generalize F_Mil_dropZeros 220 1000 t3_0 t3_1 t4_0 p54.2.2.1 p54.2.2.2.1 p54.2.2.2.2 = p94 at h2 ⊢
    unfold F_DW_strip_c38
    obtain ⟨w, w1, w2, w3, w4, w5, w6, w7⟩ := h2
    refine ⟨⟨w, w7, (ha.B.le ?_).mono (by decide)⟩, w6⟩
    rw [← w1]
    exact Nat.le_mul_of_pos_right _ (Nat.pow_pos (by decide))

/-! values: DecimalWork 2 -/
theorem bO.abs1 {R s n : Int32} {f : Nat → Int32} {v : Int} (h : bO R s n f v) (hs : 0 < s.toInt) : bO R s 1 f (-(v.natAbs : Int)) := ⟨h.1, Or.inr ⟨rfl, hs⟩, by rw [bS_1, h.abs], h.2.2.2.1, h.2.2.2.2⟩
theorem bB.a0 {M : Nat} {v : Int} (h : bB M v) : bB M (v.natAbs : Int) := h.le (by omega)
theorem bB.a1 {M : Nat} {v : Int} (h : bB M v) : bB M (-(v.natAbs : Int)) := h.le (by omega)
/-- a sign put on a number -/
theorem T_roundJ {x2 : Int32} {x3 : Int32} {t0_0 : Int64} {t0_1 : Int32} {t1_0 : Int32} {t1_1 : Int32} {t2_0 : (Nat → Int32)} {t3_0 : Int32} {t3_1 : Int32} {t4_0 : (Nat → Int32)} {p36 : (Int32 × Int32 × Int32 × (Nat → Int32))} {a24 : Int32} {y26 : Int32} {y27 : Int32} {f28 : (Nat → Int32)} {lx47 : Int32} {lx72 : Int32} {lx73 : Int32} {lx74 : (Nat → Int32)} {lx75 : Int32} {lx76 : Int32} {lx77 : (Nat → Int32)} {v : Int} (h : bO 220 lx72 lx73 lx74 v) (hM : bB 218 v) (i : bI 220 lx75 lx76 lx77) : (F_DW_roundLast_J87 x2 x3 t0_0 t0_1 t1_0 t1_1 t2_0 t3_0 t3_1 t4_0 p36 a24 y26 y27 f28 lx47 lx72 lx73 lx74 lx75 lx76 lx77).1 = 1 ∧ G2 bK (bI 220) (F_DW_roundLast_J87 x2 x3 t0_0 t0_1 t1_0 t1_1 t2_0 t3_0 t3_1 t4_0 p36 a24 y26 y27 f28 lx47 lx72 lx73 lx74 lx75 lx76 lx77).2 := by
  unfold F_DW_roundLast_J87
  split
  · exact ⟨rfl, ⟨_, h.abs0, hM.a0⟩, i⟩
  · split
    · exact ⟨rfl, ⟨_, h.abs0, hM.a0⟩, i⟩
    · rename_i h2
      exact ⟨rfl, ⟨_, h.abs1 (v_nle0 h2), hM.a1⟩, i⟩
theorem T_roundLast {x2 : Int32} {x3 : Int32} {t0_0 : Int64} {t0_1 : Int32} {t1_0 : Int32} {t1_1 : Int32} {t2_0 : (Nat → Int32)} {t3_0 : Int32} {t3_1 : Int32} {t4_0 : (Nat → Int32)} {v : Int} {M : Nat} (h : bO 220 t1_0 t1_1 t2_0 v) (hv : 0 ≤ v) (hM : bB M v) (hM2 : M + 1 ≤ 218) (i : bI 220 t3_0 t3_1 t4_0) : ((F_DW_roundLast x2 x3 t0_0 t0_1 t1_0 t1_1 t2_0 t3_0 t3_1 t4_0).1 = 0 ∨ (F_DW_roundLast x2 x3 t0_0 t0_1 t1_0 t1_1 t2_0 t3_0 t3_1 t4_0).1 = 1) ∧ G2 bK (bI 220) (F_DW_roundLast x2 x3 t0_0 t0_1 t1_0 t1_1 t2_0 t3_0 t3_1 t4_0).2 := by
  have e := e220
  unfold F_DW_roundLast
  obtain ⟨_, w, d2, d3, d4, d5⟩ := W_divS (x := 10) h (by decide)
  generalize F_Big_divideSmall 220 10 t1_0 t1_1 t2_0 = p36 at d5 ⊢
  have hw := d3 hv
  have hB : bB M w := hM.le (by rw [d2]; exact Nat.div_le_self _ _)
  have sw := d5.sB hB
  have J44 : ∀ lx47 : Int32, (F_DW_roundLast_J44 x2 x3 t0_0 t0_1 t1_0 t1_1 t2_0 t3_0 t3_1 t4_0 p36 p36.1 p36.2.1 p36.2.2.1 p36.2.2.2 lx47).1 = 1 ∧ G2 bK (bI 220) (F_DW_roundLast_J44 x2 x3 t0_0 t0_1 t1_0 t1_1 t2_0 t3_0 t3_1 t4_0 p36 p36.1 p36.2.1 p36.2.2.1 p36.2.2.2 lx47).2 := by
    intro lx47
    unfold F_DW_roundLast_J44
    split
    · exact T_roundJ d5 (hB.mono (by omega)) i
    · split
      · exact T_roundJ d5 (hB.mono (by omega)) i
      · have h1 : P1 220 1 (F_Big_setLong (220 : Int32) (1 : Int64) t3_0 t3_1 t4_0) := W_setLong (x := 1) (by decide) (by decide)
        generalize (F_Big_setLong (220 : Int32) (1 : Int64) t3_0 t3_1 t4_0) = p144 at h1 ⊢
        unfold F_DW_roundLast_c67
        have s1 := h1.sB v_one
        have h2 := W_addSize d5 hw h1 (by omega) (by omega)
        generalize F_Big_addSize 220 220 p36.2.1 p36.2.2.1 p36.2.2.2 p144.1 p144.2.1 p144.2.2 = p167 at h2 ⊢
        unfold F_DW_roundLast_c84
        refine T_roundJ h2 ?_ h1.I
        have h3 : bB (M + 1) (w + ((1 : Int).natAbs : Int)) := by
          unfold bB at hB ⊢
          rw [Nat.pow_succ]
          show (w + 1).natAbs < _
          omega
        exact h3.mono hM2
  have J29 : ∀ lx47 : Int32, ((F_DW_roundLast_J29 x2 x3 t0_0 t0_1 t1_0 t1_1 t2_0 t3_0 t3_1 t4_0 p36 p36.1 p36.2.1 p36.2.2.1 p36.2.2.2 lx47).1 = 0 ∨ (F_DW_roundLast_J29 x2 x3 t0_0 t0_1 t1_0 t1_1 t2_0 t3_0 t3_1 t4_0 p36 p36.1 p36.2.1 p36.2.2.1 p36.2.2.2 lx47).1 = 1) ∧ G2 bK (bI 220) (F_DW_roundLast_J29 x2 x3 t0_0 t0_1 t1_0 t1_1 t2_0 t3_0 t3_1 t4_0 p36 p36.1 p36.2.1 p36.2.2.1 p36.2.2.2 lx47).2 := by
    intro lx47
    unfold F_DW_roundLast_J29
    split
    · exact ⟨Or.inr (J44 _).1, (J44 _).2⟩
    · split
      · exact ⟨Or.inl rfl, ⟨_, d5, hB.mono (by omega)⟩, i⟩
      · exact ⟨Or.inr (J44 _).1, (J44 _).2⟩
  unfold F_DW_roundLast_c9 F_DW_roundLast_J24
  split
  · split
    · exact J29 _
    · exact J29 _
  · exact J29 _
theorem T_divideRaised {R : Int32} {R2 : Int32} {x4 : Int32} {t0_0 : Int64} {t0_1 : Int32} {t1_0 : Int32} {t1_1 : Int32} {t2_0 : (Nat → Int32)} {t3_0 : Int32} {t3_1 : Int32} {t4_0 : (Nat → Int32)} {t5_0 : Int32} {t5_1 : Int32} {t6_0 : (Nat → Int32)} {t7_0 : Int32} {t7_1 : Int32} {t8_0 : Int32} {t8_1 : Int32} {t9_0 : (Nat → Int32)} {t10_0 : Int32} {t10_1 : Int32} {t11_0 : Int32} {t11_1 : Int32} {t12_0 : (Nat → Int32)} {va vb : Int} {M : Nat} (ha : bO R t8_0 t8_1 t9_0 va) (hb : bO R2 t11_0 t11_1 t12_0 vb) (hv : vb ≠ 0) (hm : va.natAbs * 10 ^ x4.toNatClampNeg < 2147483648 ^ M) (hM : M ≤ 218) : (S_DW_divideRaised R R2 x4 t0_0 t0_1 t1_0 t1_1 t2_0 t3_0 t3_1 t4_0 t5_0 t5_1 t6_0 t7_0 t7_1 t8_0 t8_1 t9_0 t10_0 t10_1 t11_0 t11_1 t12_0) ∧ ((F_DW_divideRaised R R2 x4 t0_0 t0_1 t1_0 t1_1 t2_0 t3_0 t3_1 t4_0 t5_0 t5_1 t6_0 t7_0 t7_1 t8_0 t8_1 t9_0 t10_0 t10_1 t11_0 t11_1 t12_0).2.1 = 0 ∨ (F_DW_divideRaised R R2 x4 t0_0 t0_1 t1_0 t1_1 t2_0 t3_0 t3_1 t4_0 t5_0 t5_1 t6_0 t7_0 t7_1 t8_0 t8_1 t9_0 t10_0 t10_1 t11_0 t11_1 t12_0).2.1 = 1) ∧ G4 (bP 220 M) (bI 220) (bI 220) (bW R2 vb) (F_DW_divideRaised R R2 x4 t0_0 t0_1 t1_0 t1_1 t2_0 t3_0 t3_1 t4_0 t5_0 t5_1 t6_0 t7_0 t7_1 t8_0 t8_1 t9_0 t10_0 t10_1 t11_0 t11_1 t12_0).2.2 := by
  have e := e220
  unfold S_DW_divideRaised F_DW_divideRaised
  have h1 : P1 220 va (F_Big_copy (220 : Int32) R t5_0 t5_1 t6_0 t8_0 t8_1 t9_0) := W_copy ha ha.fit (by decide)
  generalize (F_Big_copy (220 : Int32) R t5_0 t5_1 t6_0 t8_0 t8_1 t9_0) = p70 at h1 ⊢
  unfold S_DW_divideRaised_c11 F_DW_divideRaised_c11
  have h2 : P1 220 (va * 10 ^ x4.toNatClampNeg) (F_Big_timesTen (220 : Int32) x4 (p70.1 : Int32) (p70.2.1 : Int32) (p70.2.2 : (Nat → Int32))) := W_ten (M := M) h1 (by omega) hm
  generalize (F_Big_timesTen (220 : Int32) x4 (p70.1 : Int32) (p70.2.1 : Int32) (p70.2.2 : (Nat → Int32))) = p93 at h2 ⊢
  unfold S_DW_divideRaised_c22 F_DW_divideRaised_c22
  obtain ⟨w, w1, w2, w3, w4, w5⟩ := W_drop (x2 := -x4) h2
  have hB : bB M w := (v_abT hm).le (by rw [w1]; exact Nat.div_le_self _ _)
  generalize F_Big_dropFigures 220 (-x4) p93.1 p93.2.1 p93.2.2 = p122 at w4 w5 ⊢
  unfold S_DW_divideRaised_c35 F_DW_divideRaised_c35
  have sw := w5.sB hB
  have h3 : S_Big_divideBy (220 : Int32) R2 (220 : Int32) (p122.2.1 : Int32) (p122.2.2.1 : Int32) (p122.2.2.2 : (Nat → Int32)) t11_0 t11_1 t12_0 t3_0 t3_1 t4_0 ∧ P3 220 R2 220 (w.tmod vb) vb ((w.natAbs / vb.natAbs : Nat) : Int) (F_Big_divideBy (220 : Int32) R2 (220 : Int32) (p122.2.1 : Int32) (p122.2.2.1 : Int32) (p122.2.2.2 : (Nat → Int32)) t11_0 t11_1 t12_0 t3_0 t3_1 t4_0) := W_divideBy w5 hb hv (by omega) (by omega) (by decide)
  refine v_owe h3.1 ?_
  replace h3 := h3.2
  generalize (F_Big_divideBy (220 : Int32) R2 (220 : Int32) (p122.2.1 : Int32) (p122.2.2.1 : Int32) (p122.2.2.2 : (Nat → Int32)) t11_0 t11_1 t12_0 t3_0 t3_1 t4_0) = p170 at h3 ⊢
  unfold S_DW_divideRaised_c59 F_DW_divideRaised_c59
  have hq : bP 220 M _ _ _ := ⟨_, Int.natCast_nonneg _, hB.ndiv, W_copy (R := 220) (s := t1_0) (neg := t1_1) (f := t2_0) h3.2.2 h3.2.2.fit (by decide)⟩
  split
  · exact ⟨trivial, (v_oi _ w4).1, hq, h3.2.2.I, h3.1.I, h3.2.1⟩
  · exact ⟨trivial, (v_oi _ w4).2, hq, h3.2.2.I, h3.1.I, h3.2.1⟩
theorem T_divideRaised_a {R2 : Int32} {x4 : Int32} {t0_0 : Int64} {t0_1 : Int32} {t1_0 : Int32} {t1_1 : Int32} {t2_0 : (Nat → Int32)} {t3_0 : Int32} {t3_1 : Int32} {t4_0 : (Nat → Int32)} {t5_0 : Int32} {t5_1 : Int32} {t6_0 : (Nat → Int32)} {t7_0 : Int32} {t7_1 : Int32} {t8_0 : Int32} {t8_1 : Int32} {t9_0 : (Nat → Int32)} {va vb : Int} {M : Nat} (ha : bO R2 t8_0 t8_1 t9_0 va) (hb : bO R2 t8_0 t8_1 t9_0 vb) (hv : vb ≠ 0) (hm : va.natAbs * 10 ^ x4.toNatClampNeg < 2147483648 ^ M) (hM : M ≤ 218) : (S_DW_divideRaised_a R2 x4 t0_0 t0_1 t1_0 t1_1 t2_0 t3_0 t3_1 t4_0 t5_0 t5_1 t6_0 t7_0 t7_1 t8_0 t8_1 t9_0) ∧ ((F_DW_divideRaised_a R2 x4 t0_0 t0_1 t1_0 t1_1 t2_0 t3_0 t3_1 t4_0 t5_0 t5_1 t6_0 t7_0 t7_1 t8_0 t8_1 t9_0).2.1 = 0 ∨ (F_DW_divideRaised_a R2 x4 t0_0 t0_1 t1_0 t1_1 t2_0 t3_0 t3_1 t4_0 t5_0 t5_1 t6_0 t7_0 t7_1 t8_0 t8_1 t9_0).2.1 = 1) ∧ G4 (bP 220 M) (bI 220) (bI 220) (bW R2 vb) (F_DW_divideRaised_a R2 x4 t0_0 t0_1 t1_0 t1_1 t2_0 t3_0 t3_1 t4_0 t5_0 t5_1 t6_0 t7_0 t7_1 t8_0 t8_1 t9_0).2.2 := by
  have e := e220
  unfold S_DW_divideRaised_a F_DW_divideRaised_a
  have h1 : P1 220 va (F_Big_copy (220 : Int32) R2 t5_0 t5_1 t6_0 t8_0 t8_1 t9_0) := W_copy ha ha.fit (by decide)
  generalize (F_Big_copy (220 : Int32) R2 t5_0 t5_1 t6_0 t8_0 t8_1 t9_0) = p57 at h1 ⊢
  unfold S_DW_divideRaised_a_c11 F_DW_divideRaised_a_c11
  have h2 : P1 220 (va * 10 ^ x4.toNatClampNeg) (F_Big_timesTen (220 : Int32) x4 (p57.1 : Int32) (p57.2.1 : Int32) (p57.2.2 : (Nat → Int32))) := W_ten (M := M) h1 (by omega) hm
  generalize (F_Big_timesTen (220 : Int32) x4 (p57.1 : Int32) (p57.2.1 : Int32) (p57.2.2 : (Nat → Int32))) = p80 at h2 ⊢
  unfold S_DW_divideRaised_a_c22 F_DW_divideRaised_a_c22
  obtain ⟨w, w1, w2, w3, w4, w5⟩ := W_drop (x2 := -x4) h2
  have hB : bB M w := (v_abT hm).le (by rw [w1]; exact Nat.div_le_self _ _)
  generalize F_Big_dropFigures 220 (-x4) p80.1 p80.2.1 p80.2.2 = p109 at w4 w5 ⊢
  unfold S_DW_divideRaised_a_c35 F_DW_divideRaised_a_c35
  have sw := w5.sB hB
  have h3 : S_Big_divideBy (220 : Int32) R2 (220 : Int32) (p109.2.1 : Int32) (p109.2.2.1 : Int32) (p109.2.2.2 : (Nat → Int32)) t8_0 t8_1 t9_0 t3_0 t3_1 t4_0 ∧ P3 220 R2 220 (w.tmod vb) vb ((w.natAbs / vb.natAbs : Nat) : Int) (F_Big_divideBy (220 : Int32) R2 (220 : Int32) (p109.2.1 : Int32) (p109.2.2.1 : Int32) (p109.2.2.2 : (Nat → Int32)) t8_0 t8_1 t9_0 t3_0 t3_1 t4_0) := W_divideBy w5 hb hv (by omega) (by omega) (by decide)
  refine v_owe h3.1 ?_
  replace h3 := h3.2
  generalize (F_Big_divideBy (220 : Int32) R2 (220 : Int32) (p109.2.1 : Int32) (p109.2.2.1 : Int32) (p109.2.2.2 : (Nat → Int32)) t8_0 t8_1 t9_0 t3_0 t3_1 t4_0) = p157 at h3 ⊢
  unfold S_DW_divideRaised_a_c59 F_DW_divideRaised_a_c59
  have hq : bP 220 M _ _ _ := ⟨_, Int.natCast_nonneg _, hB.ndiv, W_copy (R := 220) (s := t1_0) (neg := t1_1) (f := t2_0) h3.2.2 h3.2.2.fit (by decide)⟩
  split
  · exact ⟨trivial, (v_oi _ w4).1, hq, h3.2.2.I, h3.1.I, h3.2.1⟩
  · exact ⟨trivial, (v_oi _ w4).2, hq, h3.2.2.I, h3.1.I, h3.2.1⟩
/-- shortened -/
theorem T_shortenJ {x2 : Int32} {x3 : Int32} {x4 : Int64} {x5 : Int32} {t0_0 : Int64} {t0_1 : Int32} {t1_0 : Int32} {t1_1 : Int32} {t2_0 : (Nat → Int32)} {t3_0 : Int32} {t3_1 : Int32} {t4_0 : (Nat → Int32)} {t5_0 : Int32} {t5_1 : Int32} {t6_0 : (Nat → Int32)} {p44 : (Int32 × Int32 × (Nat → Int32))} {lx54 : Int32} {lx55 : Int32} {lx56 : Int32} {lx57 : (Nat → Int32)} {v : Int} {M : Nat} (h : bO 220 t1_0 t1_1 t2_0 v) (hv : 0 ≤ v) (hM : bB M v) (hM2 : M + 1 ≤ 218) (i : bI 220 lx55 lx56 lx57) (i2 : bI 220 t5_0 t5_1 t6_0) : ((F_DW_shorten_J44 x2 x3 x4 x5 t0_0 t0_1 t1_0 t1_1 t2_0 t3_0 t3_1 t4_0 t5_0 t5_1 t6_0 p44 lx54 lx55 lx56 lx57).1 = 0 ∨ (F_DW_shorten_J44 x2 x3 x4 x5 t0_0 t0_1 t1_0 t1_1 t2_0 t3_0 t3_1 t4_0 t5_0 t5_1 t6_0 p44 lx54 lx55 lx56 lx57).1 = 1) ∧ G3 bK (bI 220) (bI 220) (F_DW_shorten_J44 x2 x3 x4 x5 t0_0 t0_1 t1_0 t1_1 t2_0 t3_0 t3_1 t4_0 t5_0 t5_1 t6_0 p44 lx54 lx55 lx56 lx57).2.2.2 := by
  unfold F_DW_shorten_J44
  have h1 : (fun p => (p.1 = 0 ∨ p.1 = 1) ∧ G2 bK (bI 220) p.2) (F_DW_roundLast x2 x5 t0_0 t0_1 t1_0 t1_1 t2_0 lx55 lx56 lx57) := T_roundLast h hv hM hM2 i
  generalize (F_DW_roundLast x2 x5 t0_0 t0_1 t1_0 t1_1 t2_0 lx55 lx56 lx57) = p106 at h1 ⊢
  unfold F_DW_shorten_c50
  obtain ⟨_, ⟨w, w1, w2⟩, h3⟩ := h1
  split
  · exact ⟨Or.inl rfl, ⟨w, w1, w2⟩, h3, i2⟩
  · split
    · have h4 := T_countFigures w1 w2 (by decide) i2
      generalize F_Mil_countFigures 220 t5_0 t5_1 t6_0 p106.2.1 p106.2.2.1 p106.2.2.2.1 = p139 at h4 ⊢
      unfold F_DW_shorten_c107
      split
      · exact ⟨Or.inr rfl, ⟨w, w1, w2⟩, h3, h4.2⟩
      · obtain ⟨u, u1, u2, u3, u4, u5⟩ := W_drop (x2 := 1) w1
        generalize F_Big_dropFigures 220 1 p106.2.1 p106.2.2.1 p106.2.2.2.1 = p170 at u4 u5 ⊢
        unfold F_DW_shorten_c122
        exact ⟨Or.inr rfl, ⟨u, u5, w2.le (by rw [u1]; exact Nat.div_le_self _ _)⟩, h3, h4.2⟩
    · have h4 := T_dropZeros (x3 := t0_0 - x4) w1 i2
      generalize F_Mil_dropZeros 220 (t0_0 - x4) t5_0 t5_1 t6_0 p106.2.1 p106.2.2.1 p106.2.2.2.1 = p214 at h4 ⊢
      unfold F_DW_shorten_c85
      obtain ⟨u, u1, u2, u3, u4, u5, u6, u7⟩ := h4
      refine ⟨Or.inr rfl, ⟨u, u7, w2.le ?_⟩, h3, u6⟩
      rw [← u1]
      exact Nat.le_mul_of_pos_right _ (Nat.pow_pos (by decide))
theorem T_shorten {x2 : Int32} {x3 : Int32} {x4 : Int64} {x5 : Int32} {t0_0 : Int64} {t0_1 : Int32} {t1_0 : Int32} {t1_1 : Int32} {t2_0 : (Nat → Int32)} {t3_0 : Int32} {t3_1 : Int32} {t4_0 : (Nat → Int32)} {t5_0 : Int32} {t5_1 : Int32} {t6_0 : (Nat → Int32)} {v : Int} {M : Nat} (h : bO 220 t1_0 t1_1 t2_0 v) (hv : 0 ≤ v) (hM : bB M v) (hM2 : M + 1 ≤ 218) (i2 : bI 220 t5_0 t5_1 t6_0) : ((F_DW_shorten x2 x3 x4 x5 t0_0 t0_1 t1_0 t1_1 t2_0 t3_0 t3_1 t4_0 t5_0 t5_1 t6_0).1 = 0 ∨ (F_DW_shorten x2 x3 x4 x5 t0_0 t0_1 t1_0 t1_1 t2_0 t3_0 t3_1 t4_0 t5_0 t5_1 t6_0).1 = 1) ∧ G3 bK (bI 220) (bI 220) (F_DW_shorten x2 x3 x4 x5 t0_0 t0_1 t1_0 t1_1 t2_0 t3_0 t3_1 t4_0 t5_0 t5_1 t6_0).2.2.2 := by
  unfold F_DW_shorten
  have h1 : P1 220 v (F_Big_copy (220 : Int32) (220 : Int32) t3_0 t3_1 t4_0 t1_0 t1_1 t2_0) := W_copy h h.fit (by decide)
  generalize (F_Big_copy (220 : Int32) (220 : Int32) t3_0 t3_1 t4_0 t1_0 t1_1 t2_0) = p44 at h1 ⊢
  unfold F_DW_shorten_c14
  split
  · obtain ⟨_, w, d2, d3, d4, d5⟩ := W_divS (x := 10) h1 (by decide)
    generalize F_Big_divideSmall 220 10 p44.1 p44.2.1 p44.2.2 = p275 at d5 ⊢
    unfold F_DW_shorten_c33 F_DW_shorten_J43
    split
    · exact T_shortenJ h hv hM hM2 d5.I i2
    · exact T_shortenJ h hv hM hM2 d5.I i2
  · unfold F_DW_shorten_J43
    exact T_shortenJ h hv hM hM2 h1.I i2
theorem T_towardsZero {R : Int32} {t0_0 : Int64} {t0_1 : Int32} {t1_0 : Int32} {t1_1 : Int32} {t2_0 : (Nat → Int32)} {t3_0 : Int32} {t3_1 : Int32} {t4_0 : Int32} {t4_1 : Int32} {t5_0 : (Nat → Int32)} {va : Int} (ha : dO R t4_0 t4_1 t5_0 t3_0 t3_1 va) : ((F_DW_towardsZero R t0_0 t0_1 t1_0 t1_1 t2_0 t3_0 t3_1 t4_0 t4_1 t5_0).1 = 0 ∨ (F_DW_towardsZero R t0_0 t0_1 t1_0 t1_1 t2_0 t3_0 t3_1 t4_0 t4_1 t5_0).1 = 1) ∧ G1 bK (F_DW_towardsZero R t0_0 t0_1 t1_0 t1_1 t2_0 t3_0 t3_1 t4_0 t4_1 t5_0).2 := by
  have e := e220
  have e0 : (0 : Int32).toInt = 0 := rfl
  have eK : (1000 : Int32).toInt = 1000 := rfl
  have hB := ha.B
  obtain ⟨ha1, ⟨ca, ca1, ca2, ca3⟩, ha3, ha4⟩ := ha
  unfold F_DW_towardsZero
  have h1 : P1 220 va (F_Big_copy (220 : Int32) R t1_0 t1_1 t2_0 t4_0 t4_1 t5_0) := W_copy ha1 ha1.fit (by decide)
  generalize (F_Big_copy (220 : Int32) R t1_0 t1_1 t2_0 t4_0 t4_1 t5_0) = p41 at h1 ⊢
  unfold F_DW_towardsZero_c11
  have J : t4_0 ≤ 0 ∨ (ca : Int) - t3_0.toInt ≤ 1000 → ((F_DW_towardsZero_J41 R t0_0 t0_1 t1_0 t1_1 t2_0 t3_0 t3_1 t4_0 t4_1 t5_0 p41 p41.1 p41.2.1 p41.2.2).1 = 0 ∨ (F_DW_towardsZero_J41 R t0_0 t0_1 t1_0 t1_1 t2_0 t3_0 t3_1 t4_0 t4_1 t5_0 p41 p41.1 p41.2.1 p41.2.2).1 = 1) ∧ G1 bK (F_DW_towardsZero_J41 R t0_0 t0_1 t1_0 t1_1 t2_0 t3_0 t3_1 t4_0 t4_1 t5_0 p41 p41.1 p41.2.1 p41.2.2).2 := by
    intro hh
    unfold F_DW_towardsZero_J41
    by_cases g : t4_0 ≤ 0
    · rw [if_pos g]
      exact ⟨Or.inr rfl, ⟨va, h1, hB.mono (by decide)⟩⟩
    · rw [if_neg g]
      have hh2 : (ca : Int) - t3_0.toInt ≤ 1000 := hh.resolve_left g
      have q3 : (-t3_0 : Int32).toInt = -t3_0.toInt := by
        have := q_subI (a := 0) (b := t3_0) e0 rfl (by omega) (by omega)
        rw [Int32.zero_sub] at this
        omega
      have m1 : va.natAbs * 10 ^ (-t3_0 : Int32).toNatClampNeg < 2147483648 ^ 108 := by
        by_cases hx : -t3_0.toInt < 0
        · rw [v_cn, q3, show (-t3_0.toInt).toNat = 0 by omega, Nat.pow_zero, Nat.mul_one]
          exact hB
        · exact Nat.lt_of_lt_of_le (v_rt (k := 1000) ca2.2.1 (by rw [v_cn, q3]; omega)) (v_tB (by decide))
      have h2 := W_ten (M := 108) h1 (by decide) m1
      generalize F_Big_timesTen 220 (-t3_0) p41.1 p41.2.1 p41.2.2 = p82 at h2 ⊢
      unfold F_DW_towardsZero_c63
      obtain ⟨u, u1, u2, u3, u4, u5⟩ := W_drop (x2 := t3_0) h2
      generalize F_Big_dropFigures 220 t3_0 p82.1 p82.2.1 p82.2.2 = p109 at u4 u5 ⊢
      exact ⟨Or.inr rfl, ⟨u, u5, ((v_abT m1).le (by rw [u1]; exact Nat.div_le_self _ _)).mono (by decide)⟩⟩
  by_cases g : t4_0 ≤ 0
  · rw [if_pos g]
    exact J (Or.inl g)
  · rw [if_neg g]
    by_cases g2 : (t3_1 - t3_0 : Int32) ≤ 1000
    · rw [if_pos g2]
      have g3 := q_leI g2
      rw [q_subI ca1 rfl (by omega) (by omega)] at g3
      exact J (Or.inr (by omega))
    · rw [if_neg g2]
      exact ⟨Or.inl rfl, ⟨va, h1, hB.mono (by decide)⟩⟩

/-! values: DecimalWork 3 -/
abbrev Dq (r s n : Int32) (f : Nat → Int32) : Prop := r = 0 ∨ (r = 1 ∧ bK s n f)
theorem Dq.mk {r s n : Int32} {f : Nat → Int32} (h : r = 0 ∨ r = 1) (k : bK s n f) : Dq r s n f := h.imp id (fun h => ⟨h, k⟩)
theorem T_raiseBelowL {x2 : Int32} {R : Int32} {t0_0 : Int32} {t0_1 : Int32} {t1_0 : (Nat → Int32)} {t2_0 : Int32} {t2_1 : Int32} {t3_0 : (Nat → Int32)} {t4_0 : Int32} {t4_1 : Int32} {t5_0 : (Nat → Int32)} {t6_0 : Int32} {t6_1 : Int32} {t7_0 : (Nat → Int32)} {t8_0 : Int32} {t8_1 : Int32} {t9_0 : (Nat → Int32)} {p60 : (Int32 × Int32 × (Nat → Int32))} {p105 : (Int32 × Int32 × (Nat → Int32) × Int32 × Int32 × (Nat → Int32) × Int32 × Int32 × (Nat → Int32))} {vn vm : Int} (hn : bO 220 t0_0 t0_1 t1_0 vn) (hv : vm ≠ 0) (hMn : bB 108 vn) (hMm : bB 108 vm) : ∀ (n : Nat) (lx132 : Int32) (lx133 : Int32) (lx134 : Int32) (lx135 : (Nat → Int32)) (lx136 : Int32) (lx137 : Int32) (lx138 : (Nat → Int32)) (lx139 : Int32) (lx140 : Int32) (lx141 : (Nat → Int32)) (lx142 : Int32) (lx143 : Int32) (lx144 : (Nat → Int32)), lx132.toInt + 1 < (n : Int) → -1 ≤ lx132.toInt → lx132.toInt ≤ 30 → bI 220 lx133 lx134 lx135 → bU 220 vm 0 lx136 lx137 lx138 → bI 220 lx139 lx140 lx141 → bO R lx142 lx143 lx144 vm → (S_DW_raiseBelow_L48 x2 R t0_0 t0_1 t1_0 t2_0 t2_1 t3_0 t4_0 t4_1 t5_0 t6_0 t6_1 t7_0 t8_0 t8_1 t9_0 p60 p105 n lx132 lx133 lx134 lx135 lx136 lx137 lx138 lx139 lx140 lx141 lx142 lx143 lx144) ∧ G5 bK (bI 220) (bI 220) (bI 220) (bW R vm) (F_DW_raiseBelow_L48 x2 R t0_0 t0_1 t1_0 t2_0 t2_1 t3_0 t4_0 t4_1 t5_0 t6_0 t6_1 t7_0 t8_0 t8_1 t9_0 p60 p105 n lx132 lx133 lx134 lx135 lx136 lx137 lx138 lx139 lx140 lx141 lx142 lx143 lx144) := by
  have e := e220
  have e0 : (0 : Int32).toInt = 0 := rfl
  have sn := hn.sB hMn
  intro n
  induction n with
  | zero => intros; omega
  | succ n ih =>
    intro lx132 lx133 lx134 lx135 lx136 lx137 lx138 lx139 lx140 lx141 lx142 lx143 lx144 hl hl0 hl1 hq hp hw hm
    rw [S_DW_raiseBelow_L48.eq_2, F_DW_raiseBelow_L48.eq_2]
    have sp := hp.B hMm
    obtain ⟨v, v1, v2, v3⟩ := hp
    have hvB : bB 108 v := hMm.le (by omega)
    by_cases hj : lx132 < 0
    · rw [if_pos hj, if_pos hj]
      have h149 : S_Big_divideBy (220 : Int32) R (220 : Int32) t0_0 t0_1 t1_0 lx142 lx143 lx144 lx133 lx134 lx135 ∧ P3 220 R 220 (vn.tmod vm) vm ((vn.natAbs / vm.natAbs : Nat) : Int) (F_Big_divideBy (220 : Int32) R (220 : Int32) t0_0 t0_1 t1_0 lx142 lx143 lx144 lx133 lx134 lx135) := W_divideBy hn hm hv (by omega) (by omega) (by decide)
      refine v_owe h149.1 ?_
      replace h149 := h149.2
      generalize (F_Big_divideBy (220 : Int32) R (220 : Int32) t0_0 t0_1 t1_0 lx142 lx143 lx144 lx133 lx134 lx135) = p224 at h149 ⊢
      unfold S_DW_raiseBelow_c149 F_DW_raiseBelow_c149
      have b1 : bB 108 (vn.tmod vm) := hMm.tmod hv
      have s1 := h149.1.sB b1
      have h173 : P1 220 (vn.tmod vm * v) (F_Big_product (220 : Int32) (220 : Int32) (220 : Int32) lx139 lx140 lx141 (p224.1 : Int32) (p224.2.1 : Int32) (p224.2.2.1 : (Nat → Int32)) lx136 lx137 lx138) := W_product h149.1 v3 (by decide) (by omega)
      generalize (F_Big_product (220 : Int32) (220 : Int32) (220 : Int32) lx139 lx140 lx141 (p224.1 : Int32) (p224.2.1 : Int32) (p224.2.2.1 : (Nat → Int32)) lx136 lx137 lx138) = p253 at h173 ⊢
      unfold S_DW_raiseBelow_c173 F_DW_raiseBelow_c173
      have s2 := h173.sB (b1.mul hvB)
      have h191 : S_Big_divideBy (220 : Int32) R (220 : Int32) (p253.1 : Int32) (p253.2.1 : Int32) (p253.2.2 : (Nat → Int32)) (p224.2.2.2.1 : Int32) (p224.2.2.2.2.1 : Int32) (p224.2.2.2.2.2.1 : (Nat → Int32)) (p224.2.2.2.2.2.2.1 : Int32) (p224.2.2.2.2.2.2.2.1 : Int32) (p224.2.2.2.2.2.2.2.2 : (Nat → Int32)) ∧ P3 220 R 220 ((vn.tmod vm * v).tmod vm) vm (((vn.tmod vm * v).natAbs / vm.natAbs : Nat) : Int) (F_Big_divideBy (220 : Int32) R (220 : Int32) (p253.1 : Int32) (p253.2.1 : Int32) (p253.2.2 : (Nat → Int32)) (p224.2.2.2.1 : Int32) (p224.2.2.2.2.1 : Int32) (p224.2.2.2.2.2.1 : (Nat → Int32)) (p224.2.2.2.2.2.2.1 : Int32) (p224.2.2.2.2.2.2.2.1 : Int32) (p224.2.2.2.2.2.2.2.2 : (Nat → Int32))) := W_divideBy h173 h149.2.1 hv (by omega) (by omega) (by decide)
      refine v_owe h191.1 ?_
      replace h191 := h191.2
      generalize (F_Big_divideBy (220 : Int32) R (220 : Int32) (p253.1 : Int32) (p253.2.1 : Int32) (p253.2.2 : (Nat → Int32)) (p224.2.2.2.1 : Int32) (p224.2.2.2.2.1 : Int32) (p224.2.2.2.2.2.1 : (Nat → Int32)) (p224.2.2.2.2.2.2.1 : Int32) (p224.2.2.2.2.2.2.2.1 : Int32) (p224.2.2.2.2.2.2.2.2 : (Nat → Int32))) = p298 at h191 ⊢
      unfold S_DW_raiseBelow_c191 F_DW_raiseBelow_c191
      have b2 : bB 108 ((vn.tmod vm * v).tmod vm) := hMm.tmod hv
      have h208 : P1 220 ((vn.tmod vm * v).tmod vm) (F_Big_copy (220 : Int32) (220 : Int32) (p224.1 : Int32) (p224.2.1 : Int32) (p224.2.2.1 : (Nat → Int32)) (p298.1 : Int32) (p298.2.1 : Int32) (p298.2.2.1 : (Nat → Int32))) := W_copy h191.1 h191.1.fit (by decide)
      generalize (F_Big_copy (220 : Int32) (220 : Int32) (p224.1 : Int32) (p224.2.1 : Int32) (p224.2.2.1 : (Nat → Int32)) (p298.1 : Int32) (p298.2.1 : Int32) (p298.2.2.1 : (Nat → Int32))) = p328 at h208 ⊢
      unfold S_DW_raiseBelow_c208 F_DW_raiseBelow_c208
      have sE := h208.szE h191.1
      split
      · exact ⟨trivial, ⟨_, h208.abs0, (b2.a0).mono (by decide)⟩, h191.2.2.I, trivial, h191.1.I, h191.2.1⟩
      · split
        · exact ⟨trivial, ⟨_, h208.abs0, (b2.a0).mono (by decide)⟩, h191.2.2.I, trivial, h191.1.I, h191.2.1⟩
        · rename_i h9
          have h10 := v_nle0 h9
          exact ⟨trivial, ⟨_, h208.abs1 (by omega), (b2.a1).mono (by decide)⟩, h191.2.2.I, trivial, h191.1.I, h191.2.1⟩
    · rw [if_neg hj, if_neg hj]
      have hj2 := q_nltI hj
      obtain ⟨k, hk⟩ : ∃ k : Nat, lx132.toInt = (k : Int) := ⟨lx132.toInt.toNat, by omega⟩
      have ej : (lx132 + (-1) : Int32).toInt = lx132.toInt + (-1) := q_addI (b := -1) (y := -1) rfl (by decide) (by omega) (by omega)
      obtain ⟨j, ejj⟩ := q_nm (lx132 + (-1) : Int32)
      rw [ejj] at ej
      have h74 : P1 220 (v * v) (F_Big_product (220 : Int32) (220 : Int32) (220 : Int32) lx139 lx140 lx141 lx136 lx137 lx138 lx136 lx137 lx138) := W_product v3 v3 (by decide) (by omega)
      generalize (F_Big_product (220 : Int32) (220 : Int32) (220 : Int32) lx139 lx140 lx141 lx136 lx137 lx138 lx136 lx137 lx138) = p369 at h74 ⊢
      unfold S_DW_raiseBelow_c74 F_DW_raiseBelow_c74
      obtain ⟨bt, hbt⟩ := q_nm (((x2.toUInt32 >>> (lx132.toUInt32 &&& Int32.toUInt32 31)).toInt32) &&& 1 : Int32)
      have hb1 : 0 ≤ bt.toInt ∧ bt.toInt ≤ 1 := by
        rw [← hbt]
        exact s_and (m := 1) (by decide)
      rw [hbt]
      have m1 : (v * v).natAbs * 10 ^ bt.toNatClampNeg < 2147483648 ^ 217 := by
        have h1 : bB 216 (v * v) := hvB.mul hvB
        have h2 : 10 ^ bt.toNatClampNeg ≤ 10 ^ 1 := Nat.pow_le_pow_right (by decide) (by rw [v_cn]; omega)
        unfold bB at h1
        have h3 := Nat.mul_le_mul_left (v * v).natAbs h2
        rw [show (2147483648 : Nat) ^ 217 = 2147483648 ^ 216 * 2147483648 from Nat.pow_succ ..]
        generalize (2147483648 : Nat) ^ 216 = P at h1 ⊢
        omega
      have h90 := W_ten (M := 217) (x := bt) h74 (by decide) m1
      have b90 := v_abT m1
      have hw0 : 0 ≤ v * v * 10 ^ bt.toNatClampNeg := Int.mul_nonneg (v_sq0 v) (Int.le_of_lt (v_t10 _))
      generalize (v * v * 10 ^ bt.toNatClampNeg) = w at h90 b90 hw0
      generalize F_Big_timesTen 220 bt p369.1 p369.2.1 p369.2.2 = p397 at h90 ⊢
      unfold S_DW_raiseBelow_c90 F_DW_raiseBelow_c90
      have s90 := h90.sB b90
      have h108 : S_Big_divideBy (220 : Int32) R (220 : Int32) (p397.1 : Int32) (p397.2.1 : Int32) (p397.2.2 : (Nat → Int32)) lx142 lx143 lx144 lx133 lx134 lx135 ∧ P3 220 R 220 (w.tmod vm) vm ((w.natAbs / vm.natAbs : Nat) : Int) (F_Big_divideBy (220 : Int32) R (220 : Int32) (p397.1 : Int32) (p397.2.1 : Int32) (p397.2.2 : (Nat → Int32)) lx142 lx143 lx144 lx133 lx134 lx135) := W_divideBy h90 hm hv (by omega) (by omega) (by decide)
      refine v_owe h108.1 ?_
      replace h108 := h108.2
      generalize (F_Big_divideBy (220 : Int32) R (220 : Int32) (p397.1 : Int32) (p397.2.1 : Int32) (p397.2.2 : (Nat → Int32)) lx142 lx143 lx144 lx133 lx134 lx135) = p442 at h108 ⊢
      unfold S_DW_raiseBelow_c108 F_DW_raiseBelow_c108
      have h125 : P1 220 (w.tmod vm) (F_Big_copy (220 : Int32) (220 : Int32) lx136 lx137 lx138 (p442.1 : Int32) (p442.2.1 : Int32) (p442.2.2.1 : (Nat → Int32))) := W_copy h108.1 h108.1.fit (by decide)
      generalize (F_Big_copy (220 : Int32) (220 : Int32) lx136 lx137 lx138 (p442.1 : Int32) (p442.2.1 : Int32) (p442.2.2.1 : (Nat → Int32))) = p472 at h125 ⊢
      unfold S_DW_raiseBelow_c125 F_DW_raiseBelow_c125
      rw [ejj]
      have t1 := v_tmU (u := w) hv
      exact ih _ _ _ _ _ _ _ _ _ _ _ _ _ (by omega) (by omega) (by omega) h108.2.2.I ⟨_, t1, fun _ => v_tm0 hw0, h125⟩ h108.1.I h108.2.1

theorem T_raiseBelow {x2 : Int32} {R : Int32} {t0_0 : Int32} {t0_1 : Int32} {t1_0 : (Nat → Int32)} {t2_0 : Int32} {t2_1 : Int32} {t3_0 : (Nat → Int32)} {t4_0 : Int32} {t4_1 : Int32} {t5_0 : (Nat → Int32)} {t6_0 : Int32} {t6_1 : Int32} {t7_0 : (Nat → Int32)} {t8_0 : Int32} {t8_1 : Int32} {t9_0 : (Nat → Int32)} {vn vm : Int} (hn : bO 220 t0_0 t0_1 t1_0 vn) (hm : bO R t8_0 t8_1 t9_0 vm) (hv : vm ≠ 0) (hMn : bB 108 vn) (hMm : bB 108 vm) (hx : 0 ≤ x2.toInt) (hw : bI 220 t6_0 t6_1 t7_0) : (S_DW_raiseBelow x2 R t0_0 t0_1 t1_0 t2_0 t2_1 t3_0 t4_0 t4_1 t5_0 t6_0 t6_1 t7_0 t8_0 t8_1 t9_0) ∧ G5 bK (bI 220) (bI 220) (bI 220) (bW R vm) (F_DW_raiseBelow x2 R t0_0 t0_1 t1_0 t2_0 t2_1 t3_0 t4_0 t4_1 t5_0 t6_0 t6_1 t7_0 t8_0 t8_1 t9_0) := by
  have e := e220
  unfold S_DW_raiseBelow F_DW_raiseBelow
  have h5 : P1 220 1 (F_Big_setLong (220 : Int32) (1 : Int64) t4_0 t4_1 t5_0) := W_setLong (x := 1) (by decide) (by decide)
  generalize (F_Big_setLong (220 : Int32) (1 : Int64) t4_0 t4_1 t5_0) = p60 at h5 ⊢
  unfold S_DW_raiseBelow_c19 F_DW_raiseBelow_c19
  have s5 := h5.sB v_one
  have h17 : S_Big_divideBy (220 : Int32) R (220 : Int32) (p60.1 : Int32) (p60.2.1 : Int32) (p60.2.2 : (Nat → Int32)) t8_0 t8_1 t9_0 t2_0 t2_1 t3_0 ∧ P3 220 R 220 ((1 : Int).tmod vm) vm (((1 : Int).natAbs / vm.natAbs : Nat) : Int) (F_Big_divideBy (220 : Int32) R (220 : Int32) (p60.1 : Int32) (p60.2.1 : Int32) (p60.2.2 : (Nat → Int32)) t8_0 t8_1 t9_0 t2_0 t2_1 t3_0) := W_divideBy h5 hm hv (by omega) (by omega) (by decide)
  refine v_owe h17.1 ?_
  replace h17 := h17.2
  generalize (F_Big_divideBy (220 : Int32) R (220 : Int32) (p60.1 : Int32) (p60.2.1 : Int32) (p60.2.2 : (Nat → Int32)) t8_0 t8_1 t9_0 t2_0 t2_1 t3_0) = p105 at h17 ⊢
  unfold S_DW_raiseBelow_c37 F_DW_raiseBelow_c37
  obtain ⟨b, b1, b2, b3⟩ := v_bofn hx
  have k1 : (F_Big_bitsOf x2 - 1 : Int32).toInt = (b : Int) - 1 := q_subI (y := 1) b1 rfl (by omega) (by omega)
  exact T_raiseBelowL hn hv hMn hMm _ _ _ _ _ _ _ _ _ _ _ _ _ _ (by omega) (by omega) (by omega) h17.2.2.I ⟨_, v_tmU hv, fun _ => v_tm0 (by decide), h17.1⟩ hw h17.2.1
theorem v_absI {x : Int32} (h : -1000000 ≤ x.toInt) (h2 : x.toInt ≤ 1000000) : (F_jMath_abs_II x).toInt = (x.toInt.natAbs : Int) := by
  have e0 : (0 : Int32).toInt = 0 := rfl
  unfold F_jMath_abs_II
  split
  · rename_i h3
    have := q_leI h3
    omega
  · rename_i h3
    have := q_nleI h3
    have q := q_subI (a := 0) (b := x) e0 rfl (by omega) (by omega)
    rw [Int32.zero_sub] at q
    rw [q]
    omega
abbrev G5K (Rb : Int32) (vb : Int) := G5 bK (bI 220) (bI 220) (bI 220) (bW Rb vb)
theorem T_rest {R : Int32} {R2 : Int32} {t0_0 : Int64} {t0_1 : Int32} {t1_0 : Int32} {t1_1 : Int32} {t2_0 : (Nat → Int32)} {t3_0 : Int32} {t3_1 : Int32} {t4_0 : (Nat → Int32)} {t5_0 : Int32} {t5_1 : Int32} {t6_0 : (Nat → Int32)} {t7_0 : Int32} {t7_1 : Int32} {t8_0 : (Nat → Int32)} {t9_0 : Int32} {t9_1 : Int32} {t10_0 : Int32} {t10_1 : Int32} {t11_0 : (Nat → Int32)} {t12_0 : Int32} {t12_1 : Int32} {t13_0 : Int32} {t13_1 : Int32} {t14_0 : (Nat → Int32)} {va vb : Int} (ha : dO R t10_0 t10_1 t11_0 t9_0 t9_1 va) (hb : dO R2 t13_0 t13_1 t14_0 t12_0 t12_1 vb) (hv : vb ≠ 0) (i1 : bI 220 t3_0 t3_1 t4_0) (i2 : bI 220 t5_0 t5_1 t6_0) (i3 : bI 220 t7_0 t7_1 t8_0) : (S_DW_rest R R2 t0_0 t0_1 t1_0 t1_1 t2_0 t3_0 t3_1 t4_0 t5_0 t5_1 t6_0 t7_0 t7_1 t8_0 t9_0 t9_1 t10_0 t10_1 t11_0 t12_0 t12_1 t13_0 t13_1 t14_0) ∧ G5K R2 vb (F_DW_rest R R2 t0_0 t0_1 t1_0 t1_1 t2_0 t3_0 t3_1 t4_0 t5_0 t5_1 t6_0 t7_0 t7_1 t8_0 t9_0 t9_1 t10_0 t10_1 t11_0 t12_0 t12_1 t13_0 t13_1 t14_0).2.2 := by
  have e := e220
  have hBa := ha.B
  have hBb := hb.B
  obtain ⟨ha1, ⟨ca, ca1, ca2, ca3⟩, ha3, ha4⟩ := ha
  obtain ⟨hb1, ⟨cb, cb1, cb2, cb3⟩, hb3, hb4⟩ := hb
  have q3 : (t9_0 - t12_0 : Int32).toInt = t9_0.toInt - t12_0.toInt := q_subI rfl rfl (by omega) (by omega)
  have q4 := v_absI (x := t9_0 - t12_0) (by omega) (by omega)
  rw [q3] at q4
  unfold S_DW_rest F_DW_rest
  have h1 : P1 220 va (F_Big_copy 220 R t1_0 t1_1 t2_0 t10_0 t10_1 t11_0) := W_copy ha1 ha1.fit (by decide)
  generalize F_Big_copy 220 R t1_0 t1_1 t2_0 t10_0 t10_1 t11_0 = p96 at h1 ⊢
  generalize F_jMath_abs_II (t9_0 - t12_0) = a76 at q4 ⊢
  generalize (if t9_0 < t12_0 then t12_0 else t9_0 : Int32).toInt64 = j66
  unfold S_DW_rest_c40 F_DW_rest_c40
  by_cases g : t12_0 ≤ t9_0
  · rw [if_pos g, if_pos g]
    have g' := q_leI g
    by_cases g2 : t9_1 < t12_1 + a76
    · rw [if_pos g2, if_pos g2]
      exact ⟨trivial, h1.K hBa (by decide), i1, i2, i3, hb1⟩
    · rw [if_neg g2, if_neg g2]
      have g3 := q_nltI g2
      rw [q_addI cb1 q4 (by omega) (by omega)] at g3
      have h2 : P1 220 vb (F_Big_copy 220 R2 t5_0 t5_1 t6_0 t13_0 t13_1 t14_0) := W_copy hb1 hb1.fit (by decide)
      generalize F_Big_copy 220 R2 t5_0 t5_1 t6_0 t13_0 t13_1 t14_0 = p127 at h2 ⊢
      unfold S_DW_rest_c90 F_DW_rest_c90
      have m1 : vb.natAbs * 10 ^ a76.toNatClampNeg < 2147483648 ^ 108 := Nat.lt_of_lt_of_le (v_rt (k := 1000) cb2.2.1 (by rw [v_cn, q4]; omega)) (v_tB (by decide))
      have h3 := W_ten (M := 108) h2 (by decide) m1
      have hv2 : vb * 10 ^ a76.toNatClampNeg ≠ 0 := Int.mul_ne_zero hv (by have := v_t10 a76.toNatClampNeg; omega)
      generalize vb * 10 ^ a76.toNatClampNeg = w at h3 hv2
      generalize F_Big_timesTen 220 a76 p127.1 p127.2.1 p127.2.2 = p150 at h3 ⊢
      unfold S_DW_rest_c101 F_DW_rest_c101
      have s1 := h1.sB hBa
      have d := W_divideBy (R3 := 220) (sq := t3_0) (nq := t3_1) (fq := t4_0) h1 h3 hv2 (by omega) (by omega) (by decide)
      exact ⟨⟨⟨trivial, d.1⟩, trivial⟩, d.2.1.K hBa.tmodU (by decide), d.2.2.2.I, d.2.2.1.I, i3, hb1⟩
  · rw [if_neg g, if_neg g]
    have h2 := T_raiseBelow (x2 := a76) (t2_0 := t3_0) (t2_1 := t3_1) (t3_0 := t4_0) (t4_0 := t5_0) (t4_1 := t5_1) (t5_0 := t6_0) h1 hb1 hv hBa hBb (by omega) i3
    exact ⟨⟨⟨trivial, h2.1⟩, trivial⟩, h2.2⟩
theorem T_rest_a {R2 : Int32} {t0_0 : Int64} {t0_1 : Int32} {t1_0 : Int32} {t1_1 : Int32} {t2_0 : (Nat → Int32)} {t3_0 : Int32} {t3_1 : Int32} {t4_0 : (Nat → Int32)} {t5_0 : Int32} {t5_1 : Int32} {t6_0 : (Nat → Int32)} {t7_0 : Int32} {t7_1 : Int32} {t8_0 : (Nat → Int32)} {t9_0 : Int32} {t9_1 : Int32} {t10_0 : Int32} {t10_1 : Int32} {t11_0 : (Nat → Int32)} {va : Int} (ha : dO R2 t10_0 t10_1 t11_0 t9_0 t9_1 va) (hv : va ≠ 0) (i1 : bI 220 t3_0 t3_1 t4_0) (i2 : bI 220 t5_0 t5_1 t6_0) : (S_DW_rest_a R2 t0_0 t0_1 t1_0 t1_1 t2_0 t3_0 t3_1 t4_0 t5_0 t5_1 t6_0 t7_0 t7_1 t8_0 t9_0 t9_1 t10_0 t10_1 t11_0) ∧ G3 bK (bI 220) (bI 220) (F_DW_rest_a R2 t0_0 t0_1 t1_0 t1_1 t2_0 t3_0 t3_1 t4_0 t5_0 t5_1 t6_0 t7_0 t7_1 t8_0 t9_0 t9_1 t10_0 t10_1 t11_0).2.2 := by
  have e := e220
  have hBa := ha.B
  obtain ⟨ha1, ⟨ca, ca1, ca2, ca3⟩, ha3, ha4⟩ := ha
  have q3 : (t9_0 - t9_0 : Int32).toInt = t9_0.toInt - t9_0.toInt := q_subI rfl rfl (by omega) (by omega)
  have q4 := v_absI (x := t9_0 - t9_0) (by omega) (by omega)
  rw [q3] at q4
  unfold S_DW_rest_a F_DW_rest_a
  have h1 : P1 220 va (F_Big_copy 220 R2 t1_0 t1_1 t2_0 t10_0 t10_1 t11_0) := W_copy ha1 ha1.fit (by decide)
  generalize F_Big_copy 220 R2 t1_0 t1_1 t2_0 t10_0 t10_1 t11_0 = p83 at h1 ⊢
  generalize F_jMath_abs_II (t9_0 - t9_0) = a63 at q4 ⊢
  generalize (if t9_0 < t9_0 then t9_0 else t9_0 : Int32).toInt64 = j53
  unfold S_DW_rest_a_c40 F_DW_rest_a_c40
  by_cases g2 : t9_1 < t9_1 + a63
  · rw [if_pos g2, if_pos g2]
    exact ⟨trivial, h1.K hBa (by decide), i1, i2⟩
  · rw [if_neg g2, if_neg g2]
    have h2 : P1 220 va (F_Big_copy 220 R2 t5_0 t5_1 t6_0 t10_0 t10_1 t11_0) := W_copy ha1 ha1.fit (by decide)
    generalize F_Big_copy 220 R2 t5_0 t5_1 t6_0 t10_0 t10_1 t11_0 = p113 at h2 ⊢
    unfold S_DW_rest_a_c90 F_DW_rest_a_c90
    have m1 : va.natAbs * 10 ^ a63.toNatClampNeg < 2147483648 ^ 108 := by
      rw [show a63.toNatClampNeg = 0 by rw [v_cn, q4]; omega, Nat.pow_zero, Nat.mul_one]
      exact hBa
    have h3 := W_ten (M := 108) h2 (by decide) m1
    have hv2 : va * 10 ^ a63.toNatClampNeg ≠ 0 := Int.mul_ne_zero hv (by have := v_t10 a63.toNatClampNeg; omega)
    generalize va * 10 ^ a63.toNatClampNeg = w at h3 hv2
    generalize F_Big_timesTen 220 a63 p113.1 p113.2.1 p113.2.2 = p136 at h3 ⊢
    unfold S_DW_rest_a_c101 F_DW_rest_a_c101
    have s1 := h1.sB hBa
    have d := W_divideBy (R3 := 220) (sq := t3_0) (nq := t3_1) (fq := t4_0) h1 h3 hv2 (by omega) (by omega) (by decide)
    exact ⟨⟨⟨trivial, d.1⟩, trivial⟩, d.2.1.K hBa.tmodU (by decide), d.2.2.2.I, d.2.2.1.I⟩
/-- a raise that fits -/
theorem v_rf {va : Int} {ca : Nat} {x : Int32} (h1 : va.natAbs < 10 ^ ca) (h2 : ca ≤ 1000) (h3 : (ca : Int) + x.toInt ≤ 2004) : va.natAbs * 10 ^ x.toNatClampNeg < 2147483648 ^ 215 := by
  by_cases hx : x.toInt < 0
  · rw [v_cn, show x.toInt.toNat = 0 by omega, Nat.pow_zero, Nat.mul_one]
    exact Nat.lt_of_lt_of_le h1 (v_tB (by omega))
  · exact Nat.lt_of_lt_of_le (v_rt (k := 2004) h1 (by rw [v_cn]; omega)) (v_tB (by decide))
theorem T_divideToScale {R : Int32} {R2 : Int32} {x4 : Int32} {x5 : Int32} {t0_0 : Int64} {t0_1 : Int32} {t1_0 : Int32} {t1_1 : Int32} {t2_0 : (Nat → Int32)} {t3_0 : Int32} {t3_1 : Int32} {t4_0 : (Nat → Int32)} {t5_0 : Int32} {t5_1 : Int32} {t6_0 : (Nat → Int32)} {t7_0 : Int32} {t7_1 : Int32} {t8_0 : Int32} {t8_1 : Int32} {t9_0 : (Nat → Int32)} {t10_0 : Int32} {t10_1 : Int32} {t11_0 : Int32} {t11_1 : Int32} {t12_0 : (Nat → Int32)} {va vb : Int} (ha : dO R t8_0 t8_1 t9_0 t7_0 t7_1 va) (hb : dO R2 t11_0 t11_1 t12_0 t10_0 t10_1 vb) (hv : vb ≠ 0) (hx : -10000 ≤ x4.toInt) (hx2 : x4.toInt ≤ 10000) (i0 : bI 220 t1_0 t1_1 t2_0) (i1 : bI 220 t3_0 t3_1 t4_0) (i2 : bI 220 t5_0 t5_1 t6_0) : (S_DW_divideToScale R R2 x4 x5 t0_0 t0_1 t1_0 t1_1 t2_0 t3_0 t3_1 t4_0 t5_0 t5_1 t6_0 t7_0 t7_1 t8_0 t8_1 t9_0 t10_0 t10_1 t11_0 t11_1 t12_0) ∧ Dq (F_DW_divideToScale R R2 x4 x5 t0_0 t0_1 t1_0 t1_1 t2_0 t3_0 t3_1 t4_0 t5_0 t5_1 t6_0 t7_0 t7_1 t8_0 t8_1 t9_0 t10_0 t10_1 t11_0 t11_1 t12_0).1 (F_DW_divideToScale R R2 x4 x5 t0_0 t0_1 t1_0 t1_1 t2_0 t3_0 t3_1 t4_0 t5_0 t5_1 t6_0 t7_0 t7_1 t8_0 t8_1 t9_0 t10_0 t10_1 t11_0 t11_1 t12_0).2.2.2.1 (F_DW_divideToScale R R2 x4 x5 t0_0 t0_1 t1_0 t1_1 t2_0 t3_0 t3_1 t4_0 t5_0 t5_1 t6_0 t7_0 t7_1 t8_0 t8_1 t9_0 t10_0 t10_1 t11_0 t11_1 t12_0).2.2.2.2.1 (F_DW_divideToScale R R2 x4 x5 t0_0 t0_1 t1_0 t1_1 t2_0 t3_0 t3_1 t4_0 t5_0 t5_1 t6_0 t7_0 t7_1 t8_0 t8_1 t9_0 t10_0 t10_1 t11_0 t11_1 t12_0).2.2.2.2.2.1 ∧ G4 (bI 220) (bI 220) (bI 220) (bW R2 vb) (F_DW_divideToScale R R2 x4 x5 t0_0 t0_1 t1_0 t1_1 t2_0 t3_0 t3_1 t4_0 t5_0 t5_1 t6_0 t7_0 t7_1 t8_0 t8_1 t9_0 t10_0 t10_1 t11_0 t11_1 t12_0).2.2.2 := by
  have e := e220
  have eK : (1000 : Int32).toInt = 1000 := rfl
  obtain ⟨ha1, ⟨ca, ca1, ca2, ca3⟩, ha3, ha4⟩ := ha
  obtain ⟨hb1, ⟨cb, cb1, cb2, cb3⟩, hb3, hb4⟩ := hb
  have q1 : (x4 + t10_0 : Int32).toInt = x4.toInt + t10_0.toInt := q_addI rfl rfl (by omega) (by omega)
  have q2 : (x4 + t10_0 - t7_0 : Int32).toInt = x4.toInt + t10_0.toInt - t7_0.toInt := q_subI q1 rfl (by omega) (by omega)
  unfold S_DW_divideToScale F_DW_divideToScale
  by_cases g : t8_0 = 0
  · rw [if_pos g, if_pos g]
    have h1 : bO 220 (F_Big_clear 220 t1_0 t1_1).1 (F_Big_clear 220 t1_0 t1_1).2 t2_0 0 := W_clear (by decide) (by decide)
    exact ⟨trivial, Or.inr ⟨rfl, h1.K (M := 0) (by show 0 < _; decide) (by decide)⟩, h1.I, i1, i2, hb1⟩
  rw [if_neg g, if_neg g]
  obtain ⟨a62, ea⟩ := q_nm (x4 + t10_0 - t7_0 : Int32)
  rw [ea] at q2 ⊢
  by_cases g2 : (t7_1 + a62 - t10_1 : Int32) ≤ 1000
  · rw [if_pos g2, if_pos g2]
    have g3 := q_leI g2
    have q5 : (t7_1 + a62 : Int32).toInt = (ca : Int) + a62.toInt := q_addI ca1 rfl (by omega) (by omega)
    rw [q_subI q5 cb1 (by omega) (by omega)] at g3
    have q6 : (a62 + 1 : Int32).toInt = a62.toInt + 1 := q_addI rfl v_e1 (by omega) (by omega)
    have d := T_divideRaised (x4 := a62 + 1) (t0_0 := x4.toInt64) (t0_1 := t0_1) (t1_0 := t1_0) (t1_1 := t1_1) (t2_0 := t2_0) (t3_0 := t3_0) (t3_1 := t3_1) (t4_0 := t4_0) (t5_0 := t5_0) (t5_1 := t5_1) (t6_0 := t6_0) (t7_0 := t7_0) (t7_1 := t7_1) (t10_0 := t10_0) (t10_1 := t10_1) (M := 215) ha1 hb1 hv (v_rf ca2.2.1 ca3 (by omega)) (by decide)
    refine v_owe d.1 ?_
    replace d := d.2
    generalize F_DW_divideRaised R R2 (a62 + 1) x4.toInt64 t0_1 t1_0 t1_1 t2_0 t3_0 t3_1 t4_0 t5_0 t5_1 t6_0 t7_0 t7_1 t8_0 t8_1 t9_0 t10_0 t10_1 t11_0 t11_1 t12_0 = p123 at d ⊢
    obtain ⟨_, ⟨w, w1, w2, w3⟩, d2, d3, d4⟩ := d
    unfold S_DW_divideToScale_c68 F_DW_divideToScale_c68
    split
    · have r := T_roundLast (x2 := 0) (x3 := x5) (t0_0 := p123.1) (t0_1 := p123.2.1) w3 w1 w2 (by decide) d3
      exact ⟨trivial, Dq.mk r.1 r.2.1, r.2.1.I, d2, r.2.2, d4⟩
    · have r := T_roundLast (x2 := 1) (x3 := x5) (t0_0 := p123.1) (t0_1 := p123.2.1) w3 w1 w2 (by decide) d3
      exact ⟨trivial, Dq.mk r.1 r.2.1, r.2.1.I, d2, r.2.2, d4⟩
  · rw [if_neg g2, if_neg g2]
    exact ⟨trivial, Or.inl rfl, i0, i1, i2, hb1⟩
theorem T_divideToScale_a {R2 : Int32} {x4 : Int32} {x5 : Int32} {t0_0 : Int64} {t0_1 : Int32} {t1_0 : Int32} {t1_1 : Int32} {t2_0 : (Nat → Int32)} {t3_0 : Int32} {t3_1 : Int32} {t4_0 : (Nat → Int32)} {t5_0 : Int32} {t5_1 : Int32} {t6_0 : (Nat → Int32)} {t7_0 : Int32} {t7_1 : Int32} {t8_0 : Int32} {t8_1 : Int32} {t9_0 : (Nat → Int32)} {va : Int} (ha : dO R2 t8_0 t8_1 t9_0 t7_0 t7_1 va) (hx : -10000 ≤ x4.toInt) (hx2 : x4.toInt ≤ 10000) (i0 : bI 220 t1_0 t1_1 t2_0) (i1 : bI 220 t3_0 t3_1 t4_0) (i2 : bI 220 t5_0 t5_1 t6_0) : (S_DW_divideToScale_a R2 x4 x5 t0_0 t0_1 t1_0 t1_1 t2_0 t3_0 t3_1 t4_0 t5_0 t5_1 t6_0 t7_0 t7_1 t8_0 t8_1 t9_0) ∧ Dq (F_DW_divideToScale_a R2 x4 x5 t0_0 t0_1 t1_0 t1_1 t2_0 t3_0 t3_1 t4_0 t5_0 t5_1 t6_0 t7_0 t7_1 t8_0 t8_1 t9_0).1 (F_DW_divideToScale_a R2 x4 x5 t0_0 t0_1 t1_0 t1_1 t2_0 t3_0 t3_1 t4_0 t5_0 t5_1 t6_0 t7_0 t7_1 t8_0 t8_1 t9_0).2.2.2.1 (F_DW_divideToScale_a R2 x4 x5 t0_0 t0_1 t1_0 t1_1 t2_0 t3_0 t3_1 t4_0 t5_0 t5_1 t6_0 t7_0 t7_1 t8_0 t8_1 t9_0).2.2.2.2.1 (F_DW_divideToScale_a R2 x4 x5 t0_0 t0_1 t1_0 t1_1 t2_0 t3_0 t3_1 t4_0 t5_0 t5_1 t6_0 t7_0 t7_1 t8_0 t8_1 t9_0).2.2.2.2.2.1 ∧ G4 (bI 220) (bI 220) (bI 220) (bW R2 va) (F_DW_divideToScale_a R2 x4 x5 t0_0 t0_1 t1_0 t1_1 t2_0 t3_0 t3_1 t4_0 t5_0 t5_1 t6_0 t7_0 t7_1 t8_0 t8_1 t9_0).2.2.2 := by
  have e := e220
  have eK : (1000 : Int32).toInt = 1000 := rfl
  obtain ⟨ha1, ⟨ca, ca1, ca2, ca3⟩, ha3, ha4⟩ := ha
  have q1 : (x4 + t7_0 : Int32).toInt = x4.toInt + t7_0.toInt := q_addI rfl rfl (by omega) (by omega)
  have q2 : (x4 + t7_0 - t7_0 : Int32).toInt = x4.toInt + t7_0.toInt - t7_0.toInt := q_subI q1 rfl (by omega) (by omega)
  unfold S_DW_divideToScale_a F_DW_divideToScale_a
  by_cases g : t8_0 = 0
  · rw [if_pos g, if_pos g]
    have h1 : bO 220 (F_Big_clear 220 t1_0 t1_1).1 (F_Big_clear 220 t1_0 t1_1).2 t2_0 0 := W_clear (by decide) (by decide)
    exact ⟨trivial, Or.inr ⟨rfl, h1.K (M := 0) (by show 0 < _; decide) (by decide)⟩, h1.I, i1, i2, ha1⟩
  rw [if_neg g, if_neg g]
  have hv : va ≠ 0 := fun h => g (ha1.nil.mpr h)
  obtain ⟨a49, ea⟩ := q_nm (x4 + t7_0 - t7_0 : Int32)
  rw [ea] at q2 ⊢
  by_cases g2 : (t7_1 + a49 - t7_1 : Int32) ≤ 1000
  · rw [if_pos g2, if_pos g2]
    have g3 := q_leI g2
    have q5 : (t7_1 + a49 : Int32).toInt = (ca : Int) + a49.toInt := q_addI ca1 rfl (by omega) (by omega)
    rw [q_subI q5 ca1 (by omega) (by omega)] at g3
    have q6 : (a49 + 1 : Int32).toInt = a49.toInt + 1 := q_addI rfl v_e1 (by omega) (by omega)
    have d := T_divideRaised_a (x4 := a49 + 1) (t0_0 := x4.toInt64) (t0_1 := t0_1) (t1_0 := t1_0) (t1_1 := t1_1) (t2_0 := t2_0) (t3_0 := t3_0) (t3_1 := t3_1) (t4_0 := t4_0) (t5_0 := t5_0) (t5_1 := t5_1) (t6_0 := t6_0) (t7_0 := t7_0) (t7_1 := t7_1) (M := 215) ha1 ha1 hv (v_rf ca2.2.1 ca3 (by omega)) (by decide)
    refine v_owe d.1 ?_
    replace d := d.2
    generalize F_DW_divideRaised_a R2 (a49 + 1) x4.toInt64 t0_1 t1_0 t1_1 t2_0 t3_0 t3_1 t4_0 t5_0 t5_1 t6_0 t7_0 t7_1 t8_0 t8_1 t9_0 = p110 at d ⊢
    obtain ⟨_, ⟨w, w1, w2, w3⟩, d2, d3, d4⟩ := d
    unfold S_DW_divideToScale_a_c68 F_DW_divideToScale_a_c68
    have r := T_roundLast (x2 := 0) (x3 := x5) (t0_0 := p110.1) (t0_1 := p110.2.1) w3 w1 w2 (by decide) d3
    exact ⟨trivial, Dq.mk r.1 r.2.1, r.2.1.I, d2, r.2.2, d4⟩
  · rw [if_neg g2, if_neg g2]
    exact ⟨trivial, Or.inl rfl, i0, i1, i2, ha1⟩

/-! values: DecimalWork 4 -/
theorem T_dpJ {R : Int32} {R2 : Int32} {x4 : Int32} {x5 : Int32} {t0_0 : Int64} {t0_1 : Int32} {t1_0 : Int32} {t1_1 : Int32} {t2_0 : (Nat → Int32)} {t3_0 : Int32} {t3_1 : Int32} {t4_0 : (Nat → Int32)} {t5_0 : Int32} {t5_1 : Int32} {t6_0 : (Nat → Int32)} {t7_0 : Int32} {t7_1 : Int32} {t8_0 : (Nat → Int32)} {t9_0 : Int32} {t9_1 : Int32} {t10_0 : Int32} {t10_1 : Int32} {t11_0 : (Nat → Int32)} {t12_0 : Int32} {t12_1 : Int32} {t13_0 : Int32} {t13_1 : Int32} {t14_0 : (Nat → Int32)} {j69 : Int64} {lx74 : Int32} {a102 : Int32} {p153 : (Int64 × Int32 × Int32 × Int32 × (Nat → Int32) × Int32 × Int32 × (Nat → Int32) × Int32 × Int32 × (Nat → Int32) × Int32 × Int32 × (Nat → Int32))} {j180 : Int64} {y109 : Int32} {y111 : Int32} {y112 : Int32} {f113 : (Nat → Int32)} {y116 : Int32} {y117 : Int32} {f118 : (Nat → Int32)} {y121 : Int32} {y122 : Int32} {f123 : (Nat → Int32)} {y126 : Int32} {y127 : Int32} {f128 : (Nat → Int32)} {p200 : (Int32 × Int32 × Int32 × (Nat → Int32))} {y190 : Int32} {y191 : Int32} {f192 : (Nat → Int32)} {lx213 : Int64} {lx214 : Int32} {lx215 : Int32} {lx216 : Int32} {lx217 : (Nat → Int32)} {v vb : Int} {M : Nat} (h : bO 220 lx215 lx216 lx217 v) (hv : 0 ≤ v) (hM : bB M v) (hM2 : M + 1 ≤ 218) (i1 : bI 220 y116 y117 f118) (i2 : bI 220 y190 y191 f192) (hb : bO R2 y126 y127 f128 vb) : (S_DW_divideToPrecision_J141 R R2 x4 x5 t0_0 t0_1 t1_0 t1_1 t2_0 t3_0 t3_1 t4_0 t5_0 t5_1 t6_0 t7_0 t7_1 t8_0 t9_0 t9_1 t10_0 t10_1 t11_0 t12_0 t12_1 t13_0 t13_1 t14_0 j69 lx74 a102 p153 j180 y109 y111 y112 f113 y116 y117 f118 y121 y122 f123 y126 y127 f128 p200 y190 y191 f192 lx213 lx214 lx215 lx216 lx217) ∧ Dq (F_DW_divideToPrecision_J141 R R2 x4 x5 t0_0 t0_1 t1_0 t1_1 t2_0 t3_0 t3_1 t4_0 t5_0 t5_1 t6_0 t7_0 t7_1 t8_0 t9_0 t9_1 t10_0 t10_1 t11_0 t12_0 t12_1 t13_0 t13_1 t14_0 j69 lx74 a102 p153 j180 y109 y111 y112 f113 y116 y117 f118 y121 y122 f123 y126 y127 f128 p200 y190 y191 f192 lx213 lx214 lx215 lx216 lx217).1 (F_DW_divideToPrecision_J141 R R2 x4 x5 t0_0 t0_1 t1_0 t1_1 t2_0 t3_0 t3_1 t4_0 t5_0 t5_1 t6_0 t7_0 t7_1 t8_0 t9_0 t9_1 t10_0 t10_1 t11_0 t12_0 t12_1 t13_0 t13_1 t14_0 j69 lx74 a102 p153 j180 y109 y111 y112 f113 y116 y117 f118 y121 y122 f123 y126 y127 f128 p200 y190 y191 f192 lx213 lx214 lx215 lx216 lx217).2.2.2.1 (F_DW_divideToPrecision_J141 R R2 x4 x5 t0_0 t0_1 t1_0 t1_1 t2_0 t3_0 t3_1 t4_0 t5_0 t5_1 t6_0 t7_0 t7_1 t8_0 t9_0 t9_1 t10_0 t10_1 t11_0 t12_0 t12_1 t13_0 t13_1 t14_0 j69 lx74 a102 p153 j180 y109 y111 y112 f113 y116 y117 f118 y121 y122 f123 y126 y127 f128 p200 y190 y191 f192 lx213 lx214 lx215 lx216 lx217).2.2.2.2.1 (F_DW_divideToPrecision_J141 R R2 x4 x5 t0_0 t0_1 t1_0 t1_1 t2_0 t3_0 t3_1 t4_0 t5_0 t5_1 t6_0 t7_0 t7_1 t8_0 t9_0 t9_1 t10_0 t10_1 t11_0 t12_0 t12_1 t13_0 t13_1 t14_0 j69 lx74 a102 p153 j180 y109 y111 y112 f113 y116 y117 f118 y121 y122 f123 y126 y127 f128 p200 y190 y191 f192 lx213 lx214 lx215 lx216 lx217).2.2.2.2.2.1 ∧ G5 (bI 220) (bI 220) (bI 220) (bI 220) (bW R2 vb) (F_DW_divideToPrecision_J141 R R2 x4 x5 t0_0 t0_1 t1_0 t1_1 t2_0 t3_0 t3_1 t4_0 t5_0 t5_1 t6_0 t7_0 t7_1 t8_0 t9_0 t9_1 t10_0 t10_1 t11_0 t12_0 t12_1 t13_0 t13_1 t14_0 j69 lx74 a102 p153 j180 y109 y111 y112 f113 y116 y117 f118 y121 y122 f123 y126 y127 f128 p200 y190 y191 f192 lx213 lx214 lx215 lx216 lx217).2.2.2 := by
  have J : ∀ lx246 : Int32, S_DW_divideToPrecision_J163 R R2 x4 x5 t0_0 t0_1 t1_0 t1_1 t2_0 t3_0 t3_1 t4_0 t5_0 t5_1 t6_0 t7_0 t7_1 t8_0 t9_0 t9_1 t10_0 t10_1 t11_0 t12_0 t12_1 t13_0 t13_1 t14_0 j69 lx74 a102 p153 j180 y109 y111 y112 f113 y116 y117 f118 y121 y122 f123 y126 y127 f128 p200 y190 y191 f192 lx213 lx214 lx215 lx216 lx217 lx246 ∧ (fun p : Int32 × Int64 × Int32 × Int32 × Int32 × (Nat → Int32) × Int32 × Int32 × (Nat → Int32) × Int32 × Int32 × (Nat → Int32) × Int32 × Int32 × (Nat → Int32) × Int32 × Int32 × (Nat → Int32) => Dq p.1 p.2.2.2.1 p.2.2.2.2.1 p.2.2.2.2.2.1 ∧ G5 (bI 220) (bI 220) (bI 220) (bI 220) (bW R2 vb) p.2.2.2) (F_DW_divideToPrecision_J163 R R2 x4 x5 t0_0 t0_1 t1_0 t1_1 t2_0 t3_0 t3_1 t4_0 t5_0 t5_1 t6_0 t7_0 t7_1 t8_0 t9_0 t9_1 t10_0 t10_1 t11_0 t12_0 t12_1 t13_0 t13_1 t14_0 j69 lx74 a102 p153 j180 y109 y111 y112 f113 y116 y117 f118 y121 y122 f123 y126 y127 f128 p200 y190 y191 f192 lx213 lx214 lx215 lx216 lx217 lx246) := by
    intro lx246
    unfold S_DW_divideToPrecision_J163 F_DW_divideToPrecision_J163
    by_cases g : x4 = 0
    · rw [if_pos g, if_pos g]
      have r := T_shorten (x2 := lx246) (x3 := lx74) (x4 := j69) (x5 := 7) (t0_0 := lx213) (t0_1 := lx214) (t3_0 := y121) (t3_1 := y122) (t4_0 := f123) h hv hM hM2 i2
      exact ⟨trivial, Dq.mk r.1 r.2.1, r.2.1.I, i1, r.2.2.1, r.2.2.2, hb⟩
    · rw [if_neg g, if_neg g]
      have r := T_shorten (x2 := lx246) (x3 := lx74) (x4 := j69) (x5 := x5) (t0_0 := lx213) (t0_1 := lx214) (t3_0 := y121) (t3_1 := y122) (t4_0 := f123) h hv hM hM2 i2
      exact ⟨trivial, Dq.mk r.1 r.2.1, r.2.1.I, i1, r.2.2.1, r.2.2.2, hb⟩
  unfold S_DW_divideToPrecision_J141 F_DW_divideToPrecision_J141
  by_cases g : t10_1 = y127
  · rw [if_pos g, if_pos g]
    exact J 0
  · rw [if_neg g, if_neg g]
    exact J 1
theorem T_dpJ_a {R2 : Int32} {x4 : Int32} {x5 : Int32} {t0_0 : Int64} {t0_1 : Int32} {t1_0 : Int32} {t1_1 : Int32} {t2_0 : (Nat → Int32)} {t3_0 : Int32} {t3_1 : Int32} {t4_0 : (Nat → Int32)} {t5_0 : Int32} {t5_1 : Int32} {t6_0 : (Nat → Int32)} {t7_0 : Int32} {t7_1 : Int32} {t8_0 : (Nat → Int32)} {t9_0 : Int32} {t9_1 : Int32} {t10_0 : Int32} {t10_1 : Int32} {t11_0 : (Nat → Int32)} {j56 : Int64} {lx61 : Int32} {a86 : Int32} {p137 : (Int64 × Int32 × Int32 × Int32 × (Nat → Int32) × Int32 × Int32 × (Nat → Int32) × Int32 × Int32 × (Nat → Int32) × Int32 × Int32 × (Nat → Int32))} {j164 : Int64} {y93 : Int32} {y95 : Int32} {y96 : Int32} {f97 : (Nat → Int32)} {y100 : Int32} {y101 : Int32} {f102 : (Nat → Int32)} {y105 : Int32} {y106 : Int32} {f107 : (Nat → Int32)} {y110 : Int32} {y111 : Int32} {f112 : (Nat → Int32)} {p184 : (Int32 × Int32 × Int32 × (Nat → Int32))} {y174 : Int32} {y175 : Int32} {f176 : (Nat → Int32)} {lx197 : Int64} {lx198 : Int32} {lx199 : Int32} {lx200 : Int32} {lx201 : (Nat → Int32)} {v vb : Int} {M : Nat} (h : bO 220 lx199 lx200 lx201 v) (hv : 0 ≤ v) (hM : bB M v) (hM2 : M + 1 ≤ 218) (i1 : bI 220 y100 y101 f102) (i2 : bI 220 y174 y175 f176) (hb : bO R2 y110 y111 f112 vb) : (S_DW_divideToPrecision_a_J141 R2 x4 x5 t0_0 t0_1 t1_0 t1_1 t2_0 t3_0 t3_1 t4_0 t5_0 t5_1 t6_0 t7_0 t7_1 t8_0 t9_0 t9_1 t10_0 t10_1 t11_0 j56 lx61 a86 p137 j164 y93 y95 y96 f97 y100 y101 f102 y105 y106 f107 y110 y111 f112 p184 y174 y175 f176 lx197 lx198 lx199 lx200 lx201) ∧ Dq (F_DW_divideToPrecision_a_J141 R2 x4 x5 t0_0 t0_1 t1_0 t1_1 t2_0 t3_0 t3_1 t4_0 t5_0 t5_1 t6_0 t7_0 t7_1 t8_0 t9_0 t9_1 t10_0 t10_1 t11_0 j56 lx61 a86 p137 j164 y93 y95 y96 f97 y100 y101 f102 y105 y106 f107 y110 y111 f112 p184 y174 y175 f176 lx197 lx198 lx199 lx200 lx201).1 (F_DW_divideToPrecision_a_J141 R2 x4 x5 t0_0 t0_1 t1_0 t1_1 t2_0 t3_0 t3_1 t4_0 t5_0 t5_1 t6_0 t7_0 t7_1 t8_0 t9_0 t9_1 t10_0 t10_1 t11_0 j56 lx61 a86 p137 j164 y93 y95 y96 f97 y100 y101 f102 y105 y106 f107 y110 y111 f112 p184 y174 y175 f176 lx197 lx198 lx199 lx200 lx201).2.2.2.1 (F_DW_divideToPrecision_a_J141 R2 x4 x5 t0_0 t0_1 t1_0 t1_1 t2_0 t3_0 t3_1 t4_0 t5_0 t5_1 t6_0 t7_0 t7_1 t8_0 t9_0 t9_1 t10_0 t10_1 t11_0 j56 lx61 a86 p137 j164 y93 y95 y96 f97 y100 y101 f102 y105 y106 f107 y110 y111 f112 p184 y174 y175 f176 lx197 lx198 lx199 lx200 lx201).2.2.2.2.1 (F_DW_divideToPrecision_a_J141 R2 x4 x5 t0_0 t0_1 t1_0 t1_1 t2_0 t3_0 t3_1 t4_0 t5_0 t5_1 t6_0 t7_0 t7_1 t8_0 t9_0 t9_1 t10_0 t10_1 t11_0 j56 lx61 a86 p137 j164 y93 y95 y96 f97 y100 y101 f102 y105 y106 f107 y110 y111 f112 p184 y174 y175 f176 lx197 lx198 lx199 lx200 lx201).2.2.2.2.2.1 ∧ G5 (bI 220) (bI 220) (bI 220) (bI 220) (bW R2 vb) (F_DW_divideToPrecision_a_J141 R2 x4 x5 t0_0 t0_1 t1_0 t1_1 t2_0 t3_0 t3_1 t4_0 t5_0 t5_1 t6_0 t7_0 t7_1 t8_0 t9_0 t9_1 t10_0 t10_1 t11_0 j56 lx61 a86 p137 j164 y93 y95 y96 f97 y100 y101 f102 y105 y106 f107 y110 y111 f112 p184 y174 y175 f176 lx197 lx198 lx199 lx200 lx201).2.2.2 := by
  unfold S_DW_divideToPrecision_a_J141 F_DW_divideToPrecision_a_J141
  by_cases g : x4 = 0
  · rw [if_pos g, if_pos g]
    have r := T_shorten (x2 := 0) (x3 := lx61) (x4 := j56) (x5 := 7) (t0_0 := lx197) (t0_1 := lx198) (t3_0 := y105) (t3_1 := y106) (t4_0 := f107) h hv hM hM2 i2
    exact ⟨trivial, Dq.mk r.1 r.2.1, r.2.1.I, i1, r.2.2.1, r.2.2.2, hb⟩
  · rw [if_neg g, if_neg g]
    have r := T_shorten (x2 := 0) (x3 := lx61) (x4 := j56) (x5 := x5) (t0_0 := lx197) (t0_1 := lx198) (t3_0 := y105) (t3_1 := y106) (t4_0 := f107) h hv hM hM2 i2
    exact ⟨trivial, Dq.mk r.1 r.2.1, r.2.1.I, i1, r.2.2.1, r.2.2.2, hb⟩
theorem T_divideToPrecisionJ {R : Int32} {R2 : Int32} {x4 : Int32} {x5 : Int32} {t0_0 : Int64} {t0_1 : Int32} {t1_0 : Int32} {t1_1 : Int32} {t2_0 : (Nat → Int32)} {t3_0 : Int32} {t3_1 : Int32} {t4_0 : (Nat → Int32)} {t5_0 : Int32} {t5_1 : Int32} {t6_0 : (Nat → Int32)} {t7_0 : Int32} {t7_1 : Int32} {t8_0 : (Nat → Int32)} {t9_0 : Int32} {t9_1 : Int32} {t10_0 : Int32} {t10_1 : Int32} {t11_0 : (Nat → Int32)} {t12_0 : Int32} {t12_1 : Int32} {t13_0 : Int32} {t13_1 : Int32} {t14_0 : (Nat → Int32)} {j69 : Int64} {lx74 : Int32} {va vb : Int} (ha : dO R t10_0 t10_1 t11_0 t9_0 t9_1 va) (hb : dO R2 t13_0 t13_1 t14_0 t12_0 t12_1 vb) (hv : vb ≠ 0) (hx : 0 ≤ lx74.toInt) (hx2 : lx74.toInt ≤ 1000) (i2 : bI 220 t7_0 t7_1 t8_0) : (S_DW_divideToPrecision_J52 R R2 x4 x5 t0_0 t0_1 t1_0 t1_1 t2_0 t3_0 t3_1 t4_0 t5_0 t5_1 t6_0 t7_0 t7_1 t8_0 t9_0 t9_1 t10_0 t10_1 t11_0 t12_0 t12_1 t13_0 t13_1 t14_0 j69 lx74) ∧ Dq (F_DW_divideToPrecision_J52 R R2 x4 x5 t0_0 t0_1 t1_0 t1_1 t2_0 t3_0 t3_1 t4_0 t5_0 t5_1 t6_0 t7_0 t7_1 t8_0 t9_0 t9_1 t10_0 t10_1 t11_0 t12_0 t12_1 t13_0 t13_1 t14_0 j69 lx74).1 (F_DW_divideToPrecision_J52 R R2 x4 x5 t0_0 t0_1 t1_0 t1_1 t2_0 t3_0 t3_1 t4_0 t5_0 t5_1 t6_0 t7_0 t7_1 t8_0 t9_0 t9_1 t10_0 t10_1 t11_0 t12_0 t12_1 t13_0 t13_1 t14_0 j69 lx74).2.2.2.1 (F_DW_divideToPrecision_J52 R R2 x4 x5 t0_0 t0_1 t1_0 t1_1 t2_0 t3_0 t3_1 t4_0 t5_0 t5_1 t6_0 t7_0 t7_1 t8_0 t9_0 t9_1 t10_0 t10_1 t11_0 t12_0 t12_1 t13_0 t13_1 t14_0 j69 lx74).2.2.2.2.1 (F_DW_divideToPrecision_J52 R R2 x4 x5 t0_0 t0_1 t1_0 t1_1 t2_0 t3_0 t3_1 t4_0 t5_0 t5_1 t6_0 t7_0 t7_1 t8_0 t9_0 t9_1 t10_0 t10_1 t11_0 t12_0 t12_1 t13_0 t13_1 t14_0 j69 lx74).2.2.2.2.2.1 ∧ G5 (bI 220) (bI 220) (bI 220) (bI 220) (bW R2 vb) (F_DW_divideToPrecision_J52 R R2 x4 x5 t0_0 t0_1 t1_0 t1_1 t2_0 t3_0 t3_1 t4_0 t5_0 t5_1 t6_0 t7_0 t7_1 t8_0 t9_0 t9_1 t10_0 t10_1 t11_0 t12_0 t12_1 t13_0 t13_1 t14_0 j69 lx74).2.2.2 := by
  have e := e220
  obtain ⟨ha1, ⟨ca, ca1, ca2, ca3⟩, ha3, ha4⟩ := ha
  obtain ⟨hb1, ⟨cb, cb1, cb2, cb3⟩, hb3, hb4⟩ := hb
  have q1 : (lx74 + 1 : Int32).toInt = lx74.toInt + 1 := q_addI rfl v_e1 (by omega) (by omega)
  have q2 : (lx74 + 1 - t9_1 : Int32).toInt = lx74.toInt + 1 - (ca : Int) := q_subI q1 ca1 (by omega) (by omega)
  have q3 : (lx74 + 1 - t9_1 + t12_1 : Int32).toInt = lx74.toInt + 1 - (ca : Int) + (cb : Int) := q_addI q2 cb1 (by omega) (by omega)
  unfold S_DW_divideToPrecision_J52 F_DW_divideToPrecision_J52
  have d : S_DW_divideRaised R R2 (((lx74 + 1 : Int32) - t9_1 : Int32) + t12_1 : Int32) t0_0 t0_1 t1_0 t1_1 t2_0 t3_0 t3_1 t4_0 t5_0 t5_1 t6_0 t9_0 t9_1 t10_0 t10_1 t11_0 t12_0 t12_1 t13_0 t13_1 t14_0 ∧ (fun p => (p.2.1 = 0 ∨ p.2.1 = 1) ∧ G4 (bP 220 215) (bI 220) (bI 220) (bW R2 vb) p.2.2) (F_DW_divideRaised R R2 (((lx74 + 1 : Int32) - t9_1 : Int32) + t12_1 : Int32) t0_0 t0_1 t1_0 t1_1 t2_0 t3_0 t3_1 t4_0 t5_0 t5_1 t6_0 t9_0 t9_1 t10_0 t10_1 t11_0 t12_0 t12_1 t13_0 t13_1 t14_0) := T_divideRaised (M := 215) ha1 hb1 hv (v_rf ca2.2.1 ca3 (by rw [q3]; omega)) (by decide)
  refine v_owe d.1 ?_
  replace d := d.2
  generalize (F_DW_divideRaised R R2 (((lx74 + 1 : Int32) - t9_1 : Int32) + t12_1 : Int32) t0_0 t0_1 t1_0 t1_1 t2_0 t3_0 t3_1 t4_0 t5_0 t5_1 t6_0 t9_0 t9_1 t10_0 t10_1 t11_0 t12_0 t12_1 t13_0 t13_1 t14_0) = p153 at d ⊢
  unfold S_DW_divideToPrecision_c75 F_DW_divideToPrecision_c75
  obtain ⟨_, ⟨w, w1, w2, w3⟩, d2, d3, d4⟩ := d
  have h101 : (fun p => (∃ d : Nat, p.1.toInt = (d : Int) ∧ vF w d) ∧ G1 (bI 220) p.2) (F_Mil_countFigures (220 : Int32) t7_0 t7_1 t8_0 (p153.2.2.1 : Int32) (p153.2.2.2.1 : Int32) (p153.2.2.2.2.1 : (Nat → Int32))) := T_countFigures w3 w2 (by decide) i2
  generalize (F_Mil_countFigures (220 : Int32) t7_0 t7_1 t8_0 (p153.2.2.1 : Int32) (p153.2.2.2.1 : Int32) (p153.2.2.2.2.1 : (Nat → Int32))) = p200 at h101 ⊢
  unfold S_DW_divideToPrecision_c101 F_DW_divideToPrecision_c101
  by_cases g : p200.1 ≤ lx74 + 1
  · rw [if_pos g, if_pos g]
    exact T_dpJ w3 w1 w2 (by decide) d2 h101.2 d4
  · rw [if_neg g, if_neg g]
    obtain ⟨u, u1, u2, u3, u4⟩ := W_drop (x2 := 1) w3
    have h124 : (Gr1 (fun r => r = 0 ∨ r = 1) (bW 220 u)) (F_Big_dropFigures (220 : Int32) (1 : Int32) (p153.2.2.1 : Int32) (p153.2.2.2.1 : Int32) (p153.2.2.2.2.1 : (Nat → Int32))) := u4
    generalize (F_Big_dropFigures (220 : Int32) (1 : Int32) (p153.2.2.1 : Int32) (p153.2.2.2.1 : Int32) (p153.2.2.2.2.1 : (Nat → Int32))) = p414 at h124 ⊢
    unfold S_DW_divideToPrecision_c124 F_DW_divideToPrecision_c124
    exact T_dpJ h124.2 (u2 w1) (w2.le (by rw [u1]; exact Nat.div_le_self _ _)) (by decide) d2 h101.2 d4
theorem T_divideToPrecision_aJ {R2 : Int32} {x4 : Int32} {x5 : Int32} {t0_0 : Int64} {t0_1 : Int32} {t1_0 : Int32} {t1_1 : Int32} {t2_0 : (Nat → Int32)} {t3_0 : Int32} {t3_1 : Int32} {t4_0 : (Nat → Int32)} {t5_0 : Int32} {t5_1 : Int32} {t6_0 : (Nat → Int32)} {t7_0 : Int32} {t7_1 : Int32} {t8_0 : (Nat → Int32)} {t9_0 : Int32} {t9_1 : Int32} {t10_0 : Int32} {t10_1 : Int32} {t11_0 : (Nat → Int32)} {j56 : Int64} {lx61 : Int32} {va vb : Int} (ha : dO R2 t10_0 t10_1 t11_0 t9_0 t9_1 va) (hb : dO R2 t10_0 t10_1 t11_0 t9_0 t9_1 vb) (hv : vb ≠ 0) (hx : 0 ≤ lx61.toInt) (hx2 : lx61.toInt ≤ 1000) (i2 : bI 220 t7_0 t7_1 t8_0) : (S_DW_divideToPrecision_a_J52 R2 x4 x5 t0_0 t0_1 t1_0 t1_1 t2_0 t3_0 t3_1 t4_0 t5_0 t5_1 t6_0 t7_0 t7_1 t8_0 t9_0 t9_1 t10_0 t10_1 t11_0 j56 lx61) ∧ Dq (F_DW_divideToPrecision_a_J52 R2 x4 x5 t0_0 t0_1 t1_0 t1_1 t2_0 t3_0 t3_1 t4_0 t5_0 t5_1 t6_0 t7_0 t7_1 t8_0 t9_0 t9_1 t10_0 t10_1 t11_0 j56 lx61).1 (F_DW_divideToPrecision_a_J52 R2 x4 x5 t0_0 t0_1 t1_0 t1_1 t2_0 t3_0 t3_1 t4_0 t5_0 t5_1 t6_0 t7_0 t7_1 t8_0 t9_0 t9_1 t10_0 t10_1 t11_0 j56 lx61).2.2.2.1 (F_DW_divideToPrecision_a_J52 R2 x4 x5 t0_0 t0_1 t1_0 t1_1 t2_0 t3_0 t3_1 t4_0 t5_0 t5_1 t6_0 t7_0 t7_1 t8_0 t9_0 t9_1 t10_0 t10_1 t11_0 j56 lx61).2.2.2.2.1 (F_DW_divideToPrecision_a_J52 R2 x4 x5 t0_0 t0_1 t1_0 t1_1 t2_0 t3_0 t3_1 t4_0 t5_0 t5_1 t6_0 t7_0 t7_1 t8_0 t9_0 t9_1 t10_0 t10_1 t11_0 j56 lx61).2.2.2.2.2.1 ∧ G5 (bI 220) (bI 220) (bI 220) (bI 220) (bW R2 vb) (F_DW_divideToPrecision_a_J52 R2 x4 x5 t0_0 t0_1 t1_0 t1_1 t2_0 t3_0 t3_1 t4_0 t5_0 t5_1 t6_0 t7_0 t7_1 t8_0 t9_0 t9_1 t10_0 t10_1 t11_0 j56 lx61).2.2.2 := by
  have e := e220
  obtain ⟨ha1, ⟨ca, ca1, ca2, ca3⟩, ha3, ha4⟩ := ha
  obtain ⟨hb1, ⟨cb, cb1, cb2, cb3⟩, hb3, hb4⟩ := hb
  have q1 : (lx61 + 1 : Int32).toInt = lx61.toInt + 1 := q_addI rfl v_e1 (by omega) (by omega)
  have q2 : (lx61 + 1 - t9_1 : Int32).toInt = lx61.toInt + 1 - (ca : Int) := q_subI q1 ca1 (by omega) (by omega)
  have q3 : (lx61 + 1 - t9_1 + t9_1 : Int32).toInt = lx61.toInt + 1 - (ca : Int) + (cb : Int) := q_addI q2 cb1 (by omega) (by omega)
  unfold S_DW_divideToPrecision_a_J52 F_DW_divideToPrecision_a_J52
  have d : S_DW_divideRaised_a R2 (((lx61 + 1 : Int32) - t9_1 : Int32) + t9_1 : Int32) t0_0 t0_1 t1_0 t1_1 t2_0 t3_0 t3_1 t4_0 t5_0 t5_1 t6_0 t9_0 t9_1 t10_0 t10_1 t11_0 ∧ (fun p => (p.2.1 = 0 ∨ p.2.1 = 1) ∧ G4 (bP 220 215) (bI 220) (bI 220) (bW R2 vb) p.2.2) (F_DW_divideRaised_a R2 (((lx61 + 1 : Int32) - t9_1 : Int32) + t9_1 : Int32) t0_0 t0_1 t1_0 t1_1 t2_0 t3_0 t3_1 t4_0 t5_0 t5_1 t6_0 t9_0 t9_1 t10_0 t10_1 t11_0) := T_divideRaised_a (M := 215) ha1 hb1 hv (v_rf ca2.2.1 ca3 (by rw [q3]; omega)) (by decide)
  refine v_owe d.1 ?_
  replace d := d.2
  generalize (F_DW_divideRaised_a R2 (((lx61 + 1 : Int32) - t9_1 : Int32) + t9_1 : Int32) t0_0 t0_1 t1_0 t1_1 t2_0 t3_0 t3_1 t4_0 t5_0 t5_1 t6_0 t9_0 t9_1 t10_0 t10_1 t11_0) = p137 at d ⊢
  unfold S_DW_divideToPrecision_a_c75 F_DW_divideToPrecision_a_c75
  obtain ⟨_, ⟨w, w1, w2, w3⟩, d2, d3, d4⟩ := d
  have h101 : (fun p => (∃ d : Nat, p.1.toInt = (d : Int) ∧ vF w d) ∧ G1 (bI 220) p.2) (F_Mil_countFigures (220 : Int32) t7_0 t7_1 t8_0 (p137.2.2.1 : Int32) (p137.2.2.2.1 : Int32) (p137.2.2.2.2.1 : (Nat → Int32))) := T_countFigures w3 w2 (by decide) i2
  generalize (F_Mil_countFigures (220 : Int32) t7_0 t7_1 t8_0 (p137.2.2.1 : Int32) (p137.2.2.2.1 : Int32) (p137.2.2.2.2.1 : (Nat → Int32))) = p184 at h101 ⊢
  unfold S_DW_divideToPrecision_a_c101 F_DW_divideToPrecision_a_c101
  by_cases g : p184.1 ≤ lx61 + 1
  · rw [if_pos g, if_pos g]
    exact T_dpJ_a w3 w1 w2 (by decide) d2 h101.2 d4
  · rw [if_neg g, if_neg g]
    obtain ⟨u, u1, u2, u3, u4⟩ := W_drop (x2 := 1) w3
    have h124 : (Gr1 (fun r => r = 0 ∨ r = 1) (bW 220 u)) (F_Big_dropFigures (220 : Int32) (1 : Int32) (p137.2.2.1 : Int32) (p137.2.2.2.1 : Int32) (p137.2.2.2.2.1 : (Nat → Int32))) := u4
    generalize (F_Big_dropFigures (220 : Int32) (1 : Int32) (p137.2.2.1 : Int32) (p137.2.2.2.1 : Int32) (p137.2.2.2.2.1 : (Nat → Int32))) = p369 at h124 ⊢
    unfold S_DW_divideToPrecision_a_c124 F_DW_divideToPrecision_a_c124
    exact T_dpJ_a h124.2 (u2 w1) (w2.le (by rw [u1]; exact Nat.div_le_self _ _)) (by decide) d2 h101.2 d4
theorem T_divideToPrecision {R : Int32} {R2 : Int32} {x4 : Int32} {x5 : Int32} {t0_0 : Int64} {t0_1 : Int32} {t1_0 : Int32} {t1_1 : Int32} {t2_0 : (Nat → Int32)} {t3_0 : Int32} {t3_1 : Int32} {t4_0 : (Nat → Int32)} {t5_0 : Int32} {t5_1 : Int32} {t6_0 : (Nat → Int32)} {t7_0 : Int32} {t7_1 : Int32} {t8_0 : (Nat → Int32)} {t9_0 : Int32} {t9_1 : Int32} {t10_0 : Int32} {t10_1 : Int32} {t11_0 : (Nat → Int32)} {t12_0 : Int32} {t12_1 : Int32} {t13_0 : Int32} {t13_1 : Int32} {t14_0 : (Nat → Int32)} {va vb : Int} (ha : dO R t10_0 t10_1 t11_0 t9_0 t9_1 va) (hb : dO R2 t13_0 t13_1 t14_0 t12_0 t12_1 vb) (hv : vb ≠ 0) (hx : 0 ≤ x4.toInt) (hx2 : x4.toInt ≤ 1000) (i0 : bI 220 t3_0 t3_1 t4_0) (i1 : bI 220 t5_0 t5_1 t6_0) (i2 : bI 220 t7_0 t7_1 t8_0) : (S_DW_divideToPrecision R R2 x4 x5 t0_0 t0_1 t1_0 t1_1 t2_0 t3_0 t3_1 t4_0 t5_0 t5_1 t6_0 t7_0 t7_1 t8_0 t9_0 t9_1 t10_0 t10_1 t11_0 t12_0 t12_1 t13_0 t13_1 t14_0) ∧ Dq (F_DW_divideToPrecision R R2 x4 x5 t0_0 t0_1 t1_0 t1_1 t2_0 t3_0 t3_1 t4_0 t5_0 t5_1 t6_0 t7_0 t7_1 t8_0 t9_0 t9_1 t10_0 t10_1 t11_0 t12_0 t12_1 t13_0 t13_1 t14_0).1 (F_DW_divideToPrecision R R2 x4 x5 t0_0 t0_1 t1_0 t1_1 t2_0 t3_0 t3_1 t4_0 t5_0 t5_1 t6_0 t7_0 t7_1 t8_0 t9_0 t9_1 t10_0 t10_1 t11_0 t12_0 t12_1 t13_0 t13_1 t14_0).2.2.2.1 (F_DW_divideToPrecision R R2 x4 x5 t0_0 t0_1 t1_0 t1_1 t2_0 t3_0 t3_1 t4_0 t5_0 t5_1 t6_0 t7_0 t7_1 t8_0 t9_0 t9_1 t10_0 t10_1 t11_0 t12_0 t12_1 t13_0 t13_1 t14_0).2.2.2.2.1 (F_DW_divideToPrecision R R2 x4 x5 t0_0 t0_1 t1_0 t1_1 t2_0 t3_0 t3_1 t4_0 t5_0 t5_1 t6_0 t7_0 t7_1 t8_0 t9_0 t9_1 t10_0 t10_1 t11_0 t12_0 t12_1 t13_0 t13_1 t14_0).2.2.2.2.2.1 ∧ G5 (bI 220) (bI 220) (bI 220) (bI 220) (bW R2 vb) (F_DW_divideToPrecision R R2 x4 x5 t0_0 t0_1 t1_0 t1_1 t2_0 t3_0 t3_1 t4_0 t5_0 t5_1 t6_0 t7_0 t7_1 t8_0 t9_0 t9_1 t10_0 t10_1 t11_0 t12_0 t12_1 t13_0 t13_1 t14_0).2.2.2 := by
  unfold S_DW_divideToPrecision F_DW_divideToPrecision
  by_cases g : t10_0 = 0
  · rw [if_pos g, if_pos g]
    have h1 : bO 220 (F_Big_clear 220 t1_0 t1_1).1 (F_Big_clear 220 t1_0 t1_1).2 t2_0 0 := W_clear (by decide) (by decide)
    exact ⟨trivial, Or.inr ⟨rfl, h1.K (M := 0) (by show 0 < _; decide) (by decide)⟩, h1.I, i0, i1, i2, hb.1⟩
  · rw [if_neg g, if_neg g]
    by_cases g2 : x4 = 0
    · rw [if_pos g2, if_pos g2]
      exact T_divideToPrecisionJ ha hb hv (by decide) (by decide) i2
    · rw [if_neg g2, if_neg g2]
      exact T_divideToPrecisionJ ha hb hv hx hx2 i2
theorem T_divideToPrecision_a {R2 : Int32} {x4 : Int32} {x5 : Int32} {t0_0 : Int64} {t0_1 : Int32} {t1_0 : Int32} {t1_1 : Int32} {t2_0 : (Nat → Int32)} {t3_0 : Int32} {t3_1 : Int32} {t4_0 : (Nat → Int32)} {t5_0 : Int32} {t5_1 : Int32} {t6_0 : (Nat → Int32)} {t7_0 : Int32} {t7_1 : Int32} {t8_0 : (Nat → Int32)} {t9_0 : Int32} {t9_1 : Int32} {t10_0 : Int32} {t10_1 : Int32} {t11_0 : (Nat → Int32)} {va : Int} (ha : dO R2 t10_0 t10_1 t11_0 t9_0 t9_1 va) (hx : 0 ≤ x4.toInt) (hx2 : x4.toInt ≤ 1000) (i0 : bI 220 t3_0 t3_1 t4_0) (i1 : bI 220 t5_0 t5_1 t6_0) (i2 : bI 220 t7_0 t7_1 t8_0) : (S_DW_divideToPrecision_a R2 x4 x5 t0_0 t0_1 t1_0 t1_1 t2_0 t3_0 t3_1 t4_0 t5_0 t5_1 t6_0 t7_0 t7_1 t8_0 t9_0 t9_1 t10_0 t10_1 t11_0) ∧ Dq (F_DW_divideToPrecision_a R2 x4 x5 t0_0 t0_1 t1_0 t1_1 t2_0 t3_0 t3_1 t4_0 t5_0 t5_1 t6_0 t7_0 t7_1 t8_0 t9_0 t9_1 t10_0 t10_1 t11_0).1 (F_DW_divideToPrecision_a R2 x4 x5 t0_0 t0_1 t1_0 t1_1 t2_0 t3_0 t3_1 t4_0 t5_0 t5_1 t6_0 t7_0 t7_1 t8_0 t9_0 t9_1 t10_0 t10_1 t11_0).2.2.2.1 (F_DW_divideToPrecision_a R2 x4 x5 t0_0 t0_1 t1_0 t1_1 t2_0 t3_0 t3_1 t4_0 t5_0 t5_1 t6_0 t7_0 t7_1 t8_0 t9_0 t9_1 t10_0 t10_1 t11_0).2.2.2.2.1 (F_DW_divideToPrecision_a R2 x4 x5 t0_0 t0_1 t1_0 t1_1 t2_0 t3_0 t3_1 t4_0 t5_0 t5_1 t6_0 t7_0 t7_1 t8_0 t9_0 t9_1 t10_0 t10_1 t11_0).2.2.2.2.2.1 ∧ G5 (bI 220) (bI 220) (bI 220) (bI 220) (bW R2 va) (F_DW_divideToPrecision_a R2 x4 x5 t0_0 t0_1 t1_0 t1_1 t2_0 t3_0 t3_1 t4_0 t5_0 t5_1 t6_0 t7_0 t7_1 t8_0 t9_0 t9_1 t10_0 t10_1 t11_0).2.2.2 := by
  unfold S_DW_divideToPrecision_a F_DW_divideToPrecision_a
  by_cases g : t10_0 = 0
  · rw [if_pos g, if_pos g]
    have h1 : bO 220 (F_Big_clear 220 t1_0 t1_1).1 (F_Big_clear 220 t1_0 t1_1).2 t2_0 0 := W_clear (by decide) (by decide)
    exact ⟨trivial, Or.inr ⟨rfl, h1.K (M := 0) (by show 0 < _; decide) (by decide)⟩, h1.I, i0, i1, i2, ha.1⟩
  · rw [if_neg g, if_neg g]
    have hv : va ≠ 0 := fun h => g (ha.1.nil.mpr h)
    by_cases g2 : x4 = 0
    · rw [if_pos g2, if_pos g2]
      exact T_divideToPrecision_aJ ha ha hv (by decide) (by decide) i2
    · rw [if_neg g2, if_neg g2]
      exact T_divideToPrecision_aJ ha ha hv hx hx2 i2
theorem v_tdB {x : Int} : 2 * x.tdiv 2 ≤ x + 1 ∧ x - 1 ≤ 2 * x.tdiv 2 := by
  have h1 := Int.tmod_add_mul_tdiv x 2
  have h2 : x.tmod 2 = x - 2 * x.tdiv 2 := by omega
  rcases Int.le_total 0 x with h | h
  · have h3 := Int.tmod_nonneg 2 h
    have h4 := Int.tmod_lt_of_pos x (b := 2) (by decide)
    omega
  · have e : x = -(-x) := by omega
    have h3 := Int.tmod_nonneg (a := -x) 2 (by omega)
    have h4 := Int.tmod_lt_of_pos (-x) (b := 2) (by decide)
    have h5 : x.tmod 2 = -((-x).tmod 2) := by
      rw [← Int.neg_tmod, Int.neg_neg]
    omega
theorem v_fdW {x : Int32} (h : -1000000 ≤ x.toInt) (h2 : x.toInt ≤ 1000000) : x.toInt - 3 ≤ 2 * (F_jMath_floorDiv_III x 2).toInt ∧ 2 * (F_jMath_floorDiv_III x 2).toInt ≤ x.toInt + 1 := by
  have t := v_tdB (x := x.toInt)
  have e2 : (2 : Int32).toInt = 2 := rfl
  have d : (x / 2 : Int32).toInt = x.toInt.tdiv 2 := by
    rw [Int32.toInt_div, e2]
    exact Int.bmod_eq_of_le (by omega) (by omega)
  have d1 : (x / 2 - 1 : Int32).toInt = x.toInt.tdiv 2 - 1 := q_subI d v_e1 (by omega) (by omega)
  unfold F_jMath_floorDiv_III
  split
  · rw [d]
    omega
  · split
    · rw [d]
      omega
    · rw [d1]
      omega

theorem T_squareRoot {R : Int32} {x3 : Int32} {x4 : Int32} {t0_0 : Int64} {t0_1 : Int32} {t1_0 : Int32} {t1_1 : Int32} {t2_0 : (Nat → Int32)} {t3_0 : Int32} {t3_1 : Int32} {t4_0 : (Nat → Int32)} {t5_0 : Int32} {t5_1 : Int32} {t6_0 : (Nat → Int32)} {t7_0 : Int32} {t7_1 : Int32} {t8_0 : (Nat → Int32)} {t9_0 : Int32} {t9_1 : Int32} {t10_0 : (Nat → Int32)} {t11_0 : Int32} {t11_1 : Int32} {t12_0 : (Nat → Int32)} {t13_0 : Int32} {t13_1 : Int32} {t14_0 : (Nat → Int32)} {t15_0 : Int32} {t15_1 : Int32} {t16_0 : (Nat → Int32)} {t17_0 : Int32} {t17_1 : Int32} {t18_0 : Int32} {t18_1 : Int32} {t19_0 : (Nat → Int32)} {va : Int} (ha : dO R t18_0 t18_1 t19_0 t17_0 t17_1 va) (hva : 0 ≤ va) (hx : 1 ≤ x3.toInt) (hx2 : x3.toInt ≤ 1000) (i1 : bI 220 t3_0 t3_1 t4_0) (i2 : bI 220 t5_0 t5_1 t6_0) (i3 : bI 220 t7_0 t7_1 t8_0) (i4 : bI 220 t9_0 t9_1 t10_0) (i5 : bI 220 t11_0 t11_1 t12_0) (i6 : bI 220 t13_0 t13_1 t14_0) (i7 : bI 220 t15_0 t15_1 t16_0) : (S_DW_squareRoot R x3 x4 t0_0 t0_1 t1_0 t1_1 t2_0 t3_0 t3_1 t4_0 t5_0 t5_1 t6_0 t7_0 t7_1 t8_0 t9_0 t9_1 t10_0 t11_0 t11_1 t12_0 t13_0 t13_1 t14_0 t15_0 t15_1 t16_0 t17_0 t17_1 t18_0 t18_1 t19_0) ∧ Dq (F_DW_squareRoot R x3 x4 t0_0 t0_1 t1_0 t1_1 t2_0 t3_0 t3_1 t4_0 t5_0 t5_1 t6_0 t7_0 t7_1 t8_0 t9_0 t9_1 t10_0 t11_0 t11_1 t12_0 t13_0 t13_1 t14_0 t15_0 t15_1 t16_0 t17_0 t17_1 t18_0 t18_1 t19_0).1 (F_DW_squareRoot R x3 x4 t0_0 t0_1 t1_0 t1_1 t2_0 t3_0 t3_1 t4_0 t5_0 t5_1 t6_0 t7_0 t7_1 t8_0 t9_0 t9_1 t10_0 t11_0 t11_1 t12_0 t13_0 t13_1 t14_0 t15_0 t15_1 t16_0 t17_0 t17_1 t18_0 t18_1 t19_0).2.2.2.1 (F_DW_squareRoot R x3 x4 t0_0 t0_1 t1_0 t1_1 t2_0 t3_0 t3_1 t4_0 t5_0 t5_1 t6_0 t7_0 t7_1 t8_0 t9_0 t9_1 t10_0 t11_0 t11_1 t12_0 t13_0 t13_1 t14_0 t15_0 t15_1 t16_0 t17_0 t17_1 t18_0 t18_1 t19_0).2.2.2.2.1 (F_DW_squareRoot R x3 x4 t0_0 t0_1 t1_0 t1_1 t2_0 t3_0 t3_1 t4_0 t5_0 t5_1 t6_0 t7_0 t7_1 t8_0 t9_0 t9_1 t10_0 t11_0 t11_1 t12_0 t13_0 t13_1 t14_0 t15_0 t15_1 t16_0 t17_0 t17_1 t18_0 t18_1 t19_0).2.2.2.2.2.1 ∧ G8 (bI 220) (bI 220) (bI 220) (bI 220) (bI 220) (bI 220) (bI 220) (bI 220) (F_DW_squareRoot R x3 x4 t0_0 t0_1 t1_0 t1_1 t2_0 t3_0 t3_1 t4_0 t5_0 t5_1 t6_0 t7_0 t7_1 t8_0 t9_0 t9_1 t10_0 t11_0 t11_1 t12_0 t13_0 t13_1 t14_0 t15_0 t15_1 t16_0 t17_0 t17_1 t18_0 t18_1 t19_0).2.2.2 := by
  have e := e220
  have e2 : (2 : Int32).toInt = 2 := rfl
  obtain ⟨ha1, ⟨ca, ca1, ca2, ca3⟩, ha3, ha4⟩ := ha
  have c1' := ca2.1
  unfold S_DW_squareRoot F_DW_squareRoot
  by_cases g : t18_0 = 0
  · rw [if_pos g, if_pos g]
    have h1 : bO 220 (F_Big_clear 220 t1_0 t1_1).1 (F_Big_clear 220 t1_0 t1_1).2 t2_0 0 := W_clear (by decide) (by decide)
    exact ⟨trivial, Or.inr ⟨rfl, h1.K (M := 0) (by show 0 < _; decide) (by decide)⟩, h1.I, i1, i2, i3, i4, i5, i6, i7⟩
  rw [if_neg g, if_neg g]
  have q1 : (t17_1 - 1 : Int32).toInt = (ca : Int) - 1 := q_subI ca1 v_e1 (by omega) (by omega)
  have q2 : (t17_1 - 1 - t17_0 : Int32).toInt = (ca : Int) - 1 - t17_0.toInt := q_subI q1 rfl (by omega) (by omega)
  have q3 := v_fdW (x := t17_1 - 1 - t17_0) (by rw [q2]; omega) (by rw [q2]; omega)
  rw [q2] at q3
  have h1 : P1 220 va (F_Big_copy 220 R t1_0 t1_1 t2_0 t18_0 t18_1 t19_0) := W_copy ha1 ha1.fit (by decide)
  generalize F_Big_copy 220 R t1_0 t1_1 t2_0 t18_0 t18_1 t19_0 = p133 at h1 ⊢
  generalize F_jMath_floorDiv_III (t17_1 - 1 - t17_0) 2 = fd at q3 ⊢
  generalize F_jMath_floorDiv_III t17_0 2 = a84
  have q4 : (x3 - 1 : Int32).toInt = x3.toInt - 1 := q_subI rfl v_e1 (by omega) (by omega)
  have q5 : (x3 - 1 - fd : Int32).toInt = x3.toInt - 1 - fd.toInt := q_subI q4 rfl (by omega) (by omega)
  have q6 : ((x3 - 1 - fd : Int32).toInt64.toInt32).toInt = x3.toInt - 1 - fd.toInt := by
    have := q_i2l q5
    rw [s_l2i (by omega) (by omega), this]
  generalize (x3 - 1 - fd : Int32).toInt64 = j104 at q6 ⊢
  have q7 : (j104.toInt32 + 1 : Int32).toInt = x3.toInt - 1 - fd.toInt + 1 := q_addI q6 v_e1 (by omega) (by omega)
  have q8 : (2 * (j104.toInt32 + 1) : Int32).toInt = 2 * (x3.toInt - 1 - fd.toInt + 1) := q_mulI e2 q7 (by omega) (by omega)
  have q9 : (2 * (j104.toInt32 + 1) - t17_0 : Int32).toInt = 2 * (x3.toInt - 1 - fd.toInt + 1) - t17_0.toInt := q_subI q8 rfl (by omega) (by omega)
  generalize (2 * (j104.toInt32 + 1) - t17_0 : Int32) = a116 at q9 ⊢
  unfold S_DW_squareRoot_c90 F_DW_squareRoot_c90
  have m1 := v_rf (va := va) (x := a116) ca2.2.1 ca3 (by omega)
  have h2 := W_ten (M := 215) h1 (by decide) m1
  have b2 := v_abT m1
  have hn2 : 0 ≤ va * 10 ^ a116.toNatClampNeg := Int.mul_nonneg hva (Int.le_of_lt (v_t10 _))
  generalize va * 10 ^ a116.toNatClampNeg = w at h2 b2 hn2
  generalize F_Big_timesTen 220 a116 p133.1 p133.2.1 p133.2.2 = p156 at h2 ⊢
  unfold S_DW_squareRoot_c102 F_DW_squareRoot_c102
  obtain ⟨u, u1, u2, u3, u4, u5⟩ := W_drop (x2 := -a116) h2
  generalize F_Big_dropFigures 220 (-a116) p156.1 p156.2.1 p156.2.2 = p185 at u4 u5 ⊢
  have bu : bB 215 u := b2.le (by rw [u1]; exact Nat.div_le_self _ _)
  have un := u2 hn2
  unfold S_DW_squareRoot_c116 F_DW_squareRoot_c116
  have r := T_root (x3 := 2) (t0_0 := t7_0) (t0_1 := t7_1) (t1_0 := t8_0) u5 bu (by decide) (by decide) (by decide) (by decide) i2 i4 i5 i6 i1
  refine v_owe r.1 ?_
  replace r := r.2
  generalize F_Mil_root 220 2 t7_0 t7_1 t8_0 t5_0 t5_1 t6_0 t9_0 t9_1 t10_0 t11_0 t11_1 t12_0 t13_0 t13_1 t14_0 t3_0 t3_1 t4_0 p185.2.1 p185.2.2.1 p185.2.2.2 = p260 at r ⊢
  obtain ⟨⟨rv, r0, r1⟩, r2, r3, r4, r5, r6⟩ := r
  have rB : 0 ≤ rv ∧ bB 108 rv := by
    rcases r0 with ⟨h3, h4⟩ | ⟨h3, k, h4, h5⟩
    · rcases h4 with h4 | h4
      · rw [h3, h4]
        exact ⟨by decide, by show 0 < 2147483648 ^ 108; decide⟩
      · exact absurd h4 (by decide)
    · refine ⟨by omega, v_rB h4 ?_⟩
      have : k * 2 ≤ 31 * 215 + 2 - 1 := h5
      omega
  have sr := r1.sB rB.2
  unfold S_DW_squareRoot_c134 F_DW_squareRoot_c134
  have h3 : P1 220 (rv * rv) (F_Big_product 220 220 220 p260.2.2.2.2.2.2.2.2.2.1 p260.2.2.2.2.2.2.2.2.2.2.1 p260.2.2.2.2.2.2.2.2.2.2.2.1 p260.1 p260.2.1 p260.2.2.1 p260.1 p260.2.1 p260.2.2.1) := W_product r1 r1 (by decide) (by omega)
  generalize F_Big_product 220 220 220 p260.2.2.2.2.2.2.2.2.2.1 p260.2.2.2.2.2.2.2.2.2.2.1 p260.2.2.2.2.2.2.2.2.2.2.2.1 p260.1 p260.2.1 p260.2.2.1 p260.1 p260.2.1 p260.2.2.1 = p298 at h3 ⊢
  unfold S_DW_squareRoot_c158 F_DW_squareRoot_c158
  have fin : ∀ b : Int32, Dq (F_DW_shorten 0 x3 a84.toInt64 x4 j104 b (F_Big_copy 220 220 p185.2.1 p185.2.2.1 p185.2.2.2 p260.1 p260.2.1 p260.2.2.1).1 (F_Big_copy 220 220 p185.2.1 p185.2.2.1 p185.2.2.2 p260.1 p260.2.1 p260.2.2.1).2.1 (F_Big_copy 220 220 p185.2.1 p185.2.2.1 p185.2.2.2 p260.1 p260.2.1 p260.2.2.1).2.2 p298.1 p298.2.1 p298.2.2 t15_0 t15_1 t16_0).1 (F_DW_shorten 0 x3 a84.toInt64 x4 j104 b (F_Big_copy 220 220 p185.2.1 p185.2.2.1 p185.2.2.2 p260.1 p260.2.1 p260.2.2.1).1 (F_Big_copy 220 220 p185.2.1 p185.2.2.1 p185.2.2.2 p260.1 p260.2.1 p260.2.2.1).2.1 (F_Big_copy 220 220 p185.2.1 p185.2.2.1 p185.2.2.2 p260.1 p260.2.1 p260.2.2.1).2.2 p298.1 p298.2.1 p298.2.2 t15_0 t15_1 t16_0).2.2.2.1 (F_DW_shorten 0 x3 a84.toInt64 x4 j104 b (F_Big_copy 220 220 p185.2.1 p185.2.2.1 p185.2.2.2 p260.1 p260.2.1 p260.2.2.1).1 (F_Big_copy 220 220 p185.2.1 p185.2.2.1 p185.2.2.2 p260.1 p260.2.1 p260.2.2.1).2.1 (F_Big_copy 220 220 p185.2.1 p185.2.2.1 p185.2.2.2 p260.1 p260.2.1 p260.2.2.1).2.2 p298.1 p298.2.1 p298.2.2 t15_0 t15_1 t16_0).2.2.2.2.1 (F_DW_shorten 0 x3 a84.toInt64 x4 j104 b (F_Big_copy 220 220 p185.2.1 p185.2.2.1 p185.2.2.2 p260.1 p260.2.1 p260.2.2.1).1 (F_Big_copy 220 220 p185.2.1 p185.2.2.1 p185.2.2.2 p260.1 p260.2.1 p260.2.2.1).2.1 (F_Big_copy 220 220 p185.2.1 p185.2.2.1 p185.2.2.2 p260.1 p260.2.1 p260.2.2.1).2.2 p298.1 p298.2.1 p298.2.2 t15_0 t15_1 t16_0).2.2.2.2.2.1 ∧ G3 (bI 220) (bI 220) (bI 220) (F_DW_shorten 0 x3 a84.toInt64 x4 j104 b (F_Big_copy 220 220 p185.2.1 p185.2.2.1 p185.2.2.2 p260.1 p260.2.1 p260.2.2.1).1 (F_Big_copy 220 220 p185.2.1 p185.2.2.1 p185.2.2.2 p260.1 p260.2.1 p260.2.2.1).2.1 (F_Big_copy 220 220 p185.2.1 p185.2.2.1 p185.2.2.2 p260.1 p260.2.1 p260.2.2.1).2.2 p298.1 p298.2.1 p298.2.2 t15_0 t15_1 t16_0).2.2.2 := by
    intro b
    have h4 := W_copy (R := 220) (s := p185.2.1) (neg := p185.2.2.1) (f := p185.2.2.2) r1 r1.fit (by decide)
    have r7 := T_shorten (x2 := 0) (x3 := x3) (x4 := a84.toInt64) (x5 := x4) (t0_0 := j104) (t0_1 := b) (t3_0 := p298.1) (t3_1 := p298.2.1) (t4_0 := p298.2.2) h4 rB.1 rB.2 (by decide) i7
    exact ⟨Dq.mk r7.1 r7.2.1, r7.2.1.I, r7.2.2.1, r7.2.2.2⟩
  split
  · have f := fin (p185.1 ||| 0)
    exact ⟨trivial, f.1, f.2.1, r6, r2, trivial, r3, f.2.2.1, r5, f.2.2.2⟩
  · have f := fin (p185.1 ||| 1)
    exact ⟨trivial, f.1, f.2.1, r6, r2, trivial, r3, f.2.2.1, r5, f.2.2.2⟩

/-! values: Reader 1 -/
theorem v_at {x : Int64} {t0 : Int32} {t1 : Nat → Int64} : S_She_at 4100 513 4100 x t0 t1 := by
  unfold S_She_at
  split
  · trivial
  · rename_i h1
    split
    · trivial
    · split
      · rename_i h3
        have h1' := q_k2 h1
        have h3' := q_k1 h3
        have e0 : (0 : Int64).toInt = 0 := rfl
        have e4 : (4100 : Int32).toInt64.toInt = 4100 := rfl
        have e5 : (513 : Int32).toInt = 513 := rfl
        have l := s_l2i (x := x) (by omega) (by omega)
        have s := s_shr (x := x.toInt32) (c := 3) 3 (by decide) (by decide) (by omega)
        rw [s, l]
        exact ⟨by omega, by omega, trivial⟩
      · trivial
theorem v_here {t0_0 t0_1 t0_9 : Int64} {t0_2 t0_3 t0_4 t0_5 t0_6 t0_7 t0_8 t1_0 : Int32} {t2_0 : Nat → Int64} : S_Rea_here t0_0 t0_1 t0_2 t0_3 t0_4 t0_5 t0_6 t0_7 t0_8 t0_9 t1_0 t2_0 := by
  unfold S_Rea_here
  split
  · trivial
  · exact ⟨⟨trivial, v_at⟩, trivial⟩
theorem v_dig {t0_0 t0_1 t0_9 : Int64} {t0_2 t0_3 t0_4 t0_5 t0_6 t0_7 t0_8 t1_0 : Int32} {t2_0 : Nat → Int64} : S_Rea_digitHere t0_0 t0_1 t0_2 t0_3 t0_4 t0_5 t0_6 t0_7 t0_8 t0_9 t1_0 t2_0 := by
  unfold S_Rea_digitHere
  refine ⟨⟨trivial, v_here⟩, ?_⟩
  have J : ∀ a : Int32, S_Rea_digitHere_J22 t0_0 t0_1 t0_2 t0_3 t0_4 t0_5 t0_6 t0_7 t0_8 t0_9 t1_0 t2_0 a := by
    intro a
    unfold S_Rea_digitHere_J22
    split
    · trivial
    · split <;> trivial
  split
  · exact J _
  · split
    · exact J _
    · trivial
theorem v_digB {t0_0 t0_1 t0_9 : Int64} {t0_2 t0_3 t0_4 t0_5 t0_6 t0_7 t0_8 t1_0 : Int32} {t2_0 : Nat → Int64} : 0 ≤ (F_Rea_digitHere t0_0 t0_1 t0_2 t0_3 t0_4 t0_5 t0_6 t0_7 t0_8 t0_9 t1_0 t2_0).toInt := by
  have J : ∀ a : Int32, 0 ≤ (F_Rea_digitHere_J22 t0_0 t0_1 t0_2 t0_3 t0_4 t0_5 t0_6 t0_7 t0_8 t0_9 t1_0 t2_0 a).toInt := by
    intro a
    unfold F_Rea_digitHere_J22
    generalize (a ||| 32 : Int32) = y
    have c1 : (97 : Int32).toInt = 97 := rfl
    have c2 : (122 : Int32).toInt = 122 := rfl
    have c3 : (10 : Int32).toInt = 10 := rfl
    split
    · decide
    · rename_i h1
      have h1' := q_nltI h1
      split
      · decide
      · rename_i h2
        have h2' := q_nltI h2
        have q1 : (y - 97 : Int32).toInt = y.toInt - 97 := q_subI rfl c1 (by omega) (by omega)
        have q2 : (y - 97 + 10 : Int32).toInt = y.toInt - 97 + 10 := q_addI q1 c3 (by omega) (by omega)
        rw [q2]
        omega
  unfold F_Rea_digitHere
  split
  · exact J _
  · rename_i h1
    have h1' := q_nltI h1
    split
    · exact J _
    · rename_i h2
      have h2' := q_nltI h2
      have c1 : (48 : Int32).toInt = 48 := rfl
      have c2 : (57 : Int32).toInt = 57 := rfl
      generalize F_Rea_here t0_0 t0_1 t0_2 t0_3 t0_4 t0_5 t0_6 t0_7 t0_8 t0_9 t1_0 t2_0 = c at h1' h2' ⊢
      have q1 : (c - 48 : Int32).toInt = c.toInt - 48 := q_subI rfl c1 (by omega) (by omega)
      rw [q1]
      omega
theorem v_kf {v d : Int} {b k : Nat} (hv : 0 ≤ v) (hlt : v.natAbs < b ^ k) (d0 : 0 ≤ d) (hd : d < (b : Int)) : ((b : Int) * v + d).natAbs < b ^ (k + 1) := by
  rw [Nat.pow_succ]
  have e1 : v = (v.natAbs : Int) := by omega
  have e2 : d = (d.natAbs : Int) := by omega
  generalize v.natAbs = a at e1 hlt
  generalize d.natAbs = c at e2
  subst e1
  subst e2
  have h1 : b * (a + 1) ≤ b * b ^ k := Nat.mul_le_mul_left _ hlt
  rw [Nat.mul_add, Nat.mul_one] at h1
  rw [← Int.natCast_mul, ← Int.natCast_add, Int.natAbs_natCast, Nat.mul_comm (b ^ k) b]
  omega
theorem T_keepFigure {x2 : Int32} {x3 : Int32} {x4 : Int32} {t0_0 : Int64} {t0_1 : Int64} {t0_2 : Int32} {t0_3 : Int32} {t0_4 : Int32} {t0_5 : Int32} {t0_6 : Int32} {t0_7 : Int32} {t0_8 : Int32} {t0_9 : Int64} {t1_0 : Int32} {t1_1 : Int32} {t2_0 : (Nat → Int32)} {v : Int} {k m b M : Nat} (h : bO 220 t1_0 t1_1 t2_0 v) (hv : 0 ≤ v) (hb : x2.toInt = (b : Int)) (hb2 : 2 ≤ b) (hd0 : 0 ≤ x3.toInt) (hd : x3.toInt < x2.toInt) (hm : x4.toInt = (m : Int)) (hm2 : m ≤ 1000) (hk : t0_6.toInt = (k : Int)) (hkm : k ≤ m) (hlt : v.natAbs < b ^ k) (hM : b ^ m ≤ 2147483648 ^ M) (hM2 : M < 220) : (F_Rea_keepFigure x2 x3 x4 t0_0 t0_1 t0_2 t0_3 t0_4 t0_5 t0_6 t0_7 t0_8 t0_9 t1_0 t1_1 t2_0).2.2.1 = t0_2 ∧ (F_Rea_keepFigure x2 x3 x4 t0_0 t0_1 t0_2 t0_3 t0_4 t0_5 t0_6 t0_7 t0_8 t0_9 t1_0 t1_1 t2_0).2.2.2.1 = t0_3 ∧ (F_Rea_keepFigure x2 x3 x4 t0_0 t0_1 t0_2 t0_3 t0_4 t0_5 t0_6 t0_7 t0_8 t0_9 t1_0 t1_1 t2_0).2.2.2.2.1 = t0_4 ∧ ∃ (w : Int) (j : Nat), (F_Rea_keepFigure x2 x3 x4 t0_0 t0_1 t0_2 t0_3 t0_4 t0_5 t0_6 t0_7 t0_8 t0_9 t1_0 t1_1 t2_0).2.2.2.2.2.2.1.toInt = (j : Int) ∧ j ≤ m ∧ 0 ≤ w ∧ w.natAbs < b ^ j ∧ bO 220 (F_Rea_keepFigure x2 x3 x4 t0_0 t0_1 t0_2 t0_3 t0_4 t0_5 t0_6 t0_7 t0_8 t0_9 t1_0 t1_1 t2_0).2.2.2.2.2.2.2.2.2.2.1 (F_Rea_keepFigure x2 x3 x4 t0_0 t0_1 t0_2 t0_3 t0_4 t0_5 t0_6 t0_7 t0_8 t0_9 t1_0 t1_1 t2_0).2.2.2.2.2.2.2.2.2.2.2.1 (F_Rea_keepFigure x2 x3 x4 t0_0 t0_1 t0_2 t0_3 t0_4 t0_5 t0_6 t0_7 t0_8 t0_9 t1_0 t1_1 t2_0).2.2.2.2.2.2.2.2.2.2.2.2 w := by
  have e := e220
  have e0 : (0 : Int32).toInt = 0 := rfl
  unfold F_Rea_keepFigure
  by_cases g : x4 ≤ t0_6
  · rw [if_pos g]
    split
    · exact ⟨rfl, rfl, rfl, v, k, hk, hkm, hv, hlt, h⟩
    · exact ⟨rfl, rfl, rfl, v, k, hk, hkm, hv, hlt, h⟩
  · rw [if_neg g]
    have g' := q_nleI g
    have hB : bB M v := Nat.lt_of_lt_of_le hlt (Nat.le_trans (Nat.pow_le_pow_right (by omega) hkm) hM)
    have s := h.sB hB
    have h17 : P1 220 (x2.toInt * v + x3.toInt) (F_Big_multiplySmall (220 : Int32) x2 x3 t1_0 t1_1 t2_0) := W_mulS h hv (by omega) hd0 (by omega)
    generalize (F_Big_multiplySmall (220 : Int32) x2 x3 t1_0 t1_1 t2_0) = p57 at h17 ⊢
    unfold F_Rea_keepFigure_c17
    rw [hb] at h17
    have hn : 0 ≤ (b : Int) * v + x3.toInt := Int.add_nonneg (Int.mul_nonneg (by omega) hv) hd0
    have hl := v_kf (k := k) hv hlt hd0 (by omega : x3.toInt < (b : Int))
    by_cases g2 : p57.1 ≤ 0
    · rw [if_pos g2]
      have g3 := q_leI g2
      have hz : (b : Int) * v + x3.toInt = 0 := by
        have h1 := h17.pos
        have h2 := h17.s0
        generalize (b : Int) * v + x3.toInt = w at h1 ⊢
        omega
      rw [hz] at h17
      refine ⟨rfl, rfl, rfl, 0, k, ?_, hkm, by decide, ?_, h17⟩
      · show (t0_6 + 0 : Int32).toInt = _
        rw [Int32.add_zero]
        exact hk
      · show 0 < b ^ k
        exact Nat.pow_pos (by omega)
    · rw [if_neg g2]
      refine ⟨rfl, rfl, rfl, _, k + 1, ?_, by omega, hn, hl, h17⟩
      show (t0_6 + 1 : Int32).toInt = _
      rw [q_addI hk v_e1 (by omega) (by omega)]
      omega
/-- what a part of the text leaves behind: place and end, and the number -/
abbrev RP (lo hi : Int) (ng : Int32) (b : Nat) (p : Int32 × Int64 × Int64 × Int32 × Int32 × Int32 × Int32 × Int32 × Int32 × Int32 × Int64 × Int32 × Int32 × (Nat → Int32)) : Prop := lo ≤ p.2.2.2.1.toInt ∧ p.2.2.2.1.toInt ≤ hi ∧ p.2.2.2.2.1.toInt = hi ∧ p.2.2.2.2.2.1 = ng ∧ ∃ v : Int, 0 ≤ v ∧ v.natAbs < b ∧ bO 220 p.2.2.2.2.2.2.2.2.2.2.2.1 p.2.2.2.2.2.2.2.2.2.2.2.2.1 p.2.2.2.2.2.2.2.2.2.2.2.2.2 v
theorem T_tfL {x2 : Int32} {x3 : Int32} {t0_0 : Int64} {t0_1 : Int64} {t0_2 : Int32} {t0_3 : Int32} {t0_4 : Int32} {t0_5 : Int32} {t0_6 : Int32} {t0_7 : Int32} {t0_8 : Int32} {t0_9 : Int64} {t1_0 : Int32} {t2_0 : (Nat → Int64)} {t3_0 : Int32} {t3_1 : Int32} {t4_0 : (Nat → Int32)} {p47 : (Int32 × Int32)} {m b M : Nat} {lo hi : Int} {ng : Int32} (hb : x2.toInt = (b : Int)) (hb2 : 2 ≤ b) (hm : x3.toInt = (m : Int)) (hm2 : m ≤ 1000) (hM : b ^ m ≤ 2147483648 ^ M) (hM2 : M < 220) (hhi : hi ≤ 100000) (hlo : 0 ≤ lo) : ∀ (n : Nat) (lx58 : Int32) (lx59 : Int32) (lx60 : Int32) (lx61 : Int64) (lx62 : Int64) (lx63 : Int32) (lx64 : Int32) (lx65 : Int32) (lx66 : Int32) (lx67 : Int32) (lx68 : Int32) (lx69 : Int64) (lx70 : Int32) (lx71 : Int32) (lx72 : (Nat → Int32)), ∀ (v : Int) (k : Nat), hi - lx60.toInt < (n : Int) → lo ≤ lx60.toInt → lx60.toInt ≤ hi → lx63.toInt = hi → lx64 = ng → lx66.toInt = (k : Int) → k ≤ m → 0 ≤ v → v.natAbs < b ^ k → bO 220 lx70 lx71 lx72 v → (S_Rea_takeFigures_L35 x2 x3 t0_0 t0_1 t0_2 t0_3 t0_4 t0_5 t0_6 t0_7 t0_8 t0_9 t1_0 t2_0 t3_0 t3_1 t4_0 p47 n lx58 lx59 lx60 lx61 lx62 lx63 lx64 lx65 lx66 lx67 lx68 lx69 lx70 lx71 lx72) ∧ RP lo hi ng (b ^ m) (F_Rea_takeFigures_L35 x2 x3 t0_0 t0_1 t0_2 t0_3 t0_4 t0_5 t0_6 t0_7 t0_8 t0_9 t1_0 t2_0 t3_0 t3_1 t4_0 p47 n lx58 lx59 lx60 lx61 lx62 lx63 lx64 lx65 lx66 lx67 lx68 lx69 lx70 lx71 lx72) := by
  intro n
  induction n with
  | zero => intros; omega
  | succ n ih =>
    intro lx58 lx59 lx60 lx61 lx62 lx63 lx64 lx65 lx66 lx67 lx68 lx69 lx70 lx71 lx72 v k hn hl hh he hng hk hkm hv hlt h
    have hlm : v.natAbs < b ^ m := Nat.lt_of_lt_of_le hlt (Nat.pow_le_pow_right (by omega) hkm)
    rw [S_Rea_takeFigures_L35.eq_2, F_Rea_takeFigures_L35.eq_2]
    by_cases g : lx63 ≤ lx60
    · rw [if_pos g, if_pos g]
      split
      · exact ⟨trivial, hl, hh, he, hng, v, hv, hlm, h⟩
      · exact ⟨trivial, hl, hh, he, hng, v, hv, hlm, h⟩
    rw [if_neg g, if_neg g]
    have g' := q_nleI g
    have ej := v_sc (i := lx60) (by omega) (by omega)
    refine v_owe v_dig ?_
    have hd0 := v_digB (t0_0 := lx61) (t0_1 := lx62) (t0_2 := lx60) (t0_3 := lx63) (t0_4 := lx64) (t0_5 := lx65) (t0_6 := lx66) (t0_7 := lx67) (t0_8 := lx68) (t0_9 := lx69) (t1_0 := t1_0) (t2_0 := t2_0)
    generalize F_Rea_digitHere lx61 lx62 lx60 lx63 lx64 lx65 lx66 lx67 lx68 lx69 t1_0 t2_0 = dg at hd0 ⊢
    by_cases g2 : x2 ≤ dg
    · rw [if_pos g2, if_pos g2]
      refine v_owe v_here ?_
      by_cases g3 : F_Rea_here lx61 lx62 lx60 lx63 lx64 lx65 lx66 lx67 lx68 lx69 t1_0 t2_0 = 46
      · rw [if_pos g3, if_pos g3]
        by_cases g4 : lx59 = 0
        · rw [if_pos g4, if_pos g4]
          exact ih _ _ _ _ _ _ _ _ _ _ _ _ _ _ _ v k (by omega) (by omega) (by omega) he hng hk hkm hv hlt h
        · rw [if_neg g4, if_neg g4]
          split
          · exact ⟨trivial, hl, hh, he, hng, v, hv, hlm, h⟩
          · exact ⟨trivial, hl, hh, he, hng, v, hv, hlm, h⟩
      · rw [if_neg g3, if_neg g3]
        split
        · exact ⟨trivial, hl, hh, he, hng, v, hv, hlm, h⟩
        · exact ⟨trivial, hl, hh, he, hng, v, hv, hlm, h⟩
    · rw [if_neg g2, if_neg g2]
      have g2' := q_nleI g2
      have hkf := T_keepFigure (x2 := x2) (x3 := dg) (x4 := x3) (t0_0 := lx61) (t0_1 := lx62) (t0_2 := lx60) (t0_3 := lx63) (t0_4 := lx64) (t0_5 := lx65) (t0_6 := lx66) (t0_7 := lx67) (t0_8 := lx68) (t0_9 := lx69) h hv hb hb2 hd0 g2' hm hm2 hk hkm hlt hM hM2
      generalize F_Rea_keepFigure x2 dg x3 lx61 lx62 lx60 lx63 lx64 lx65 lx66 lx67 lx68 lx69 lx70 lx71 lx72 = p190 at hkf ⊢
      obtain ⟨f1, f2, f2n, w, j, f3, f4, f5, f6, f7⟩ := hkf
      unfold S_Rea_takeFigures_c63 F_Rea_takeFigures_c63
      rw [f1, f2, f2n]
      by_cases g5 : lx59 = 0
      · rw [if_pos g5, if_pos g5]
        exact ih _ _ _ _ _ _ _ _ _ _ _ _ _ _ _ w j (by omega) (by omega) (by omega) he hng f3 f4 f5 f6 f7
      · rw [if_neg g5, if_neg g5]
        exact ih _ _ _ _ _ _ _ _ _ _ _ _ _ _ _ w j (by omega) (by omega) (by omega) he hng f3 f4 f5 f6 f7
theorem T_takeFigures {x2 : Int32} {x3 : Int32} {t0_0 : Int64} {t0_1 : Int64} {t0_2 : Int32} {t0_3 : Int32} {t0_4 : Int32} {t0_5 : Int32} {t0_6 : Int32} {t0_7 : Int32} {t0_8 : Int32} {t0_9 : Int64} {t1_0 : Int32} {t2_0 : (Nat → Int64)} {t3_0 : Int32} {t3_1 : Int32} {t4_0 : (Nat → Int32)} {m b M : Nat} (hb : x2.toInt = (b : Int)) (hb2 : 2 ≤ b) (hm : x3.toInt = (m : Int)) (hm2 : m ≤ 1000) (hM : b ^ m ≤ 2147483648 ^ M) (hM2 : M < 220) (h0 : 0 ≤ t0_2.toInt) (h1 : t0_2.toInt ≤ t0_3.toInt) (h2 : t0_3.toInt ≤ 100000) : (S_Rea_takeFigures x2 x3 t0_0 t0_1 t0_2 t0_3 t0_4 t0_5 t0_6 t0_7 t0_8 t0_9 t1_0 t2_0 t3_0 t3_1 t4_0) ∧ RP t0_2.toInt t0_3.toInt t0_4 (b ^ m) (F_Rea_takeFigures x2 x3 t0_0 t0_1 t0_2 t0_3 t0_4 t0_5 t0_6 t0_7 t0_8 t0_9 t1_0 t2_0 t3_0 t3_1 t4_0) := by
  unfold S_Rea_takeFigures F_Rea_takeFigures
  have h32 : (fun p => bO 220 p.1 p.2 t4_0 0) (F_Big_clear (220 : Int32) t3_0 t3_1) := W_clear (by decide) (by decide)
  generalize (F_Big_clear (220 : Int32) t3_0 t3_1) = p47 at h32 ⊢
  unfold S_Rea_takeFigures_c32 F_Rea_takeFigures_c32
  exact T_tfL hb hb2 hm hm2 hM hM2 h2 h0 _ _ _ _ _ _ _ _ _ _ _ _ _ _ _ _ 0 0 (by omega) (Int.le_refl _) h1 rfl rfl rfl (by omega) (by decide) (by show 0 < b ^ 0; exact Nat.pow_pos (by omega)) h32

/-! values: the nearest float of a decimal -/
theorem W_five {R x s neg : Int32} {f : Nat → Int32} {v : Int} {M : Nat} (h : bO R s neg f v) (hM : (M : Int) < R.toInt) (hv : v.natAbs * 5 ^ x.toNatClampNeg < 2147483648 ^ M) : P1 R (v * 5 ^ x.toNatClampNeg) (F_Big_timesFive R x s neg f) := by
  have a1 := h.abs
  have hv2 : bV s f * 5 ^ x.toNatClampNeg < 2147483648 ^ M := by
    rw [a1]
    have h1 := Int.ofNat_lt.mpr hv
    rw [Int.natCast_mul, Int.natCast_pow, Int.natCast_pow] at h1
    exact h1
  obtain ⟨z, g, c1, c2, c3⟩ := V_five (R := R) (x := x) (neg := neg) h.1 h.2.2.2.2 hM hv2
  rw [c1]
  have hz : z.toInt ≤ (M : Int) := c2.sz (by rw [c3]; exact hv2)
  refine ⟨c2, ?_, ?_, by show z.toInt ≤ _; omega, h.2.2.2.2⟩
  · rcases h.2.1 with h1 | ⟨h1, h3⟩
    · exact Or.inl h1
    · refine Or.inr ⟨h1, ?_⟩
      apply c2.pos.mpr
      show 0 < bV z g
      rw [c3]
      exact Int.mul_pos (h.1.pos.mp h3) (v_t5 _)
  · have h3 := h.2.2.1
    show bS neg z g = _
    unfold bS at h3 ⊢
    rw [c3]
    split at h3
    · rename_i hn
      rw [if_pos hn, h3]
    · rename_i hn
      rw [if_neg hn, ← h3, Int.neg_mul]
/-- bits and limbs of a number that is not 0 -/
theorem W_bl {R s n : Int32} {f : Nat → Int32} {v : Int} (h : bO R s n f v) (hv : v ≠ 0) : ∃ b : Nat, (F_Big_bitLength R s n f).toInt = (b : Int) ∧ 1 ≤ b ∧ b ≤ 6820 ∧ v.natAbs < 2 ^ b ∧ 31 * (s.toInt - 1) ≤ (b : Int) - 1 := by
  obtain ⟨b, b1, b2, b3, b4⟩ := V_bits (R := R) (neg := n) h.1 h.fit
  have hs := h.pos.mpr hv
  have hcl := q_clI (i := s) rfl h.s0
  have hf := h.fit
  obtain ⟨b5, b6⟩ := b4 hs
  have b7 : v.natAbs < 2 ^ b := by
    apply Int.ofNat_lt.mp
    rw [Int.natCast_pow, ← h.abs]
    exact b3
  refine ⟨b, b1, b5, by omega, b7, ?_⟩
  obtain ⟨k, hk⟩ : ∃ k : Nat, s.toInt = (k : Int) + 1 := ⟨(s.toInt - 1).toNat, by omega⟩
  have g := h.1.ge hk
  rw [h.abs] at g
  have g2 : 2147483648 ^ k ≤ v.natAbs := by
    apply Int.ofNat_le.mp
    rw [Int.natCast_pow]
    exact g
  have e : (2147483648 : Nat) ^ k = 2 ^ (31 * k) := by rw [Nat.pow_mul]
  rw [e] at g2
  have g3 : 2 ^ (31 * k) < 2 ^ b := Nat.lt_of_le_of_lt g2 b7
  have g4 : 31 * k < b := (Nat.pow_lt_pow_iff_right (by decide)).mp g3
  omega
theorem v_5le {k M : Nat} (h : 196 * k ≤ 1829 * M) (hk : 0 < k) : 5 ^ k < 2147483648 ^ M := Nat.lt_of_lt_of_le (Nat.pow_lt_pow_left (by decide) (by omega)) (v_tB h)
theorem v_70 : (70 : Int32).toInt = 70 := rfl
theorem S_near {A : Int32} {B : Int32} {C : Int32} {R2 : Int32} {x3 : Int64} {t0_0 : Int32} {t0_1 : Int32} {t1_0 : (Nat → Int32)} {t2_0 : Int32} {t2_1 : Int32} {t3_0 : (Nat → Int32)} {t4_0 : Int32} {t4_1 : Int32} {t5_0 : (Nat → Int32)} {t6_0 : Int32} {t6_1 : Int32} {t7_0 : (Nat → Int32)} {t8_0 : Int32} {t8_1 : Int32} {t9_0 : (Nat → Int32)} {v : Int} (h : bO R2 t8_0 t8_1 t9_0 v) (hv : v.natAbs < 10 ^ 1001) (hx : -4000000000000000000 ≤ x3.toInt) (hx2 : x3.toInt ≤ 4000000000000000000) : (S_Flo_nearestDecimal A B C R2 x3 t0_0 t0_1 t1_0 t2_0 t2_1 t3_0 t4_0 t4_1 t5_0 t6_0 t6_1 t7_0 t8_0 t8_1 t9_0) := by
  have e := e220
  have e0 : (0 : Int32).toInt = 0 := rfl
  have l0 : (0 : Int64).toInt = 0 := rfl
  have l4 : (400 : Int64).toInt = 400 := rfl
  have l5 : (-400 : Int64).toInt = -400 := rfl
  have hB : bB 108 v := v_tBB hv (by decide)
  unfold S_Flo_nearestDecimal
  by_cases g0 : t8_0 = 0
  · rw [if_pos g0]
    trivial
  rw [if_neg g0]
  have v0 : v ≠ 0 := fun h9 => g0 (h.nil.mpr h9)
  obtain ⟨⟨c, c1, c2, c3, c4⟩, _⟩ := T_countFigures h hB (by decide) (show bI 220 t6_0 t6_1 t7_0 from trivial)
  have c5 : c ≤ 1001 := by
    have h1 := c4 v0
    have h2 : 10 ^ (c - 1) < 10 ^ 1001 := Nat.lt_of_le_of_lt h1 hv
    have h3 := (Nat.pow_lt_pow_iff_right (by decide)).mp h2
    omega
  generalize F_Mil_countFigures R2 t6_0 t6_1 t7_0 t8_0 t8_1 t9_0 = p62 at c1 ⊢
  unfold S_Flo_nearestDecimal_c14
  have q1 : (p62.1.toInt64 - x3 : Int64).toInt = (c : Int) - x3.toInt := q_subL (q_i2l c1) rfl (by omega) (by omega)
  by_cases g1 : 0 < lg_cmp (p62.1.toInt64 - x3) 400
  · rw [if_pos g1]
    trivial
  rw [if_neg g1]
  by_cases g2 : 0 ≤ lg_cmp (p62.1.toInt64 - x3) (-400)
  · rw [if_pos g2]
    have g2' := q_k7 g2
    rw [q1] at g2'
    have h1 : P1 220 v (F_Big_copy 220 R2 t0_0 t0_1 t1_0 t8_0 t8_1 t9_0) := W_copy h h.fit (by decide)
    generalize F_Big_copy 220 R2 t0_0 t0_1 t1_0 t8_0 t8_1 t9_0 = p112 at h1 ⊢
    unfold S_Flo_nearestDecimal_c68
    by_cases g3 : 0 < lg_cmp x3 0
    · rw [if_pos g3]
      have g3' := q_k3 g3
      have h2 : P1 220 1 (F_Big_setLong 220 1 t2_0 t2_1 t3_0) := W_setLong (x := 1) (by decide) (by decide)
      generalize F_Big_setLong 220 1 t2_0 t2_1 t3_0 = p141 at h2 ⊢
      unfold S_Flo_nearestDecimal_c107
      have lx := s_l2i (x := x3) (by omega) (by omega)
      have hk : x3.toInt32.toNatClampNeg = x3.toInt.toNat := by rw [v_cn, lx]
      have m1 : (1 : Int).natAbs * 5 ^ x3.toInt32.toNatClampNeg < 2147483648 ^ 151 := by
        rw [hk, show (1 : Int).natAbs = 1 from rfl, Nat.one_mul]
        exact v_5le (by omega) (by omega)
      have h3 := W_five (M := 151) h2 (by decide) m1
      have n3 : (1 : Int) * 5 ^ x3.toInt32.toNatClampNeg ≠ 0 := by
        have := v_t5 x3.toInt32.toNatClampNeg
        omega
      have b3 : bB 151 ((1 : Int) * 5 ^ x3.toInt32.toNatClampNeg) := by
        unfold bB
        rw [Int.natAbs_mul, Int.natAbs_pow]
        exact m1
      generalize (1 : Int) * 5 ^ x3.toInt32.toNatClampNeg = d at h3 n3 b3
      generalize F_Big_timesFive 220 x3.toInt32 p141.1 p141.2.1 p141.2.2 = p166 at h3 ⊢
      unfold S_Flo_nearestDecimal_c114
      obtain ⟨bu, u1, u2, u3, u4, u5⟩ := W_bl h1 v0
      obtain ⟨bd, d1, d2, d3, d4, d5⟩ := W_bl h3 n3
      have sd := h3.sB b3
      have su := h1.sB hB
      obtain ⟨cd, cd1, cd2, cd3, cd4⟩ := V_bits (R := 220) (neg := p166.2.1) h3.1 h3.fit
      have hcl := q_clI (i := p166.1) rfl h3.s0
      have bdl : bd ≤ 31 * 151 := by omega
      have q2 : (F_Big_bitLength 220 p166.1 p166.2.1 p166.2.2 - F_Big_bitLength 220 p112.1 p112.2.1 p112.2.2 : Int32).toInt = (bd : Int) - bu := q_subI d1 u1 (by omega) (by omega)
      have q3 : (F_Big_bitLength 220 p166.1 p166.2.1 p166.2.2 - F_Big_bitLength 220 p112.1 p112.2.1 p112.2.2 + 70 : Int32).toInt = (bd : Int) - bu + 70 := q_addI q2 v_70 (by omega) (by omega)
      obtain ⟨sh, es⟩ := q_nm (F_Big_bitLength 220 p166.1 p166.2.1 p166.2.2 - F_Big_bitLength 220 p112.1 p112.2.1 p112.2.2 + 70 : Int32)
      rw [es] at q3 ⊢
      have hs : (if 0 < sh then sh else 0 : Int32).toInt = (if 0 < sh.toInt then sh.toInt else 0) := by
        split
        · rename_i h9
          have := q_ltI h9
          rw [if_pos (by omega)]
        · rename_i h9
          rw [if_neg (by have := q_nltI h9; omega)]
          rfl
      obtain ⟨sf, esf⟩ := q_nm (if 0 < sh then sh else 0 : Int32)
      rw [esf] at hs ⊢
      have hs2 : 0 ≤ sf.toInt ∧ sf.toInt ≤ 31 * 154 ∧ ((bu : Int) + sf.toInt ≤ 31 * 154 ∨ sf.toInt = 0) := by
        rw [hs]
        split <;> omega
      have h4 := W_shl (x := sf) h1 (fun _ _ => by omega)
      have b4 : bB 154 (v * 2 ^ sf.toNatClampNeg) := by
        unfold bB
        rw [Int.natAbs_mul, Int.natAbs_pow, v_cn]
        have k1 : v.natAbs * 2 ^ sf.toInt.toNat < 2 ^ bu * 2 ^ sf.toInt.toNat := Nat.mul_lt_mul_of_pos_right u4 (Nat.pow_pos (by decide))
        rw [← Nat.pow_add] at k1
        rcases hs2.2.2 with k2 | k2
        · have e3 : (2147483648 : Nat) ^ 154 = 2 ^ (31 * 154) := by rw [Nat.pow_mul]
          rw [e3]
          exact Nat.lt_of_lt_of_le k1 (Nat.pow_le_pow_right (by decide) (by omega))
        · rw [k2]
          show v.natAbs * 2 ^ 0 < _
          rw [Nat.pow_zero, Nat.mul_one]
          exact hB.mono (by decide)
      generalize v * 2 ^ sf.toNatClampNeg = w at h4 b4
      generalize F_Big_shiftLeft 220 sf p112.1 p112.2.1 p112.2.2 = p215 at h4 ⊢
      have s4 := h4.sB b4
      unfold S_Flo_nearestDecimal_c141
      have dd := W_divideBy (R3 := 220) (sq := t4_0) (nq := t4_1) (fq := t5_0) h4 h3 n3 (by omega) (by omega) (by decide)
      refine ⟨⟨trivial, dd.1⟩, ?_⟩
      unfold S_Flo_nearestDecimal_c155
      split <;> trivial
    · rw [if_neg g3]
      trivial
  · rw [if_neg g2]
    trivial

/-! values: Reader 2 -/
theorem v_ten12 : (100000000000 : Int64).toInt = 100000000000 := rfl
theorem v_tenL : (10 : Int64).toInt = 10 := rfl
/-- what an exponent leaves behind -/
abbrev RE (lo hi : Int) (ng : Int32) (p : Int32 × Int64 × Int64 × Int32 × Int32 × Int32 × Int32 × Int32 × Int32 × Int32 × Int64) : Prop := lo ≤ p.2.2.2.1.toInt ∧ p.2.2.2.1.toInt ≤ hi ∧ p.2.2.2.2.1.toInt = hi ∧ p.2.2.2.2.2.1 = ng ∧ -2000000000000 ≤ p.2.2.2.2.2.2.2.2.2.2.toInt ∧ p.2.2.2.2.2.2.2.2.2.2.toInt ≤ 2000000000000
theorem v_digT {t0_0 t0_1 t0_9 : Int64} {t0_2 t0_3 t0_4 t0_5 t0_6 t0_7 t0_8 t1_0 : Int32} {t2_0 : Nat → Int64} (h : ¬ 10 ≤ F_Rea_digitHere t0_0 t0_1 t0_2 t0_3 t0_4 t0_5 t0_6 t0_7 t0_8 t0_9 t1_0 t2_0) : (F_Rea_digitHere t0_0 t0_1 t0_2 t0_3 t0_4 t0_5 t0_6 t0_7 t0_8 t0_9 t1_0 t2_0).toInt < 10 := q_nleI h
theorem T_teL {x2 : Int32} {t0_0 : Int64} {t0_1 : Int64} {t0_2 : Int32} {t0_3 : Int32} {t0_4 : Int32} {t0_5 : Int32} {t0_6 : Int32} {t0_7 : Int32} {t0_8 : Int32} {t0_9 : Int64} {t1_0 : Int32} {t2_0 : (Nat → Int64)} {a19 : Int32} {lx31 : Int32} {lx51 : Int32} {lo : Int} (hs : lx31 = 1 ∨ lx31 = -1) (hlo : 0 ≤ lo) (hhi : t0_3.toInt ≤ 100000) : ∀ (n : Nat) (lx63 : Int64) (lx64 : Int32), t0_3.toInt - lx64.toInt < (n : Int) → lo ≤ lx64.toInt → lx64.toInt ≤ t0_3.toInt → 0 ≤ lx63.toInt → lx63.toInt ≤ 1000000000009 → (S_Rea_takeExponent_L61 x2 t0_0 t0_1 t0_2 t0_3 t0_4 t0_5 t0_6 t0_7 t0_8 t0_9 t1_0 t2_0 a19 lx31 lx51 n lx63 lx64) ∧ RE lo t0_3.toInt t0_4 (F_Rea_takeExponent_L61 x2 t0_0 t0_1 t0_2 t0_3 t0_4 t0_5 t0_6 t0_7 t0_8 t0_9 t1_0 t2_0 a19 lx31 lx51 n lx63 lx64) := by
  have e12 := v_ten12
  intro n
  induction n with
  | zero => intros; omega
  | succ n ih =>
    intro lx63 lx64 hn hl hh v0 v1
    rw [S_Rea_takeExponent_L61.eq_2, F_Rea_takeExponent_L61.eq_2]
    have J : ∀ K1 K2, S_Rea_takeExponent_J117 K1 x2 t0_0 t0_1 t0_2 t0_3 t0_4 t0_5 t0_6 t0_7 t0_8 t0_9 t1_0 t2_0 a19 lx31 lx51 lx63 lx64 ∧ RE lo t0_3.toInt t0_4 (F_Rea_takeExponent_J117 K2 x2 t0_0 t0_1 t0_2 t0_3 t0_4 t0_5 t0_6 t0_7 t0_8 t0_9 t1_0 t2_0 a19 lx31 lx51 lx63 lx64) := by
      intro K1 K2
      have hm : -2000000000000 ≤ (lx31.toInt64 * lx63 : Int64).toInt ∧ (lx31.toInt64 * lx63 : Int64).toInt ≤ 2000000000000 := by
        rcases hs with h | h
        · rw [h, q_mulL (x := 1) (y := lx63.toInt) rfl rfl (by omega) (by omega)]
          omega
        · rw [h, q_mulL (x := -1) (y := lx63.toInt) rfl rfl (by omega) (by omega)]
          omega
      unfold S_Rea_takeExponent_J117 F_Rea_takeExponent_J117
      split
      · exact ⟨trivial, hl, hh, rfl, rfl, hm⟩
      · split
        · exact ⟨trivial, hl, hh, rfl, rfl, hm⟩
        · exact ⟨trivial, hl, hh, rfl, rfl, hm⟩
    by_cases g : t0_3 ≤ lx64
    · rw [if_pos g, if_pos g]
      exact J _ _
    rw [if_neg g, if_neg g]
    have g' := q_nleI g
    have ej := v_sc (i := lx64) (by omega) (by omega)
    refine v_owe v_dig ?_
    by_cases g2 : 10 ≤ F_Rea_digitHere t0_0 t0_1 lx64 t0_3 t0_4 t0_5 t0_6 t0_7 t0_8 t0_9 t1_0 t2_0
    · rw [if_pos g2, if_pos g2]
      exact J _ _
    rw [if_neg g2, if_neg g2]
    by_cases g3 : 0 ≤ lg_cmp lx63 100000000000
    · rw [if_pos g3, if_pos g3]
      exact ih _ _ (by omega) (by omega) (by omega) v0 v1
    rw [if_neg g3, if_neg g3]
    have g3' := q_k8 g3
    refine v_owe v_dig ?_
    have d0 := v_digB (t0_0 := t0_0) (t0_1 := t0_1) (t0_2 := lx64) (t0_3 := t0_3) (t0_4 := t0_4) (t0_5 := t0_5) (t0_6 := t0_6) (t0_7 := t0_7) (t0_8 := t0_8) (t0_9 := t0_9) (t1_0 := t1_0) (t2_0 := t2_0)
    have d1 := v_digT g2
    generalize F_Rea_digitHere t0_0 t0_1 lx64 t0_3 t0_4 t0_5 t0_6 t0_7 t0_8 t0_9 t1_0 t2_0 = dg at d0 d1 ⊢
    have q1 : (lx63 * 10 : Int64).toInt = lx63.toInt * 10 := q_mulL rfl v_tenL (by omega) (by omega)
    have q2 : (lx63 * 10 + dg.toInt64 : Int64).toInt = lx63.toInt * 10 + dg.toInt := q_addL q1 (q_i2l rfl) (by omega) (by omega)
    exact ih _ _ (by omega) (by omega) (by omega) (by rw [q2]; omega) (by rw [q2]; omega)
theorem v_herelt {t0_0 t0_1 t0_9 : Int64} {t0_2 t0_3 t0_4 t0_5 t0_6 t0_7 t0_8 t1_0 c : Int32} {t2_0 : Nat → Int64} (h : F_Rea_here t0_0 t0_1 t0_2 t0_3 t0_4 t0_5 t0_6 t0_7 t0_8 t0_9 t1_0 t2_0 = c) (hc : 0 ≤ c.toInt) : t0_2.toInt < t0_3.toInt := by
  apply Int.not_le.mp
  intro h2
  unfold F_Rea_here at h
  rw [if_pos (Int32.le_iff_toInt_le.mpr h2)] at h
  rw [← h] at hc
  exact absurd hc (by decide)
theorem v_herelt2 {t0_0 t0_1 t0_9 : Int64} {t0_2 t0_3 t0_4 t0_5 t0_6 t0_7 t0_8 t1_0 c : Int32} {t2_0 : Nat → Int64} (h : (F_Rea_here t0_0 t0_1 t0_2 t0_3 t0_4 t0_5 t0_6 t0_7 t0_8 t0_9 t1_0 t2_0 ||| 32) = c) (hc : 0 ≤ c.toInt) : t0_2.toInt < t0_3.toInt := by
  apply Int.not_le.mp
  intro h2
  unfold F_Rea_here at h
  rw [if_pos (Int32.le_iff_toInt_le.mpr h2)] at h
  rw [← h] at hc
  exact absurd hc (by decide)
theorem T_takeExponent {x2 : Int32} {t0_0 : Int64} {t0_1 : Int64} {t0_2 : Int32} {t0_3 : Int32} {t0_4 : Int32} {t0_5 : Int32} {t0_6 : Int32} {t0_7 : Int32} {t0_8 : Int32} {t0_9 : Int64} {t1_0 : Int32} {t2_0 : (Nat → Int64)} (h0 : 0 ≤ t0_2.toInt) (h1 : t0_2.toInt < t0_3.toInt) (h2 : t0_3.toInt ≤ 100000) : (S_Rea_takeExponent x2 t0_0 t0_1 t0_2 t0_3 t0_4 t0_5 t0_6 t0_7 t0_8 t0_9 t1_0 t2_0) ∧ RE t0_2.toInt t0_3.toInt t0_4 (F_Rea_takeExponent x2 t0_0 t0_1 t0_2 t0_3 t0_4 t0_5 t0_6 t0_7 t0_8 t0_9 t1_0 t2_0) := by
  have ej := v_sc (i := t0_2) (by omega) (by omega)
  have J53 : ∀ (lx31 lx51 : Int32), (lx31 = 1 ∨ lx31 = -1) → t0_2.toInt ≤ lx51.toInt → lx51.toInt ≤ t0_3.toInt → S_Rea_takeExponent_J53 x2 t0_0 t0_1 t0_2 t0_3 t0_4 t0_5 t0_6 t0_7 t0_8 t0_9 t1_0 t2_0 (t0_2 + 1) lx31 lx51 ∧ RE t0_2.toInt t0_3.toInt t0_4 (F_Rea_takeExponent_J53 x2 t0_0 t0_1 t0_2 t0_3 t0_4 t0_5 t0_6 t0_7 t0_8 t0_9 t1_0 t2_0 (t0_2 + 1) lx31 lx51) := by
    intro lx31 lx51 hs k1 k2
    unfold S_Rea_takeExponent_J53 F_Rea_takeExponent_J53
    exact T_teL hs h0 h2 _ _ _ (by omega) k1 k2 (by decide) (by decide)
  have J24 : ∀ lx31 : Int32, (lx31 = 1 ∨ lx31 = -1) → S_Rea_takeExponent_J24 x2 t0_0 t0_1 t0_2 t0_3 t0_4 t0_5 t0_6 t0_7 t0_8 t0_9 t1_0 t2_0 (t0_2 + 1) lx31 ∧ RE t0_2.toInt t0_3.toInt t0_4 (F_Rea_takeExponent_J24 x2 t0_0 t0_1 t0_2 t0_3 t0_4 t0_5 t0_6 t0_7 t0_8 t0_9 t1_0 t2_0 (t0_2 + 1) lx31) := by
    intro lx31 hs
    unfold S_Rea_takeExponent_J24 F_Rea_takeExponent_J24
    refine v_owe v_here ?_
    by_cases g : F_Rea_here t0_0 t0_1 (t0_2 + 1) t0_3 t0_4 t0_5 t0_6 t0_7 t0_8 t0_9 t1_0 t2_0 = 45
    · rw [if_pos g, if_pos g]
      have := v_herelt g (by decide)
      have e2 := v_sc (i := t0_2 + 1) (by omega) (by omega)
      unfold S_Rea_takeExponent_J43 F_Rea_takeExponent_J43
      exact J53 _ _ hs (by omega) (by omega)
    rw [if_neg g, if_neg g]
    refine v_owe v_here ?_
    by_cases g2 : F_Rea_here t0_0 t0_1 (t0_2 + 1) t0_3 t0_4 t0_5 t0_6 t0_7 t0_8 t0_9 t1_0 t2_0 = 43
    · rw [if_pos g2, if_pos g2]
      have := v_herelt g2 (by decide)
      have e2 := v_sc (i := t0_2 + 1) (by omega) (by omega)
      unfold S_Rea_takeExponent_J43 F_Rea_takeExponent_J43
      exact J53 _ _ hs (by omega) (by omega)
    rw [if_neg g2, if_neg g2]
    exact J53 _ _ hs (by omega) (by omega)
  unfold S_Rea_takeExponent F_Rea_takeExponent
  refine v_owe v_here ?_
  split
  · exact J24 _ (Or.inr rfl)
  · exact J24 _ (Or.inl rfl)
/-- place and end of ten fields -/
abbrev RT (lo hi : Int) (d : Int32) (p : Int64 × Int64 × Int32 × Int32 × Int32 × Int32 × Int32 × Int32 × Int32 × Int64) : Prop := lo ≤ p.2.2.1.toInt ∧ p.2.2.1.toInt ≤ p.2.2.2.1.toInt ∧ p.2.2.2.1.toInt ≤ hi ∧ p.2.2.2.2.2.2.2.2.1 = d
theorem T_takeSign {t0_0 : Int64} {t0_1 : Int64} {t0_2 : Int32} {t0_3 : Int32} {t0_4 : Int32} {t0_5 : Int32} {t0_6 : Int32} {t0_7 : Int32} {t0_8 : Int32} {t0_9 : Int64} {t1_0 : Int32} {t2_0 : (Nat → Int64)} (h0 : 0 ≤ t0_2.toInt) (h1 : t0_2.toInt ≤ t0_3.toInt) (h2 : t0_3.toInt ≤ 100000) : (S_Rea_takeSign t0_0 t0_1 t0_2 t0_3 t0_4 t0_5 t0_6 t0_7 t0_8 t0_9 t1_0 t2_0) ∧ RT t0_2.toInt t0_3.toInt t0_8 (F_Rea_takeSign t0_0 t0_1 t0_2 t0_3 t0_4 t0_5 t0_6 t0_7 t0_8 t0_9 t1_0 t2_0) ∧ ((F_Rea_takeSign t0_0 t0_1 t0_2 t0_3 t0_4 t0_5 t0_6 t0_7 t0_8 t0_9 t1_0 t2_0).2.2.2.2.1 = 0 ∨ (F_Rea_takeSign t0_0 t0_1 t0_2 t0_3 t0_4 t0_5 t0_6 t0_7 t0_8 t0_9 t1_0 t2_0).2.2.2.2.1 = 1) := by
  have ej := v_sc (i := t0_2) (by omega) (by omega)
  have J : ∀ a lx27 : Int32, (F_Rea_here t0_0 t0_1 t0_2 t0_3 t0_4 t0_5 t0_6 t0_7 t0_8 t0_9 t1_0 t2_0 = a) → (lx27 = 0 ∨ lx27 = 1) → S_Rea_takeSign_J17 t0_0 t0_1 t0_2 t0_3 t0_4 t0_5 t0_6 t0_7 t0_8 t0_9 t1_0 t2_0 a lx27 ∧ RT t0_2.toInt t0_3.toInt t0_8 (F_Rea_takeSign_J17 t0_0 t0_1 t0_2 t0_3 t0_4 t0_5 t0_6 t0_7 t0_8 t0_9 t1_0 t2_0 a lx27) ∧ ((F_Rea_takeSign_J17 t0_0 t0_1 t0_2 t0_3 t0_4 t0_5 t0_6 t0_7 t0_8 t0_9 t1_0 t2_0 a lx27).2.2.2.2.1 = 0 ∨ (F_Rea_takeSign_J17 t0_0 t0_1 t0_2 t0_3 t0_4 t0_5 t0_6 t0_7 t0_8 t0_9 t1_0 t2_0 a lx27).2.2.2.2.1 = 1) := by
    intro a lx27 ha hb
    unfold S_Rea_takeSign_J17 F_Rea_takeSign_J17
    by_cases g : a = 45
    · rw [if_pos g, if_pos g]
      have := v_herelt (ha.trans g) (by decide)
      exact ⟨trivial, ⟨by show _ ≤ (t0_2 + 1 : Int32).toInt; omega, by show (t0_2 + 1 : Int32).toInt ≤ t0_3.toInt; omega, Int.le_refl _, rfl⟩, hb⟩
    rw [if_neg g, if_neg g]
    by_cases g2 : a = 43
    · rw [if_pos g2, if_pos g2]
      have := v_herelt (ha.trans g2) (by decide)
      exact ⟨trivial, ⟨by show _ ≤ (t0_2 + 1 : Int32).toInt; omega, by show (t0_2 + 1 : Int32).toInt ≤ t0_3.toInt; omega, Int.le_refl _, rfl⟩, hb⟩
    rw [if_neg g2, if_neg g2]
    exact ⟨trivial, ⟨Int.le_refl _, h1, Int.le_refl _, rfl⟩, hb⟩
  unfold S_Rea_takeSign F_Rea_takeSign
  refine v_owe v_here ?_
  split
  · exact J _ _ rfl (Or.inr rfl)
  · exact J _ _ rfl (Or.inl rfl)
theorem T_tb2 {K1 : Int32 → Prop} {K2 : Int32 → Int64 × Int64 × Int32 × Int32 × Int32 × Int32 × Int32 × Int32 × Int32 × Int64} {t0_0 t0_1 t0_9 : Int64} {t0_2 t0_3 t0_4 t0_5 t0_6 t0_7 t0_8 t1_0 lx19 : Int32} {t2_0 : Nat → Int64} {lo : Int} (h0 : 0 ≤ lx19.toInt) (hlo : lo ≤ lx19.toInt) (h2 : t0_3.toInt ≤ 100000) : ∀ (n : Nat) (lx40 : Int32), lx40.toInt - lx19.toInt < (n : Int) → lx19.toInt ≤ lx40.toInt → lx40.toInt ≤ t0_3.toInt → S_Rea_trimBlanks_L41 K1 t0_0 t0_1 t0_2 t0_3 t0_4 t0_5 t0_6 t0_7 t0_8 t0_9 t1_0 t2_0 lx19 n lx40 ∧ RT lo t0_3.toInt t0_8 (F_Rea_trimBlanks_L41 K2 t0_0 t0_1 t0_2 t0_3 t0_4 t0_5 t0_6 t0_7 t0_8 t0_9 t1_0 t2_0 lx19 n lx40) := by
  intro n
  induction n with
  | zero => intros; omega
  | succ n ih =>
    intro lx40 hn hl hh
    rw [S_Rea_trimBlanks_L41.eq_2, F_Rea_trimBlanks_L41.eq_2]
    by_cases g : lx40 ≤ lx19
    · rw [if_pos g, if_pos g]
      exact ⟨trivial, hlo, hl, hh, rfl⟩
    rw [if_neg g, if_neg g]
    have g' := q_nleI g
    have ej : (lx40 - 1 : Int32).toInt = lx40.toInt - 1 := q_subI rfl v_e1 (by omega) (by omega)
    refine v_owe v_at ?_
    split
    · exact ⟨trivial, hlo, hl, hh, rfl⟩
    · exact ih _ (by omega) (by omega) (by omega)
theorem T_tb1 {t0_0 : Int64} {t0_1 : Int64} {t0_2 : Int32} {t0_3 : Int32} {t0_4 : Int32} {t0_5 : Int32} {t0_6 : Int32} {t0_7 : Int32} {t0_8 : Int32} {t0_9 : Int64} {t1_0 : Int32} {t2_0 : (Nat → Int64)} {lo : Int} (hlo : 0 ≤ lo) (h2 : t0_3.toInt ≤ 100000) : ∀ (n : Nat) (lx19 : Int32), t0_3.toInt - lx19.toInt < (n : Int) → lo ≤ lx19.toInt → lx19.toInt ≤ t0_3.toInt → (S_Rea_trimBlanks_L0 t0_0 t0_1 t0_2 t0_3 t0_4 t0_5 t0_6 t0_7 t0_8 t0_9 t1_0 t2_0 n lx19) ∧ RT lo t0_3.toInt t0_8 (F_Rea_trimBlanks_L0 t0_0 t0_1 t0_2 t0_3 t0_4 t0_5 t0_6 t0_7 t0_8 t0_9 t1_0 t2_0 n lx19) := by
  intro n
  induction n with
  | zero => intros; omega
  | succ n ih =>
    intro lx19 hn hl hh
    rw [S_Rea_trimBlanks_L0.eq_2, F_Rea_trimBlanks_L0.eq_2]
    have J : ∀ K1 K2, S_Rea_trimBlanks_J41 K1 t0_0 t0_1 t0_2 t0_3 t0_4 t0_5 t0_6 t0_7 t0_8 t0_9 t1_0 t2_0 lx19 ∧ RT lo t0_3.toInt t0_8 (F_Rea_trimBlanks_J41 K2 t0_0 t0_1 t0_2 t0_3 t0_4 t0_5 t0_6 t0_7 t0_8 t0_9 t1_0 t2_0 lx19) := by
      intro K1 K2
      unfold S_Rea_trimBlanks_J41 F_Rea_trimBlanks_J41
      exact T_tb2 (by omega) hl h2 _ _ (by omega) hh (Int.le_refl _)
    by_cases g : t0_3 ≤ lx19
    · rw [if_pos g, if_pos g]
      exact J _ _
    rw [if_neg g, if_neg g]
    have g' := q_nleI g
    have ej := v_sc (i := lx19) (by omega) (by omega)
    refine v_owe v_at ?_
    split
    · exact J _ _
    · exact ih _ (by omega) (by omega) (by omega)
theorem T_trimBlanks {t0_0 : Int64} {t0_1 : Int64} {t0_2 : Int32} {t0_3 : Int32} {t0_4 : Int32} {t0_5 : Int32} {t0_6 : Int32} {t0_7 : Int32} {t0_8 : Int32} {t0_9 : Int64} {t1_0 : Int32} {t2_0 : (Nat → Int64)} (h0 : 0 ≤ t0_2.toInt) (h1 : t0_2.toInt ≤ t0_3.toInt) (h2 : t0_3.toInt ≤ 100000) : (S_Rea_trimBlanks t0_0 t0_1 t0_2 t0_3 t0_4 t0_5 t0_6 t0_7 t0_8 t0_9 t1_0 t2_0) ∧ RT t0_2.toInt t0_3.toInt t0_8 (F_Rea_trimBlanks t0_0 t0_1 t0_2 t0_3 t0_4 t0_5 t0_6 t0_7 t0_8 t0_9 t1_0 t2_0) := by
  unfold S_Rea_trimBlanks F_Rea_trimBlanks
  exact T_tb1 h0 h2 _ _ (by omega) (Int.le_refl _) h1
theorem S_says20L {t0_0 t0_1 t0_9 : Int64} {t0_2 t0_3 t0_4 t0_5 t0_6 t0_7 t0_8 t1_0 : Int32} {t2_0 : Nat → Int64} : ∀ (n : Nat) (j : Int32), 0 ≤ j.toInt → 3 - j.toInt < (n : Int) → j.toInt ≤ 3 → S_Rea_saysRest_20_L20 t0_0 t0_1 t0_2 t0_3 t0_4 t0_5 t0_6 t0_7 t0_8 t0_9 t1_0 t2_0 n j := by
  have ec : (3 : Int32).toInt = 3 := rfl
  intro n
  induction n with
  | zero => intros; omega
  | succ n ih =>
    intro j h0 h1 h2
    rw [S_Rea_saysRest_20_L20.eq_2]
    split
    · trivial
    · rename_i g
      have g' := q_nleI g
      have ej := v_sc (i := j) (by omega) (by omega)
      refine ⟨⟨trivial, v_at⟩, ?_⟩
      split
      · exact ih _ (by omega) (by omega) (by omega)
      · trivial
theorem S_says20 {t0_0 t0_1 t0_9 : Int64} {t0_2 t0_3 t0_4 t0_5 t0_6 t0_7 t0_8 t1_0 : Int32} {t2_0 : Nat → Int64} : S_Rea_saysRest_20 t0_0 t0_1 t0_2 t0_3 t0_4 t0_5 t0_6 t0_7 t0_8 t0_9 t1_0 t2_0 := by
  unfold S_Rea_saysRest_20
  split
  · exact S_says20L _ _ (by decide) (by decide) (by decide)
  · trivial
theorem S_says21L {t0_0 t0_1 t0_9 : Int64} {t0_2 t0_3 t0_4 t0_5 t0_6 t0_7 t0_8 t1_0 : Int32} {t2_0 : Nat → Int64} : ∀ (n : Nat) (j : Int32), 0 ≤ j.toInt → 8 - j.toInt < (n : Int) → j.toInt ≤ 8 → S_Rea_saysRest_21_L20 t0_0 t0_1 t0_2 t0_3 t0_4 t0_5 t0_6 t0_7 t0_8 t0_9 t1_0 t2_0 n j := by
  have ec : (8 : Int32).toInt = 8 := rfl
  intro n
  induction n with
  | zero => intros; omega
  | succ n ih =>
    intro j h0 h1 h2
    rw [S_Rea_saysRest_21_L20.eq_2]
    split
    · trivial
    · rename_i g
      have g' := q_nleI g
      have ej := v_sc (i := j) (by omega) (by omega)
      refine ⟨⟨trivial, v_at⟩, ?_⟩
      split
      · exact ih _ (by omega) (by omega) (by omega)
      · trivial
theorem S_says21 {t0_0 t0_1 t0_9 : Int64} {t0_2 t0_3 t0_4 t0_5 t0_6 t0_7 t0_8 t1_0 : Int32} {t2_0 : Nat → Int64} : S_Rea_saysRest_21 t0_0 t0_1 t0_2 t0_3 t0_4 t0_5 t0_6 t0_7 t0_8 t0_9 t1_0 t2_0 := by
  unfold S_Rea_saysRest_21
  split
  · exact S_says21L _ _ (by decide) (by decide) (by decide)
  · trivial
/-- a mark before the figures -/
theorem T_takeHexMark {t0_0 : Int64} {t0_1 : Int64} {t0_2 : Int32} {t0_3 : Int32} {t0_4 : Int32} {t0_5 : Int32} {t0_6 : Int32} {t0_7 : Int32} {t0_8 : Int32} {t0_9 : Int64} {t1_0 : Int32} {t2_0 : (Nat → Int64)} (h0 : 0 ≤ t0_2.toInt) (h1 : t0_2.toInt ≤ t0_3.toInt) (h2 : t0_3.toInt ≤ 100000) : (S_Rea_takeHexadecimalMark t0_0 t0_1 t0_2 t0_3 t0_4 t0_5 t0_6 t0_7 t0_8 t0_9 t1_0 t2_0) ∧ t0_2.toInt ≤ (F_Rea_takeHexadecimalMark t0_0 t0_1 t0_2 t0_3 t0_4 t0_5 t0_6 t0_7 t0_8 t0_9 t1_0 t2_0).2.2.2.1.toInt ∧ (F_Rea_takeHexadecimalMark t0_0 t0_1 t0_2 t0_3 t0_4 t0_5 t0_6 t0_7 t0_8 t0_9 t1_0 t2_0).2.2.2.1.toInt ≤ t0_3.toInt ∧ (F_Rea_takeHexadecimalMark t0_0 t0_1 t0_2 t0_3 t0_4 t0_5 t0_6 t0_7 t0_8 t0_9 t1_0 t2_0).2.2.2.2.1.toInt = t0_3.toInt ∧ (F_Rea_takeHexadecimalMark t0_0 t0_1 t0_2 t0_3 t0_4 t0_5 t0_6 t0_7 t0_8 t0_9 t1_0 t2_0).2.2.2.2.2.1 = t0_4 := by
  have e2 : (2 : Int32).toInt = 2 := rfl
  have J56 : S_Rea_takeHexadecimalMark_J56 t0_0 t0_1 t0_2 t0_3 t0_4 t0_5 t0_6 t0_7 t0_8 t0_9 t1_0 t2_0 ∧ t0_2.toInt ≤ (F_Rea_takeHexadecimalMark_J56 t0_0 t0_1 t0_2 t0_3 t0_4 t0_5 t0_6 t0_7 t0_8 t0_9 t1_0 t2_0).2.2.2.1.toInt ∧ (F_Rea_takeHexadecimalMark_J56 t0_0 t0_1 t0_2 t0_3 t0_4 t0_5 t0_6 t0_7 t0_8 t0_9 t1_0 t2_0).2.2.2.1.toInt ≤ t0_3.toInt ∧ (F_Rea_takeHexadecimalMark_J56 t0_0 t0_1 t0_2 t0_3 t0_4 t0_5 t0_6 t0_7 t0_8 t0_9 t1_0 t2_0).2.2.2.2.1.toInt = t0_3.toInt ∧ (F_Rea_takeHexadecimalMark_J56 t0_0 t0_1 t0_2 t0_3 t0_4 t0_5 t0_6 t0_7 t0_8 t0_9 t1_0 t2_0).2.2.2.2.2.1 = t0_4 := by
    unfold S_Rea_takeHexadecimalMark_J56 F_Rea_takeHexadecimalMark_J56 S_Rea_takeHexadecimalMark_J57 F_Rea_takeHexadecimalMark_J57
    rw [if_pos rfl, if_pos rfl, Int32.add_zero]
    exact ⟨trivial, Int.le_refl _, h1, rfl, rfl⟩
  unfold S_Rea_takeHexadecimalMark F_Rea_takeHexadecimalMark
  by_cases g : (t0_3 - t0_2 : Int32) < 2
  · rw [if_pos g, if_pos g]
    exact J56
  rw [if_neg g, if_neg g]
  have g' := q_nltI g
  rw [q_subI rfl rfl (by omega) (by omega)] at g'
  refine v_owe v_at ?_
  by_cases g2 : F_She_at 4100 513 4100 t0_2.toInt64 t1_0 t2_0 = 48
  · rw [if_pos g2, if_pos g2]
    refine v_owe v_at ?_
    by_cases g3 : (F_She_at 4100 513 4100 (t0_2 + 1 : Int32).toInt64 t1_0 t2_0 ||| 32) = 120
    · rw [if_pos g3, if_pos g3]
      unfold S_Rea_takeHexadecimalMark_J57 F_Rea_takeHexadecimalMark_J57
      rw [if_neg (by decide), if_neg (by decide)]
      have q : (t0_2 + 2 : Int32).toInt = t0_2.toInt + 2 := q_addI rfl e2 (by omega) (by omega)
      exact ⟨trivial, by show _ ≤ (t0_2 + 2 : Int32).toInt; omega, by show (t0_2 + 2 : Int32).toInt ≤ _; omega, rfl, rfl⟩
    · rw [if_neg g3, if_neg g3]
      exact J56
  · rw [if_neg g2, if_neg g2]
    exact J56
theorem T_takeEnding {t0_0 : Int64} {t0_1 : Int64} {t0_2 : Int32} {t0_3 : Int32} {t0_4 : Int32} {t0_5 : Int32} {t0_6 : Int32} {t0_7 : Int32} {t0_8 : Int32} {t0_9 : Int64} {t1_0 : Int32} {t2_0 : (Nat → Int64)} (hE : -2000000000000 ≤ t0_9.toInt ∧ t0_9.toInt ≤ 2000000000000) : (S_Rea_takeEnding t0_0 t0_1 t0_2 t0_3 t0_4 t0_5 t0_6 t0_7 t0_8 t0_9 t1_0 t2_0) ∧ (F_Rea_takeEnding t0_0 t0_1 t0_2 t0_3 t0_4 t0_5 t0_6 t0_7 t0_8 t0_9 t1_0 t2_0).2.2.2.2.2.2.2.2.2.2 = t0_9 ∧ (F_Rea_takeEnding t0_0 t0_1 t0_2 t0_3 t0_4 t0_5 t0_6 t0_7 t0_8 t0_9 t1_0 t2_0).2.2.2.2.2.1 = t0_4 := by
  have J : S_Rea_takeEnding_J20 t0_0 t0_1 t0_2 t0_3 t0_4 t0_5 t0_6 t0_7 t0_8 t0_9 t1_0 t2_0 ∧ (F_Rea_takeEnding_J20 t0_0 t0_1 t0_2 t0_3 t0_4 t0_5 t0_6 t0_7 t0_8 t0_9 t1_0 t2_0).2.2.2.2.2.2.2.2.2.2 = t0_9 ∧ (F_Rea_takeEnding_J20 t0_0 t0_1 t0_2 t0_3 t0_4 t0_5 t0_6 t0_7 t0_8 t0_9 t1_0 t2_0).2.2.2.2.2.1 = t0_4 := by
    unfold S_Rea_takeEnding_J20 F_Rea_takeEnding_J20
    split <;> exact ⟨trivial, rfl, rfl⟩
  unfold S_Rea_takeEnding F_Rea_takeEnding
  refine v_owe v_here ?_
  split
  · exact J
  · split
    · exact J
    · split <;> exact ⟨trivial, rfl, rfl⟩

/-! values: Reader 3 -/
/-- what figures and exponent leave behind -/
abbrev RD (hi : Int) (ng : Int32) (b : Nat) (p : Int32 × Int64 × Int64 × Int32 × Int32 × Int32 × Int32 × Int32 × Int32 × Int32 × Int64 × Int32 × Int32 × (Nat → Int32)) : Prop := p.1 = 0 ∨ (-2000000000000 ≤ p.2.2.2.2.2.2.2.2.2.2.1.toInt ∧ p.2.2.2.2.2.2.2.2.2.2.1.toInt ≤ 2000000000000 ∧ p.2.2.2.2.1.toInt = hi ∧ p.2.2.2.2.2.1 = ng ∧ ∃ v : Int, 0 ≤ v ∧ v.natAbs < b ∧ bO 220 p.2.2.2.2.2.2.2.2.2.2.2.1 p.2.2.2.2.2.2.2.2.2.2.2.2.1 p.2.2.2.2.2.2.2.2.2.2.2.2.2 v)
theorem e1640 : (16 : Nat) ^ 40 ≤ 2147483648 ^ 6 := by decide +kernel
theorem e1080 : (10 : Nat) ^ 800 ≤ 2147483648 ^ 86 := v_tB (by decide)
theorem e10k : (10 : Nat) ^ 1000 ≤ 2147483648 ^ 108 := v_tB (by decide)
theorem T_takeHexadecimal {t0_0 : Int64} {t0_1 : Int64} {t0_2 : Int32} {t0_3 : Int32} {t0_4 : Int32} {t0_5 : Int32} {t0_6 : Int32} {t0_7 : Int32} {t0_8 : Int32} {t0_9 : Int64} {t1_0 : Int32} {t2_0 : (Nat → Int64)} {t3_0 : Int32} {t3_1 : Int32} {t4_0 : (Nat → Int32)} (h0 : 0 ≤ t0_2.toInt) (h1 : t0_2.toInt ≤ t0_3.toInt) (h2 : t0_3.toInt ≤ 100000) : (S_Rea_takeHexadecimal t0_0 t0_1 t0_2 t0_3 t0_4 t0_5 t0_6 t0_7 t0_8 t0_9 t1_0 t2_0 t3_0 t3_1 t4_0) ∧ RD t0_3.toInt t0_4 (16 ^ 40) (F_Rea_takeHexadecimal t0_0 t0_1 t0_2 t0_3 t0_4 t0_5 t0_6 t0_7 t0_8 t0_9 t1_0 t2_0 t3_0 t3_1 t4_0) := by
  unfold S_Rea_takeHexadecimal F_Rea_takeHexadecimal
  have h5 : S_Rea_takeFigures (16 : Int32) (40 : Int32) t0_0 t0_1 t0_2 t0_3 t0_4 t0_5 t0_6 t0_7 t0_8 t0_9 t1_0 t2_0 t3_0 t3_1 t4_0 ∧ RP t0_2.toInt t0_3.toInt t0_4 (16 ^ 40) (F_Rea_takeFigures (16 : Int32) (40 : Int32) t0_0 t0_1 t0_2 t0_3 t0_4 t0_5 t0_6 t0_7 t0_8 t0_9 t1_0 t2_0 t3_0 t3_1 t4_0) := T_takeFigures (m := 40) (b := 16) (M := 6) rfl (by decide) rfl (by decide) e1640 (by decide) h0 h1 h2
  refine v_owe h5.1 ?_
  replace h5 := h5.2
  generalize (F_Rea_takeFigures (16 : Int32) (40 : Int32) t0_0 t0_1 t0_2 t0_3 t0_4 t0_5 t0_6 t0_7 t0_8 t0_9 t1_0 t2_0 t3_0 t3_1 t4_0) = p69 at h5 ⊢
  unfold S_Rea_takeHexadecimal_c5 F_Rea_takeHexadecimal_c5
  obtain ⟨a1, a2, a3, an, v, a4, a5, a6⟩ := h5
  by_cases g : p69.1 = 0
  · rw [if_pos g, if_pos g]
    exact ⟨trivial, Or.inl rfl⟩
  rw [if_neg g, if_neg g]
  refine v_owe v_here ?_
  by_cases g2 : (F_Rea_here p69.2.1 p69.2.2.1 p69.2.2.2.1 p69.2.2.2.2.1 p69.2.2.2.2.2.1 p69.2.2.2.2.2.2.1 p69.2.2.2.2.2.2.2.1 p69.2.2.2.2.2.2.2.2.1 p69.2.2.2.2.2.2.2.2.2.1 p69.2.2.2.2.2.2.2.2.2.2.1 t1_0 t2_0 ||| 32) = 112
  · rw [if_pos g2, if_pos g2]
    have hl := v_herelt2 g2 (by decide)
    have h27 : S_Rea_takeExponent (4100 : Int32) (p69.2.1 : Int64) (p69.2.2.1 : Int64) (p69.2.2.2.1 : Int32) (p69.2.2.2.2.1 : Int32) (p69.2.2.2.2.2.1 : Int32) (p69.2.2.2.2.2.2.1 : Int32) (p69.2.2.2.2.2.2.2.1 : Int32) (p69.2.2.2.2.2.2.2.2.1 : Int32) (p69.2.2.2.2.2.2.2.2.2.1 : Int32) (p69.2.2.2.2.2.2.2.2.2.2.1 : Int64) t1_0 t2_0 ∧ RE p69.2.2.2.1.toInt p69.2.2.2.2.1.toInt p69.2.2.2.2.2.1 (F_Rea_takeExponent (4100 : Int32) (p69.2.1 : Int64) (p69.2.2.1 : Int64) (p69.2.2.2.1 : Int32) (p69.2.2.2.2.1 : Int32) (p69.2.2.2.2.2.1 : Int32) (p69.2.2.2.2.2.2.1 : Int32) (p69.2.2.2.2.2.2.2.1 : Int32) (p69.2.2.2.2.2.2.2.2.1 : Int32) (p69.2.2.2.2.2.2.2.2.2.1 : Int32) (p69.2.2.2.2.2.2.2.2.2.2.1 : Int64) t1_0 t2_0) := T_takeExponent (by omega) hl (by omega)
    refine v_owe h27.1 ?_
    replace h27 := h27.2
    generalize (F_Rea_takeExponent (4100 : Int32) (p69.2.1 : Int64) (p69.2.2.1 : Int64) (p69.2.2.2.1 : Int32) (p69.2.2.2.2.1 : Int32) (p69.2.2.2.2.2.1 : Int32) (p69.2.2.2.2.2.2.1 : Int32) (p69.2.2.2.2.2.2.2.1 : Int32) (p69.2.2.2.2.2.2.2.2.1 : Int32) (p69.2.2.2.2.2.2.2.2.2.1 : Int32) (p69.2.2.2.2.2.2.2.2.2.2.1 : Int64) t1_0 t2_0) = p141 at h27 ⊢
    unfold S_Rea_takeHexadecimal_c27 F_Rea_takeHexadecimal_c27
    obtain ⟨b1, b2, b3, bn, b4, b5⟩ := h27
    split
    · exact ⟨trivial, Or.inl rfl⟩
    · exact ⟨trivial, Or.inr ⟨b4, b5, b3.trans a3, bn.trans an, v, a4, a5, a6⟩⟩
  · rw [if_neg g2, if_neg g2]
    exact ⟨trivial, Or.inl rfl⟩
theorem v_801 {v : Int} (hv : 0 ≤ v) (h : v.natAbs < 10 ^ 800) : ((10 : Int32).toInt * v + (1 : Int32).toInt).natAbs < 10 ^ 801 := by
  have := v_kf (b := 10) (k := 800) (d := 1) hv h (by decide) (by decide)
  exact this
theorem T_tdJ {t0_0 : Int64} {t0_1 : Int64} {t0_2 : Int32} {t0_3 : Int32} {t0_4 : Int32} {t0_5 : Int32} {t0_6 : Int32} {t0_7 : Int32} {t0_8 : Int32} {t0_9 : Int64} {t1_0 : Int32} {t2_0 : (Nat → Int64)} {t3_0 : Int32} {t3_1 : Int32} {t4_0 : (Nat → Int32)} {p69 : (Int32 × Int64 × Int64 × Int32 × Int32 × Int32 × Int32 × Int32 × Int32 × Int32 × Int64 × Int32 × Int32 × (Nat → Int32))} {y32 : Int64} {y33 : Int64} {y34 : Int32} {y35 : Int32} {y36 : Int32} {y37 : Int32} {y38 : Int32} {y40 : Int32} {y41 : Int64} {lx92 : Int32} {lx93 : Int32} {lx94 : Int32} {lx95 : (Nat → Int32)} {v : Int} {lo : Int} (h0 : 0 ≤ y34.toInt) (h1 : y34.toInt ≤ y35.toInt) (h2 : y35.toInt ≤ 100000) (hv : 0 ≤ v) (hl : v.natAbs < 10 ^ 801) (h : bO 220 lx93 lx94 lx95 v) : (S_Rea_takeDecimal_J44 t0_0 t0_1 t0_2 t0_3 t0_4 t0_5 t0_6 t0_7 t0_8 t0_9 t1_0 t2_0 t3_0 t3_1 t4_0 p69 y32 y33 y34 y35 y36 y37 y38 y40 y41 lx92 lx93 lx94 lx95) ∧ RD y35.toInt y36 (10 ^ 801) (F_Rea_takeDecimal_J44 t0_0 t0_1 t0_2 t0_3 t0_4 t0_5 t0_6 t0_7 t0_8 t0_9 t1_0 t2_0 t3_0 t3_1 t4_0 p69 y32 y33 y34 y35 y36 y37 y38 y40 y41 lx92 lx93 lx94 lx95) := by
  unfold S_Rea_takeDecimal_J44 F_Rea_takeDecimal_J44
  refine v_owe v_here ?_
  by_cases g2 : (F_Rea_here y32 y33 y34 y35 y36 y37 y38 lx92 y40 0 t1_0 t2_0 ||| 32) = 101
  · rw [if_pos g2, if_pos g2]
    have hlt := v_herelt2 g2 (by decide)
    have h27 := T_takeExponent (x2 := 4100) (t0_0 := y32) (t0_1 := y33) (t0_2 := y34) (t0_3 := y35) (t0_4 := y36) (t0_5 := y37) (t0_6 := y38) (t0_7 := lx92) (t0_8 := y40) (t0_9 := 0) (t1_0 := t1_0) (t2_0 := t2_0) h0 hlt h2
    refine v_owe h27.1 ?_
    replace h27 := h27.2
    generalize F_Rea_takeExponent 4100 y32 y33 y34 y35 y36 y37 y38 lx92 y40 0 t1_0 t2_0 = p163 at h27 ⊢
    obtain ⟨b1, b2, b3, bn, b4, b5⟩ := h27
    unfold S_Rea_takeDecimal_c65 F_Rea_takeDecimal_c65
    split
    · exact ⟨trivial, Or.inl rfl⟩
    · exact ⟨trivial, Or.inr ⟨b4, b5, b3, bn, v, hv, hl, h⟩⟩
  · rw [if_neg g2, if_neg g2]
    exact ⟨trivial, Or.inr ⟨show -2000000000000 ≤ (0 : Int64).toInt by decide, show (0 : Int64).toInt ≤ 2000000000000 by decide, rfl, rfl, v, hv, hl, h⟩⟩
theorem T_takeDecimal {t0_0 : Int64} {t0_1 : Int64} {t0_2 : Int32} {t0_3 : Int32} {t0_4 : Int32} {t0_5 : Int32} {t0_6 : Int32} {t0_7 : Int32} {t0_8 : Int32} {t0_9 : Int64} {t1_0 : Int32} {t2_0 : (Nat → Int64)} {t3_0 : Int32} {t3_1 : Int32} {t4_0 : (Nat → Int32)} (h0 : 0 ≤ t0_2.toInt) (h1 : t0_2.toInt ≤ t0_3.toInt) (h2 : t0_3.toInt ≤ 100000) : (S_Rea_takeDecimal t0_0 t0_1 t0_2 t0_3 t0_4 t0_5 t0_6 t0_7 t0_8 t0_9 t1_0 t2_0 t3_0 t3_1 t4_0) ∧ RD t0_3.toInt t0_4 (10 ^ 801) (F_Rea_takeDecimal t0_0 t0_1 t0_2 t0_3 t0_4 t0_5 t0_6 t0_7 t0_8 t0_9 t1_0 t2_0 t3_0 t3_1 t4_0) := by
  have e := e220
  unfold S_Rea_takeDecimal F_Rea_takeDecimal
  have h5 : S_Rea_takeFigures (10 : Int32) (800 : Int32) t0_0 t0_1 t0_2 t0_3 t0_4 t0_5 t0_6 t0_7 t0_8 t0_9 t1_0 t2_0 t3_0 t3_1 t4_0 ∧ RP t0_2.toInt t0_3.toInt t0_4 (10 ^ 800) (F_Rea_takeFigures (10 : Int32) (800 : Int32) t0_0 t0_1 t0_2 t0_3 t0_4 t0_5 t0_6 t0_7 t0_8 t0_9 t1_0 t2_0 t3_0 t3_1 t4_0) := T_takeFigures (m := 800) (b := 10) (M := 86) rfl (by decide) rfl (by decide) e1080 (by decide) h0 h1 h2
  refine v_owe h5.1 ?_
  replace h5 := h5.2
  generalize (F_Rea_takeFigures (10 : Int32) (800 : Int32) t0_0 t0_1 t0_2 t0_3 t0_4 t0_5 t0_6 t0_7 t0_8 t0_9 t1_0 t2_0 t3_0 t3_1 t4_0) = p69 at h5 ⊢
  unfold S_Rea_takeDecimal_c6 F_Rea_takeDecimal_c6
  obtain ⟨a1, a2, a3, an, v, a4, a5, a6⟩ := h5
  rw [← a3] at h1 h2 a2 ⊢
  rw [← an]
  by_cases g : p69.1 = 0
  · rw [if_pos g, if_pos g]
    exact ⟨trivial, Or.inl rfl⟩
  rw [if_neg g, if_neg g]
  by_cases g2 : p69.2.2.2.2.2.2.2.2.2.1 = 0
  · rw [if_pos g2, if_pos g2]
    exact T_tdJ (lo := 0) (by omega) a2 h2 a4 (Nat.lt_of_lt_of_le a5 (Nat.pow_le_pow_right (by decide) (by decide))) a6
  · rw [if_neg g2, if_neg g2]
    have s := a6.sB (show bB 86 v from Nat.lt_of_lt_of_le a5 e1080)
    have h31 : P1 220 ((10 : Int32).toInt * v + (1 : Int32).toInt) (F_Big_multiplySmall (220 : Int32) (10 : Int32) (1 : Int32) (p69.2.2.2.2.2.2.2.2.2.2.2.1 : Int32) (p69.2.2.2.2.2.2.2.2.2.2.2.2.1 : Int32) (p69.2.2.2.2.2.2.2.2.2.2.2.2.2 : (Nat → Int32))) := W_mulS a6 a4 (by decide) (by decide) (by omega)
    generalize (F_Big_multiplySmall (220 : Int32) (10 : Int32) (1 : Int32) (p69.2.2.2.2.2.2.2.2.2.2.2.1 : Int32) (p69.2.2.2.2.2.2.2.2.2.2.2.2.1 : Int32) (p69.2.2.2.2.2.2.2.2.2.2.2.2.2 : (Nat → Int32))) = p202 at h31 ⊢
    unfold S_Rea_takeDecimal_c31 F_Rea_takeDecimal_c31
    refine T_tdJ (lo := 0) (by omega) a2 h2 ?_ (v_801 a4 a5) h31
    exact Int.add_nonneg (Int.mul_nonneg (by decide) a4) (by decide)
theorem T_decimalText {t0_0 : Int64} {t0_1 : Int64} {t0_2 : Int32} {t0_3 : Int32} {t0_4 : Int32} {t0_5 : Int32} {t0_6 : Int32} {t0_7 : Int32} {t0_8 : Int32} {t0_9 : Int64} {t1_0 : Int32} {t2_0 : (Nat → Int64)} {t3_0 : Int32} {t3_1 : Int32} {t4_0 : (Nat → Int32)} (h2 : t1_0.toInt ≤ 100000) (h3 : 0 ≤ t1_0.toInt) : (S_Rea_decimalText t0_0 t0_1 t0_2 t0_3 t0_4 t0_5 t0_6 t0_7 t0_8 t0_9 t1_0 t2_0 t3_0 t3_1 t4_0) ∧ ((F_Rea_decimalText t0_0 t0_1 t0_2 t0_3 t0_4 t0_5 t0_6 t0_7 t0_8 t0_9 t1_0 t2_0 t3_0 t3_1 t4_0).1 = 0 ∨ G1 bK (F_Rea_decimalText t0_0 t0_1 t0_2 t0_3 t0_4 t0_5 t0_6 t0_7 t0_8 t0_9 t1_0 t2_0 t3_0 t3_1 t4_0).2.2.2.2.2.2.2.2.2.2.2) := by
  unfold S_Rea_decimalText F_Rea_decimalText
  have hb : RT 0 t1_0.toInt t0_8 (F_Rea_begin t0_0 t0_1 t0_2 t0_3 t0_4 t0_5 t0_6 t0_7 t0_8 t0_9 t1_0 t2_0) := ⟨show (0 : Int) ≤ (0 : Int32).toInt by decide, h3, Int.le_refl _, rfl⟩
  generalize F_Rea_begin t0_0 t0_1 t0_2 t0_3 t0_4 t0_5 t0_6 t0_7 t0_8 t0_9 t1_0 t2_0 = p62 at hb ⊢
  obtain ⟨b1, b2, b3, b8⟩ := hb
  unfold S_Rea_decimalText_c1 F_Rea_decimalText_c1
  have h5 : S_Rea_takeSign (p62.1 : Int64) (p62.2.1 : Int64) (p62.2.2.1 : Int32) (p62.2.2.2.1 : Int32) (p62.2.2.2.2.1 : Int32) (p62.2.2.2.2.2.1 : Int32) (p62.2.2.2.2.2.2.1 : Int32) (p62.2.2.2.2.2.2.2.1 : Int32) (p62.2.2.2.2.2.2.2.2.1 : Int32) (p62.2.2.2.2.2.2.2.2.2 : Int64) t1_0 t2_0 ∧ (fun p => RT p62.2.2.1.toInt p62.2.2.2.1.toInt p62.2.2.2.2.2.2.2.2.1 p ∧ (p.2.2.2.2.1 = 0 ∨ p.2.2.2.2.1 = 1)) (F_Rea_takeSign (p62.1 : Int64) (p62.2.1 : Int64) (p62.2.2.1 : Int32) (p62.2.2.2.1 : Int32) (p62.2.2.2.2.1 : Int32) (p62.2.2.2.2.2.1 : Int32) (p62.2.2.2.2.2.2.1 : Int32) (p62.2.2.2.2.2.2.2.1 : Int32) (p62.2.2.2.2.2.2.2.2.1 : Int32) (p62.2.2.2.2.2.2.2.2.2 : Int64) t1_0 t2_0) := T_takeSign b1 b2 (by omega)
  refine v_owe h5.1 ?_
  replace h5 := h5.2
  generalize (F_Rea_takeSign (p62.1 : Int64) (p62.2.1 : Int64) (p62.2.2.1 : Int32) (p62.2.2.2.1 : Int32) (p62.2.2.2.2.1 : Int32) (p62.2.2.2.2.2.1 : Int32) (p62.2.2.2.2.2.2.1 : Int32) (p62.2.2.2.2.2.2.2.1 : Int32) (p62.2.2.2.2.2.2.2.2.1 : Int32) (p62.2.2.2.2.2.2.2.2.2 : Int64) t1_0 t2_0) = p113 at h5 ⊢
  unfold S_Rea_decimalText_c5 F_Rea_decimalText_c5
  obtain ⟨⟨s1, s2, s3, s8⟩, s9⟩ := h5
  have h14 : S_Rea_takeFigures (10 : Int32) (1000 : Int32) (p113.1 : Int64) (p113.2.1 : Int64) (p113.2.2.1 : Int32) (p113.2.2.2.1 : Int32) (p113.2.2.2.2.1 : Int32) (p113.2.2.2.2.2.1 : Int32) (p113.2.2.2.2.2.2.1 : Int32) (p113.2.2.2.2.2.2.2.1 : Int32) (p113.2.2.2.2.2.2.2.2.1 : Int32) (p113.2.2.2.2.2.2.2.2.2 : Int64) t1_0 t2_0 t3_0 t3_1 t4_0 ∧ RP p113.2.2.1.toInt p113.2.2.2.1.toInt p113.2.2.2.2.1 (10 ^ 1000) (F_Rea_takeFigures (10 : Int32) (1000 : Int32) (p113.1 : Int64) (p113.2.1 : Int64) (p113.2.2.1 : Int32) (p113.2.2.2.1 : Int32) (p113.2.2.2.2.1 : Int32) (p113.2.2.2.2.2.1 : Int32) (p113.2.2.2.2.2.2.1 : Int32) (p113.2.2.2.2.2.2.2.1 : Int32) (p113.2.2.2.2.2.2.2.2.1 : Int32) (p113.2.2.2.2.2.2.2.2.2 : Int64) t1_0 t2_0 t3_0 t3_1 t4_0) := T_takeFigures (m := 1000) (b := 10) (M := 108) rfl (by decide) rfl (by decide) e10k (by decide) (by omega) s2 (by omega)
  refine v_owe h14.1 ?_
  replace h14 := h14.2
  generalize (F_Rea_takeFigures (10 : Int32) (1000 : Int32) (p113.1 : Int64) (p113.2.1 : Int64) (p113.2.2.1 : Int32) (p113.2.2.2.1 : Int32) (p113.2.2.2.2.1 : Int32) (p113.2.2.2.2.2.1 : Int32) (p113.2.2.2.2.2.2.1 : Int32) (p113.2.2.2.2.2.2.2.1 : Int32) (p113.2.2.2.2.2.2.2.2.1 : Int32) (p113.2.2.2.2.2.2.2.2.2 : Int64) t1_0 t2_0 t3_0 t3_1 t4_0) = p172 at h14 ⊢
  unfold S_Rea_decimalText_c14 F_Rea_decimalText_c14
  obtain ⟨a1, a2, a3, an, v, a4, a5, a6⟩ := h14
  have hB : bB 108 v := Nat.lt_of_lt_of_le a5 e10k
  have J50 : ∀ (lx207 lx208 : Int64) (lx209 lx210 lx211 lx212 lx213 lx214 lx215 : Int32) (lx216 : Int64), S_Rea_decimalText_J50 t0_0 t0_1 t0_2 t0_3 t0_4 t0_5 t0_6 t0_7 t0_8 t0_9 t1_0 t2_0 t3_0 t3_1 t4_0 p62 p113 p172 p172.2.2.2.2.2.2.2.2.2.2.2.1 p172.2.2.2.2.2.2.2.2.2.2.2.2.1 p172.2.2.2.2.2.2.2.2.2.2.2.2.2 lx207 lx208 lx209 lx210 lx211 lx212 lx213 lx214 lx215 lx216 ∧ ((F_Rea_decimalText_J50 t0_0 t0_1 t0_2 t0_3 t0_4 t0_5 t0_6 t0_7 t0_8 t0_9 t1_0 t2_0 t3_0 t3_1 t4_0 p62 p113 p172 p172.2.2.2.2.2.2.2.2.2.2.2.1 p172.2.2.2.2.2.2.2.2.2.2.2.2.1 p172.2.2.2.2.2.2.2.2.2.2.2.2.2 lx207 lx208 lx209 lx210 lx211 lx212 lx213 lx214 lx215 lx216).1 = 0 ∨ G1 bK (F_Rea_decimalText_J50 t0_0 t0_1 t0_2 t0_3 t0_4 t0_5 t0_6 t0_7 t0_8 t0_9 t1_0 t2_0 t3_0 t3_1 t4_0 p62 p113 p172 p172.2.2.2.2.2.2.2.2.2.2.2.1 p172.2.2.2.2.2.2.2.2.2.2.2.2.1 p172.2.2.2.2.2.2.2.2.2.2.2.2.2 lx207 lx208 lx209 lx210 lx211 lx212 lx213 lx214 lx215 lx216).2.2.2.2.2.2.2.2.2.2.2) := by
    intro lx207 lx208 lx209 lx210 lx211 lx212 lx213 lx214 lx215 lx216
    have k0 : bK p172.2.2.2.2.2.2.2.2.2.2.2.1 0 p172.2.2.2.2.2.2.2.2.2.2.2.2.2 := a6.abs0.K hB.a0 (by decide)
    unfold S_Rea_decimalText_J50 F_Rea_decimalText_J50 S_Rea_decimalText_J94 F_Rea_decimalText_J94 S_Rea_decimalText_J95 F_Rea_decimalText_J95
    split
    · split
      · split
        · exact ⟨⟨a6.fit, trivial⟩, Or.inr k0⟩
        · exact ⟨⟨a6.fit, trivial⟩, Or.inr k0⟩
      · split
        · split
          · exact ⟨⟨a6.fit, trivial⟩, Or.inr k0⟩
          · exact ⟨⟨a6.fit, trivial⟩, Or.inr k0⟩
        · rename_i g
          have k1 : bK p172.2.2.2.2.2.2.2.2.2.2.2.1 1 p172.2.2.2.2.2.2.2.2.2.2.2.2.2 := (a6.abs1 (v_nle0 g)).K hB.a1 (by decide)
          split
          · exact ⟨⟨a6.fit, trivial⟩, Or.inr k1⟩
          · exact ⟨⟨a6.fit, trivial⟩, Or.inr k1⟩
    · exact ⟨trivial, Or.inl rfl⟩
  by_cases g : p172.1 = 0
  · rw [if_pos g, if_pos g]
    exact ⟨trivial, Or.inl rfl⟩
  rw [if_neg g, if_neg g]
  refine v_owe v_here ?_
  by_cases g2 : (F_Rea_here p172.2.1 p172.2.2.1 p172.2.2.2.1 p172.2.2.2.2.1 p172.2.2.2.2.2.1 p172.2.2.2.2.2.2.1 p172.2.2.2.2.2.2.2.1 p172.2.2.2.2.2.2.2.2.1 p172.2.2.2.2.2.2.2.2.2.1 0 t1_0 t2_0 ||| 32) = 101
  · rw [if_pos g2, if_pos g2]
    have hl := v_herelt2 g2 (by decide)
    have h42 : S_Rea_takeExponent (10 : Int32) (p172.2.1 : Int64) (p172.2.2.1 : Int64) (p172.2.2.2.1 : Int32) (p172.2.2.2.2.1 : Int32) (p172.2.2.2.2.2.1 : Int32) (p172.2.2.2.2.2.2.1 : Int32) (p172.2.2.2.2.2.2.2.1 : Int32) (p172.2.2.2.2.2.2.2.2.1 : Int32) (p172.2.2.2.2.2.2.2.2.2.1 : Int32) (0 : Int64) t1_0 t2_0 ∧ RE p172.2.2.2.1.toInt p172.2.2.2.2.1.toInt p172.2.2.2.2.2.1 (F_Rea_takeExponent (10 : Int32) (p172.2.1 : Int64) (p172.2.2.1 : Int64) (p172.2.2.2.1 : Int32) (p172.2.2.2.2.1 : Int32) (p172.2.2.2.2.2.1 : Int32) (p172.2.2.2.2.2.2.1 : Int32) (p172.2.2.2.2.2.2.2.1 : Int32) (p172.2.2.2.2.2.2.2.2.1 : Int32) (p172.2.2.2.2.2.2.2.2.2.1 : Int32) (0 : Int64) t1_0 t2_0) := T_takeExponent (by omega) hl (by omega)
    refine v_owe h42.1 ?_
    replace h42 := h42.2
    generalize (F_Rea_takeExponent (10 : Int32) (p172.2.1 : Int64) (p172.2.2.1 : Int64) (p172.2.2.2.1 : Int32) (p172.2.2.2.2.1 : Int32) (p172.2.2.2.2.2.1 : Int32) (p172.2.2.2.2.2.2.1 : Int32) (p172.2.2.2.2.2.2.2.1 : Int32) (p172.2.2.2.2.2.2.2.2.1 : Int32) (p172.2.2.2.2.2.2.2.2.2.1 : Int32) (0 : Int64) t1_0 t2_0) = p333 at h42 ⊢
    unfold S_Rea_decimalText_c42 F_Rea_decimalText_c42
    split
    · exact ⟨trivial, Or.inl rfl⟩
    · exact J50 _ _ _ _ _ _ _ _ _ _
  · rw [if_neg g2, if_neg g2]
    exact J50 _ _ _ _ _ _ _ _ _ _

theorem e2048b {v : Int} (h : v.natAbs < 2 ^ 2048) : bB 67 v := v_pB (N := 67) (x := 2048) (by decide) h
theorem v_mul2048 {v d : Int} {b : Nat} (hv : 0 ≤ v) (h : v.natAbs < 2 ^ 2048) (d0 : 0 ≤ d) (hd : d < (b : Int)) (hb : b ≤ 36) : bB 68 ((b : Int) * v + d) := by
  have h2 : bB 67 v := e2048b h
  unfold bB at h2 ⊢
  rw [Nat.pow_succ]
  generalize (2147483648 : Nat) ^ 67 = P at h2 ⊢
  have h3 : (b : Int) * v ≤ 36 * v := Int.mul_le_mul_of_nonneg_right (by omega) hv
  have h4 : 0 ≤ (b : Int) * v := Int.mul_nonneg (by omega) hv
  omega
theorem T_wtL {x2 : Int32} {t0_0 : Int64} {t0_1 : Int64} {t0_2 : Int32} {t0_3 : Int32} {t0_4 : Int32} {t0_5 : Int32} {t0_6 : Int32} {t0_7 : Int32} {t0_8 : Int32} {t0_9 : Int64} {t1_0 : Int32} {t2_0 : (Nat → Int64)} {t3_0 : Int32} {t3_1 : Int32} {t4_0 : (Nat → Int32)} {p62 : (Int64 × Int64 × Int32 × Int32 × Int32 × Int32 × Int32 × Int32 × Int32 × Int64)} {p113 : (Int64 × Int64 × Int32 × Int32 × Int32 × Int32 × Int32 × Int32 × Int32 × Int64)} {y83 : Int64} {y84 : Int64} {y85 : Int32} {y86 : Int32} {y87 : Int32} {y88 : Int32} {y89 : Int32} {y90 : Int32} {y91 : Int32} {y92 : Int64} {p142 : (Int32 × Int32)} {b : Nat} (hb : x2.toInt = (b : Int)) (hb2 : 2 ≤ b) (hb3 : b ≤ 36) (hhi : y86.toInt ≤ 100000) : ∀ (n : Nat) (lx154 : Int32) (lx155 : Int32) (lx156 : Int32) (lx157 : Int32) (lx158 : (Nat → Int32)), ∀ v : Int, y86.toInt - lx155.toInt < (n : Int) → 0 < n → 0 ≤ lx155.toInt → lx155.toInt ≤ 100001 → 0 ≤ v → bB 68 v → (lx154 = 0 ∨ (lx154 = 1 ∧ v.natAbs < 2 ^ 2048)) → bO 220 lx156 lx157 lx158 v → (S_Rea_wholeText_L35 x2 t0_0 t0_1 t0_2 t0_3 t0_4 t0_5 t0_6 t0_7 t0_8 t0_9 t1_0 t2_0 t3_0 t3_1 t4_0 p62 p113 y83 y84 y85 y86 y87 y88 y89 y90 y91 y92 p142 n lx154 lx155 lx156 lx157 lx158) ∧ ((F_Rea_wholeText_L35 x2 t0_0 t0_1 t0_2 t0_3 t0_4 t0_5 t0_6 t0_7 t0_8 t0_9 t1_0 t2_0 t3_0 t3_1 t4_0 p62 p113 y83 y84 y85 y86 y87 y88 y89 y90 y91 y92 p142 n lx154 lx155 lx156 lx157 lx158).1 = 0 ∨ (F_Rea_wholeText_L35 x2 t0_0 t0_1 t0_2 t0_3 t0_4 t0_5 t0_6 t0_7 t0_8 t0_9 t1_0 t2_0 t3_0 t3_1 t4_0 p62 p113 y83 y84 y85 y86 y87 y88 y89 y90 y91 y92 p142 n lx154 lx155 lx156 lx157 lx158).1 = 2 ∨ ((F_Rea_wholeText_L35 x2 t0_0 t0_1 t0_2 t0_3 t0_4 t0_5 t0_6 t0_7 t0_8 t0_9 t1_0 t2_0 t3_0 t3_1 t4_0 p62 p113 y83 y84 y85 y86 y87 y88 y89 y90 y91 y92 p142 n lx154 lx155 lx156 lx157 lx158).1 = 1 ∧ ∃ w : Int, bB 67 w ∧ bO 220 (F_Rea_wholeText_L35 x2 t0_0 t0_1 t0_2 t0_3 t0_4 t0_5 t0_6 t0_7 t0_8 t0_9 t1_0 t2_0 t3_0 t3_1 t4_0 p62 p113 y83 y84 y85 y86 y87 y88 y89 y90 y91 y92 p142 n lx154 lx155 lx156 lx157 lx158).2.2.2.2.2.2.2.2.2.2.2.1 (F_Rea_wholeText_L35 x2 t0_0 t0_1 t0_2 t0_3 t0_4 t0_5 t0_6 t0_7 t0_8 t0_9 t1_0 t2_0 t3_0 t3_1 t4_0 p62 p113 y83 y84 y85 y86 y87 y88 y89 y90 y91 y92 p142 n lx154 lx155 lx156 lx157 lx158).2.2.2.2.2.2.2.2.2.2.2.2.1 (F_Rea_wholeText_L35 x2 t0_0 t0_1 t0_2 t0_3 t0_4 t0_5 t0_6 t0_7 t0_8 t0_9 t1_0 t2_0 t3_0 t3_1 t4_0 p62 p113 y83 y84 y85 y86 y87 y88 y89 y90 y91 y92 p142 n lx154 lx155 lx156 lx157 lx158).2.2.2.2.2.2.2.2.2.2.2.2.2 w)) := by
  have e := e220
  have e2 := e2048
  intro n
  induction n with
  | zero => intros; omega
  | succ n ih =>
    intro lx154 lx155 lx156 lx157 lx158 v hn hn0 hl hl2 hv hB hf h
    rw [S_Rea_wholeText_L35.eq_2, F_Rea_wholeText_L35.eq_2]
    have s := h.sB hB
    by_cases g : y86 ≤ lx155
    · rw [if_pos g, if_pos g]
      have b67 : lx154 ≠ 0 → bB 67 v := fun h9 => by
        rcases hf with h10 | ⟨_, h10⟩
        · exact absurd h10 h9
        · exact e2048b h10
      by_cases g1 : y87 = 0
      · rw [if_pos g1, if_pos g1]
        by_cases g3 : lx154 = 0
        · rw [if_pos g3, if_pos g3]
          exact ⟨⟨h.fit, trivial⟩, Or.inr (Or.inl rfl)⟩
        · rw [if_neg g3, if_neg g3]
          exact ⟨⟨h.fit, trivial⟩, Or.inr (Or.inr ⟨rfl, _, (b67 g3).a0, h.abs0⟩)⟩
      rw [if_neg g1, if_neg g1]
      by_cases g2 : lx156 ≤ 0
      · rw [if_pos g2, if_pos g2]
        by_cases g3 : lx154 = 0
        · rw [if_pos g3, if_pos g3]
          exact ⟨trivial, Or.inr (Or.inl rfl)⟩
        · rw [if_neg g3, if_neg g3]
          exact ⟨trivial, Or.inr (Or.inr ⟨rfl, _, (b67 g3).a0, h.abs0⟩)⟩
      rw [if_neg g2, if_neg g2]
      by_cases g3 : lx154 = 0
      · rw [if_pos g3, if_pos g3]
        exact ⟨⟨h.fit, trivial⟩, Or.inr (Or.inl rfl)⟩
      · rw [if_neg g3, if_neg g3]
        exact ⟨⟨h.fit, trivial⟩, Or.inr (Or.inr ⟨rfl, _, (b67 g3).a1, h.abs1 (v_nle0 g2)⟩)⟩
    rw [if_neg g, if_neg g]
    have g' := q_nleI g
    have ej := v_sc (i := lx155) (by omega) (by omega)
    refine v_owe v_dig ?_
    have d0 := v_digB (t0_0 := y83) (t0_1 := y84) (t0_2 := lx155) (t0_3 := y86) (t0_4 := y87) (t0_5 := y88) (t0_6 := y89) (t0_7 := y90) (t0_8 := y91) (t0_9 := y92) (t1_0 := t1_0) (t2_0 := t2_0)
    generalize F_Rea_digitHere y83 y84 lx155 y86 y87 y88 y89 y90 y91 y92 t1_0 t2_0 = dg at d0 ⊢
    by_cases g2 : dg < x2
    · rw [if_pos g2, if_pos g2]
      have g2' := q_ltI g2
      by_cases g3 : lx154 = 0
      · rw [if_pos g3, if_pos g3]
        exact ih _ _ _ _ _ v (by omega) (by omega) (by omega) (by omega) hv hB (Or.inl g3) h
      · rw [if_neg g3, if_neg g3]
        have hf2 : v.natAbs < 2 ^ 2048 := by
          rcases hf with h10 | ⟨_, h10⟩
          · exact absurd h10 g3
          · exact h10
        have h68 := W_mulS (x := x2) (y := dg) h hv (by omega) d0 (by omega)
        rw [hb] at h68
        have hB2 := v_mul2048 hv hf2 d0 (by omega) hb3
        have hv2 : 0 ≤ (b : Int) * v + dg.toInt := Int.add_nonneg (Int.mul_nonneg (by omega) hv) d0
        generalize (b : Int) * v + dg.toInt = w at h68 hB2 hv2
        generalize F_Big_multiplySmall 220 x2 dg lx156 lx157 lx158 = p237 at h68 ⊢
        unfold S_Rea_wholeText_c68 F_Rea_wholeText_c68
        by_cases g4 : 2048 < F_Big_bitLength 220 p237.1 p237.2.1 p237.2.2
        · rw [if_pos g4, if_pos g4]
          exact ih _ _ _ _ _ w (by omega) (by omega) (by omega) (by omega) hv2 hB2 (Or.inl rfl) h68
        · rw [if_neg g4, if_neg g4]
          have g5 := q_nltI g4
          have g6 := W_bits (x := 2048) h68 g5
          exact ih _ _ _ _ _ w (by omega) (by omega) (by omega) (by omega) hv2 hB2 (Or.inr ⟨rfl, g6⟩) h68
    · rw [if_neg g2, if_neg g2]
      exact ⟨trivial, Or.inl rfl⟩
theorem T_wholeText {x2 : Int32} {t0_0 : Int64} {t0_1 : Int64} {t0_2 : Int32} {t0_3 : Int32} {t0_4 : Int32} {t0_5 : Int32} {t0_6 : Int32} {t0_7 : Int32} {t0_8 : Int32} {t0_9 : Int64} {t1_0 : Int32} {t2_0 : (Nat → Int64)} {t3_0 : Int32} {t3_1 : Int32} {t4_0 : (Nat → Int32)} {b : Nat} (hb : x2.toInt = (b : Int)) (hb2 : 2 ≤ b) (hb3 : b ≤ 36) (h2 : t1_0.toInt ≤ 100000) (h3 : 0 ≤ t1_0.toInt) : (S_Rea_wholeText x2 t0_0 t0_1 t0_2 t0_3 t0_4 t0_5 t0_6 t0_7 t0_8 t0_9 t1_0 t2_0 t3_0 t3_1 t4_0) ∧ ((F_Rea_wholeText x2 t0_0 t0_1 t0_2 t0_3 t0_4 t0_5 t0_6 t0_7 t0_8 t0_9 t1_0 t2_0 t3_0 t3_1 t4_0).1 = 0 ∨ (F_Rea_wholeText x2 t0_0 t0_1 t0_2 t0_3 t0_4 t0_5 t0_6 t0_7 t0_8 t0_9 t1_0 t2_0 t3_0 t3_1 t4_0).1 = 2 ∨ ((F_Rea_wholeText x2 t0_0 t0_1 t0_2 t0_3 t0_4 t0_5 t0_6 t0_7 t0_8 t0_9 t1_0 t2_0 t3_0 t3_1 t4_0).1 = 1 ∧ ∃ w : Int, bB 67 w ∧ bO 220 (F_Rea_wholeText x2 t0_0 t0_1 t0_2 t0_3 t0_4 t0_5 t0_6 t0_7 t0_8 t0_9 t1_0 t2_0 t3_0 t3_1 t4_0).2.2.2.2.2.2.2.2.2.2.2.1 (F_Rea_wholeText x2 t0_0 t0_1 t0_2 t0_3 t0_4 t0_5 t0_6 t0_7 t0_8 t0_9 t1_0 t2_0 t3_0 t3_1 t4_0).2.2.2.2.2.2.2.2.2.2.2.2.1 (F_Rea_wholeText x2 t0_0 t0_1 t0_2 t0_3 t0_4 t0_5 t0_6 t0_7 t0_8 t0_9 t1_0 t2_0 t3_0 t3_1 t4_0).2.2.2.2.2.2.2.2.2.2.2.2.2 w)) := by
  unfold S_Rea_wholeText F_Rea_wholeText
  have hbg : RT 0 t1_0.toInt t0_8 (F_Rea_begin t0_0 t0_1 t0_2 t0_3 t0_4 t0_5 t0_6 t0_7 t0_8 t0_9 t1_0 t2_0) := ⟨show (0 : Int) ≤ (0 : Int32).toInt by decide, h3, Int.le_refl _, rfl⟩
  generalize F_Rea_begin t0_0 t0_1 t0_2 t0_3 t0_4 t0_5 t0_6 t0_7 t0_8 t0_9 t1_0 t2_0 = p62 at hbg ⊢
  obtain ⟨b1, b2, b3, b8⟩ := hbg
  unfold S_Rea_wholeText_c1 F_Rea_wholeText_c1
  have h5 : S_Rea_takeSign (p62.1 : Int64) (p62.2.1 : Int64) (p62.2.2.1 : Int32) (p62.2.2.2.1 : Int32) (p62.2.2.2.2.1 : Int32) (p62.2.2.2.2.2.1 : Int32) (p62.2.2.2.2.2.2.1 : Int32) (p62.2.2.2.2.2.2.2.1 : Int32) (p62.2.2.2.2.2.2.2.2.1 : Int32) (p62.2.2.2.2.2.2.2.2.2 : Int64) t1_0 t2_0 ∧ (fun p => RT p62.2.2.1.toInt p62.2.2.2.1.toInt p62.2.2.2.2.2.2.2.2.1 p ∧ (p.2.2.2.2.1 = 0 ∨ p.2.2.2.2.1 = 1)) (F_Rea_takeSign (p62.1 : Int64) (p62.2.1 : Int64) (p62.2.2.1 : Int32) (p62.2.2.2.1 : Int32) (p62.2.2.2.2.1 : Int32) (p62.2.2.2.2.2.1 : Int32) (p62.2.2.2.2.2.2.1 : Int32) (p62.2.2.2.2.2.2.2.1 : Int32) (p62.2.2.2.2.2.2.2.2.1 : Int32) (p62.2.2.2.2.2.2.2.2.2 : Int64) t1_0 t2_0) := T_takeSign b1 b2 (by omega)
  refine v_owe h5.1 ?_
  replace h5 := h5.2
  generalize (F_Rea_takeSign (p62.1 : Int64) (p62.2.1 : Int64) (p62.2.2.1 : Int32) (p62.2.2.2.1 : Int32) (p62.2.2.2.2.1 : Int32) (p62.2.2.2.2.2.1 : Int32) (p62.2.2.2.2.2.2.1 : Int32) (p62.2.2.2.2.2.2.2.1 : Int32) (p62.2.2.2.2.2.2.2.2.1 : Int32) (p62.2.2.2.2.2.2.2.2.2 : Int64) t1_0 t2_0) = p113 at h5 ⊢
  unfold S_Rea_wholeText_c5 F_Rea_wholeText_c5
  obtain ⟨⟨s1, s2, s3, s8⟩, s9⟩ := h5
  have h17 : (fun p => bO 220 p.1 p.2 t4_0 0) (F_Big_clear (220 : Int32) t3_0 t3_1) := W_clear (by decide) (by decide)
  generalize (F_Big_clear (220 : Int32) t3_0 t3_1) = p142 at h17 ⊢
  unfold S_Rea_wholeText_c17 F_Rea_wholeText_c17
  split
  · exact T_wtL hb hb2 hb3 (by omega) _ _ _ _ _ _ 0 (by omega) (by omega) (by omega) (by omega) (by decide) (by show 0 < _; exact Nat.pow_pos (by decide)) (Or.inr ⟨rfl, by show 0 < _; exact Nat.pow_pos (by decide)⟩) h17
  · exact ⟨trivial, Or.inl rfl⟩
theorem S_floatText {A : Int32} {B : Int32} {C : Int32} {t0_0 : Int64} {t0_1 : Int64} {t0_2 : Int32} {t0_3 : Int32} {t0_4 : Int32} {t0_5 : Int32} {t0_6 : Int32} {t0_7 : Int32} {t0_8 : Int32} {t0_9 : Int64} {t1_0 : Int32} {t2_0 : (Nat → Int64)} {t3_0 : Int32} {t3_1 : Int32} {t4_0 : (Nat → Int32)} {t5_0 : Int32} {t5_1 : Int32} {t6_0 : (Nat → Int32)} {t7_0 : Int32} {t7_1 : Int32} {t8_0 : (Nat → Int32)} {t9_0 : Int32} {t9_1 : Int32} {t10_0 : (Nat → Int32)} {t11_0 : Int32} {t11_1 : Int32} {t12_0 : (Nat → Int32)} (h2 : t1_0.toInt ≤ 100000) (h3 : 0 ≤ t1_0.toInt) (h8 : 0 ≤ t0_8.toInt ∧ t0_8.toInt ≤ 1) : (S_Rea_floatText A B C t0_0 t0_1 t0_2 t0_3 t0_4 t0_5 t0_6 t0_7 t0_8 t0_9 t1_0 t2_0 t3_0 t3_1 t4_0 t5_0 t5_1 t6_0 t7_0 t7_1 t8_0 t9_0 t9_1 t10_0 t11_0 t11_1 t12_0) := by
  unfold S_Rea_floatText
  have hbg : RT 0 t1_0.toInt t0_8 (F_Rea_begin t0_0 t0_1 t0_2 t0_3 t0_4 t0_5 t0_6 t0_7 t0_8 t0_9 t1_0 t2_0) := ⟨show (0 : Int) ≤ (0 : Int32).toInt by decide, h3, Int.le_refl _, rfl⟩
  generalize F_Rea_begin t0_0 t0_1 t0_2 t0_3 t0_4 t0_5 t0_6 t0_7 t0_8 t0_9 t1_0 t2_0 = p94 at hbg ⊢
  obtain ⟨b1, b2, b3, b8⟩ := hbg
  unfold S_Rea_floatText_c1
  obtain ⟨f1, f2⟩ := T_trimBlanks (t0_0 := p94.1) (t0_1 := p94.2.1) (t0_4 := p94.2.2.2.2.1) (t0_5 := p94.2.2.2.2.2.1) (t0_6 := p94.2.2.2.2.2.2.1) (t0_7 := p94.2.2.2.2.2.2.2.1) (t0_8 := p94.2.2.2.2.2.2.2.2.1) (t0_9 := p94.2.2.2.2.2.2.2.2.2) (t1_0 := t1_0) (t2_0 := t2_0) b1 b2 (by omega)
  refine ⟨⟨trivial, f1⟩, ?_⟩
  generalize F_Rea_trimBlanks p94.1 p94.2.1 p94.2.2.1 p94.2.2.2.1 p94.2.2.2.2.1 p94.2.2.2.2.2.1 p94.2.2.2.2.2.2.1 p94.2.2.2.2.2.2.2.1 p94.2.2.2.2.2.2.2.2.1 p94.2.2.2.2.2.2.2.2.2 t1_0 t2_0 = p145 at f2 ⊢
  obtain ⟨c1, c2, c3, c8⟩ := f2
  unfold S_Rea_floatText_c5
  obtain ⟨g1, g2⟩ := T_takeSign (t0_0 := p145.1) (t0_1 := p145.2.1) (t0_4 := p145.2.2.2.2.1) (t0_5 := p145.2.2.2.2.2.1) (t0_6 := p145.2.2.2.2.2.2.1) (t0_7 := p145.2.2.2.2.2.2.2.1) (t0_8 := p145.2.2.2.2.2.2.2.2.1) (t0_9 := p145.2.2.2.2.2.2.2.2.2) (t1_0 := t1_0) (t2_0 := t2_0) (Int.le_trans b1 c1) c2 (by omega)
  refine ⟨⟨trivial, g1⟩, ?_⟩
  generalize F_Rea_takeSign p145.1 p145.2.1 p145.2.2.1 p145.2.2.2.1 p145.2.2.2.2.1 p145.2.2.2.2.2.1 p145.2.2.2.2.2.2.1 p145.2.2.2.2.2.2.2.1 p145.2.2.2.2.2.2.2.2.1 p145.2.2.2.2.2.2.2.2.2 t1_0 t2_0 = p196 at g2 ⊢
  obtain ⟨⟨d1, d2, d3, d8⟩, dn⟩ := g2
  have d8' : 0 ≤ p196.2.2.2.2.2.2.2.2.1.toInt ∧ p196.2.2.2.2.2.2.2.2.1.toInt ≤ 1 := by
    rw [d8, c8, b8]
    exact h8
  unfold S_Rea_floatText_c9
  refine ⟨⟨trivial, S_says20⟩, ?_⟩
  split
  · refine ⟨⟨trivial, S_says21⟩, ?_⟩
    split
    · obtain ⟨m1, m2, m3, m4, mn⟩ := T_takeHexMark (t0_0 := p196.1) (t0_1 := p196.2.1) (t0_4 := p196.2.2.2.2.1) (t0_5 := p196.2.2.2.2.2.1) (t0_6 := p196.2.2.2.2.2.2.1) (t0_7 := p196.2.2.2.2.2.2.2.1) (t0_8 := p196.2.2.2.2.2.2.2.2.1) (t0_9 := p196.2.2.2.2.2.2.2.2.2) (t1_0 := t1_0) (t2_0 := t2_0) (Int.le_trans b1 (Int.le_trans c1 d1)) d2 (by omega)
      refine ⟨⟨trivial, m1⟩, ?_⟩
      generalize F_Rea_takeHexadecimalMark p196.1 p196.2.1 p196.2.2.1 p196.2.2.2.1 p196.2.2.2.2.1 p196.2.2.2.2.2.1 p196.2.2.2.2.2.2.1 p196.2.2.2.2.2.2.2.1 p196.2.2.2.2.2.2.2.2.1 p196.2.2.2.2.2.2.2.2.2 t1_0 t2_0 = p279 at m2 m3 m4 mn ⊢
      rw [← m4] at m3
      generalize F_Flo_signBit A B C p196.2.2.2.2.1 = j229
      unfold S_Rea_floatText_c62
      have fin : ∀ (a245 : Int32) (p : Int32 × Int64 × Int64 × Int32 × Int32 × Int32 × Int32 × Int32 × Int32 × Int32 × Int64 × Int32 × Int32 × (Nat → Int32)) (M : Nat), M ≤ 10 ^ 801 → RD p279.2.2.2.2.1.toInt p279.2.2.2.2.2.1 M p → p.1 ≠ 0 → S_Rea_floatText_J89 A B C t0_0 t0_1 t0_2 t0_3 t0_4 t0_5 t0_6 t0_7 t0_8 t0_9 t1_0 t2_0 t3_0 t3_1 t4_0 t5_0 t5_1 t6_0 t7_0 t7_1 t8_0 t9_0 t9_1 t10_0 t11_0 t11_1 t12_0 p94 p145 p196 j229 p279 a245 p.2.1 p.2.2.1 p.2.2.2.1 p.2.2.2.2.1 p.2.2.2.2.2.1 p.2.2.2.2.2.2.1 p.2.2.2.2.2.2.2.1 p.2.2.2.2.2.2.2.2.1 p.2.2.2.2.2.2.2.2.2.1 p.2.2.2.2.2.2.2.2.2.2.1 p.2.2.2.2.2.2.2.2.2.2.2.1 p.2.2.2.2.2.2.2.2.2.2.2.2.1 p.2.2.2.2.2.2.2.2.2.2.2.2.2 := by
        intro a245 p M hM hp hp0
        rcases hp with hp | ⟨r1, r2, r3, rn, v, r4, r5, r6⟩
        · exact absurd hp hp0
        unfold S_Rea_floatText_J89
        obtain ⟨n1, n2, n3⟩ := T_takeEnding (t0_0 := p.2.1) (t0_1 := p.2.2.1) (t0_2 := p.2.2.2.1) (t0_3 := p.2.2.2.2.1) (t0_4 := p.2.2.2.2.2.1) (t0_5 := p.2.2.2.2.2.2.1) (t0_6 := p.2.2.2.2.2.2.2.1) (t0_7 := p.2.2.2.2.2.2.2.2.1) (t0_8 := p.2.2.2.2.2.2.2.2.2.1) (t1_0 := t1_0) (t2_0 := t2_0) ⟨r1, r2⟩
        refine ⟨⟨trivial, n1⟩, ?_⟩
        generalize F_Rea_takeEnding p.2.1 p.2.2.1 p.2.2.2.1 p.2.2.2.2.1 p.2.2.2.2.2.1 p.2.2.2.2.2.2.1 p.2.2.2.2.2.2.2.1 p.2.2.2.2.2.2.2.2.1 p.2.2.2.2.2.2.2.2.2.1 p.2.2.2.2.2.2.2.2.2.2.1 t1_0 t2_0 = p382 at n2 n3 ⊢
        have ng : 0 ≤ p382.2.2.2.2.2.1.toInt ∧ p382.2.2.2.2.2.1.toInt ≤ 1 := by
          rw [n3, rn, mn]
          rcases dn with h | h <;> rw [h] <;> decide
        unfold S_Rea_floatText_c90
        split
        · trivial
        · split
          · have lo := Int32.le_toInt (p382.2.2.2.2.2.2.1 - p382.2.2.2.2.2.2.2.2.1)
            have hi := Int32.toInt_lt (p382.2.2.2.2.2.2.1 - p382.2.2.2.2.2.2.2.2.1)
            have q1 : ((p382.2.2.2.2.2.2.1 - p382.2.2.2.2.2.2.2.2.1 : Int32).toInt64 - p382.2.2.2.2.2.2.2.2.2.2 : Int64).toInt = (p382.2.2.2.2.2.2.1 - p382.2.2.2.2.2.2.2.2.1 : Int32).toInt - p.2.2.2.2.2.2.2.2.2.2.1.toInt := q_subL (q_i2l rfl) (by rw [n2]) (by omega) (by omega)
            refine ⟨⟨trivial, S_near r6 (Nat.lt_of_lt_of_le r5 (Nat.le_trans hM (Nat.pow_le_pow_right (by decide) (by decide)))) (by rw [q1]; omega) (by rw [q1]; omega)⟩, ?_⟩
            exact ⟨ng.1, ng.2, trivial⟩
          · exact ⟨ng.1, ng.2, trivial⟩
      have o0 : 0 ≤ p279.2.2.2.1.toInt := Int.le_trans b1 (Int.le_trans c1 (Int.le_trans d1 m2))
      have o2 : p279.2.2.2.2.1.toInt ≤ 100000 := by omega
      by_cases g : p279.1 = 0
      · rw [if_pos g]
        obtain ⟨k1, k2⟩ := T_takeDecimal (t0_0 := p279.2.1) (t0_1 := p279.2.2.1) (t0_4 := p279.2.2.2.2.2.1) (t0_5 := p279.2.2.2.2.2.2.1) (t0_6 := p279.2.2.2.2.2.2.2.1) (t0_7 := p279.2.2.2.2.2.2.2.2.1) (t0_8 := p279.2.2.2.2.2.2.2.2.2.1) (t0_9 := p279.2.2.2.2.2.2.2.2.2.2) (t1_0 := t1_0) (t2_0 := t2_0) (t3_0 := t3_0) (t3_1 := t3_1) (t4_0 := t4_0) o0 m3 o2
        refine ⟨⟨trivial, k1⟩, ?_⟩
        generalize F_Rea_takeDecimal p279.2.1 p279.2.2.1 p279.2.2.2.1 p279.2.2.2.2.1 p279.2.2.2.2.2.1 p279.2.2.2.2.2.2.1 p279.2.2.2.2.2.2.2.1 p279.2.2.2.2.2.2.2.2.1 p279.2.2.2.2.2.2.2.2.2.1 p279.2.2.2.2.2.2.2.2.2.2 t1_0 t2_0 t3_0 t3_1 t4_0 = p553 at k2 ⊢
        unfold S_Rea_floatText_c83
        split
        · trivial
        · rename_i hh
          exact fin _ _ _ (Nat.le_refl _) k2 hh
      · rw [if_neg g]
        obtain ⟨k1, k2⟩ := T_takeHexadecimal (t0_0 := p279.2.1) (t0_1 := p279.2.2.1) (t0_4 := p279.2.2.2.2.2.1) (t0_5 := p279.2.2.2.2.2.2.1) (t0_6 := p279.2.2.2.2.2.2.2.1) (t0_7 := p279.2.2.2.2.2.2.2.2.1) (t0_8 := p279.2.2.2.2.2.2.2.2.2.1) (t0_9 := p279.2.2.2.2.2.2.2.2.2.2) (t1_0 := t1_0) (t2_0 := t2_0) (t3_0 := t3_0) (t3_1 := t3_1) (t4_0 := t4_0) o0 m3 o2
        refine ⟨⟨trivial, k1⟩, ?_⟩
        generalize F_Rea_takeHexadecimal p279.2.1 p279.2.2.1 p279.2.2.2.1 p279.2.2.2.2.1 p279.2.2.2.2.2.1 p279.2.2.2.2.2.2.1 p279.2.2.2.2.2.2.2.1 p279.2.2.2.2.2.2.2.2.1 p279.2.2.2.2.2.2.2.2.2.1 p279.2.2.2.2.2.2.2.2.2.2 t1_0 t2_0 t3_0 t3_1 t4_0 = p617 at k2 ⊢
        unfold S_Rea_floatText_c73
        split
        · trivial
        · rename_i hh
          exact fin _ _ (16 ^ 40) (by decide +kernel) k2 hh
    · exact ⟨d8'.1, d8'.2, trivial⟩
  · exact ⟨d8'.1, d8'.2, trivial⟩

/-! values: the lowest bit -/
theorem v_odd : ∀ (n : Nat), 0 < n → ∃ t m : Nat, n = 2 ^ t * (2 * m + 1) := by
  intro n
  induction n using Nat.strongRecOn with
  | ind n ih =>
    intro h
    by_cases h2 : n % 2 = 1
    · exact ⟨0, n / 2, by rw [Nat.pow_zero, Nat.one_mul]; omega⟩
    · obtain ⟨t, m, e⟩ := ih (n / 2) (by omega) (by omega)
      refine ⟨t + 1, m, ?_⟩
      rw [Nat.pow_succ, Nat.mul_comm (2 ^ t) 2, Nat.mul_assoc, ← e]
      omega
theorem v_tbA (t m i : Nat) : (2 ^ t * (2 * m + 1)).testBit i = (decide (t ≤ i) && (2 * m + 1).testBit (i - t)) := Nat.testBit_two_pow_mul
theorem v_tbB (t m i : Nat) : (2 ^ t * (2 * m + 1) - 1).testBit i = (decide (i < t) || (decide (t < i) && (2 * m).testBit (i - t))) := by
  have hp : 0 < 2 ^ t := Nat.pow_pos (by decide)
  have e : 2 ^ t * (2 * m + 1) - 1 = 2 ^ t * (2 * m) + (2 ^ t - 1) := by
    rw [Nat.mul_add, Nat.mul_one]
    omega
  rw [e, Nat.testBit_two_pow_mul_add _ (by omega)]
  by_cases h : i < t
  · rw [if_pos h, Nat.testBit_two_pow_sub_one]
    simp [h]
  · rw [if_neg h]
    by_cases h2 : t < i
    · simp [h, h2]
    · have : i = t := by omega
      subst this
      simp [Nat.testBit_zero]
theorem v_lowbit {n t m : Nat} (e : n = 2 ^ t * (2 * m + 1)) (hn : n < 2 ^ 31) : n &&& (2 ^ 32 - n) = 2 ^ t := by
  have hp : 0 < 2 ^ t := Nat.pow_pos (by decide)
  have h0 : 0 < n := by rw [e]; exact Nat.mul_pos hp (by omega)
  have ht : t < 31 := by
    apply (Nat.pow_lt_pow_iff_right (a := 2) (by decide)).mp
    have : 2 ^ t * 1 ≤ 2 ^ t * (2 * m + 1) := Nat.mul_le_mul_left _ (by omega)
    omega
  apply Nat.eq_of_testBit_eq
  intro i
  have e2 : 2 ^ 32 - n = 2 ^ 32 - ((n - 1) + 1) := by omega
  rw [Nat.testBit_and, e2, Nat.testBit_two_pow_sub_succ (by omega), Nat.testBit_two_pow]
  rw [e, v_tbA, v_tbB]
  by_cases h1 : i < t
  · have : ¬ t ≤ i := by omega
    have h3 : ¬ t = i := by omega
    simp [this, h3]
  · by_cases h2 : t = i
    · subst h2
      have h4 : t < 32 := by omega
      simp [h4, Nat.testBit_zero]
    · have h5 : t < i := by omega
      have h6 : ¬ i < t := h1
      obtain ⟨j, hj⟩ : ∃ j, i - t = j + 1 := ⟨i - t - 1, by omega⟩
      rw [hj]
      have k1 : (2 * m + 1).testBit (j + 1) = m.testBit j := by
        rw [Nat.testBit_succ]
        congr 1
        omega
      have k2 : (2 * m).testBit (j + 1) = m.testBit j := by
        rw [Nat.testBit_succ]
        congr 1
        omega
      rw [k1, k2]
      simp [h2, h5, h6]
      intro a b
      simp [b]

/-! values: the lowest bit of a number; floats exactly -/
theorem t_ofn : ∀ b : Fin 32, (Int32.ofNat (2 ^ b.val - 1)).toInt = 2 ^ b.val - 1 := by decide +kernel
theorem v_bc {l : Int32} (hl : 0 < l.toInt) : ∃ t : Nat, F_jInt_bitCount ((l &&& (-l)) - 1) = Int32.ofNat t ∧ t < 31 ∧ 2 ^ t ≤ l.toInt.toNat := by
  have h1 := v_natI (x := l) (by omega)
  have h2 := Int32.toInt_lt l
  obtain ⟨t, m, e⟩ := v_odd l.toBitVec.toNat (by omega)
  have hp : 0 < 2 ^ t := Nat.pow_pos (by decide)
  have hn : l.toBitVec.toNat < 2 ^ 31 := by omega
  have hle : 2 ^ t ≤ l.toBitVec.toNat := by
    rw [e]
    have : 2 ^ t * 1 ≤ 2 ^ t * (2 * m + 1) := Nat.mul_le_mul_left _ (by omega)
    omega
  have ht : t < 31 := by
    apply (Nat.pow_lt_pow_iff_right (a := 2) (by decide)).mp
    omega
  have hb := v_lowbit e hn
  have h3 : (l &&& (-l) : Int32).toBitVec.toNat = 2 ^ t := by
    rw [Int32.toBitVec_and, BitVec.toNat_and, Int32.toBitVec_neg, BitVec.toNat_neg, Nat.mod_eq_of_lt (by omega)]
    exact hb
  have h4 : (l &&& (-l) : Int32).toInt = ((2 ^ t : Nat) : Int) := by
    have h5 : (l &&& (-l) : Int32).toInt = ((l &&& (-l) : Int32).toBitVec).toInt := rfl
    rw [BitVec.toInt_eq_toNat_cond, h3] at h5
    have h6 : 2 ^ t < 2 ^ 31 := Nat.pow_lt_pow_right (by decide) ht
    rw [if_pos (by omega)] at h5
    exact h5
  have h6 : 2 ^ t < 2 ^ 31 := Nat.pow_lt_pow_right (by decide) ht
  have h7 : ((l &&& (-l)) - 1 : Int32) = Int32.ofNat (2 ^ t - 1) := by
    apply Int32.toInt_inj.mp
    rw [q_subI h4 v_e1 (by omega) (by omega), t_ofn ⟨t, by omega⟩]
    have : ((2 ^ t : Nat) : Int) = 2 ^ t := by rw [Int.natCast_pow]; rfl
    rw [this]
  refine ⟨t, ?_, ht, by omega⟩
  rw [h7]
  exact t_cnt ⟨t, by omega⟩
theorem v_vBge {f : Nat → Int32} : ∀ {n j : Nat}, okL f n → j < n → (f j).toInt * 2147483648 ^ j ≤ vB f n
  | 0, j, _, h => absurd h (by omega)
  | n + 1, j, ok, h => by
    have h1 : vB f (n + 1) = vB f n + (f n).toInt * 2147483648 ^ n := rfl
    have h2 : 0 ≤ (f n).toInt * 2147483648 ^ n := Int.mul_nonneg (ok n (by omega)) (Int.le_of_lt (Int.pow_pos (by decide)))
    have ok2 : okL f n := fun i hi => ok i (by omega)
    rw [h1]
    by_cases h3 : j = n
    · subst h3
      have := v_nn ok2
      omega
    · have := v_vBge (j := j) ok2 (by omega)
      omega
theorem v_l1L {R s n : Int32} {f : Nat → Int32} (h : bN s f) (hs : 0 < s.toInt) (hs2 : s.toInt ≤ 220) : ∀ (m : Nat) (j : Int32), 0 ≤ j.toInt → j.toInt < s.toInt → s.toInt - j.toInt < (m : Int) → ∃ b : Nat, (F_Big_lowestOne_L2 R s n f m j).toInt = (b : Int) ∧ b ≤ 6820 ∧ (2 : Int) ^ b ≤ bV s f := by
  intro m
  induction m with
  | zero => intros; omega
  | succ m ih =>
    intro j h1 h2 h3
    rw [F_Big_lowestOne_L2.eq_2, if_neg (fun hh => by have := q_leI hh; omega)]
    have c1 := q_clI (i := j) rfl h1
    have c2 := q_clI (i := s) rfl h.1
    by_cases h4 : f j.toNatClampNeg = 0
    · rw [if_pos h4]
      have ej := v_sc h1 (by omega)
      by_cases h5 : j.toInt + 1 = s.toInt
      · exfalso
        apply h.2.2 hs
        rw [show s.toNatClampNeg - 1 = j.toNatClampNeg by omega]
        exact h4
      · exact ih _ (by omega) (by omega) (by omega)
    · rw [if_neg h4]
      have hp : 0 < (f j.toNatClampNeg).toInt := by
        have a1 := h.2.1 j.toNatClampNeg (by omega)
        have a2 : (f j.toNatClampNeg).toInt ≠ 0 := fun h9 => h4 (Int32.toInt_inj.mp h9)
        omega
      obtain ⟨t, t1, t2, t3⟩ := v_bc hp
      have e31 : (31 : Int32).toInt = 31 := rfl
      have et : (Int32.ofNat t).toInt = (t : Int) := by
        rw [Int32.toInt_ofNat_of_lt (by omega)]
      have q1 : (j * 31 : Int32).toInt = j.toInt * 31 := q_mulI rfl e31 (by omega) (by omega)
      rw [t1]
      refine ⟨31 * j.toNatClampNeg + t, ?_, by omega, ?_⟩
      · rw [q_addI q1 et (by omega) (by omega)]
        omega
      · have g1 := v_vBge (j := j.toNatClampNeg) h.2.1 (by omega)
        show (2 : Int) ^ (31 * j.toNatClampNeg + t) ≤ vB f s.toNatClampNeg
        have e : (2147483648 : Int) ^ j.toNatClampNeg = 2 ^ (31 * j.toNatClampNeg) := by rw [Int.pow_mul]; rfl
        rw [e] at g1
        rw [Int.pow_add, Int.mul_comm]
        have g2 : (2 : Int) ^ t ≤ (f j.toNatClampNeg).toInt := by
          have g3 := Int.ofNat_le.mpr t3
          rw [Int.natCast_pow] at g3
          have g4 : ((f j.toNatClampNeg).toInt.toNat : Int) = (f j.toNatClampNeg).toInt := by omega
          rw [g4] at g3
          exact g3
        exact Int.le_trans (Int.mul_le_mul_of_nonneg_right g2 (Int.le_of_lt (Int.pow_pos (by decide)))) g1
theorem W_low1 {R s n : Int32} {f : Nat → Int32} {v : Int} (h : bO R s n f v) (hv : v ≠ 0) : ∃ b : Nat, (F_Big_lowestOne R s n f).toInt = (b : Int) ∧ b ≤ 6820 ∧ 2 ^ b ≤ v.natAbs := by
  have hs := h.pos.mpr hv
  have hf := h.fit
  unfold F_Big_lowestOne
  obtain ⟨b, b1, b2, b3⟩ := v_l1L (R := R) (n := n) h.1 hs h.fit ((220 - (0 : Int32).toInt).toNat + 1) 0 (by decide) hs (by rw [show (0 : Int32).toInt = 0 from rfl]; omega)
  refine ⟨b, b1, b2, ?_⟩
  apply Int.ofNat_le.mp
  rw [Int.natCast_pow, ← h.abs]
  exact b3
/-- to the right, exactly -/
theorem W_shrE {R x s neg : Int32} {f : Nat → Int32} {v : Int} (h : bO R s neg f v) : ∃ w : Int, w.natAbs = v.natAbs / 2 ^ x.toNatClampNeg ∧ (0 ≤ v → 0 ≤ w) ∧ bO R (F_Big_shiftRight R x s neg f).2.1 (F_Big_shiftRight R x s neg f).2.2.1 (F_Big_shiftRight R x s neg f).2.2.2 w := by
  have e0 : (0 : Int32).toInt = 0 := rfl
  by_cases hx : x.toInt ≤ 0
  · unfold F_Big_shiftRight
    rw [if_pos (Int32.le_iff_toInt_le.mpr (by rw [e0]; exact hx))]
    refine ⟨v, ?_, id, h⟩
    rw [v_cn, show x.toInt.toNat = 0 by omega, Nat.pow_zero, Nat.div_one]
  · by_cases hs : s = 0
    · unfold F_Big_shiftRight
      rw [if_neg (fun hh => by have := q_leI hh; omega), if_pos hs]
      refine ⟨v, ?_, id, h⟩
      rw [h.nil.mp hs]
      exact (Nat.zero_div _).symm
    · have hs2 : 0 < s.toInt := by
        have h1 : s.toInt ≠ (0 : Int32).toInt := fun h9 => hs (Int32.toInt_inj.mp h9)
        have h2 := h.s0
        omega
      have hx2 : 0 < x.toInt := by omega
      obtain ⟨lost, z, g, c1, c2, c3, c4⟩ := V_shrB (R := R) (x := x) (neg := neg) h.1 hx2 hs2 h.fit
      rw [c1]
      have hR := h.2.2.2.1
      have nn := c3.nn
      refine ⟨_, ?_, ?_, bO.mkI c3 h.sg rfl (by show z.toInt ≤ _; omega) h.2.2.2.2⟩
      · have h4 : (bS neg z g).natAbs = (bV z g).natAbs := by
          unfold bS
          split
          · rfl
          · rw [Int.natAbs_neg]
        rw [h4, c4, h.abs]
        have : ((2 : Int) ^ x.toNatClampNeg) = ((2 ^ x.toNatClampNeg : Nat) : Int) := by rw [Int.natCast_pow]; rfl
        rw [this, ← Int.natCast_ediv, Int.natAbs_natCast]
      · intro hv
        rcases h.sgn with h5 | h5
        · rw [h5.1, bS_0]
          exact nn
        · omega
theorem v_negI {x : Int32} (h : -1000000 ≤ x.toInt) (h2 : x.toInt ≤ 1000000) : (-x : Int32).toInt = -x.toInt := by
  have e0 : (0 : Int32).toInt = 0 := rfl
  have := q_subI (a := 0) (b := x) e0 rfl (by omega) (by omega)
  rw [Int32.zero_sub] at this
  omega
theorem v_fpw {A B C : Int32} {x : Int64} (hB : 150 ≤ B.toInt ∧ B.toInt ≤ 1075) (hC : 255 ≤ C.toInt ∧ C.toInt ≤ 2047) (hCB : C.toInt ≤ B.toInt + 972) : -1075 ≤ (F_Flo_power A B C x).toInt ∧ (F_Flo_power A B C x).toInt ≤ 972 := by
  have e1 := v_e1
  unfold F_Flo_power
  have h1 : 0 ≤ (F_Flo_exponent A B C x).toInt ∧ (F_Flo_exponent A B C x).toInt ≤ C.toInt := by
    unfold F_Flo_exponent
    exact s_and (by omega)
  generalize F_Flo_exponent A B C x = y at h1 ⊢
  have h2 : (if y < 1 then 1 else y : Int32).toInt = (if y.toInt < 1 then 1 else y.toInt) := by
    split
    · rename_i h
      have := q_ltI h
      rw [if_pos (by omega)]
      rfl
    · rename_i h
      have := q_nltI h
      rw [if_neg (by omega)]
  rw [q_subI h2 rfl (by split <;> omega) (by split <;> omega)]
  split <;> omega
theorem bB3 {x : Int64} : bB 3 x.toInt := by
  have h1 := Int64.le_toInt x
  have h2 := Int64.toInt_lt x
  show x.toInt.natAbs < 2147483648 ^ 3
  omega
theorem v_p2B {v : Int} {M k : Nat} (h : bB M v) : bB (M + (k / 31 + 1)) (v * 2 ^ k) := by
  refine h.mul ?_
  unfold bB
  rw [Int.natAbs_pow]
  have e : (2147483648 : Nat) ^ (k / 31 + 1) = 2 ^ (31 * (k / 31 + 1)) := by rw [Nat.pow_mul]
  rw [e]
  exact Nat.pow_lt_pow_right (by decide) (by omega)
theorem T_towards {A : Int32} {B : Int32} {C : Int32} {x2 : Int64} {t0_0 : Int32} {t0_1 : Int32} {t1_0 : (Nat → Int32)} (hB : 150 ≤ B.toInt ∧ B.toInt ≤ 1075) (hC : 255 ≤ C.toInt ∧ C.toInt ≤ 2047) (hCB : C.toInt ≤ B.toInt + 972) : G1 bK (F_Flo_towardsZero A B C x2 t0_0 t0_1 t1_0) := by
  have e := e220
  have hp := v_fpw (A := A) (x := x2) hB hC hCB
  unfold F_Flo_towardsZero
  have h1 : P1 220 (F_Flo_number A B C x2).toInt (F_Big_setLong 220 (F_Flo_number A B C x2) t0_0 t0_1 t1_0) := W_setLong (by decide) (by decide)
  have b1 := bB3 (x := F_Flo_number A B C x2)
  generalize (F_Flo_number A B C x2).toInt = v at h1 b1
  generalize F_Big_setLong 220 (F_Flo_number A B C x2) t0_0 t0_1 t1_0 = p40 at h1 ⊢
  generalize F_Flo_power A B C x2 = a15 at hp ⊢
  unfold F_Flo_towardsZero_c18
  have s1 := h1.sB b1
  have h2 := W_shl (x := a15) h1 (fun _ _ => by omega)
  have b2 : bB 60 (v * 2 ^ a15.toNatClampNeg) := (v_p2B b1).mono (by rw [v_cn]; omega)
  generalize v * 2 ^ a15.toNatClampNeg = w at h2 b2
  generalize F_Big_shiftLeft 220 a15 p40.1 p40.2.1 p40.2.2 = p64 at h2 ⊢
  unfold F_Flo_towardsZero_c29
  obtain ⟨u, u1, u2⟩ := W_shr (x := -a15) h2
  generalize F_Big_shiftRight 220 (-a15) p64.1 p64.2.1 p64.2.2 = p94 at u2 ⊢
  have b3 : bB 60 u := b2.le u1
  unfold F_Flo_towardsZero_c41
  split
  · exact ⟨_, u2.abs0, b3.a0.mono (by decide)⟩
  · rename_i g
    split
    · exact ⟨_, u2.abs0, b3.a0.mono (by decide)⟩
    · exact ⟨_, u2.abs1 (v_nle0 g), b3.a1.mono (by decide)⟩
theorem T_exactly {A : Int32} {B : Int32} {C : Int32} {x2 : Int64} {t0_0 : Int32} {t0_1 : Int32} {t1_0 : (Nat → Int32)} (hB : 150 ≤ B.toInt ∧ B.toInt ≤ 1075) (hC : 255 ≤ C.toInt ∧ C.toInt ≤ 2047) (hCB : C.toInt ≤ B.toInt + 972) : G1 bK (F_Flo_exactly A B C x2 t0_0 t0_1 t1_0).2 := by
  have e := e220
  have e0 : (0 : Int32).toInt = 0 := rfl
  have hp := v_fpw (A := A) (x := x2) hB hC hCB
  unfold F_Flo_exactly
  have h1 : P1 220 (F_Flo_number A B C x2).toInt (F_Big_setLong 220 (F_Flo_number A B C x2) t0_0 t0_1 t1_0) := W_setLong (by decide) (by decide)
  have b1 := bB3 (x := F_Flo_number A B C x2)
  generalize (F_Flo_number A B C x2).toInt = v at h1 b1
  generalize F_Big_setLong 220 (F_Flo_number A B C x2) t0_0 t0_1 t1_0 = p40 at h1 ⊢
  generalize F_Flo_power A B C x2 = a15 at hp ⊢
  unfold F_Flo_exactly_c22
  by_cases g : p40.1 = 0
  · rw [if_pos g]
    exact ⟨_, h1, b1.mono (by decide)⟩
  rw [if_neg g]
  have hv : v ≠ 0 := fun h9 => g (h1.nil.mpr h9)
  obtain ⟨b, l1, l2, l3⟩ := W_low1 h1 hv
  have qn := v_negI (x := a15) (by omega) (by omega)
  generalize F_Big_lowestOne 220 p40.1 p40.2.1 p40.2.2 = lo at l1 ⊢
  generalize (-a15 : Int32) = na at qn ⊢
  obtain ⟨mx, em⟩ := q_nm (if 0 < na then na else 0 : Int32)
  have hmx : 0 ≤ mx.toInt := by
    rw [← em]
    split
    · rename_i h11
      have := q_ltI h11
      omega
    · decide
  rw [em]
  obtain ⟨ev, ee⟩ := q_nm (if mx < lo then mx else lo : Int32)
  have hev : 0 ≤ ev.toInt ∧ ev.toInt ≤ (b : Int) := by
    rw [← ee]
    split
    · rename_i h9
      have h10 := q_ltI h9
      omega
    · omega
  rw [ee]
  obtain ⟨w, w1, w2, w3⟩ := W_shrE (x := ev) h1
  have hw0 : w ≠ 0 := by
    have : 0 < v.natAbs / 2 ^ ev.toNatClampNeg := by
      apply Nat.div_pos
      · exact Nat.le_trans (Nat.pow_le_pow_right (by decide) (by rw [v_cn]; omega)) l3
      · exact Nat.pow_pos (by decide)
    omega
  generalize F_Big_shiftRight 220 ev p40.1 p40.2.1 p40.2.2 = p85 at w3 ⊢
  have bw : bB 3 w := b1.le (by rw [w1]; exact Nat.div_le_self _ _)
  have sw := w3.sB bw
  unfold F_Flo_exactly_c55
  have h2 := W_shl (x := a15) w3 (fun _ _ => by omega)
  have b2 : bB 60 (w * 2 ^ a15.toNatClampNeg) := (v_p2B bw).mono (by rw [v_cn]; omega)
  have n2 : w * 2 ^ a15.toNatClampNeg ≠ 0 := Int.mul_ne_zero hw0 (by have := v_p2 a15.toNatClampNeg; omega)
  generalize w * 2 ^ a15.toNatClampNeg = z at h2 b2 n2
  generalize F_Big_shiftLeft 220 a15 p85.2.1 p85.2.2.1 p85.2.2.2 = p110 at h2 ⊢
  unfold F_Flo_exactly_c62
  have q2 : (-a15 - ev : Int32).toInt = -a15.toInt - ev.toInt := q_subI (v_negI (by omega) (by omega)) rfl (by omega) (by omega)
  obtain ⟨sc, es⟩ := q_nm (if 0 < (-a15 - ev : Int32) then (-a15 - ev : Int32) else 0 : Int32)
  have hsc : 0 ≤ sc.toInt ∧ sc.toInt ≤ 1075 := by
    rw [← es]
    split
    · rename_i h9
      have := q_ltI h9
      omega
    · decide
  rw [es]
  have m1 : z.natAbs * 5 ^ sc.toNatClampNeg < 2147483648 ^ 176 := by
    have k1 : 5 ^ sc.toNatClampNeg ≤ 10 ^ 1075 := Nat.le_trans (Nat.pow_le_pow_left (by decide) _) (Nat.pow_le_pow_right (by decide) (by rw [v_cn]; omega))
    have k2 : (10 : Nat) ^ 1075 ≤ 2147483648 ^ 116 := v_tB (by decide)
    have k3 := Nat.mul_lt_mul_of_lt_of_le b2 (Nat.le_trans k1 k2) (Nat.pow_pos (by decide))
    rw [← Nat.pow_add] at k3
    exact k3
  have h3 := W_five (M := 176) (x := sc) h2 (by decide) m1
  have b3 : bB 176 (z * 5 ^ sc.toNatClampNeg) := by
    unfold bB
    rw [Int.natAbs_mul, Int.natAbs_pow]
    exact m1
  have n3 : z * 5 ^ sc.toNatClampNeg ≠ 0 := Int.mul_ne_zero n2 (by have := v_t5 sc.toNatClampNeg; omega)
  generalize z * 5 ^ sc.toNatClampNeg = y at h3 b3 n3
  generalize F_Big_timesFive 220 sc p110.1 p110.2.1 p110.2.2 = p142 at h3 ⊢
  unfold F_Flo_exactly_c80 F_Flo_isNegative
  split
  · exact ⟨_, h3.abs0, b3.a0.mono (by decide)⟩
  · exact ⟨_, h3.abs1 (h3.pos.mpr n3), b3.a1.mono (by decide)⟩

/-! values: a whole written -/
theorem v_at2 {x : Int64} {t0 : Int32} {t1 : Nat → Int64} : S_She_at 11008 1376 1000000 x t0 t1 := by
  unfold S_She_at
  split
  · trivial
  · rename_i h1
    split
    · trivial
    · split
      · rename_i h3
        have h1' := q_k2 h1
        have h3' := q_k1 h3
        have e0 : (0 : Int64).toInt = 0 := rfl
        have e4 : (11008 : Int32).toInt64.toInt = 11008 := rfl
        have e5 : (1376 : Int32).toInt = 1376 := rfl
        have l := s_l2i (x := x) (by omega) (by omega)
        have s := s_shr (x := x.toInt32) (c := 3) 3 (by decide) (by decide) (by omega)
        rw [s, l]
        exact ⟨by omega, by omega, trivial⟩
      · trivial
theorem v_rep2 {x y t0 : Int32} {t1 : Nat → Int64} : S_She_replace 11008 1376 1000000 x y t0 t1 := by
  unfold S_She_replace
  split
  · trivial
  · split
    · trivial
    · exact ⟨⟨trivial, v_at2⟩, trivial⟩
theorem e_M : (1000000 : Int32).toInt = 1000000 := rfl
theorem v_add2S {x t0 : Int32} {t1 : Nat → Int64} (h0 : 0 ≤ t0.toInt) (h : t0.toInt < 1000000) : S_She_add 11008 1376 1000000 x t0 t1 ∧ (F_She_add 11008 1376 1000000 x t0 t1).1.toInt = t0.toInt + 1 := by
  have e := e_M
  have q : (t0 + 1 : Int32).toInt = t0.toInt + 1 := q_addI rfl v_e1 (by omega) (by omega)
  unfold S_She_add F_She_add
  split
  · exact ⟨⟨by omega, trivial⟩, q⟩
  · exact ⟨⟨by omega, trivial⟩, q⟩
theorem v_turnL {x2 sz : Int32} {t1 : Nat → Int64} : ∀ (n : Nat) (hi lo : Int32) (f : Nat → Int64), hi.toInt - lo.toInt < (n : Int) → 0 < n → 0 ≤ lo.toInt → hi.toInt ≤ 1000000 → S_She_turn_L9 11008 1376 1000000 x2 sz t1 n hi lo f := by
  intro n
  induction n with
  | zero => intros; omega
  | succ n ih =>
    intro hi lo f h1 h2 h3 h4
    rw [S_She_turn_L9.eq_2]
    split
    · trivial
    · rename_i g
      have g' := q_nleI g
      have e1 : (hi + (-1) : Int32).toInt = hi.toInt + (-1) := q_addI (b := -1) (y := -1) rfl (by decide) (by omega) (by omega)
      have e2 := v_sc (i := lo) (by omega) (by omega)
      obtain ⟨hi2, eh⟩ := q_nm (hi + (-1) : Int32)
      rw [eh] at e1 ⊢
      exact ⟨⟨trivial, v_at2⟩, ⟨trivial, v_at2⟩, ⟨trivial, v_rep2⟩, ⟨trivial, v_rep2⟩, ih _ _ _ (by omega) (by omega) (by omega) (by omega)⟩
theorem v_turn2 {x2 sz : Int32} {t1 : Nat → Int64} (h0 : 0 ≤ x2.toInt) (h1 : sz.toInt ≤ 1000000) (h2 : 0 ≤ sz.toInt) : S_She_turn 11008 1376 1000000 x2 sz t1 := by
  unfold S_She_turn
  have q : (sz - 1 : Int32).toInt = sz.toInt - 1 := q_subI rfl v_e1 (by omega) (by omega)
  obtain ⟨s1, es⟩ := q_nm (sz - 1 : Int32)
  rw [es] at q ⊢
  exact v_turnL _ _ _ _ (by omega) (by omega) h0 (by omega)
theorem v_rem {a b : Int32} (ha : 0 ≤ a.toInt) (hb : 0 < b.toInt) : (a - a / b * b : Int32).toInt = a.toInt % b.toInt := by
  have q1 : (a / b : Int32).toInt = a.toInt / b.toInt := q_divI rfl rfl ha hb
  have la := Int32.toInt_lt a
  have h1 := Int.ediv_mul_le a.toInt (b := b.toInt) (by omega)
  have h2 : 0 ≤ a.toInt / b.toInt := Int.ediv_nonneg ha (by omega)
  have h3 : 0 ≤ a.toInt / b.toInt * b.toInt := Int.mul_nonneg h2 (by omega)
  have q2 : (a / b * b : Int32).toInt = a.toInt / b.toInt * b.toInt := q_mulI q1 rfl (by omega) (by omega)
  rw [q_subI rfl q2 (by omega) (by omega)]
  have h4 := Int.emod_def a.toInt b.toInt
  rw [Int.mul_comm] at h4
  omega
/-- the figures of a part -/
theorem v_wt106 {K1 : Int32 → Int32 → Prop} {K2 : Int32 → Int32 → Int32 → (Nat → Int32) → Int32 → (Nat → Int64) → Prop} {R x3 t0_0 t2_0 t2_1 t4_0 t4_1 y27 lx45 lx46 lx93 lx94 lx95 lx97 y185 y186 : Int32} {t1_0 f28 lx98 : Nat → Int64} {t3_0 t5_0 lx96 f187 : Nat → Int32} {p34 : Int32 × (Nat → Int64)} {p82 : Int32 × Int32 × (Nat → Int32)} {p195 : Int32 × Int32 × Int32 × (Nat → Int32)} {Z : Int} (hx : 2 ≤ x3.toInt) (hx2 : x3.toInt ≤ 36) (h46 : lx46.toInt ≤ 31) (hZ : Z ≤ 900000) (hK : ∀ (s : Int32) (f : Nat → Int64), 0 ≤ s.toInt → s.toInt ≤ Z + 31 → K2 (lx93 + 1) y185 y186 f187 s f) :
    ∀ (n : Nat) (k part sz : Int32) (f : Nat → Int64), 31 - k.toInt < (n : Int) → 0 < n → 0 ≤ k.toInt → k.toInt ≤ 31 → 0 ≤ part.toInt → 0 ≤ sz.toInt → sz.toInt ≤ Z + k.toInt → S_Wri_wholeText_L106 K1 K2 R x3 t0_0 t1_0 t2_0 t2_1 t3_0 t4_0 t4_1 t5_0 p34 y27 f28 lx45 lx46 p82 lx93 lx94 lx95 lx96 lx97 lx98 p195 y185 y186 f187 n k part sz f := by
  intro n
  induction n with
  | zero => intros; omega
  | succ n ih =>
    intro k part sz f h1 h2 h3 h4 h5 h6 h7
    rw [S_Wri_wholeText_L106.eq_2]
    have step : k.toInt < lx46.toInt → S_Wri_wholeText_J131 K1 K2 (S_Wri_wholeText_L106 K1 K2 R x3 t0_0 t1_0 t2_0 t2_1 t3_0 t4_0 t4_1 t5_0 p34 y27 f28 lx45 lx46 p82 lx93 lx94 lx95 lx96 lx97 lx98 p195 y185 y186 f187 n) R x3 t0_0 t1_0 t2_0 t2_1 t3_0 t4_0 t4_1 t5_0 p34 y27 f28 lx45 lx46 p82 lx93 lx94 lx95 lx96 lx97 lx98 p195 y185 y186 f187 k part sz f := by
      intro g
      unfold S_Wri_wholeText_J131
      have r := v_rem (a := part) (b := x3) h5 (by omega)
      have r1 := Int.emod_nonneg part.toInt (b := x3.toInt) (by omega)
      have r2 := Int.emod_lt_of_pos part.toInt (b := x3.toInt) (by omega)
      have ad := v_add2S (x := F_jStr_charAt_22 (part - part / x3 * x3)) (t0 := sz) (t1 := f) h6 (by omega)
      refine ⟨by omega, by omega, by omega, ⟨trivial, ad.1⟩, ?_⟩
      unfold S_Wri_wholeText_c144
      have ek := v_sc (i := k) (by omega) (by omega)
      have qd : (part / x3 : Int32).toInt = part.toInt / x3.toInt := q_divI rfl rfl h5 (by omega)
      have qd2 := Int.ediv_nonneg h5 (by omega : 0 ≤ x3.toInt)
      exact ih _ _ _ _ (by omega) (by omega) (by omega) (by omega) (by omega) (by omega) (by omega)
    by_cases g : lx46 ≤ k
    · rw [if_pos g]
      exact hK _ _ h6 (by omega)
    rw [if_neg g]
    have g' := q_nleI g
    split
    · exact step g'
    · split
      · exact hK _ _ h6 (by omega)
      · exact step g'
theorem v_wtJ {K1 : Int32 → Int32 → Prop} {K2 : Int32 → Int32 → Int32 → (Nat → Int32) → Int32 → (Nat → Int64) → Prop} {R x3 t0_0 t2_0 t2_1 t4_0 t4_1 y27 lx45 lx46 lx93 lx94 lx95 lx97 : Int32} {t1_0 f28 lx98 : Nat → Int64} {t3_0 t5_0 lx96 : Nat → Int32} {p34 : Int32 × (Nat → Int64)} {p82 : Int32 × Int32 × (Nat → Int32)} (hy : 0 ≤ y27.toInt) (h0 : 0 ≤ lx97.toInt) (h1 : lx97.toInt < 1000000) : S_Wri_wholeText_J165 K1 K2 R x3 t0_0 t1_0 t2_0 t2_1 t3_0 t4_0 t4_1 t5_0 p34 y27 f28 lx45 lx46 p82 lx93 lx94 lx95 lx96 lx97 lx98 := by
  unfold S_Wri_wholeText_J165
  split
  · have ad := v_add2S (x := 48) (t0 := lx97) (t1 := lx98) h0 h1
    refine ⟨⟨trivial, ad.1⟩, ?_⟩
    unfold S_Wri_wholeText_c182
    exact ⟨⟨trivial, v_turn2 hy (by omega) (by omega)⟩, trivial⟩
  · exact ⟨⟨trivial, v_turn2 hy (by omega) (by omega)⟩, trivial⟩
theorem v_wt68 {K1 : Int32 → Int32 → Prop} {R x3 t0_0 t2_0 t2_1 t4_0 t4_1 y27 lx45 lx46 : Int32} {t1_0 f28 : Nat → Int64} {t3_0 t5_0 : Nat → Int32} {p34 : Int32 × (Nat → Int64)} {p82 : Int32 × Int32 × (Nat → Int32)} (hx : 2 ≤ x3.toInt) (hx2 : x3.toInt ≤ 36) (h46 : lx46.toInt ≤ 31) (h45 : 1 ≤ lx45.toInt) (hy : 0 ≤ y27.toInt) :
    ∀ (n : Nat) (i s m : Int32) (f : Nat → Int32) (sz : Int32) (fz : Nat → Int64), 2100 - i.toInt < (n : Int) → 0 < n → 0 ≤ i.toInt → i.toInt ≤ 2100 → bJ 220 s m f → 0 ≤ sz.toInt → sz.toInt ≤ 1 + 31 * i.toInt → S_Wri_wholeText_L68 K1 R x3 t0_0 t1_0 t2_0 t2_1 t3_0 t4_0 t4_1 t5_0 p34 y27 f28 lx45 lx46 p82 n i s m f sz fz := by
  intro n
  induction n with
  | zero => intros; omega
  | succ n ih =>
    intro i s m f sz fz h1 h2 h3 h4 h5 h6 h7
    have e21 : (2100 : Int32).toInt = 2100 := rfl
    rw [S_Wri_wholeText_L68.eq_2]
    by_cases g : 2100 ≤ i
    · rw [if_pos g]
      exact v_wtJ hy h6 (by omega)
    rw [if_neg g]
    have g' := q_nleI g
    split
    · exact v_wtJ hy h6 (by omega)
    · obtain ⟨v, hv⟩ := h5
      obtain ⟨d1, w, d2, d3, d4, d5⟩ := W_divS (x := lx45) hv h45
      generalize F_Big_divideSmall 220 lx45 s m f = p195 at d1 d5 ⊢
      unfold S_Wri_wholeText_c98
      have d6 := Int.emod_nonneg (v.natAbs : Int) (b := lx45.toInt) (by omega)
      have ei := v_sc (i := i) (by omega) (by omega)
      refine v_wt106 (Z := 1 + 31 * i.toInt) hx hx2 h46 (by omega) (fun s2 f2 k1 k2 => ?_) _ _ _ _ _ (by decide) (by decide) (by decide) (by decide) (by omega) h6 (by rw [show (0 : Int32).toInt = 0 from rfl]; omega)
      exact ih _ _ _ _ _ _ (by omega) (by omega) (by omega) (by omega) ⟨w, d5⟩ k1 (by omega)
theorem v_wt22 {R x3 t0_0 t2_0 t2_1 t4_0 t4_1 y27 : Int32} {t1_0 f28 : Nat → Int64} {t3_0 t5_0 : Nat → Int32} {p34 : Int32 × (Nat → Int64)} (hb : bJ R t4_0 t4_1 t5_0) (hx : 2 ≤ x3.toInt) (hx2 : x3.toInt ≤ 36) (hy : 0 ≤ y27.toInt) (hy2 : y27.toInt ≤ 1) :
    ∀ (n : Nat) (c k : Int32), 31 - k.toInt < (n : Int) → 0 < n → 1 ≤ k.toInt → k.toInt ≤ 31 → 1 ≤ c.toInt → S_Wri_wholeText_L22 R x3 t0_0 t1_0 t2_0 t2_1 t3_0 t4_0 t4_1 t5_0 p34 y27 f28 n c k := by
  intro n
  induction n with
  | zero => intros; omega
  | succ n ih =>
    intro c k h1 h2 h3 h4 h5
    rw [S_Wri_wholeText_L22.eq_2]
    have e31 : (31 : Int32).toInt = 31 := rfl
    have eM : (2147483647 : Int64).toInt = 2147483647 := rfl
    have J : S_Wri_wholeText_J54 (S_Wri_wholeText_L22 R x3 t0_0 t1_0 t2_0 t2_1 t3_0 t4_0 t4_1 t5_0 p34 y27 f28 n) R x3 t0_0 t1_0 t2_0 t2_1 t3_0 t4_0 t4_1 t5_0 p34 y27 f28 c k := by
      unfold S_Wri_wholeText_J54 S_Wri_wholeText_c62
      obtain ⟨v, hv⟩ := hb
      exact v_wt68 hx hx2 h4 h5 hy _ _ _ _ _ _ _ (by decide) (by decide) (by decide) (by decide) ⟨v, W_copy hv hv.fit (by decide)⟩ hy (by rw [show (0 : Int32).toInt = 0 from rfl]; omega)
    by_cases g : 31 ≤ k
    · rw [if_pos g]
      exact J
    rw [if_neg g]
    have g' := q_nleI g
    by_cases g2 : 0 < lg_cmp (c.toInt64 * x3.toInt64) 2147483647
    · rw [if_pos g2]
      exact J
    rw [if_neg g2]
    have g3 := q_k4 g2
    have cl := Int32.toInt_lt c
    have m0 : 0 ≤ c.toInt * x3.toInt := Int.mul_nonneg (by omega) (by omega)
    have m1 : c.toInt * x3.toInt ≤ c.toInt * 36 := Int.mul_le_mul_of_nonneg_left hx2 (by omega)
    have m2 : c.toInt * 1 ≤ c.toInt * x3.toInt := Int.mul_le_mul_of_nonneg_left (by omega) (by omega)
    rw [q_mulL (q_i2l rfl) (q_i2l rfl) (by omega) (by omega), eM] at g3
    have q1 : (c * x3 : Int32).toInt = c.toInt * x3.toInt := q_mulI rfl rfl (by omega) (by omega)
    have ek := v_sc (i := k) (by omega) (by omega)
    exact ih _ _ (by omega) (by omega) (by omega) (by omega) (by omega)
theorem S_wholeText2 {R : Int32} {x3 : Int32} {t0_0 : Int32} {t1_0 : (Nat → Int64)} {t2_0 : Int32} {t2_1 : Int32} {t3_0 : (Nat → Int32)} {t4_0 : Int32} {t4_1 : Int32} {t5_0 : (Nat → Int32)} (hb : bJ R t4_0 t4_1 t5_0) (hx : 2 ≤ x3.toInt) (hx2 : x3.toInt ≤ 36) : (S_Wri_wholeText R x3 t0_0 t1_0 t2_0 t2_1 t3_0 t4_0 t4_1 t5_0) := by
  have eM := e_M
  unfold S_Wri_wholeText
  have h1 : S_Wri_begin t4_1 t0_0 t1_0 ∧ 0 ≤ (F_Wri_begin t4_1 t0_0 t1_0).1.toInt ∧ (F_Wri_begin t4_1 t0_0 t1_0).1.toInt ≤ 1 := by
    have ec : (F_She_clear 11008 1376 1000000 t0_0).toInt = 0 := rfl
    unfold S_Wri_begin F_Wri_begin
    split
    · exact ⟨trivial, by show 0 ≤ (F_She_clear 11008 1376 1000000 t0_0).toInt; omega, by show (F_She_clear 11008 1376 1000000 t0_0).toInt ≤ 1; omega⟩
    · have ad := v_add2S (x := 45) (t0 := F_She_clear 11008 1376 1000000 t0_0) (t1 := t1_0) (by omega) (by omega)
      refine ⟨⟨⟨trivial, ad.1⟩, trivial⟩, ?_, ?_⟩
      · show 0 ≤ (F_She_add 11008 1376 1000000 45 (F_She_clear 11008 1376 1000000 t0_0) t1_0).1.toInt
        omega
      · show (F_She_add 11008 1376 1000000 45 (F_She_clear 11008 1376 1000000 t0_0) t1_0).1.toInt ≤ 1
        omega
  refine ⟨⟨trivial, h1.1⟩, ?_⟩
  replace h1 := h1.2
  generalize F_Wri_begin t4_1 t0_0 t1_0 = p34 at h1 ⊢
  unfold S_Wri_wholeText_c5
  exact v_wt22 hb hx hx2 h1.1 h1.2 _ _ _ (by decide) (by decide) (by decide) (by decide) (by omega)

/-! values: figures filled -/
theorem v_dt43 {K : Int32 → Prop} {x2 t0_0 t0_1 lx9 : Int32} {t1_0 : Nat → Int32} (hx : -100000 ≤ x2.toInt) (hx2 : x2.toInt ≤ 100000) (h9 : 0 ≤ lx9.toInt) (h92 : lx9.toInt ≤ 1026) : ∀ (n : Nat) (hi lo : Int32) (f : Nat → Int32), hi.toInt - lo.toInt < (n : Int) → 0 < n → 0 ≤ lo.toInt → hi.toInt ≤ 1026 → S_Dig_turn_L43 K x2 t0_0 t0_1 t1_0 lx9 n hi lo f := by
  intro n
  induction n with
  | zero => intros; omega
  | succ n ih =>
    intro hi lo f h1 h2 h3 h4
    rw [S_Dig_turn_L43.eq_2]
    split
    · split
      · trivial
      · have q1 : (lx9 - 1 : Int32).toInt = lx9.toInt - 1 := q_subI rfl v_e1 (by omega) (by omega)
        have q2 : (lx9 - 1 - x2 : Int32).toInt = lx9.toInt - 1 - x2.toInt := q_subI q1 rfl (by omega) (by omega)
        rw [q2]
        exact ⟨by omega, by omega, trivial⟩
    · rename_i g
      have g' := q_nleI g
      have e1 : (hi + (-1) : Int32).toInt = hi.toInt + (-1) := q_addI (b := -1) (y := -1) rfl (by decide) (by omega) (by omega)
      have e2 := v_sc (i := lo) (by omega) (by omega)
      obtain ⟨hi2, eh⟩ := q_nm (hi + (-1) : Int32)
      rw [eh] at e1 ⊢
      exact ih _ _ _ (by omega) (by omega) (by omega) (by omega)
theorem v_dt0 {x2 t0_0 t0_1 : Int32} {t1_0 : Nat → Int32} (hx : -100000 ≤ x2.toInt) (hx2 : x2.toInt ≤ 100000) : ∀ (n : Nat) (c : Int32), c.toInt < (n : Int) → 0 < n → 0 ≤ c.toInt → c.toInt ≤ 1026 → S_Dig_turn_L0 x2 t0_0 t0_1 t1_0 n c := by
  intro n
  induction n with
  | zero => intros; omega
  | succ n ih =>
    intro c h1 h2 h3 h4
    rw [S_Dig_turn_L0.eq_2]
    have q1 : (c - 1 : Int32).toInt = c.toInt - 1 := q_subI rfl v_e1 (by omega) (by omega)
    have J : S_Dig_turn_J34 (S_Dig_turn_L0 x2 t0_0 t0_1 t1_0 n) x2 t0_0 t0_1 t1_0 c := by
      unfold S_Dig_turn_J34
      obtain ⟨s1, es⟩ := q_nm (c - 1 : Int32)
      rw [es] at q1 ⊢
      exact v_dt43 hx hx2 h3 h4 _ _ _ _ (by rw [show (0 : Int32).toInt = 0 from rfl]; omega) (by omega) (by decide) (by omega)
    by_cases g : c ≤ 0
    · rw [if_pos g]
      exact J
    rw [if_neg g]
    have g' := q_nleI g
    have e0 : (0 : Int32).toInt = 0 := rfl
    split
    · obtain ⟨s1, es⟩ := q_nm (c - 1 : Int32)
      rw [es] at q1 ⊢
      exact ih _ (by omega) (by omega) (by omega) (by omega)
    · exact J
theorem v_dturn {x2 t0_0 t0_1 : Int32} {t1_0 : Nat → Int32} (hx : -100000 ≤ x2.toInt) (hx2 : x2.toInt ≤ 100000) (h3 : 0 ≤ t0_0.toInt) (h4 : t0_0.toInt ≤ 1026) : S_Dig_turn x2 t0_0 t0_1 t1_0 := by
  unfold S_Dig_turn
  exact v_dt0 hx hx2 _ _ (by omega) (by omega) h3 h4
theorem v_df31 {K : Int32 → Int32 → (Nat → Int32) → Int32 → Int32 → (Nat → Int32) → Prop} {R x3 t0_0 t0_1 t2_0 t2_1 lx20 lx21 lx23 lx24 y106 y107 : Int32} {t1_0 t3_0 lx22 lx25 f108 : Nat → Int32} {p116 : Int32 × Int32 × Int32 × (Nat → Int32)} {Z : Int} (hZ : Z + 9 ≤ 1026) (hZ0 : 0 ≤ Z) (hK : ∀ (c : Int32) (f : Nat → Int32), c.toInt = Z + 9 → K (lx20 + 1) c f y106 y107 f108) :
    ∀ (n : Nat) (i part c : Int32) (f : Nat → Int32), 9 - i.toInt < (n : Int) → 0 < n → 0 ≤ i.toInt → i.toInt ≤ 9 → c.toInt = Z + i.toInt → S_Dig_fill_L31 K R x3 t0_0 t0_1 t1_0 t2_0 t2_1 t3_0 lx20 lx21 lx22 lx23 lx24 lx25 p116 y106 y107 f108 n i part c f := by
  intro n
  induction n with
  | zero => intros; omega
  | succ n ih =>
    intro i part c f h1 h2 h3 h4 h5
    rw [S_Dig_fill_L31.eq_2]
    have e9 : (9 : Int32).toInt = 9 := rfl
    by_cases g : 9 ≤ i
    · rw [if_pos g]
      have := q_leI g
      exact hK _ _ (by omega)
    rw [if_neg g]
    have g' := q_nleI g
    have e1 := v_sc (i := i) (by omega) (by omega)
    have e2 := v_sc (i := c) (by omega) (by omega)
    exact ⟨by omega, ih _ _ _ _ (by omega) (by omega) (by omega) (by omega) (by omega)⟩
theorem v_df7 {R x3 t0_0 t0_1 t2_0 t2_1 : Int32} {t1_0 t3_0 : Nat → Int32} (hx : -100000 ≤ x3.toInt) (hx2 : x3.toInt ≤ 100000) :
    ∀ (n : Nat) (k c : Int32) (f : Nat → Int32) (s m : Int32) (g : Nat → Int32), 114 - k.toInt < (n : Int) → 0 < n → 0 ≤ k.toInt → k.toInt ≤ 114 → c.toInt = 9 * k.toInt → S_Dig_fill_L7 R x3 t0_0 t0_1 t1_0 t2_0 t2_1 t3_0 n k c f s m g := by
  intro n
  induction n with
  | zero => intros; omega
  | succ n ih =>
    intro k c f s m g h1 h2 h3 h4 h5
    rw [S_Dig_fill_L7.eq_2]
    have e114 : (114 : Int32).toInt = 114 := rfl
    by_cases w : 114 ≤ k
    · rw [if_pos w]
      exact ⟨⟨trivial, v_dturn hx hx2 (by omega) (by omega)⟩, trivial⟩
    rw [if_neg w]
    have w' := q_nleI w
    split
    · exact ⟨⟨trivial, v_dturn hx hx2 (by omega) (by omega)⟩, trivial⟩
    · unfold S_Dig_fill_c23
      have e1 := v_sc (i := k) (by omega) (by omega)
      refine v_df31 (Z := 9 * k.toInt) (by omega) (by omega) (fun c2 f2 h6 => ?_) _ _ _ _ _ (by decide) (by decide) (by decide) (by decide) (by rw [h5, show (0 : Int32).toInt = 0 from rfl]; omega)
      exact ih _ _ _ _ _ _ (by omega) (by omega) (by omega) (by omega) (by omega)
theorem S_fill {R : Int32} {x3 : Int32} {t0_0 : Int32} {t0_1 : Int32} {t1_0 : (Nat → Int32)} {t2_0 : Int32} {t2_1 : Int32} {t3_0 : (Nat → Int32)} (hx : -100000 ≤ x3.toInt) (hx2 : x3.toInt ≤ 100000) : (S_Dig_fill R x3 t0_0 t0_1 t1_0 t2_0 t2_1 t3_0) := by
  unfold S_Dig_fill
  exact v_df7 hx hx2 _ _ _ _ _ _ _ (by decide) (by decide) (by decide) (by decide) (by decide)

/-! what the calls keep: put -/
theorem v_isReg {x : Int32} (h : ¬ F_NH_isRegister x = 0) : 0 ≤ x.toInt ∧ x.toInt ≤ 9 := by
  have e0 : (0 : Int32).toInt = 0 := rfl
  have e10 : (10 : Int32).toInt = 10 := rfl
  unfold F_NH_isRegister at h
  by_cases h1 : x < 0
  · rw [if_pos h1] at h
    exact absurd rfl h
  · rw [if_neg h1] at h
    by_cases h2 : 10 ≤ x
    · rw [if_pos h2] at h
      exact absurd rfl h
    · have a := q_nltI h1
      have b := q_nleI h2
      omega
theorem v_need0 : F_NH_need 0 = 1 := rfl
theorem v_need1 : F_NH_need 1 = 0 := rfl
theorem v_canH0 : F_NH_canHave 0 = 2 := rfl
theorem v_canH1 : F_NH_canHave 1 = 0 := rfl
theorem v_needReg {k x : Int32} (h : F_NH_needRegister k x = 0) : (0 ≤ k.toInt ∧ k.toInt ≤ 3) ∧ 0 ≤ x.toInt ∧ x.toInt ≤ 9 := by
  have e0 : (0 : Int32).toInt = 0 := rfl
  have e3 : (3 : Int32).toInt = 3 := rfl
  unfold F_NH_needRegister at h
  rw [v_need0, v_need1] at h
  by_cases h1 : k < 0
  · rw [if_pos h1] at h
    exact absurd h (by decide)
  rw [if_neg h1] at h
  by_cases h2 : 3 < k
  · rw [if_pos h2] at h
    exact absurd h (by decide)
  rw [if_neg h2] at h
  by_cases h3 : F_NH_isRegister x = 0
  · rw [if_pos h3] at h
    exact absurd h (by decide)
  have a := q_nltI h1
  have b := q_nltI h2
  exact ⟨by omega, v_isReg h3⟩
/-- a whole register, a decimal register -/
abbrev rW (s n : Int32) (f : Nat → Int32) : Prop := ∃ v : Int, bO 68 s n f v ∧ bB 67 v
abbrev rD (s n : Int32) (f : Nat → Int32) (sc fc : Int32) : Prop := ∃ v : Int, dO 108 s n f sc fc v
theorem T_put {x2 : Int32} {x3 : Int32} {x4 : Int64} {t0_0 : Int64} {t0_1 : Int32} {t1_0 : Int32} {t1_1 : Int32} {t2_0 : (Nat → Int32)} {t3_0 : Int32} {t3_1 : Int32} {t4_0 : (Nat → Int32)} {t5_0 : (Nat → Int64)} {t6_0 : (Nat → Int64)} {t7_0 : Int32} {t7_1 : Int32} {t8_0 : (Nat → Int32)} {t9_0 : Int32} {t9_1 : Int32} {t10_0 : Int32} {t10_1 : Int32} {t11_0 : (Nat → Int32)} (hw : rW t7_0 t7_1 t8_0) (hd : rD t10_0 t10_1 t11_0 t9_0 t9_1) : (S_NH_put x2 x3 x4 t0_0 t0_1 t1_0 t1_1 t2_0 t3_0 t3_1 t4_0 t5_0 t6_0 t7_0 t7_1 t8_0 t9_0 t9_1 t10_0 t10_1 t11_0) ∧ rW (F_NH_put x2 x3 x4 t0_0 t0_1 t1_0 t1_1 t2_0 t3_0 t3_1 t4_0 t5_0 t6_0 t7_0 t7_1 t8_0 t9_0 t9_1 t10_0 t10_1 t11_0).2.2.2.2.2.2.2.2.2.1 (F_NH_put x2 x3 x4 t0_0 t0_1 t1_0 t1_1 t2_0 t3_0 t3_1 t4_0 t5_0 t6_0 t7_0 t7_1 t8_0 t9_0 t9_1 t10_0 t10_1 t11_0).2.2.2.2.2.2.2.2.2.2.1 (F_NH_put x2 x3 x4 t0_0 t0_1 t1_0 t1_1 t2_0 t3_0 t3_1 t4_0 t5_0 t6_0 t7_0 t7_1 t8_0 t9_0 t9_1 t10_0 t10_1 t11_0).2.2.2.2.2.2.2.2.2.2.2.1 ∧ rD (F_NH_put x2 x3 x4 t0_0 t0_1 t1_0 t1_1 t2_0 t3_0 t3_1 t4_0 t5_0 t6_0 t7_0 t7_1 t8_0 t9_0 t9_1 t10_0 t10_1 t11_0).2.2.2.2.2.2.2.2.2.2.2.2.2.2.1 (F_NH_put x2 x3 x4 t0_0 t0_1 t1_0 t1_1 t2_0 t3_0 t3_1 t4_0 t5_0 t6_0 t7_0 t7_1 t8_0 t9_0 t9_1 t10_0 t10_1 t11_0).2.2.2.2.2.2.2.2.2.2.2.2.2.2.2.1 (F_NH_put x2 x3 x4 t0_0 t0_1 t1_0 t1_1 t2_0 t3_0 t3_1 t4_0 t5_0 t6_0 t7_0 t7_1 t8_0 t9_0 t9_1 t10_0 t10_1 t11_0).2.2.2.2.2.2.2.2.2.2.2.2.2.2.2.2 (F_NH_put x2 x3 x4 t0_0 t0_1 t1_0 t1_1 t2_0 t3_0 t3_1 t4_0 t5_0 t6_0 t7_0 t7_1 t8_0 t9_0 t9_1 t10_0 t10_1 t11_0).2.2.2.2.2.2.2.2.2.2.2.2.1 (F_NH_put x2 x3 x4 t0_0 t0_1 t1_0 t1_1 t2_0 t3_0 t3_1 t4_0 t5_0 t6_0 t7_0 t7_1 t8_0 t9_0 t9_1 t10_0 t10_1 t11_0).2.2.2.2.2.2.2.2.2.2.2.2.2.1 := by
  unfold S_NH_put F_NH_put
  by_cases g : F_NH_needRegister x2 x3 = 0
  · rw [if_pos g, if_pos g]
    obtain ⟨_, r1, r2⟩ := v_needReg g
    have J : ∀ lx55 : Int32, S_NH_put_J24 x2 x3 x4 t0_0 t0_1 t1_0 t1_1 t2_0 t3_0 t3_1 t4_0 t5_0 t6_0 t7_0 t7_1 t8_0 t9_0 t9_1 t10_0 t10_1 t11_0 lx55 ∧ (fun p : Int32 × Int32 × Int32 × (Nat → Int32) × Int32 × Int32 × (Nat → Int32) × (Nat → Int64) × (Nat → Int64) × Int32 × Int32 × (Nat → Int32) × Int32 × Int32 × Int32 × Int32 × (Nat → Int32) => rW p.2.2.2.2.2.2.2.2.2.1 p.2.2.2.2.2.2.2.2.2.2.1 p.2.2.2.2.2.2.2.2.2.2.2.1 ∧ rD p.2.2.2.2.2.2.2.2.2.2.2.2.2.2.1 p.2.2.2.2.2.2.2.2.2.2.2.2.2.2.2.1 p.2.2.2.2.2.2.2.2.2.2.2.2.2.2.2.2 p.2.2.2.2.2.2.2.2.2.2.2.2.1 p.2.2.2.2.2.2.2.2.2.2.2.2.2.1) (F_NH_put_J24 x2 x3 x4 t0_0 t0_1 t1_0 t1_1 t2_0 t3_0 t3_1 t4_0 t5_0 t6_0 t7_0 t7_1 t8_0 t9_0 t9_1 t10_0 t10_1 t11_0 lx55) := by
      intro lx55
      unfold S_NH_put_J24 F_NH_put_J24
      by_cases g1 : F_NH_need lx55 = 0
      · rw [if_pos g1, if_pos g1]
        by_cases g2 : x2 = 0
        · rw [if_pos g2, if_pos g2]
          have h := W_setLong (R := 68) (s := t7_0) (neg := t7_1) (x := x4) (f := t8_0) (by decide) (by decide)
          exact ⟨⟨r1, r2, trivial⟩, ⟨_, h, bB3.mono (by decide)⟩, hd⟩
        rw [if_neg g2, if_neg g2]
        by_cases g3 : x2 = 1
        · rw [if_pos g3, if_pos g3]
          have h : P1 220 x4.toInt (F_Big_setLong 220 x4 t1_0 t1_1 t2_0) := W_setLong (by decide) (by decide)
          generalize F_Big_setLong 220 x4 t1_0 t1_1 t2_0 = p128 at h ⊢
          unfold S_NH_put_c57 F_NH_put_c57
          have st := T_settle (x3 := 0) (R2 := 108) (t0_0 := t3_0) (t0_1 := t3_1) (t1_0 := t4_0) h (bB3 (x := x4)) (by decide) trivial (by decide) (by decide) hd
          exact ⟨⟨r1, r2, ⟨trivial, st.1⟩, trivial⟩, hw, st.2.2.2⟩
        rw [if_neg g3, if_neg g3]
        split
        · exact ⟨⟨r1, r2, trivial⟩, hw, hd⟩
        · exact ⟨⟨r1, r2, trivial⟩, hw, hd⟩
      · rw [if_neg g1, if_neg g1]
        exact ⟨trivial, hw, hd⟩
    unfold S_NH_put_J19 F_NH_put_J19
    by_cases g4 : x2 = 3
    · rw [if_pos g4, if_pos g4]
      split
      · exact J 1
      · exact J 0
    · rw [if_neg g4, if_neg g4]
      exact J 1
  · rw [if_neg g, if_neg g]
    exact ⟨trivial, hw, hd⟩

/-! what the calls keep: keepWhole, keepDecimal -/
theorem T_keepWhole {x2 : Int32} {t0_0 : Int32} {t0_1 : Int32} {t1_0 : (Nat → Int32)} {t2_0 : Int32} {t2_1 : Int32} {t3_0 : (Nat → Int32)} {v : Int} (h : bO 220 t0_0 t0_1 t1_0 v) (hw : rW t2_0 t2_1 t3_0) (h0 : 0 ≤ x2.toInt) (h9 : x2.toInt ≤ 9) : (S_NH_keepWhole x2 t0_0 t0_1 t1_0 t2_0 t2_1 t3_0) ∧ rW (F_NH_keepWhole x2 t0_0 t0_1 t1_0 t2_0 t2_1 t3_0).2.1 (F_NH_keepWhole x2 t0_0 t0_1 t1_0 t2_0 t2_1 t3_0).2.2.1 (F_NH_keepWhole x2 t0_0 t0_1 t1_0 t2_0 t2_1 t3_0).2.2.2 := by
  have e68 : (68 : Int32).toInt = 68 := rfl
  unfold S_NH_keepWhole F_NH_keepWhole
  rw [v_canH0, v_canH1]
  by_cases g : 2048 < F_Big_bitLength 220 t0_0 t0_1 t1_0
  · rw [if_pos g, if_pos g, if_neg (by decide), if_neg (by decide)]
    exact ⟨trivial, hw⟩
  · rw [if_neg g, if_neg g, if_pos rfl, if_pos rfl]
    have g2 := q_nltI g
    have hB := e2048b (W_bits (x := 2048) h g2)
    have s := h.sB hB
    exact ⟨⟨h0, h9, trivial⟩, ⟨v, W_copy (R := 68) (s := t2_0) (neg := t2_1) (f := t3_0) h (by omega) (by decide), hB⟩⟩
theorem T_keepDecimal {x2 : Int32} {t0_0 : Int64} {t0_1 : Int32} {t1_0 : Int32} {t1_1 : Int32} {t2_0 : (Nat → Int32)} {t3_0 : Int32} {t3_1 : Int32} {t4_0 : (Nat → Int32)} {t5_0 : Int32} {t5_1 : Int32} {t6_0 : Int32} {t6_1 : Int32} {t7_0 : (Nat → Int32)} (h : bK t1_0 t1_1 t2_0) (hd : rD t6_0 t6_1 t7_0 t5_0 t5_1) (h0 : 0 ≤ x2.toInt) (h9 : x2.toInt ≤ 9) : (S_NH_keepDecimal x2 t0_0 t0_1 t1_0 t1_1 t2_0 t3_0 t3_1 t4_0 t5_0 t5_1 t6_0 t6_1 t7_0) ∧ rD (F_NH_keepDecimal x2 t0_0 t0_1 t1_0 t1_1 t2_0 t3_0 t3_1 t4_0 t5_0 t5_1 t6_0 t6_1 t7_0).2.2.2.2.2.2.1 (F_NH_keepDecimal x2 t0_0 t0_1 t1_0 t1_1 t2_0 t3_0 t3_1 t4_0 t5_0 t5_1 t6_0 t6_1 t7_0).2.2.2.2.2.2.2.1 (F_NH_keepDecimal x2 t0_0 t0_1 t1_0 t1_1 t2_0 t3_0 t3_1 t4_0 t5_0 t5_1 t6_0 t6_1 t7_0).2.2.2.2.2.2.2.2 (F_NH_keepDecimal x2 t0_0 t0_1 t1_0 t1_1 t2_0 t3_0 t3_1 t4_0 t5_0 t5_1 t6_0 t6_1 t7_0).2.2.2.2.1 (F_NH_keepDecimal x2 t0_0 t0_1 t1_0 t1_1 t2_0 t3_0 t3_1 t4_0 t5_0 t5_1 t6_0 t6_1 t7_0).2.2.2.2.2.1 := by
  obtain ⟨v, hv, hB⟩ := h
  unfold S_NH_keepDecimal F_NH_keepDecimal
  have st := T_settle (x3 := t0_0) (R2 := 108) (t0_0 := t3_0) (t0_1 := t3_1) (t1_0 := t4_0) hv hB (by decide) trivial (by decide) (by decide) hd
  have st2 := st.2.2.2
  refine ⟨⟨h0, h9, ⟨trivial, st.1⟩, ?_⟩, ?_⟩
  · unfold S_NH_keepDecimal_c24
    split <;> trivial
  · generalize F_DW_settle 220 t0_0 108 t3_0 t3_1 t4_0 t1_0 t1_1 t2_0 t5_0 t5_1 t6_0 t6_1 t7_0 = p74 at st2 ⊢
    unfold F_NH_keepDecimal_c24
    split
    · exact st2
    · exact st2

/-! what the calls keep: decimalBy -/
theorem T_decimalBy {x2 : Int32} {x3 : Int32} {x4 : Int32} {x5 : Int32} {t0_0 : Int64} {t0_1 : Int32} {t1_0 : Int32} {t1_1 : Int32} {t2_0 : (Nat → Int32)} {t3_0 : Int32} {t3_1 : Int32} {t4_0 : (Nat → Int32)} {t5_0 : Int32} {t5_1 : Int32} {t6_0 : (Nat → Int32)} {t7_0 : Int32} {t7_1 : Int32} {t8_0 : (Nat → Int32)} {t9_0 : Int32} {t9_1 : Int32} {t10_0 : Int32} {t10_1 : Int32} {t11_0 : (Nat → Int32)} {t12_0 : Int32} {t12_1 : Int32} {t13_0 : Int32} {t13_1 : Int32} {t14_0 : (Nat → Int32)} (ha : rD t10_0 t10_1 t11_0 t9_0 t9_1) (hd : rD t13_0 t13_1 t14_0 t12_0 t12_1) : (S_NH_decimalBy x2 x3 x4 x5 t0_0 t0_1 t1_0 t1_1 t2_0 t3_0 t3_1 t4_0 t5_0 t5_1 t6_0 t7_0 t7_1 t8_0 t9_0 t9_1 t10_0 t10_1 t11_0 t12_0 t12_1 t13_0 t13_1 t14_0) ∧ (fun p : Int32 × Int64 × Int32 × Int32 × Int32 × (Nat → Int32) × Int32 × Int32 × (Nat → Int32) × Int32 × Int32 × (Nat → Int32) × Int32 × Int32 × (Nat → Int32) × Int32 × Int32 × Int32 × Int32 × (Nat → Int32) => rD p.2.2.2.2.2.2.2.2.2.2.2.2.2.2.2.2.2.1 p.2.2.2.2.2.2.2.2.2.2.2.2.2.2.2.2.2.2.1 p.2.2.2.2.2.2.2.2.2.2.2.2.2.2.2.2.2.2.2 p.2.2.2.2.2.2.2.2.2.2.2.2.2.2.2.1 p.2.2.2.2.2.2.2.2.2.2.2.2.2.2.2.2.1) (F_NH_decimalBy x2 x3 x4 x5 t0_0 t0_1 t1_0 t1_1 t2_0 t3_0 t3_1 t4_0 t5_0 t5_1 t6_0 t7_0 t7_1 t8_0 t9_0 t9_1 t10_0 t10_1 t11_0 t12_0 t12_1 t13_0 t13_1 t14_0) := by
  have e0 : (0 : Int32).toInt = 0 := rfl
  obtain ⟨va, ha⟩ := ha
  have J52 : ∀ lx63 lx96 : Int32, (0 ≤ x3.toInt ∧ x3.toInt ≤ 9) → (0 ≤ x5.toInt ∧ x5.toInt ≤ 9) → (x2 = 0 → F_NH_need lx96 = 0 → 0 ≤ x4.toInt) → S_NH_decimalBy_J52 x2 x3 x4 x5 t0_0 t0_1 t1_0 t1_1 t2_0 t3_0 t3_1 t4_0 t5_0 t5_1 t6_0 t7_0 t7_1 t8_0 t9_0 t9_1 t10_0 t10_1 t11_0 t12_0 t12_1 t13_0 t13_1 t14_0 lx63 lx96 ∧ (fun p : Int32 × Int64 × Int32 × Int32 × Int32 × (Nat → Int32) × Int32 × Int32 × (Nat → Int32) × Int32 × Int32 × (Nat → Int32) × Int32 × Int32 × (Nat → Int32) × Int32 × Int32 × Int32 × Int32 × (Nat → Int32) => rD p.2.2.2.2.2.2.2.2.2.2.2.2.2.2.2.2.2.1 p.2.2.2.2.2.2.2.2.2.2.2.2.2.2.2.2.2.2.1 p.2.2.2.2.2.2.2.2.2.2.2.2.2.2.2.2.2.2.2 p.2.2.2.2.2.2.2.2.2.2.2.2.2.2.2.1 p.2.2.2.2.2.2.2.2.2.2.2.2.2.2.2.2.1) (F_NH_decimalBy_J52 x2 x3 x4 x5 t0_0 t0_1 t1_0 t1_1 t2_0 t3_0 t3_1 t4_0 t5_0 t5_1 t6_0 t7_0 t7_1 t8_0 t9_0 t9_1 t10_0 t10_1 t11_0 t12_0 t12_1 t13_0 t13_1 t14_0 lx63 lx96) := by
    intro lx63 lx96 r3 r5 hx
    unfold S_NH_decimalBy_J52 F_NH_decimalBy_J52
    by_cases g : F_NH_need lx96 = 0
    · rw [if_pos g, if_pos g]
      by_cases g2 : x2 = 0
      · rw [if_pos g2, if_pos g2]
        have h := T_raise (x3 := x4) (t0_0 := t0_0) (t0_1 := t0_1) (t1_0 := t1_0) (t1_1 := t1_1) (t2_0 := t2_0) (t3_0 := t3_0) (t3_1 := t3_1) (t4_0 := t4_0) (t5_0 := t5_0) (t5_1 := t5_1) (t6_0 := t6_0) ha (hx g2 g) trivial
        generalize F_DW_raise 108 x4 t0_0 t0_1 t1_0 t1_1 t2_0 t3_0 t3_1 t4_0 t5_0 t5_1 t6_0 t9_0 t9_1 t10_0 t10_1 t11_0 = p447 at h ⊢
        unfold S_NH_decimalBy_c70 F_NH_decimalBy_c70
        rcases h with ⟨h1, _⟩ | ⟨h1, h2, _⟩
        · rw [h1, v_canH0, if_neg (by decide), if_neg (by decide)]
          exact ⟨⟨r3.1, r3.2, trivial⟩, hd⟩
        · rw [h1, v_canH1, if_pos rfl, if_pos rfl]
          have k := T_keepDecimal (x2 := x5) (t0_0 := p447.2.1) (t0_1 := p447.2.2.1) (t3_0 := t7_0) (t3_1 := t7_1) (t4_0 := t8_0) h2 hd r5.1 r5.2
          refine ⟨⟨r3.1, r3.2, ⟨trivial, k.1⟩, ?_⟩, ?_⟩
          · unfold S_NH_decimalBy_c130_8
            split <;> trivial
          · replace k := k.2
            generalize F_NH_keepDecimal x5 p447.2.1 p447.2.2.1 p447.2.2.2.1 p447.2.2.2.2.1 p447.2.2.2.2.2.1 t7_0 t7_1 t8_0 t12_0 t12_1 t13_0 t13_1 t14_0 = p496 at k ⊢
            unfold F_NH_decimalBy_c130_8
            split <;> exact k
      rw [if_neg g2, if_neg g2]
      by_cases g3 : x2 = 1
      · rw [if_pos g3, if_pos g3]
        have h := T_take (t0_0 := t0_0) (t0_1 := t0_1) (t1_0 := t1_0) (t1_1 := t1_1) (t2_0 := t2_0) (t3_0 := t9_0) (t3_1 := t9_1) ha.1
        generalize F_DW_take 108 t0_0 t0_1 t1_0 t1_1 t2_0 t9_0 t9_1 t10_0 t10_1 t11_0 = p297 at h ⊢
        unfold S_NH_decimalBy_c94 F_NH_decimalBy_c94
        have k := T_keepDecimal (x2 := x5) (t0_0 := p297.1 - x4.toInt64) (t0_1 := p297.2.1) (t3_0 := t7_0) (t3_1 := t7_1) (t4_0 := t8_0) (h.2.K ha.B (by decide)) hd r5.1 r5.2
        refine ⟨⟨r3.1, r3.2, ⟨trivial, k.1⟩, ?_⟩, ?_⟩
        · unfold S_NH_decimalBy_c130_6
          split <;> trivial
        · replace k := k.2
          generalize F_NH_keepDecimal x5 (p297.1 - x4.toInt64) p297.2.1 p297.2.2.1 p297.2.2.2.1 p297.2.2.2.2 t7_0 t7_1 t8_0 t12_0 t12_1 t13_0 t13_1 t14_0 = p338 at k ⊢
          unfold F_NH_decimalBy_c130_6
          split <;> exact k
      rw [if_neg g3, if_neg g3]
      have h := T_strip (t0_0 := t0_0) (t0_1 := t0_1) (t1_0 := t1_0) (t1_1 := t1_1) (t2_0 := t2_0) (t3_0 := t7_0) (t3_1 := t7_1) (t4_0 := t8_0) ha trivial
      generalize F_DW_strip 108 t0_0 t0_1 t1_0 t1_1 t2_0 t7_0 t7_1 t8_0 t9_0 t9_1 t10_0 t10_1 t11_0 = p170 at h ⊢
      unfold S_NH_decimalBy_c124 F_NH_decimalBy_c124
      have k := T_keepDecimal (x2 := x5) (t0_0 := p170.1) (t0_1 := p170.2.1) (t3_0 := p170.2.2.2.2.2.1) (t3_1 := p170.2.2.2.2.2.2.1) (t4_0 := p170.2.2.2.2.2.2.2) h.1 hd r5.1 r5.2
      refine ⟨⟨r3.1, r3.2, ⟨trivial, k.1⟩, ?_⟩, ?_⟩
      · unfold S_NH_decimalBy_c130
        split <;> trivial
      · replace k := k.2
        generalize F_NH_keepDecimal x5 p170.1 p170.2.1 p170.2.2.1 p170.2.2.2.1 p170.2.2.2.2.1 p170.2.2.2.2.2.1 p170.2.2.2.2.2.2.1 p170.2.2.2.2.2.2.2 t12_0 t12_1 t13_0 t13_1 t14_0 = p206 at k ⊢
        unfold F_NH_decimalBy_c130
        split <;> exact k
    · rw [if_neg g, if_neg g]
      exact ⟨trivial, hd⟩
  have J28 : S_NH_decimalBy_J28 x2 x3 x4 x5 t0_0 t0_1 t1_0 t1_1 t2_0 t3_0 t3_1 t4_0 t5_0 t5_1 t6_0 t7_0 t7_1 t8_0 t9_0 t9_1 t10_0 t10_1 t11_0 t12_0 t12_1 t13_0 t13_1 t14_0 ∧ (fun p : Int32 × Int64 × Int32 × Int32 × Int32 × (Nat → Int32) × Int32 × Int32 × (Nat → Int32) × Int32 × Int32 × (Nat → Int32) × Int32 × Int32 × (Nat → Int32) × Int32 × Int32 × Int32 × Int32 × (Nat → Int32) => rD p.2.2.2.2.2.2.2.2.2.2.2.2.2.2.2.2.2.1 p.2.2.2.2.2.2.2.2.2.2.2.2.2.2.2.2.2.2.1 p.2.2.2.2.2.2.2.2.2.2.2.2.2.2.2.2.2.2.2 p.2.2.2.2.2.2.2.2.2.2.2.2.2.2.2.1 p.2.2.2.2.2.2.2.2.2.2.2.2.2.2.2.2.1) (F_NH_decimalBy_J28 x2 x3 x4 x5 t0_0 t0_1 t1_0 t1_1 t2_0 t3_0 t3_1 t4_0 t5_0 t5_1 t6_0 t7_0 t7_1 t8_0 t9_0 t9_1 t10_0 t10_1 t11_0 t12_0 t12_1 t13_0 t13_1 t14_0) := by
    unfold S_NH_decimalBy_J28 F_NH_decimalBy_J28 S_NH_decimalBy_J29 F_NH_decimalBy_J29
    rw [v_need0, if_neg (by decide), if_neg (by decide)]
    exact ⟨trivial, hd⟩
  unfold S_NH_decimalBy F_NH_decimalBy
  by_cases g1 : x2 < 0
  · rw [if_pos g1, if_pos g1]
    exact J28
  rw [if_neg g1, if_neg g1]
  by_cases g2 : 2 < x2
  · rw [if_pos g2, if_pos g2]
    exact J28
  rw [if_neg g2, if_neg g2]
  by_cases g3 : F_NH_isRegister x3 = 0
  · rw [if_pos g3, if_pos g3]
    exact J28
  rw [if_neg g3, if_neg g3]
  by_cases g4 : F_NH_isRegister x5 = 0
  · rw [if_pos g4, if_pos g4]
    exact J28
  rw [if_neg g4, if_neg g4]
  have r3 := v_isReg g3
  have r5 := v_isReg g4
  unfold S_NH_decimalBy_J29 F_NH_decimalBy_J29 S_NH_decimalBy_J47 F_NH_decimalBy_J47 S_NH_decimalBy_J51 F_NH_decimalBy_J51
  rw [v_need1, if_pos rfl, if_pos rfl]
  by_cases g5 : x2 = 0
  · rw [if_pos g5, if_pos g5]
    by_cases g6 : x4 < 0
    · rw [if_pos g6, if_pos g6]
      exact J52 _ _ r3 r5 (fun _ h => absurd h (by rw [v_need0]; decide))
    rw [if_neg g6, if_neg g6]
    have g7 := q_nltI g6
    split
    · exact J52 _ _ r3 r5 (fun _ _ => by omega)
    · exact J52 _ _ r3 r5 (fun _ _ => by omega)
  · rw [if_neg g5, if_neg g5]
    exact J52 _ _ r3 r5 (fun h => absurd h g5)

