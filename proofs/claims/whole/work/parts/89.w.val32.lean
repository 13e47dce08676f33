/-! values: Mill's bits -/
theorem v_not31 {x : Int32} (h : 0 ≤ x.toInt) : ((x ^^^ (-1)) &&& 2147483647 : Int32).toInt = 2147483647 - x.toInt := by
  have h1 := (v_and31I (x := x ^^^ (-1))).2
  have h2 : (x ^^^ (-1) : Int32).toBitVec.toNat = 4294967295 - x.toBitVec.toNat := by
    rw [Int32.toBitVec_xor]
    have e : (-1 : Int32).toBitVec = BitVec.allOnes 32 := rfl
    rw [e, BitVec.xor_allOnes, BitVec.toNat_not]
  have h3 := v_natI h
  have h6 := Int32.toInt_lt x
  have h4 : (x ^^^ (-1) : Int32).toInt = ((x ^^^ (-1) : Int32).toBitVec).toInt := rfl
  rw [BitVec.toInt_eq_toNat_cond, h2] at h4
  split at h4 <;> omega
theorem v_mixN {x a b : Int32} (ha : 0 ≤ a.toInt) (hb : 0 ≤ b.toInt) : 0 ≤ (F_Mil_mixed x a b).toInt := by
  have h1 := Int32.toInt_lt a
  have h2 := Int32.toInt_lt b
  unfold F_Mil_mixed
  split
  · exact (s_and hb).1
  · split
    · exact (s_or 31 (by decide) ⟨ha, h1⟩ ⟨hb, h2⟩).1
    · split
      · exact (s_xor 31 (by decide) ⟨ha, h1⟩ ⟨hb, h2⟩).1
      · exact (s_andL ha).1
theorem v_mixT {x n m : Int32} (h : F_Mil_mixed x (if n = 0 then 0 else 1) (if m = 0 then 0 else 1) = 1) : 0 < (F_Mil_mixed x (if n = 0 then 0 else 2147483647) (if m = 0 then 0 else 2147483647)).toInt := by
  unfold F_Mil_mixed at h ⊢
  by_cases c1 : x = 8
  · rw [if_pos c1] at h ⊢
    by_cases c2 : n = 0 <;> by_cases c3 : m = 0
    all_goals (first | rw [if_pos c2] at h ⊢ | rw [if_neg c2] at h ⊢)
    all_goals (first | rw [if_pos c3] at h ⊢ | rw [if_neg c3] at h ⊢)
    all_goals (revert h; decide)
  rw [if_neg c1] at h ⊢
  by_cases c4 : x = 9
  · rw [if_pos c4] at h ⊢
    by_cases c2 : n = 0 <;> by_cases c3 : m = 0
    all_goals (first | rw [if_pos c2] at h ⊢ | rw [if_neg c2] at h ⊢)
    all_goals (first | rw [if_pos c3] at h ⊢ | rw [if_neg c3] at h ⊢)
    all_goals (revert h; decide)
  rw [if_neg c4] at h ⊢
  by_cases c5 : x = 10
  · rw [if_pos c5] at h ⊢
    by_cases c2 : n = 0 <;> by_cases c3 : m = 0
    all_goals (first | rw [if_pos c2] at h ⊢ | rw [if_neg c2] at h ⊢)
    all_goals (first | rw [if_pos c3] at h ⊢ | rw [if_neg c3] at h ⊢)
    all_goals (revert h; decide)
  rw [if_neg c5] at h ⊢
  by_cases c2 : n = 0 <;> by_cases c3 : m = 0
  all_goals (first | rw [if_pos c2] at h ⊢ | rw [if_neg c2] at h ⊢)
  all_goals (first | rw [if_pos c3] at h ⊢ | rw [if_neg c3] at h ⊢)
  all_goals (revert h; decide)
theorem v_limN {R i s n : Int32} {f : Nat → Int32} (hi : 0 ≤ i.toInt) (h : bN s f) : 0 ≤ (F_Big_limb R i s n f).toInt := by
  rw [v_limb hi h.1]
  split
  · rename_i h1
    exact h.2.1 _ h1
  · exact Int.le_refl _
theorem v_endN {R i lo s n : Int32} {f : Nat → Int32} (hi : 0 ≤ i.toInt) (h : bN s f) : 0 ≤ (F_Big_endlessLimb R i lo s n f).toInt := by
  unfold F_Big_endlessLimb
  split
  · exact v_limN hi h
  · split
    · split
      · exact v_and31I.1
      · exact v_and31I.1
    · exact Int.le_refl _
theorem v_endT {R i lo s n : Int32} {f : Nat → Int32} (hi : 0 ≤ i.toInt) (hs : s.toInt ≤ i.toInt) (hl : n ≠ 0 → lo.toInt < i.toInt) : F_Big_endlessLimb R i lo s n f = (if n = 0 then 0 else 2147483647) := by
  have e0 : (0 : Int32).toInt = 0 := rfl
  have h1 : F_Big_limb R i s n f = 0 := by
    unfold F_Big_limb
    rw [if_neg (fun hh => by have := q_ltI hh; omega), if_pos (Int32.le_iff_toInt_le.mpr hs)]
  unfold F_Big_endlessLimb
  rw [h1]
  by_cases hn : n = 0
  · rw [if_pos hn, if_pos hn]
  · have h2 := hl hn
    rw [if_neg hn, if_neg hn, if_pos (Int32.le_iff_toInt_le.mpr (by omega)), if_neg (fun hh => by rw [hh] at h2; omega)]
    decide
theorem v_lowL {R s n : Int32} {f : Nat → Int32} (h : bN s f) (hs : 0 < s.toInt) (hs2 : s.toInt ≤ 220) : ∀ (m : Nat) (j : Int32), 0 ≤ j.toInt → j.toInt < s.toInt → s.toInt - j.toInt < (m : Int) → (F_Big_lowestLimb_L2 R s n f m j).toInt < s.toInt := by
  intro m
  induction m with
  | zero => intros; omega
  | succ m ih =>
    intro j h1 h2 h3
    rw [F_Big_lowestLimb_L2.eq_2, if_neg (fun hh => by have := q_leI hh; omega)]
    split
    · rename_i h4
      have ej := v_sc h1 (by omega)
      by_cases h5 : j.toInt + 1 = s.toInt
      · exfalso
        have c1 := q_clI (i := j) rfl h1
        have c2 := q_clI (i := s) rfl h.1
        apply h.2.2 hs
        rw [show s.toNatClampNeg - 1 = j.toNatClampNeg by omega]
        exact h4
      · exact ih _ (by omega) (by omega) (by omega)
    · exact h2
theorem v_low {R s n : Int32} {f : Nat → Int32} (h : bN s f) (hs : 0 < s.toInt) (hs2 : s.toInt ≤ 220) : (F_Big_lowestLimb R s n f).toInt < s.toInt := by
  unfold F_Big_lowestLimb
  exact v_lowL h hs hs2 _ _ (by decide) hs (by rw [show (0 : Int32).toInt = 0 from rfl]; omega)
theorem v_mbStep {A c P V l s k : Int} (h : A + c * P = P - V) (h2 : s + 2147483648 * k = 2147483647 - l + c) : A + s * P + k * (P * 2147483648) = P * 2147483648 - (V + l * P) := by
  have h3 : (s + 2147483648 * k) * P = (2147483647 - l + c) * P := by rw [h2]
  rw [Int.add_mul, Int.add_mul, Int.sub_mul] at h3
  have e1 : k * (P * 2147483648) = 2147483648 * k * P := by
    rw [Int.mul_comm P, ← Int.mul_assoc, Int.mul_comm k]
  rw [e1]
  omega
theorem v_mbV {V P l : Int} (h0 : 0 ≤ V) (h : V < P) (l0 : 0 ≤ l) (l1 : l < 2147483648) : 0 ≤ V + l * P ∧ V + l * P < P * 2147483648 ∧ (0 < l → 0 < V + l * P) := by
  have h1 : 0 ≤ l * P := Int.mul_nonneg l0 (by omega)
  have h2 : l * P ≤ 2147483647 * P := Int.mul_le_mul_of_nonneg_right (by omega) (by omega)
  refine ⟨by omega, by omega, fun h3 => ?_⟩
  have h4 : 1 * P ≤ l * P := Int.mul_le_mul_of_nonneg_right (by omega) (by omega)
  omega
/-- what the loop keeps where the answer is below 0 -/
def mB (T i : Nat) (c : Int) (A : Int) : Prop := ∃ V : Int, 0 ≤ V ∧ V < 2147483648 ^ i ∧ A + c * 2147483648 ^ i = 2147483648 ^ i - V ∧ (i = T → 0 < V)
theorem T_mbL {x2 : Int32} {R : Int32} {R2 : Int32} {t0_0 : Int32} {t0_1 : Int32} {t1_0 : (Nat → Int32)} {t2_0 : Int32} {t2_1 : Int32} {t3_0 : (Nat → Int32)} {t4_0 : Int32} {t4_1 : Int32} {t5_0 : (Nat → Int32)} {a40 : Int32} {a33 : Int32} {a28 : Int32} {lx45 : Int32} {lx60 : Int32} {lx80 : Int32} {lx95 : Int32} {p122 : (Int32 × Int32)} {va vb : Int} {T : Nat} (ha : bO R t2_0 t2_1 t3_0 va) (hb : bO R2 t4_0 t4_1 t5_0 vb) (hT : a28.toInt = (T : Int)) (hT2 : T ≤ 220) (ha2 : t2_0.toInt < (T : Int)) (hb2 : t4_0.toInt < (T : Int)) (hla : t2_1 ≠ 0 → a33.toInt < t2_0.toInt) (hlb : t4_1 ≠ 0 → a40.toInt < t4_0.toInt) (hbel : lx80 = 0 ∨ (lx80 = 1 ∧ F_Mil_mixed x2 (if t2_1 = 0 then 0 else 1) (if t4_1 = 0 then 0 else 1) = 1)) : ∀ (n : Nat) (lx133 : Int32) (lx134 : Int32) (lx135 : Int32) (lx136 : Int32) (lx137 : (Nat → Int32)), ∀ i : Nat, lx133.toInt = (i : Int) → i ≤ T → T - i < n → lx135.toInt = (i : Int) → okL lx137 i → 0 ≤ lx134.toInt → lx134.toInt ≤ 1 → (lx80 = 0 → lx134.toInt = 0) → (lx80 = 1 → mB T i lx134.toInt (vB lx137 i)) → G1 (bJ 220) (F_Mil_mixBits_L88 x2 R R2 t0_0 t0_1 t1_0 t2_0 t2_1 t3_0 t4_0 t4_1 t5_0 a40 a33 a28 lx45 lx60 lx80 lx95 p122 n lx133 lx134 lx135 lx136 lx137) := by
  have e := e220
  have e0 : (0 : Int32).toInt = 0 := rfl
  intro n
  induction n with
  | zero => intros; omega
  | succ n ih =>
    intro lx133 lx134 lx135 lx136 lx137 i hi hiT hn hs ok c0 c1 hc hm
    rw [F_Mil_mixBits_L88.eq_2]
    have cs := q_clI (i := lx135) hs (by omega)
    have cs' : lx135.toNatClampNeg = i := by omega
    by_cases hj : a28 ≤ lx133
    · rw [if_pos hj]
      have hj2 := q_leI hj
      have hiT2 : i = T := by omega
      unfold F_Mil_mixBits_c168
      obtain ⟨z, z1, z2, z3, z4, z5⟩ := V_trimT (R := 220) (neg := lx136) (f := lx137) (s := lx135) (by omega) (by omega)
      rw [z1]
      have cz := q_clI (i := z) rfl z2
      have hN : bN z lx137 := ⟨z2, fun j hj => ok j (by omega), z4⟩
      rw [cs'] at z5
      rcases hbel with h0 | ⟨h1, _⟩
      · rw [h0]
        exact ⟨_, bO.mk0 hN (show z.toInt ≤ _ by omega) (by decide)⟩
      · rw [h1]
        obtain ⟨V, V0, V1, V2, V3⟩ := hm h1
        have V4 := V3 hiT2
        have hpos : 0 < vB lx137 i := by
          have hvn := v_nn ok
          by_cases hcc : lx134.toInt = 0
          · rw [hcc, Int.zero_mul] at V2
            omega
          · have : lx134.toInt = 1 := by omega
            rw [this, Int.one_mul] at V2
            omega
        have hzp : 0 < z.toInt := by
          apply hN.pos.mpr
          show 0 < vB lx137 z.toNatClampNeg
          rw [z5]
          exact hpos
        exact ⟨_, hN, Or.inr ⟨rfl, hzp⟩, rfl, by show z.toInt ≤ _; omega, by decide⟩
    · rw [if_neg hj]
      have hj2 := q_nleI hj
      have m0 := v_mixN (x := x2) (v_endN (R := R) (lo := a33) (n := t2_1) (i := lx133) (by omega) ha.1) (v_endN (R := R2) (lo := a40) (n := t4_1) (i := lx133) (by omega) hb.1)
      have m1 := Int32.toInt_lt (F_Mil_mixed x2 (F_Big_endlessLimb R lx133 a33 t2_0 t2_1 t3_0) (F_Big_endlessLimb R2 lx133 a40 t4_0 t4_1 t5_0))
      have mT : lx80 = 1 → i + 1 = T → 0 < (F_Mil_mixed x2 (F_Big_endlessLimb R lx133 a33 t2_0 t2_1 t3_0) (F_Big_endlessLimb R2 lx133 a40 t4_0 t4_1 t5_0)).toInt := by
        intro h1 h2
        rcases hbel with h0 | ⟨_, h3⟩
        · rw [h0] at h1
          exact absurd h1 (by decide)
        · rw [v_endT (by omega) (by omega) (fun h9 => by have := hla h9; omega), v_endT (by omega) (by omega) (fun h9 => by have := hlb h9; omega)]
          exact v_mixT h3
      generalize F_Mil_mixed x2 (F_Big_endlessLimb R lx133 a33 t2_0 t2_1 t3_0) (F_Big_endlessLimb R2 lx133 a40 t4_0 t4_1 t5_0) = lm at m0 m1 mT ⊢
      have ej := v_sc (i := lx133) (by omega) (by omega)
      have es := v_sc (i := lx135) (by omega) (by omega)
      by_cases hb0 : lx80 = 0
      · rw [if_pos hb0]
        have hcc := hc hb0
        unfold F_Mil_mixBits_J134 F_Mil_mixBits_c148 F_Big_push
        rw [if_neg (fun hh => by have := q_leI hh; omega)]
        have a2 := v_add3 (a := lm) (b := 0) (c := lx134) m0 (by decide) c0 c1
        rw [Int32.add_zero] at a2
        refine ih _ _ _ _ _ (i + 1) (by rw [ej.1]; omega) (by omega) (by omega) (by show (lx135 + 1 : Int32).toInt = _; rw [es.1]; omega) ?_ a2.2.2.1 a2.2.2.2 (fun _ => ?_) (fun h9 => by rw [hb0] at h9; exact absurd h9 (by decide))
        · show okL (upd lx137 lx135.toNatClampNeg _) _
          rw [cs']
          exact okL_push ok a2.1
        · omega
      · rw [if_neg hb0]
        have hb1 : lx80 = 1 := by
          rcases hbel with h0 | ⟨h1, _⟩
          · exact absurd h0 hb0
          · exact h1
        have hno := v_not31 m0
        have hno0 := (v_and31I (x := lm ^^^ (-1))).1
        generalize ((lm ^^^ (-1)) &&& 2147483647 : Int32) = nl at hno hno0 ⊢
        unfold F_Mil_mixBits_J134 F_Mil_mixBits_c148 F_Big_push
        rw [if_neg (fun hh => by have := q_leI hh; omega)]
        have a2 := v_add3 (a := nl) (b := 0) (c := lx134) hno0 (by decide) c0 c1
        rw [Int32.add_zero] at a2
        obtain ⟨V, V0, V1, V2, V3⟩ := hm hb1
        refine ih _ _ _ _ _ (i + 1) (by rw [ej.1]; omega) (by omega) (by omega) (by show (lx135 + 1 : Int32).toInt = _; rw [es.1]; omega) ?_ a2.2.2.1 a2.2.2.2 (fun h9 => absurd h9 hb0) (fun _ => ?_)
        · show okL (upd lx137 lx135.toNatClampNeg _) _
          rw [cs']
          exact okL_push ok a2.1
        · show mB T (i + 1) _ (vB (upd lx137 lx135.toNatClampNeg _) (i + 1))
          rw [cs', v_upd_in]
          obtain ⟨w1, w2, w3⟩ := v_mbV V0 V1 m0 m1
          refine ⟨V + lm.toInt * 2147483648 ^ i, w1, ?_, ?_, fun h9 => w3 (mT hb1 h9)⟩
          · rw [Int.pow_succ]
            exact w2
          · rw [Int.pow_succ]
            exact v_mbStep V2 (by omega)
theorem T_mixBits {x2 : Int32} {R : Int32} {R2 : Int32} {t0_0 : Int32} {t0_1 : Int32} {t1_0 : (Nat → Int32)} {t2_0 : Int32} {t2_1 : Int32} {t3_0 : (Nat → Int32)} {t4_0 : Int32} {t4_1 : Int32} {t5_0 : (Nat → Int32)} {va vb : Int} (ha : bO R t2_0 t2_1 t3_0 va) (hb : bO R2 t4_0 t4_1 t5_0 vb) (ha2 : t2_0.toInt < 220) (hb2 : t4_0.toInt < 220) : G1 (bJ 220) (F_Mil_mixBits x2 R R2 t0_0 t0_1 t1_0 t2_0 t2_1 t3_0 t4_0 t4_1 t5_0) := by
  have e := e220
  have e0 : (0 : Int32).toInt = 0 := rfl
  have a0 := ha.s0
  have b0 := hb.s0
  have hla : t2_1 ≠ 0 → (F_Big_lowestLimb R t2_0 t2_1 t3_0).toInt < t2_0.toInt := fun h => by
    rcases ha.2.1 with h1 | ⟨_, h1⟩
    · exact absurd h1 h
    · exact v_low ha.1 h1 ha.fit
  have hlb : t4_1 ≠ 0 → (F_Big_lowestLimb R2 t4_0 t4_1 t5_0).toInt < t4_0.toInt := fun h => by
    rcases hb.2.1 with h1 | ⟨_, h1⟩
    · exact absurd h1 h
    · exact v_low hb.1 h1 hb.fit
  have hmx : (if t2_0 < t4_0 then t4_0 else t2_0 : Int32).toInt = (if t2_0.toInt < t4_0.toInt then t4_0.toInt else t2_0.toInt) := by
    split
    · rename_i h
      rw [if_pos (q_ltI h)]
    · rename_i h
      rw [if_neg (by have := q_nltI h; omega)]
  have hT := v_sc (i := (if t2_0 < t4_0 then t4_0 else t2_0 : Int32)) (by rw [hmx]; split <;> omega) (by rw [hmx]; split <;> omega)
  obtain ⟨T, hTT⟩ : ∃ T : Nat, ((if t2_0 < t4_0 then t4_0 else t2_0 : Int32) + 1).toInt = (T : Int) := ⟨_, (Int.toNat_of_nonneg (by rw [hT.1, hmx]; split <;> omega)).symm⟩
  have hT1 : t2_0.toInt < (T : Int) ∧ t4_0.toInt < (T : Int) ∧ T ≤ 220 := by
    rw [hT.1, hmx] at hTT
    split at hTT <;> omega
  unfold F_Mil_mixBits
  generalize ((if t2_0 < t4_0 then t4_0 else t2_0 : Int32) + 1) = a28 at hTT ⊢
  generalize F_Big_lowestLimb R t2_0 t2_1 t3_0 = a33 at hla ⊢
  generalize F_Big_lowestLimb R2 t4_0 t4_1 t5_0 = a40 at hlb ⊢
  have fin : ∀ lx45 lx60 lx80 lx95 : Int32, (lx80 = 0 ∧ lx95 = 0) ∨ (lx80 = 1 ∧ lx95 = 1 ∧ F_Mil_mixed x2 (if t2_1 = 0 then 0 else 1) (if t4_1 = 0 then 0 else 1) = 1) → G1 (bJ 220) (F_Mil_mixBits_J76 x2 R R2 t0_0 t0_1 t1_0 t2_0 t2_1 t3_0 t4_0 t4_1 t5_0 a40 a33 a28 lx45 lx60 lx80 lx95) := by
    intro lx45 lx60 lx80 lx95 h
    unfold F_Mil_mixBits_J76 F_Mil_mixBits_c82
    refine T_mbL ha hb hTT hT1.2.2 hT1.1 hT1.2.1 hla hlb (h.imp (fun h => h.1) (fun h => ⟨h.1, h.2.2⟩)) _ _ _ _ _ _ 0 rfl (by omega) (by rw [e0]; omega) rfl (fun j hj => absurd hj (by omega)) ?_ ?_ ?_ ?_
    · rcases h with ⟨_, h⟩ | ⟨_, h, _⟩ <;> rw [h] <;> decide
    · rcases h with ⟨_, h⟩ | ⟨_, h, _⟩ <;> rw [h] <;> decide
    · intro h9
      rcases h with ⟨_, h⟩ | ⟨h, _⟩
      · rw [h]; rfl
      · rw [h] at h9; exact absurd h9 (by decide)
    · intro h9
      rcases h with ⟨h, _⟩ | ⟨_, h, _⟩
      · rw [h] at h9; exact absurd h9 (by decide)
      · rw [h]
        refine ⟨0, by decide, by decide, ?_, by omega⟩
        show (0 : Int) + 1 * 2147483648 ^ 0 = 2147483648 ^ 0 - 0
        decide
  have mid : ∀ lx45 lx60 : Int32, lx45 = (if t2_1 = 0 then 0 else 1) → lx60 = (if t4_1 = 0 then 0 else 1) → G1 (bJ 220) (F_Mil_mixBits_J52 x2 R R2 t0_0 t0_1 t1_0 t2_0 t2_1 t3_0 t4_0 t4_1 t5_0 a40 a33 a28 lx45 lx60) := by
    intro lx45 lx60 h1 h2
    unfold F_Mil_mixBits_J52
    rw [← h1, ← h2] at fin
    by_cases h : F_Mil_mixed x2 lx45 lx60 = 1
    · rw [if_pos h]
      unfold F_Mil_mixBits_J64
      rw [if_neg (by decide)]
      exact fin lx45 lx60 1 1 (Or.inr ⟨rfl, rfl, h⟩)
    · rw [if_neg h]
      unfold F_Mil_mixBits_J64
      rw [if_pos rfl]
      exact fin lx45 lx60 0 0 (Or.inl ⟨rfl, rfl⟩)
  by_cases h1 : t2_1 = 0
  · rw [if_pos h1]
    unfold F_Mil_mixBits_J40
    by_cases h2 : t4_1 = 0
    · rw [if_pos h2]
      exact mid 0 0 (by rw [if_pos h1]) (by rw [if_pos h2])
    · rw [if_neg h2]
      exact mid 0 1 (by rw [if_pos h1]) (by rw [if_neg h2])
  · rw [if_neg h1]
    unfold F_Mil_mixBits_J40
    by_cases h2 : t4_1 = 0
    · rw [if_pos h2]
      exact mid 1 0 (by rw [if_neg h1]) (by rw [if_pos h2])
    · rw [if_neg h2]
      exact mid 1 1 (by rw [if_neg h1]) (by rw [if_neg h2])
