/-! values, for whole: the class's mixBits -/
theorem opN_s31 {h : Nat} (hh : h ≤ 3) (n m : Bool) : opN h (if n then 1 else 0) (if m then 1 else 0) = (if opB h n m then 1 else 0) ∧ opN h (if n then 2147483647 else 0) (if m then 2147483647 else 0) = (if opB h n m then 2147483647 else 0) := by
  have : h = 0 ∨ h = 1 ∨ h = 2 ∨ h = 3 := by omega
  rcases this with rfl | rfl | rfl | rfl <;> cases n <;> cases m <;> decide
theorem v_sgnB {A : Int} {n k : Nat} (hA : A.natAbs < 2147483648 ^ n) (hk : n ≤ k) : A / 2147483648 ^ k % 2147483648 = if A < 0 then 2147483647 else 0 := by
  have hA2 : (A.natAbs : Int) < 2147483648 ^ n := by
    have := Int.ofNat_lt.mpr hA
    rw [Int.natCast_pow] at this
    exact this
  by_cases c : A < 0
  · rw [if_pos c]
    have h := n_lbHi (L := A + 2147483648 ^ n) (B := 2147483648) (s := 1) (n := n) (k := k) (by decide) (by omega) (by omega) (Or.inr rfl) hk
    rw [Int.one_mul, Int.add_sub_cancel] at h
    exact h
  · rw [if_neg c]
    have l1 : (2147483648 : Int) ^ n ≤ 2147483648 ^ k := v_pwleB hk
    rw [Int.ediv_eq_zero_of_lt (by omega) (by omega)]
    rfl
/-- the value of a row of digits -/
def sV (o : Nat → Nat) : Nat → Int
  | 0 => 0
  | i + 1 => sV o i + (o i : Int) * 2147483648 ^ i
theorem sV_b {o : Nat → Nat} (ho : ∀ i, o i < 2147483648) : ∀ i, 0 ≤ sV o i ∧ sV o i < 2147483648 ^ i
  | 0 => ⟨Int.le_refl 0, show (0 : Int) < 1 by decide⟩
  | i + 1 => by
    have h := sV_b ho i
    have h2 := ho i
    obtain ⟨a, b, _⟩ := v_mbV h.1 h.2 (l := (o i : Int)) (by omega) (by omega)
    rw [Int.pow_succ]
    exact ⟨a, b⟩
theorem sV_d {o : Nat → Nat} (ho : ∀ i, o i < 2147483648) {k : Nat} : ∀ {T : Nat}, k < T → sV o T / 2147483648 ^ k % 2147483648 = (o k : Int)
  | T + 1, hk => by
    by_cases e : k = T
    · subst e
      have h := sV_b ho k
      have hp : (0 : Int) < 2147483648 ^ k := Int.pow_pos (by decide)
      have h2 := ho k
      show (sV o k + (o k : Int) * 2147483648 ^ k) / 2147483648 ^ k % 2147483648 = _
      rw [Int.add_mul_ediv_right _ _ (by omega), Int.ediv_eq_zero_of_lt h.1 h.2]
      omega
    · have h := sV_d ho (k := k) (T := T) (by omega)
      show (sV o T + (o T : Int) * 2147483648 ^ T) / 2147483648 ^ k % 2147483648 = _
      have e2 := n_lbLo (L := sV o T) (B := 2147483648) (s := -(o T : Int)) (n := T) (k := k) (by decide) (by omega)
      rw [Int.neg_mul, Int.sub_neg] at e2
      rw [e2, h]
def oD (h : Nat) (va vb : Int) (i : Nat) : Nat := opN h (va / 2147483648 ^ i % 2147483648).toNat (vb / 2147483648 ^ i % 2147483648).toNat
theorem oD_lt {h : Nat} {va vb : Int} (i : Nat) : oD h va vb i < 2147483648 := by
  unfold oD
  exact opN_lt31 (by omega) (by omega)
theorem oD_s {h : Nat} {va vb : Int} {n k : Nat} (hh : h ≤ 3) (hA : va.natAbs < 2147483648 ^ n) (hB : vb.natAbs < 2147483648 ^ n) (hk : n ≤ k) : oD h va vb k = if opB h (decide (va < 0)) (decide (vb < 0)) then 2147483647 else 0 := by
  unfold oD
  rw [v_sgnB hA hk, v_sgnB hB hk]
  have t : ∀ C : Int, (if C < 0 then (2147483647 : Int) else 0).toNat = if decide (C < 0) = true then 2147483647 else 0 := fun C => by
    by_cases c : C < 0
    · rw [if_pos c, if_pos (decide_eq_true c)]
      rfl
    · rw [if_neg c, if_neg (by rw [decide_eq_true_eq]; exact c)]
      rfl
  rw [t, t]
  exact (opN_s31 hh _ _).2
theorem sMix_T {h T : Nat} {va vb : Int} (hh : h ≤ 3) (hT : 1 ≤ T) (hA : va.natAbs < 2147483648 ^ (T - 1)) (hB : vb.natAbs < 2147483648 ^ (T - 1)) : sMix h va vb = sV (oD h va vb) T - (if opB h (decide (va < 0)) (decide (vb < 0)) then 1 else 0) * 2147483648 ^ T ∧ (opB h (decide (va < 0)) (decide (vb < 0)) = true → 0 < sV (oD h va vb) T) := by
  have e31 : (2 : Int) ^ 31 = 2147483648 := rfl
  have hb := sV_b (o := oD h va vb) oD_lt T
  refine ⟨?_, fun ht => ?_⟩
  · apply sMix_limb (e := 31) (by decide)
    intro k
    rw [e31]
    show _ = oD h va vb k
    by_cases hk : k < T
    · rw [n_lbLo (by decide) hk, sV_d oD_lt hk, Int.toNat_natCast]
    · rw [n_lbHi (by decide) hb.1 hb.2 (by split; exact Or.inr rfl; exact Or.inl rfl) (by omega), oD_s hh hA hB (by omega)]
      split <;> rfl
  · have e := oD_s (k := T - 1) hh hA hB (Nat.le_refl _)
    rw [if_pos ht] at e
    obtain ⟨U, rfl⟩ : ∃ U, T = U + 1 := ⟨T - 1, by omega⟩
    have e2 : oD h va vb U = 2147483647 := e
    have h2 := sV_b (o := oD h va vb) oD_lt U
    have hp : (0 : Int) < 2147483648 ^ U := Int.pow_pos (by decide)
    show 0 < sV (oD h va vb) U + (oD h va vb U : Int) * 2147483648 ^ U
    rw [e2]
    omega
def QV_mb (r : Int) (p : Int32 × Int32 × (Nat → Int32)) : Prop := bO 220 p.1 p.2.1 p.2.2 r
theorem V_mbL {x2 : Int32} {R : Int32} {R2 : Int32} {t0_0 : Int32} {t0_1 : Int32} {t1_0 : (Nat → Int32)} {t2_0 : Int32} {t2_1 : Int32} {t3_0 : (Nat → Int32)} {t4_0 : Int32} {t4_1 : Int32} {t5_0 : (Nat → Int32)} {a40 a33 a28 lx45 lx60 lx80 lx95 : Int32} {p122 : Int32 × Int32} {va vb r : Int} {T h : Nat} (hh : h ≤ 3) (hx : x2.toInt = ((8 + h : Nat) : Int)) (ha : bO R t2_0 t2_1 t3_0 va) (hb : bO R2 t4_0 t4_1 t5_0 vb) (hT : a28.toInt = (T : Int)) (hT2 : T ≤ 220) (hla : t2_1 ≠ 0 → cLo t2_0 t3_0 a33) (hlb : t4_1 ≠ 0 → cLo t4_0 t5_0 a40) (hr : (lx80 = 0 ∧ r = sV (oD h va vb) T) ∨ (lx80 = 1 ∧ r = sV (oD h va vb) T - 2147483648 ^ T ∧ 0 < sV (oD h va vb) T)) : ∀ (n : Nat) (lx133 : Int32) (lx134 : Int32) (lx135 : Int32) (lx136 : Int32) (lx137 : (Nat → Int32)), ∀ i : Nat, lx133.toInt = (i : Int) → i ≤ T → T - i < n → lx135.toInt = (i : Int) → okL lx137 i → 0 ≤ lx134.toInt → lx134.toInt ≤ 1 → (lx80 = 0 → lx134.toInt = 0 ∧ vB lx137 i = sV (oD h va vb) i) → (lx80 = 1 → vB lx137 i + lx134.toInt * 2147483648 ^ i = 2147483648 ^ i - sV (oD h va vb) i) → QV_mb r (F_Mil_mixBits_L88 x2 R R2 t0_0 t0_1 t1_0 t2_0 t2_1 t3_0 t4_0 t4_1 t5_0 a40 a33 a28 lx45 lx60 lx80 lx95 p122 n lx133 lx134 lx135 lx136 lx137) := by
  have e := e220
  have e0 : (0 : Int32).toInt = 0 := rfl
  intro n
  induction n with
  | zero => intros; omega
  | succ n ih =>
    intro lx133 lx134 lx135 lx136 lx137 i hi hiT hn hs ok c0 c1 hc hm
    rw [F_Mil_mixBits_L88.eq_2]
    have cs := q_clI (i := lx135) hs (by omega)
    have cs' : lx135.toNatClampNeg = i := by omega
    by_cases hj : a28 ≤ lx133
    · rw [if_pos hj]
      have hj2 := q_leI hj
      have hiT2 : i = T := by omega
      unfold F_Mil_mixBits_c168
      obtain ⟨z, z1, z2, z3, z4, z5⟩ := V_trimT (R := 220) (neg := lx136) (f := lx137) (s := lx135) (by omega) (by omega)
      rw [z1]
      have cz := q_clI (i := z) rfl z2
      have hN : bN z lx137 := ⟨z2, fun j hj => ok j (by omega), z4⟩
      rw [cs'] at z5
      have zb : bV z lx137 = vB lx137 i := z5
      rcases hr with ⟨h0, hr⟩ | ⟨h1, hr, hp⟩
      · have m := bO.mk0 hN (show z.toInt ≤ (220 : Int32).toInt by omega) (by decide)
        rw [zb, (hc h0).2, hiT2, ← hr] at m
        rw [h0]
        exact m
      · have V2 := hm h1
        rw [hiT2] at V2 zb
        have hvn := v_nn ok
        rw [hiT2] at hvn
        have hcc : lx134.toInt = 0 := by
          have q : lx134.toInt = 0 ∨ lx134.toInt = 1 := by omega
          rcases q with q | q
          · exact q
          · rw [q, Int.one_mul] at V2
            omega
        have hb2 := sV_b (o := oD h va vb) oD_lt T
        rw [hcc, Int.zero_mul] at V2
        have hzp : 0 < z.toInt := by
          apply hN.pos.mpr
          rw [zb]
          omega
        rw [h1]
        refine ⟨hN, Or.inr ⟨rfl, hzp⟩, ?_, by show z.toInt ≤ _; omega, by decide⟩
        show bS 1 z lx137 = r
        rw [bS, if_neg (by decide), zb, hr]
        omega
    · rw [if_neg hj]
      have hj2 := q_nleI hj
      have ea := V_endless (lo := a33) ha hi (by omega) hla
      have eb := V_endless (lo := a40) hb hi (by omega) hlb
      have m0 : (F_Mil_mixed x2 (F_Big_endlessLimb R lx133 a33 t2_0 t2_1 t3_0) (F_Big_endlessLimb R2 lx133 a40 t4_0 t4_1 t5_0)).toInt = (oD h va vb i : Int) := by
        rw [V_mixed hx hh (by rw [ea]; omega) (by rw [eb]; omega), ea, eb]
        rfl
      have ml := oD_lt (h := h) (va := va) (vb := vb) i
      generalize F_Mil_mixed x2 (F_Big_endlessLimb R lx133 a33 t2_0 t2_1 t3_0) (F_Big_endlessLimb R2 lx133 a40 t4_0 t4_1 t5_0) = lm at m0 ⊢
      have ej := v_sc (i := lx133) (by omega) (by omega)
      have es := v_sc (i := lx135) (by omega) (by omega)
      by_cases hb0 : lx80 = 0
      · rw [if_pos hb0]
        obtain ⟨hcc, hcv⟩ := hc hb0
        unfold F_Mil_mixBits_J134 F_Mil_mixBits_c148 F_Big_push
        rw [if_neg (fun hh => by have := q_leI hh; omega)]
        have a2 := v_add3 (a := lm) (b := 0) (c := lx134) (by omega) (by decide) c0 c1
        rw [Int32.add_zero] at a2
        refine ih _ _ _ _ _ (i + 1) (by rw [ej.1]; omega) (by omega) (by omega) (by show (lx135 + 1 : Int32).toInt = _; rw [es.1]; omega) ?_ a2.2.2.1 a2.2.2.2 (fun _ => ⟨by omega, ?_⟩) (fun h9 => by rw [hb0] at h9; exact absurd h9 (by decide))
        · show okL (upd lx137 lx135.toNatClampNeg _) _
          rw [cs']
          exact okL_push ok a2.1
        · show vB (upd lx137 lx135.toNatClampNeg _) (i + 1) = sV (oD h va vb) i + (oD h va vb i : Int) * 2147483648 ^ i
          rw [cs', v_upd_in, hcv, ← m0]
          have : ((lm + lx134 : Int32) &&& 2147483647).toInt = lm.toInt := by omega
          rw [this]
      · rw [if_neg hb0]
        have hb1 : lx80 = 1 := by
          rcases hr with ⟨h0, _⟩ | ⟨h1, _⟩
          · exact absurd h0 hb0
          · exact h1
        have hno := v_not31 (x := lm) (by omega)
        have hno0 := (v_and31I (x := lm ^^^ (-1))).1
        generalize ((lm ^^^ (-1)) &&& 2147483647 : Int32) = nl at hno hno0 ⊢
        unfold F_Mil_mixBits_J134 F_Mil_mixBits_c148 F_Big_push
        rw [if_neg (fun hh => by have := q_leI hh; omega)]
        have a2 := v_add3 (a := nl) (b := 0) (c := lx134) hno0 (by decide) c0 c1
        rw [Int32.add_zero] at a2
        have V2 := hm hb1
        refine ih _ _ _ _ _ (i + 1) (by rw [ej.1]; omega) (by omega) (by omega) (by show (lx135 + 1 : Int32).toInt = _; rw [es.1]; omega) ?_ a2.2.2.1 a2.2.2.2 (fun h9 => absurd h9 hb0) (fun _ => ?_)
        · show okL (upd lx137 lx135.toNatClampNeg _) _
          rw [cs']
          exact okL_push ok a2.1
        · show vB (upd lx137 lx135.toNatClampNeg _) (i + 1) + _ = _ - (sV (oD h va vb) i + (oD h va vb i : Int) * 2147483648 ^ i)
          rw [cs', v_upd_in, Int.pow_succ, ← m0]
          exact v_mbStep V2 (by omega)
theorem bO.ngB {R s n : Int32} {f : Nat → Int32} {v : Int} (h : bO R s n f v) : (n = 0 ∧ ¬ v < 0) ∨ (n = 1 ∧ v < 0) := by
  have h3 : bS n s f = v := h.2.2.1
  have h4 : 0 ≤ bV s f := v_nn h.1.2.1
  rcases h.2.1 with g | ⟨g, g2⟩
  · refine Or.inl ⟨g, ?_⟩
    rw [bS, if_pos g] at h3
    omega
  · refine Or.inr ⟨g, ?_⟩
    have g3 := h.1.pos.mp g2
    rw [bS, g, if_neg (by decide)] at h3
    omega
theorem V_mixBits {x2 : Int32} {R : Int32} {R2 : Int32} {t0_0 : Int32} {t0_1 : Int32} {t1_0 : (Nat → Int32)} {t2_0 : Int32} {t2_1 : Int32} {t3_0 : (Nat → Int32)} {t4_0 : Int32} {t4_1 : Int32} {t5_0 : (Nat → Int32)} {va vb : Int} {h : Nat} (hh : h ≤ 3) (hx : x2.toInt = ((8 + h : Nat) : Int)) (ha : bO R t2_0 t2_1 t3_0 va) (hb : bO R2 t4_0 t4_1 t5_0 vb) (ha2 : t2_0.toInt < 220) (hb2 : t4_0.toInt < 220) : QV_mb (sMix h va vb) (F_Mil_mixBits x2 R R2 t0_0 t0_1 t1_0 t2_0 t2_1 t3_0 t4_0 t4_1 t5_0) := by
  have e := e220
  have e0 : (0 : Int32).toInt = 0 := rfl
  have a0 := ha.s0
  have b0 := hb.s0
  have hla : t2_1 ≠ 0 → cLo t2_0 t3_0 (F_Big_lowestLimb R t2_0 t2_1 t3_0) := fun h => by
    rcases ha.2.1 with h1 | ⟨_, h1⟩
    · exact absurd h1 h
    · exact V_low ha.1 h1 ha.fit
  have hlb : t4_1 ≠ 0 → cLo t4_0 t5_0 (F_Big_lowestLimb R2 t4_0 t4_1 t5_0) := fun h => by
    rcases hb.2.1 with h1 | ⟨_, h1⟩
    · exact absurd h1 h
    · exact V_low hb.1 h1 hb.fit
  have hmx : (if t2_0 < t4_0 then t4_0 else t2_0 : Int32).toInt = (if t2_0.toInt < t4_0.toInt then t4_0.toInt else t2_0.toInt) := by
    split
    · rename_i h
      rw [if_pos (q_ltI h)]
    · rename_i h
      rw [if_neg (by have := q_nltI h; omega)]
  have hT := v_sc (i := (if t2_0 < t4_0 then t4_0 else t2_0 : Int32)) (by rw [hmx]; split <;> omega) (by rw [hmx]; split <;> omega)
  obtain ⟨T, hTT⟩ : ∃ T : Nat, ((if t2_0 < t4_0 then t4_0 else t2_0 : Int32) + 1).toInt = (T : Int) := ⟨_, (Int.toNat_of_nonneg (by rw [hT.1, hmx]; split <;> omega)).symm⟩
  have hT1 : t2_0.toInt < (T : Int) ∧ t4_0.toInt < (T : Int) ∧ T ≤ 220 := by
    rw [hT.1, hmx] at hTT
    split at hTT <;> omega
  have hm := sMix_T (T := T) hh (by omega) (ha.lt (M := T - 1) (by omega)) (hb.lt (M := T - 1) (by omega))
  have ga := ha.ngB
  have gb := hb.ngB
  have mx : F_Mil_mixed x2 (if t2_1 = 0 then 0 else 1) (if t4_1 = 0 then 0 else 1) = if opB h (decide (va < 0)) (decide (vb < 0)) then 1 else 0 := by
    apply Int32.toInt_inj.mp
    have t : ∀ (n : Int32) (v : Int), (n = 0 ∧ ¬ v < 0) ∨ (n = 1 ∧ v < 0) → (if n = 0 then (0 : Int32) else 1).toInt.toNat = (if decide (v < 0) = true then 1 else 0) ∧ 0 ≤ (if n = 0 then (0 : Int32) else 1).toInt := by
      intro n v g
      rcases g with ⟨g, g2⟩ | ⟨g, g2⟩
      · rw [if_pos g, if_neg (by rw [decide_eq_true_eq]; exact g2)]
        decide
      · rw [g, if_neg (by decide), if_pos (decide_eq_true g2)]
        decide
    have ta := t _ _ ga
    have tb := t _ _ gb
    rw [V_mixed hx hh ta.2 tb.2, ta.1, tb.1, (opN_s31 hh _ _).1]
    split <;> rfl
  unfold F_Mil_mixBits
  generalize ((if t2_0 < t4_0 then t4_0 else t2_0 : Int32) + 1) = a28 at hTT ⊢
  generalize F_Big_lowestLimb R t2_0 t2_1 t3_0 = a33 at hla ⊢
  generalize F_Big_lowestLimb R2 t4_0 t4_1 t5_0 = a40 at hlb ⊢
  have fin : ∀ lx45 lx60 lx80 lx95 : Int32, (lx80 = 0 ∧ lx95 = 0 ∧ opB h (decide (va < 0)) (decide (vb < 0)) = false) ∨ (lx80 = 1 ∧ lx95 = 1 ∧ opB h (decide (va < 0)) (decide (vb < 0)) = true) → QV_mb (sMix h va vb) (F_Mil_mixBits_J76 x2 R R2 t0_0 t0_1 t1_0 t2_0 t2_1 t3_0 t4_0 t4_1 t5_0 a40 a33 a28 lx45 lx60 lx80 lx95) := by
    intro lx45 lx60 lx80 lx95 g
    unfold F_Mil_mixBits_J76 F_Mil_mixBits_c82
    refine V_mbL hh hx ha hb hTT hT1.2.2 hla hlb ?_ _ _ _ _ _ _ 0 rfl (by omega) (by rw [e0]; omega) rfl (fun j hj => absurd hj (by omega)) ?_ ?_ ?_ ?_
    · rcases g with ⟨g, _, g2⟩ | ⟨g, _, g2⟩
      · refine Or.inl ⟨g, ?_⟩
        rw [hm.1, g2, if_neg (by decide)]
        omega
      · refine Or.inr ⟨g, ?_, hm.2 g2⟩
        rw [hm.1, g2, if_pos rfl, Int.one_mul]
    · rcases g with ⟨_, g, _⟩ | ⟨_, g, _⟩ <;> rw [g] <;> decide
    · rcases g with ⟨_, g, _⟩ | ⟨_, g, _⟩ <;> rw [g] <;> decide
    · intro h9
      rcases g with ⟨_, g, _⟩ | ⟨g, _⟩
      · rw [g]
        exact ⟨rfl, rfl⟩
      · rw [g] at h9
        exact absurd h9 (by decide)
    · intro h9
      rcases g with ⟨g, _⟩ | ⟨_, g, _⟩
      · rw [g] at h9
        exact absurd h9 (by decide)
      · rw [g]
        show (0 : Int) + 1 * 2147483648 ^ 0 = 2147483648 ^ 0 - 0
        decide
  have mid : ∀ lx45 lx60 : Int32, lx45 = (if t2_1 = 0 then 0 else 1) → lx60 = (if t4_1 = 0 then 0 else 1) → QV_mb (sMix h va vb) (F_Mil_mixBits_J52 x2 R R2 t0_0 t0_1 t1_0 t2_0 t2_1 t3_0 t4_0 t4_1 t5_0 a40 a33 a28 lx45 lx60) := by
    intro lx45 lx60 h1 h2
    unfold F_Mil_mixBits_J52
    rw [← h1, ← h2] at mx
    rw [mx]
    cases g : opB h (decide (va < 0)) (decide (vb < 0))
    · rw [if_neg (by decide)]
      unfold F_Mil_mixBits_J64
      rw [if_pos rfl]
      exact fin lx45 lx60 0 0 (Or.inl ⟨rfl, rfl, g⟩)
    · rw [if_pos (by decide)]
      unfold F_Mil_mixBits_J64
      rw [if_neg (by decide)]
      exact fin lx45 lx60 1 1 (Or.inr ⟨rfl, rfl, g⟩)
  by_cases h1 : t2_1 = 0
  · rw [if_pos h1]
    unfold F_Mil_mixBits_J40
    by_cases h2 : t4_1 = 0
    · rw [if_pos h2]
      exact mid 0 0 (by rw [if_pos h1]) (by rw [if_pos h2])
    · rw [if_neg h2]
      exact mid 0 1 (by rw [if_pos h1]) (by rw [if_neg h2])
  · rw [if_neg h1]
    unfold F_Mil_mixBits_J40
    by_cases h2 : t4_1 = 0
    · rw [if_pos h2]
      exact mid 1 0 (by rw [if_neg h1]) (by rw [if_pos h2])
    · rw [if_neg h2]
      exact mid 1 1 (by rw [if_neg h1]) (by rw [if_neg h2])
