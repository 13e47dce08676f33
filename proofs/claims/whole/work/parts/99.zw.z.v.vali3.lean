/-! values, for whole: the reference widens -/
/-- a body of the width W -/
def zWid (W : Int) (fl pd : Int32) (f : Nat) (t : List Nat) : List Nat := if fl &&& 1 = 0 then (if pd = 0 then List.replicate (W - t.length).toNat 32 ++ t else t.take f ++ (List.replicate (W - t.length).toNat 48 ++ t.drop f)) else t ++ List.replicate (W - t.length).toNat 32
theorem zWid_0 {W : Int} {fl pd : Int32} {f : Nat} {t : List Nat} (h : W ≤ t.length) : zWid W fl pd f t = t := by
  unfold zWid
  rw [show (W - t.length).toNat = 0 by omega]
  simp only [List.replicate_zero, List.nil_append, List.append_nil, List.take_append_drop, ite_self]
theorem Z_gdW {t : List Nat} {z k c i : Nat} (hz : z ≤ t.length) : (t.take z ++ (List.replicate k c ++ t.drop z)).getD i 0 = if z ≤ i ∧ i < z + k then c else if z + k ≤ i then t.getD (i - k) 0 else t.getD i 0 := by
  have lt : (t.take z).length = z := by rw [List.length_take]; omega
  rw [List.getD_eq_getElem?_getD, List.getD_eq_getElem?_getD, List.getD_eq_getElem?_getD, List.getElem?_append, List.getElem?_append, lt, List.length_replicate]
  by_cases c1 : i < z
  · rw [if_pos c1, if_neg (by omega), if_neg (by omega), List.getElem?_take, if_pos c1]
  · rw [if_neg c1]
    by_cases c2 : i - z < k
    · rw [if_pos c2, if_pos (by omega), List.getElem?_replicate, if_pos c2]
      rfl
    · rw [if_neg c2, if_neg (by omega), if_pos (by omega), List.getElem?_drop, show z + (i - z - k) = i - k by omega]
theorem Z_wiF {K_F_VR_widen_L67 : Int32 → (Nat → Int32) → (Int32 × (Nat → Int32))} {t0_0 : Int32} {t0_1 : Int32} {t0_2 : Int32} {t0_3 : Int32} {t0_4 : Int32} {t0_5 : Int32} {t0_6 : Int32} {t0_7 : Int32} {t0_8 : Int32} {t0_9 : Int32} {t0_10 : Int32} {t0_11 : Int32} {t0_12 : Int32} {t0_13 : Int32} {t0_14 : Int32} {t0_15 : Int32} {t0_16 : Int32} {t0_17 : Int32} {t0_18 : Int32} {t0_19 : Int32} {t0_20 : Int32} {t0_21 : Int32} {t1_0 : (Nat → Int32)} {a32 : Int32} {lx45 : Int32} {lx57 : Int32} {lx58 : (Nat → Int32)} {k z : Nat} {c : Int} {g : Nat → Int} (hk : a32.toInt = (k : Int)) (hz : lx45.toInt = (z : Int)) (hs : k + z < 100000) (hc : c = if t0_19 = 0 then 32 else 48) : ∀ (n : Nat) (lx72 : Int32) (lx73 : (Nat → Int32)), ∀ a : Nat, lx72.toInt = (a : Int) → a ≤ k → k < n + a → (∀ i, (lx73 i).toInt = if z ≤ i ∧ i < z + a then c else g i) → (F_VR_widen_L94 K_F_VR_widen_L67 t0_0 t0_1 t0_2 t0_3 t0_4 t0_5 t0_6 t0_7 t0_8 t0_9 t0_10 t0_11 t0_12 t0_13 t0_14 t0_15 t0_16 t0_17 t0_18 t0_19 t0_20 t0_21 t1_0 a32 lx45 lx57 lx58 n lx72 lx73).1 = t0_17 + a32 ∧ ∀ i, ((F_VR_widen_L94 K_F_VR_widen_L67 t0_0 t0_1 t0_2 t0_3 t0_4 t0_5 t0_6 t0_7 t0_8 t0_9 t0_10 t0_11 t0_12 t0_13 t0_14 t0_15 t0_16 t0_17 t0_18 t0_19 t0_20 t0_21 t1_0 a32 lx45 lx57 lx58 n lx72 lx73).2 i).toInt = if z ≤ i ∧ i < z + k then c else g i := by
  intro n
  induction n with
  | zero =>
    intro _ _ a _ q1 q2
    omega
  | succ n ih =>
    intro lx72 lx73 a h1 h2 h3 h4
    unfold F_VR_widen_L94
    by_cases d : a32 ≤ lx72
    · rw [if_pos d]
      have d' := q_leI d
      refine ⟨rfl, fun i => ?_⟩
      show (lx73 i).toInt = _
      rw [h4 i, show a = k by omega]
    · rw [if_neg d]
      have d' := q_nleI d
      have i1 : (lx45 + lx72).toNatClampNeg = z + a := by
        have := q_addI hz h1 (by omega) (by omega)
        show (lx45 + lx72).toInt.toNat = _
        omega
      have go : ∀ v : Int32, v.toInt = c → ∀ i, (upd lx73 (z + a) v i).toInt = if z ≤ i ∧ i < z + (a + 1) then c else g i := by
        intro v hv i
        unfold upd
        by_cases e : i = z + a
        · rw [if_pos e, if_pos (by omega), hv]
        · rw [if_neg e, h4 i]
          by_cases w : z ≤ i ∧ i < z + a
          · rw [if_pos w, if_pos (by omega)]
          · rw [if_neg w, if_neg (by omega)]
      rw [i1]
      by_cases t : t0_19 = 0
      · rw [if_pos t]
        rw [if_pos t] at hc
        exact ih _ _ (a + 1) (by rw [q_addI (y := 1) h1 rfl (by omega) (by omega)]; omega) (by omega) (by omega) (go 32 (by rw [hc]; rfl))
      · rw [if_neg t]
        rw [if_neg t] at hc
        exact ih _ _ (a + 1) (by rw [q_addI (y := 1) h1 rfl (by omega) (by omega)]; omega) (by omega) (by omega) (go 48 (by rw [hc]; rfl))
theorem Z_wiM {t0_0 : Int32} {t0_1 : Int32} {t0_2 : Int32} {t0_3 : Int32} {t0_4 : Int32} {t0_5 : Int32} {t0_6 : Int32} {t0_7 : Int32} {t0_8 : Int32} {t0_9 : Int32} {t0_10 : Int32} {t0_11 : Int32} {t0_12 : Int32} {t0_13 : Int32} {t0_14 : Int32} {t0_15 : Int32} {t0_16 : Int32} {t0_17 : Int32} {t0_18 : Int32} {t0_19 : Int32} {t0_20 : Int32} {t0_21 : Int32} {t1_0 : (Nat → Int32)} {a32 : Int32} {lx45 : Int32} {k z L : Nat} {c : Int} {g : Nat → Int} (hk : a32.toInt = (k : Int)) (hk1 : 1 ≤ k) (hz : lx45.toInt = (z : Int)) (hzL : z ≤ L) (hs : k + L < 100000) (hc : c = if t0_19 = 0 then 32 else 48) : ∀ (n : Nat) (lx57 : Int32) (lx58 : (Nat → Int32)), ∀ j : Nat, lx57.toInt = (j : Int) - 1 → z ≤ j → j ≤ L → j < n + z → (∀ i, (lx58 i).toInt = if j + k ≤ i ∧ i < L + k then g (i - k) else g i) → (F_VR_widen_L67 t0_0 t0_1 t0_2 t0_3 t0_4 t0_5 t0_6 t0_7 t0_8 t0_9 t0_10 t0_11 t0_12 t0_13 t0_14 t0_15 t0_16 t0_17 t0_18 t0_19 t0_20 t0_21 t1_0 a32 lx45 n lx57 lx58).1 = t0_17 + a32 ∧ ∀ i, ((F_VR_widen_L67 t0_0 t0_1 t0_2 t0_3 t0_4 t0_5 t0_6 t0_7 t0_8 t0_9 t0_10 t0_11 t0_12 t0_13 t0_14 t0_15 t0_16 t0_17 t0_18 t0_19 t0_20 t0_21 t1_0 a32 lx45 n lx57 lx58).2 i).toInt = if z ≤ i ∧ i < z + k then c else if z + k ≤ i ∧ i < L + k then g (i - k) else g i := by
  intro n
  induction n with
  | zero =>
    intro _ _ j _ q1 _ q2
    omega
  | succ n ih =>
    intro lx57 lx58 j h1 h2 h3 h4 h5
    unfold F_VR_widen_L67
    have e0 : (0 : Int32).toInt = 0 := rfl
    by_cases d : lx57 < lx45
    · rw [if_pos d]
      have d' := q_ltI d
      have jz : j = z := by omega
      exact Z_wiF (g := fun i => if z + k ≤ i ∧ i < L + k then g (i - k) else g i) hk hz (by omega) hc _ _ _ 0 rfl (by omega) (by rw [e0, hk]; omega) (fun i => by rw [if_neg (by omega), h5 i, jz])
    · rw [if_neg d]
      have d' := q_nltI d
      have i1 : lx57.toNatClampNeg = j - 1 := by show lx57.toInt.toNat = _; omega
      have i2 : (lx57 + a32).toNatClampNeg = j - 1 + k := by
        have := q_addI h1 hk (by omega) (by omega)
        show (lx57 + a32).toInt.toNat = _
        omega
      rw [i1, i2]
      refine ih _ _ (j - 1) (by rw [q_addI (y := -1) h1 rfl (by omega) (by omega)]; omega) (by omega) (by omega) (by omega) (fun i => ?_)
      unfold upd
      by_cases e : i = j - 1 + k
      · rw [if_pos e, if_pos (by omega), h5 (j - 1), if_neg (by omega)]
        congr 1
        omega
      · rw [if_neg e, h5 i]
        by_cases w : j + k ≤ i ∧ i < L + k
        · rw [if_pos w, if_pos (by omega)]
        · rw [if_neg w, if_neg (by omega)]
theorem Z_wiB {t0_0 : Int32} {t0_1 : Int32} {t0_2 : Int32} {t0_3 : Int32} {t0_4 : Int32} {t0_5 : Int32} {t0_6 : Int32} {t0_7 : Int32} {t0_8 : Int32} {t0_9 : Int32} {t0_10 : Int32} {t0_11 : Int32} {t0_12 : Int32} {t0_13 : Int32} {t0_14 : Int32} {t0_15 : Int32} {t0_16 : Int32} {t0_17 : Int32} {t0_18 : Int32} {t0_19 : Int32} {t0_20 : Int32} {t0_21 : Int32} {t1_0 : (Nat → Int32)} {a32 : Int32} {k : Nat} (hk : a32.toInt = (k : Int)) (hs : k < 100000) : ∀ (n : Nat) (lx135 : Int32) (lx136 : Int32) (lx137 : (Nat → Int32)), ∀ (a : Nat) (l : List Nat), lx135.toInt = (a : Int) → a ≤ k → k < n + a → yRt lx136 lx137 l → l.length + k < 500000 + a → yRt (F_VR_widen_L26 t0_0 t0_1 t0_2 t0_3 t0_4 t0_5 t0_6 t0_7 t0_8 t0_9 t0_10 t0_11 t0_12 t0_13 t0_14 t0_15 t0_16 t0_17 t0_18 t0_19 t0_20 t0_21 t1_0 a32 n lx135 lx136 lx137).1 (F_VR_widen_L26 t0_0 t0_1 t0_2 t0_3 t0_4 t0_5 t0_6 t0_7 t0_8 t0_9 t0_10 t0_11 t0_12 t0_13 t0_14 t0_15 t0_16 t0_17 t0_18 t0_19 t0_20 t0_21 t1_0 a32 n lx135 lx136 lx137).2 (l ++ List.replicate (k - a) 32) := by
  intro n
  induction n with
  | zero =>
    intro _ _ _ a _ _ q1 q2
    omega
  | succ n ih =>
    intro lx135 lx136 lx137 a l h1 h2 h3 h4 h5
    unfold F_VR_widen_L26
    by_cases d : a32 ≤ lx135
    · rw [if_pos d]
      have d' := q_leI d
      rw [show k - a = 0 by omega, List.replicate_zero, List.append_nil]
      exact h4
    · rw [if_neg d]
      have d' := q_nleI d
      have w := Z_put (x2 := 32) (t0_0 := t0_0) (t0_1 := t0_1) (t0_2 := t0_2) (t0_3 := t0_3) (t0_4 := t0_4) (t0_5 := t0_5) (t0_6 := t0_6) (t0_7 := t0_7) (t0_8 := t0_8) (t0_9 := t0_9) (t0_10 := t0_10) (t0_11 := t0_11) (t0_12 := t0_12) (t0_13 := t0_13) (t0_14 := t0_14) (t0_15 := t0_15) (t0_16 := t0_16) (t0_17 := lx136) (t0_18 := t0_18) (t0_19 := t0_19) (t0_20 := t0_20) (t0_21 := t0_21) h4 (by omega) rfl
      revert w
      generalize F_VR_put 32 t0_0 t0_1 t0_2 t0_3 t0_4 t0_5 t0_6 t0_7 t0_8 t0_9 t0_10 t0_11 t0_12 t0_13 t0_14 t0_15 t0_16 lx136 t0_18 t0_19 t0_20 t0_21 lx137 = q
      intro w
      unfold F_VR_widen_c34
      obtain ⟨r, hr⟩ : ∃ r, k - a = r + 1 := ⟨k - a - 1, by omega⟩
      have := ih (lx135 + 1) q.1 q.2 (a + 1) (l ++ [32]) (by rw [q_addI (y := 1) h1 rfl (by omega) (by omega)]; omega) (by omega) (by omega) w (by rw [List.length_append]; show l.length + 1 + k < _; omega)
      rw [show k - (a + 1) = r by omega, List.append_assoc] at this
      rw [hr, List.replicate_succ]
      exact this
theorem Z_wid {t0_0 : Int32} {t0_1 : Int32} {t0_2 : Int32} {t0_3 : Int32} {t0_4 : Int32} {t0_5 : Int32} {t0_6 : Int32} {t0_7 : Int32} {t0_8 : Int32} {t0_9 : Int32} {t0_10 : Int32} {t0_11 : Int32} {t0_12 : Int32} {t0_13 : Int32} {t0_14 : Int32} {t0_15 : Int32} {t0_16 : Int32} {t0_17 : Int32} {t0_18 : Int32} {t0_19 : Int32} {t0_20 : Int32} {t0_21 : Int32} {t1_0 : (Nat → Int32)} {t : List Nat} {W : Int} {f : Nat} (h11 : t0_11.toInt = W) (hW : -1 ≤ W ∧ W ≤ 9999) (h17 : yRt t0_17 t1_0 t) (ht : t.length ≤ 20000) (h18 : t0_18.toInt = (f : Int)) (hf : f ≤ t.length) : yRt (F_VR_widen t0_0 t0_1 t0_2 t0_3 t0_4 t0_5 t0_6 t0_7 t0_8 t0_9 t0_10 t0_11 t0_12 t0_13 t0_14 t0_15 t0_16 t0_17 t0_18 t0_19 t0_20 t0_21 t1_0).1 (F_VR_widen t0_0 t0_1 t0_2 t0_3 t0_4 t0_5 t0_6 t0_7 t0_8 t0_9 t0_10 t0_11 t0_12 t0_13 t0_14 t0_15 t0_16 t0_17 t0_18 t0_19 t0_20 t0_21 t1_0).2 (zWid W t0_9 t0_19 f t) := by
  have e0 : (0 : Int32).toInt = 0 := rfl
  have h1 := h17.1
  have sb := q_subI h11 h1 (by omega) (by omega)
  unfold F_VR_widen
  by_cases c : 0 < t0_11 - t0_17
  · rw [if_pos c]
    have c' := q_ltI c
    rw [sb] at c'
    obtain ⟨k, hk⟩ : ∃ k : Nat, W - t.length = (k : Int) := ⟨(W - t.length).toNat, by omega⟩
    rw [hk] at sb
    have kt : (W - t.length).toNat = k := by omega
    have k1 : 1 ≤ k := by omega
    unfold zWid
    rw [Z_hasR (k := 1) rfl, kt]
    have mv : ∀ (lz : Int32) (z ch : Nat), lz.toInt = (z : Int) → z ≤ t.length → (ch : Int) = (if t0_19 = 0 then 32 else 48) → yRt (F_VR_widen_J59 t0_0 t0_1 t0_2 t0_3 t0_4 t0_5 t0_6 t0_7 t0_8 t0_9 t0_10 t0_11 t0_12 t0_13 t0_14 t0_15 t0_16 t0_17 t0_18 t0_19 t0_20 t0_21 t1_0 (t0_11 - t0_17) lz).1 (F_VR_widen_J59 t0_0 t0_1 t0_2 t0_3 t0_4 t0_5 t0_6 t0_7 t0_8 t0_9 t0_10 t0_11 t0_12 t0_13 t0_14 t0_15 t0_16 t0_17 t0_18 t0_19 t0_20 t0_21 t1_0 (t0_11 - t0_17) lz).2 (t.take z ++ (List.replicate k ch ++ t.drop z)) := by
      intro lz z ch hlz hz hch
      unfold F_VR_widen_J59
      have s1 := q_subI h1 (show (1 : Int32).toInt = 1 from rfl) (by omega) (by omega)
      obtain ⟨m1, m2⟩ := Z_wiM (t0_0 := t0_0) (t0_1 := t0_1) (t0_2 := t0_2) (t0_3 := t0_3) (t0_4 := t0_4) (t0_5 := t0_5) (t0_6 := t0_6) (t0_7 := t0_7) (t0_8 := t0_8) (t0_9 := t0_9) (t0_10 := t0_10) (t0_11 := t0_11) (t0_12 := t0_12) (t0_13 := t0_13) (t0_14 := t0_14) (t0_15 := t0_15) (t0_16 := t0_16) (t0_17 := t0_17) (t0_18 := t0_18) (t0_19 := t0_19) (t0_20 := t0_20) (t0_21 := t0_21) (t1_0 := t1_0) (g := fun i => (t1_0 i).toInt) sb k1 hlz hz (by omega) hch (((t0_17 - 1).toInt - -1).toNat + 1) (t0_17 - 1) t1_0 t.length s1 hz (Nat.le_refl _) (by rw [s1]; omega) (fun i => by rw [if_neg (by omega)])
      refine ⟨?_, fun i hi => ?_⟩
      · rw [m1, q_addI h1 sb (by omega) (by omega), List.length_append, List.length_append, List.length_replicate, List.length_take, List.length_drop]
        omega
      · rw [List.length_append, List.length_append, List.length_replicate, List.length_take, List.length_drop] at hi
        rw [m2 i, Z_gdW hz]
        by_cases a : z ≤ i ∧ i < z + k
        · rw [if_pos a, if_pos a]
        · rw [if_neg a, if_neg a]
          by_cases b : z + k ≤ i
          · rw [if_pos ⟨b, by omega⟩, if_pos b]
            exact h17.2 _ (by omega)
          · rw [if_neg (fun w => b w.1), if_neg b]
            exact h17.2 _ (by omega)
    by_cases g : t0_9 &&& 1 = 0
    · simp only [if_pos g, if_pos (rfl : (0 : Int32) = 0)]
      by_cases d : t0_19 = 0
      · simp only [if_pos d]
        have := mv 0 0 32 rfl (by omega) (by rw [if_pos d]; rfl)
        rw [List.take_zero, List.nil_append, List.drop_zero] at this
        exact this
      · simp only [if_neg d]
        exact mv _ f 48 h18 hf (by rw [if_neg d]; rfl)
    · simp only [if_neg g, if_neg (show ¬ (1 : Int32) = 0 by decide)]
      have := Z_wiB (t0_0 := t0_0) (t0_1 := t0_1) (t0_2 := t0_2) (t0_3 := t0_3) (t0_4 := t0_4) (t0_5 := t0_5) (t0_6 := t0_6) (t0_7 := t0_7) (t0_8 := t0_8) (t0_9 := t0_9) (t0_10 := t0_10) (t0_11 := t0_11) (t0_12 := t0_12) (t0_13 := t0_13) (t0_14 := t0_14) (t0_15 := t0_15) (t0_16 := t0_16) (t0_17 := t0_17) (t0_18 := t0_18) (t0_19 := t0_19) (t0_20 := t0_20) (t0_21 := t0_21) (t1_0 := t1_0) sb (by omega) (((t0_11 - t0_17).toInt - (0 : Int32).toInt).toNat + 1) 0 t0_17 t1_0 0 t rfl (by omega) (by rw [e0, sb]; omega) h17 (by omega)
      rw [Nat.sub_zero] at this
      exact this
  · rw [if_neg c]
    have c' := q_nltI c
    rw [sb] at c'
    rw [zWid_0 (by omega)]
    exact h17

