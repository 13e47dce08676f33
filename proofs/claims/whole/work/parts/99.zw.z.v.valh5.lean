/-! values, for whole: the reference's figures, written out -/
theorem Z_fAt {x2 : Int32} {t0_0 : Int32} {t0_1 : Int32} {t0_2 : Int32} {t0_3 : Int32} {t0_4 : Int32} {t0_5 : Int32} {t0_6 : Int32} {t0_7 : Int32} {t0_8 : Int32} {t0_9 : Int32} {t0_10 : Int32} {t0_11 : Int32} {t0_12 : Int32} {t0_13 : Int32} {t0_14 : Int32} {t0_15 : Int32} {t0_16 : Int32} {t0_17 : Int32} {t0_18 : Int32} {t0_19 : Int32} {t0_20 : Int32} {t0_21 : Int32} {t1_0 : (Nat → Int32)} {N m : Nat} {pt k : Int} (h : zFp t0_20 t0_21 t1_0 N m pt) (hx : x2.toInt = k) : (F_VR_figureAt x2 t0_0 t0_1 t0_2 t0_3 t0_4 t0_5 t0_6 t0_7 t0_8 t0_9 t0_10 t0_11 t0_12 t0_13 t0_14 t0_15 t0_16 t0_17 t0_18 t0_19 t0_20 t0_21 t1_0).toInt = ((yFz N ((m : Int) - 1 - k) : Nat) : Int) := by
  have e0 : (0 : Int32).toInt = 0 := rfl
  obtain ⟨h1, h2, h3, h4, h5, h6⟩ := h
  unfold F_VR_figureAt yFz
  by_cases c : x2 < 0
  · rw [if_pos c]
    have c' := q_ltI c
    have : yLo N ((m : Int) - 1 - k).toNat = 0 := y_lo0 (Nat.lt_of_lt_of_le h6 (Nat.pow_le_pow_right (by decide) (by omega)))
    rw [this]
    split <;> rfl
  · rw [if_neg c]
    have c' := q_nltI c
    by_cases d : t0_20 ≤ x2
    · rw [if_pos d]
      have d' := q_leI d
      rw [if_pos (by omega)]
      rfl
    · rw [if_neg d]
      have d' := q_nleI d
      rw [if_neg (by omega), show x2.toNatClampNeg = k.toNat by show x2.toInt.toNat = _; rw [hx]]
      have := h5 k.toNat (by omega)
      rw [this, show m - 1 - k.toNat = ((m : Int) - 1 - k).toNat by omega]
      rfl
theorem Z_48 {x : Int32} {N : Nat} {z : Int} (h : x.toInt = ((yFz N z : Nat) : Int)) : (48 + x).toInt = ((48 + yFz N z : Nat) : Int) := by
  have := yFz_9 N z
  rw [q_addI (x := 48) rfl h (by omega) (by omega)]
  omega
theorem Z_pl103 {K_F_VR_plain_L21 : Int32 → Int32 → (Nat → Int32) → (Int32 × (Nat → Int32))} {x2 : Int32} {t0_0 : Int32} {t0_1 : Int32} {t0_2 : Int32} {t0_3 : Int32} {t0_4 : Int32} {t0_5 : Int32} {t0_6 : Int32} {t0_7 : Int32} {t0_8 : Int32} {t0_9 : Int32} {t0_10 : Int32} {t0_11 : Int32} {t0_12 : Int32} {t0_13 : Int32} {t0_14 : Int32} {t0_15 : Int32} {t0_16 : Int32} {t0_17 : Int32} {t0_18 : Int32} {t0_19 : Int32} {t0_20 : Int32} {t0_21 : Int32} {t1_0 : (Nat → Int32)} {t2_0 : (Nat → Int32)} {lx35 : Int32} {lx46 : Int32} {lx47 : Int32} {lx48 : (Nat → Int32)} {lx63 : Int32} {lx64 : (Nat → Int32)} {N m bh : Nat} {pt : Int} (h : zFp t0_20 t0_21 t2_0 N m pt) (hb : x2.toInt = (bh : Int)) (hb2 : bh ≤ 20000) : ∀ (n : Nat) (lx76 : Int32) (lx77 : Int32) (lx78 : (Nat → Int32)), ∀ (k : Nat) (l : List Nat), lx76.toInt = (k : Int) → k ≤ bh → bh < n + k → yRt lx77 lx78 l → l.length + (bh - k) < 100000 → yRt (F_VR_plain_L103 K_F_VR_plain_L21 x2 t0_0 t0_1 t0_2 t0_3 t0_4 t0_5 t0_6 t0_7 t0_8 t0_9 t0_10 t0_11 t0_12 t0_13 t0_14 t0_15 t0_16 t0_17 t0_18 t0_19 t0_20 t0_21 t1_0 t2_0 lx35 lx46 lx47 lx48 lx63 lx64 n lx76 lx77 lx78).1 (F_VR_plain_L103 K_F_VR_plain_L21 x2 t0_0 t0_1 t0_2 t0_3 t0_4 t0_5 t0_6 t0_7 t0_8 t0_9 t0_10 t0_11 t0_12 t0_13 t0_14 t0_15 t0_16 t0_17 t0_18 t0_19 t0_20 t0_21 t1_0 t2_0 lx35 lx46 lx47 lx48 lx63 lx64 n lx76 lx77 lx78).2 (l ++ yDz N ((m : Int) - pt - 1 - k) (bh - k)) := by
  intro n
  induction n with
  | zero =>
    intro _ _ _ k l _ q1 q2
    omega
  | succ n ih =>
    intro lx76 lx77 lx78 k l h1 h2 h3 h4 h5
    unfold F_VR_plain_L103
    by_cases c : x2 ≤ lx76
    · rw [if_pos c]
      have c' := q_leI c
      rw [show bh - k = 0 by omega]
      show yRt lx77 lx78 (l ++ [])
      rw [List.append_nil]
      exact h4
    · rw [if_neg c]
      have c' := q_nleI c
      have pb := h.2.2.2.1
      have f := Z_fAt (x2 := t0_21 + lx76) (t0_0 := t0_0) (t0_1 := t0_1) (t0_2 := t0_2) (t0_3 := t0_3) (t0_4 := t0_4) (t0_5 := t0_5) (t0_6 := t0_6) (t0_7 := t0_7) (t0_8 := t0_8) (t0_9 := t0_9) (t0_10 := t0_10) (t0_11 := t0_11) (t0_12 := t0_12) (t0_13 := t0_13) (t0_14 := t0_14) (t0_15 := t0_15) (t0_16 := t0_16) (t0_17 := lx77) (t0_18 := t0_18) (t0_19 := t0_19) (t0_20 := t0_20) (t0_21 := t0_21) h (q_addI h.2.1 h1 (by omega) (by omega))
      have w := Z_put (t0_0 := t0_0) (t0_1 := t0_1) (t0_2 := t0_2) (t0_3 := t0_3) (t0_4 := t0_4) (t0_5 := t0_5) (t0_6 := t0_6) (t0_7 := t0_7) (t0_8 := t0_8) (t0_9 := t0_9) (t0_10 := t0_10) (t0_11 := t0_11) (t0_12 := t0_12) (t0_13 := t0_13) (t0_14 := t0_14) (t0_15 := t0_15) (t0_16 := t0_16) (t0_17 := lx77) (t0_18 := t0_18) (t0_19 := t0_19) (t0_20 := t0_20) (t0_21 := t0_21) h4 (by omega) (Z_48 f)
      revert w
      generalize F_VR_put (48 + F_VR_figureAt (t0_21 + lx76) t0_0 t0_1 t0_2 t0_3 t0_4 t0_5 t0_6 t0_7 t0_8 t0_9 t0_10 t0_11 t0_12 t0_13 t0_14 t0_15 t0_16 lx77 t0_18 t0_19 t0_20 t0_21 t2_0) t0_0 t0_1 t0_2 t0_3 t0_4 t0_5 t0_6 t0_7 t0_8 t0_9 t0_10 t0_11 t0_12 t0_13 t0_14 t0_15 t0_16 lx77 t0_18 t0_19 t0_20 t0_21 lx78 = p
      intro w
      unfold F_VR_plain_c122
      obtain ⟨j, hj⟩ : ∃ j, bh - k = j + 1 := ⟨bh - k - 1, by omega⟩
      rw [hj, yDz_app]
      have r := ih (lx76 + 1) p.1 p.2 (k + 1) (l ++ [48 + yFz N ((m : Int) - 1 - (pt + (k : Int)))]) (by rw [q_addI (y := 1) h1 rfl (by omega) (by omega)]; omega) (by omega) (by omega) w (by rw [List.length_append]; show l.length + 1 + _ < _; omega)
      rw [show bh - (k + 1) = j by omega, show (m : Int) - pt - 1 - ((k + 1 : Nat) : Int) = (m : Int) - pt - 1 - (k : Int) - 1 by omega, show (m : Int) - 1 - (pt + (k : Int)) = (m : Int) - pt - 1 - (k : Int) by omega] at r
      exact r
theorem Z_mod3 {x : Int32} {B : Nat} (h : x.toInt = (B : Int)) (hB : B ≤ 1000000) : (x - x / 3 * 3 : Int32) = 0 ↔ B % 3 = 0 := by
  have d : (x / 3).toInt = (B : Int) / 3 := q_divI (y := 3) h rfl (by omega) (by decide)
  have m : (x / 3 * 3).toInt = (B : Int) / 3 * 3 := q_mulI (y := 3) d rfl (by omega) (by omega)
  have s : (x - x / 3 * 3).toInt = (B : Int) - (B : Int) / 3 * 3 := q_subI h m (by omega) (by omega)
  rw [← Int32.toInt_inj, s]
  have e0 : (0 : Int32).toInt = 0 := rfl
  rw [e0]
  omega
/-- what is still to come of the figures before the point: B of them -/
def zRs (N : Nat) (s : Int) (cm : Int32) (B : Nat) (fst : Prop) : List Nat → Prop := fun r => (fst ∧ r = yPlA N s cm B) ∨ (¬ fst ∧ r = (if cm ≠ 0 ∧ 0 < B ∧ B % 3 = 0 then [44] else []) ++ yPlA N s cm B)
theorem Z_plL {x2 : Int32} {t0_0 : Int32} {t0_1 : Int32} {t0_2 : Int32} {t0_3 : Int32} {t0_4 : Int32} {t0_5 : Int32} {t0_6 : Int32} {t0_7 : Int32} {t0_8 : Int32} {t0_9 : Int32} {t0_10 : Int32} {t0_11 : Int32} {t0_12 : Int32} {t0_13 : Int32} {t0_14 : Int32} {t0_15 : Int32} {t0_16 : Int32} {t0_17 : Int32} {t0_18 : Int32} {t0_19 : Int32} {t0_20 : Int32} {t0_21 : Int32} {t1_0 : (Nat → Int32)} {t2_0 : (Nat → Int32)} {lx35 : Int32} {N m bh : Nat} {pt fs : Int} (h : zFp t0_20 t0_21 t2_0 N m pt) (hb : x2.toInt = (bh : Int)) (hb2 : bh ≤ 20000) (hf : lx35.toInt = fs) (hf2 : fs ≤ pt) : ∀ (n : Nat) (lx46 : Int32) (lx47 : Int32) (lx48 : (Nat → Int32)), ∀ (B : Nat) (l r : List Nat), lx46.toInt = pt - (B : Int) → fs ≤ pt - (B : Int) → B ≤ 100 → B < n → yRt lx47 lx48 l → l.length + 2 * B < 50000 → zRs N ((m : Int) - pt) (t0_9 &&& 16) B (pt - (B : Int) ≤ fs) r → yRt (F_VR_plain_L21 x2 t0_0 t0_1 t0_2 t0_3 t0_4 t0_5 t0_6 t0_7 t0_8 t0_9 t0_10 t0_11 t0_12 t0_13 t0_14 t0_15 t0_16 t0_17 t0_18 t0_19 t0_20 t0_21 t1_0 t2_0 lx35 n lx46 lx47 lx48).1 (F_VR_plain_L21 x2 t0_0 t0_1 t0_2 t0_3 t0_4 t0_5 t0_6 t0_7 t0_8 t0_9 t0_10 t0_11 t0_12 t0_13 t0_14 t0_15 t0_16 t0_17 t0_18 t0_19 t0_20 t0_21 t1_0 t2_0 lx35 n lx46 lx47 lx48).2 (l ++ (r ++ yTail N ((m : Int) - pt) bh (t0_9 &&& 2))) := by
  have e0 : (0 : Int32).toInt = 0 := rfl
  have pb := h.2.2.2.1
  intro n
  induction n with
  | zero =>
    intro _ _ _ B l r _ _ _ q
    omega
  | succ n ih =>
    intro lx46 lx47 lx48 B l r h1 h2 h3 h4 h5 h6 h7
    unfold F_VR_plain_L21
    by_cases c : t0_21 ≤ lx46
    · rw [if_pos c]
      have c' := q_leI c
      have B0 : B = 0 := by have := h.2.1; omega
      have r0 : r = [] := by
        subst B0
        rcases h7 with ⟨_, e⟩ | ⟨_, e⟩
        · exact e
        · rw [if_neg (fun z => absurd z.2.1 (Nat.lt_irrefl 0))] at e
          exact e
      rw [r0, List.nil_append]
      have J : ∀ (s : Int32) (f : Nat → Int32) (l2 : List Nat), yRt s f l2 → l2.length ≤ l.length + 1 → yRt (F_VR_plain_J101 (F_VR_plain_L21 x2 t0_0 t0_1 t0_2 t0_3 t0_4 t0_5 t0_6 t0_7 t0_8 t0_9 t0_10 t0_11 t0_12 t0_13 t0_14 t0_15 t0_16 t0_17 t0_18 t0_19 t0_20 t0_21 t1_0 t2_0 lx35 n) x2 t0_0 t0_1 t0_2 t0_3 t0_4 t0_5 t0_6 t0_7 t0_8 t0_9 t0_10 t0_11 t0_12 t0_13 t0_14 t0_15 t0_16 t0_17 t0_18 t0_19 t0_20 t0_21 t1_0 t2_0 lx35 lx46 lx47 lx48 s f).1 (F_VR_plain_J101 (F_VR_plain_L21 x2 t0_0 t0_1 t0_2 t0_3 t0_4 t0_5 t0_6 t0_7 t0_8 t0_9 t0_10 t0_11 t0_12 t0_13 t0_14 t0_15 t0_16 t0_17 t0_18 t0_19 t0_20 t0_21 t1_0 t2_0 lx35 n) x2 t0_0 t0_1 t0_2 t0_3 t0_4 t0_5 t0_6 t0_7 t0_8 t0_9 t0_10 t0_11 t0_12 t0_13 t0_14 t0_15 t0_16 t0_17 t0_18 t0_19 t0_20 t0_21 t1_0 t2_0 lx35 lx46 lx47 lx48 s f).2 (l2 ++ yDz N ((m : Int) - pt - 1) bh) := by
        intro s f l2 hs hl
        unfold F_VR_plain_J101
        have q := Z_pl103 (K_F_VR_plain_L21 := F_VR_plain_L21 x2 t0_0 t0_1 t0_2 t0_3 t0_4 t0_5 t0_6 t0_7 t0_8 t0_9 t0_10 t0_11 t0_12 t0_13 t0_14 t0_15 t0_16 t0_17 t0_18 t0_19 t0_20 t0_21 t1_0 t2_0 lx35 n) (x2 := x2) (t0_0 := t0_0) (t0_1 := t0_1) (t0_2 := t0_2) (t0_3 := t0_3) (t0_4 := t0_4) (t0_5 := t0_5) (t0_6 := t0_6) (t0_7 := t0_7) (t0_8 := t0_8) (t0_9 := t0_9) (t0_10 := t0_10) (t0_11 := t0_11) (t0_12 := t0_12) (t0_13 := t0_13) (t0_14 := t0_14) (t0_15 := t0_15) (t0_16 := t0_16) (t0_17 := t0_17) (t0_18 := t0_18) (t0_19 := t0_19) (t0_20 := t0_20) (t0_21 := t0_21) (t1_0 := t1_0) (t2_0 := t2_0) (lx35 := lx35) (lx46 := lx46) (lx47 := lx47) (lx48 := lx48) (lx63 := s) (lx64 := f) h hb hb2 ((x2.toInt - (0 : Int32).toInt).toNat + 1) 0 s f 0 l2 rfl (Nat.zero_le _) (by omega) hs (by omega)
        rw [Nat.sub_zero, show (m : Int) - pt - 1 - ((0 : Nat) : Int) = (m : Int) - pt - 1 by omega] at q
        exact q
      have JP : yRt (F_VR_plain_J95 (F_VR_plain_L21 x2 t0_0 t0_1 t0_2 t0_3 t0_4 t0_5 t0_6 t0_7 t0_8 t0_9 t0_10 t0_11 t0_12 t0_13 t0_14 t0_15 t0_16 t0_17 t0_18 t0_19 t0_20 t0_21 t1_0 t2_0 lx35 n) x2 t0_0 t0_1 t0_2 t0_3 t0_4 t0_5 t0_6 t0_7 t0_8 t0_9 t0_10 t0_11 t0_12 t0_13 t0_14 t0_15 t0_16 t0_17 t0_18 t0_19 t0_20 t0_21 t1_0 t2_0 lx35 lx46 lx47 lx48).1 (F_VR_plain_J95 (F_VR_plain_L21 x2 t0_0 t0_1 t0_2 t0_3 t0_4 t0_5 t0_6 t0_7 t0_8 t0_9 t0_10 t0_11 t0_12 t0_13 t0_14 t0_15 t0_16 t0_17 t0_18 t0_19 t0_20 t0_21 t1_0 t2_0 lx35 n) x2 t0_0 t0_1 t0_2 t0_3 t0_4 t0_5 t0_6 t0_7 t0_8 t0_9 t0_10 t0_11 t0_12 t0_13 t0_14 t0_15 t0_16 t0_17 t0_18 t0_19 t0_20 t0_21 t1_0 t2_0 lx35 lx46 lx47 lx48).2 (l ++ [46] ++ yDz N ((m : Int) - pt - 1) bh) := by
        unfold F_VR_plain_J95
        have w := Z_put (x2 := 46) (v := 46) (t0_0 := t0_0) (t0_1 := t0_1) (t0_2 := t0_2) (t0_3 := t0_3) (t0_4 := t0_4) (t0_5 := t0_5) (t0_6 := t0_6) (t0_7 := t0_7) (t0_8 := t0_8) (t0_9 := t0_9) (t0_10 := t0_10) (t0_11 := t0_11) (t0_12 := t0_12) (t0_13 := t0_13) (t0_14 := t0_14) (t0_15 := t0_15) (t0_16 := t0_16) (t0_17 := lx47) (t0_18 := t0_18) (t0_19 := t0_19) (t0_20 := t0_20) (t0_21 := t0_21) h5 (by omega) rfl
        revert w
        generalize F_VR_put 46 t0_0 t0_1 t0_2 t0_3 t0_4 t0_5 t0_6 t0_7 t0_8 t0_9 t0_10 t0_11 t0_12 t0_13 t0_14 t0_15 t0_16 lx47 t0_18 t0_19 t0_20 t0_21 lx48 = p
        intro w
        unfold F_VR_plain_c98
        exact J _ _ _ w (by rw [List.length_append]; exact Nat.le_refl _)
      unfold yTail
      rw [Z_hasR (k := 2) rfl]
      by_cases d : 0 < x2
      · rw [if_pos d]
        have d' := q_ltI d
        rw [if_pos (Or.inl (by omega)), ← List.append_assoc]
        exact JP
      · rw [if_neg d]
        have d' := q_nltI d
        by_cases g : t0_9 &&& 2 = 0
        · rw [if_pos g, if_pos (rfl : (0 : Int32) = 0), if_neg (fun z => z.elim (fun z => by omega) (fun z => z g)), List.nil_append]
          exact J _ _ _ h5 (by omega)
        · rw [if_neg g, if_neg (show ¬ (1 : Int32) = 0 by decide), if_pos (Or.inr g), ← List.append_assoc]
          exact JP
    · rw [if_neg c]
      have c' := q_nleI c
      have ptE := h.2.1
      obtain ⟨j, hj⟩ : ∃ j, B = j + 1 := ⟨B - 1, by omega⟩
      have fa : ∀ s : Int32, (48 + F_VR_figureAt lx46 t0_0 t0_1 t0_2 t0_3 t0_4 t0_5 t0_6 t0_7 t0_8 t0_9 t0_10 t0_11 t0_12 t0_13 t0_14 t0_15 t0_16 s t0_18 t0_19 t0_20 t0_21 t2_0).toInt = ((48 + yFz N ((j : Int) + ((m : Int) - pt)) : Nat) : Int) := by
        intro s
        have f := Z_fAt (x2 := lx46) (t0_0 := t0_0) (t0_1 := t0_1) (t0_2 := t0_2) (t0_3 := t0_3) (t0_4 := t0_4) (t0_5 := t0_5) (t0_6 := t0_6) (t0_7 := t0_7) (t0_8 := t0_8) (t0_9 := t0_9) (t0_10 := t0_10) (t0_11 := t0_11) (t0_12 := t0_12) (t0_13 := t0_13) (t0_14 := t0_14) (t0_15 := t0_15) (t0_16 := t0_16) (t0_17 := s) (t0_18 := t0_18) (t0_19 := t0_19) (t0_20 := t0_20) (t0_21 := t0_21) h h1
        rw [show (m : Int) - 1 - (pt - (B : Int)) = (j : Int) + ((m : Int) - pt) by omega] at f
        exact Z_48 f
      have pl : yPlA N ((m : Int) - pt) (t0_9 &&& 16) B = (48 + yFz N ((j : Int) + ((m : Int) - pt))) :: ((if (t0_9 &&& 16) ≠ 0 ∧ 0 < j ∧ j % 3 = 0 then [44] else []) ++ yPlA N ((m : Int) - pt) (t0_9 &&& 16) j) := by
        rw [hj]
        rfl
      have hn1 : (lx46 + 1).toInt = pt - (j : Int) := by
        rw [q_addI (y := 1) h1 rfl (by omega) (by omega)]
        omega
      have nx : ∀ (p : Int32 × (Nat → Int32)) (l2 : List Nat), yRt p.1 p.2 (l2 ++ [48 + yFz N ((j : Int) + ((m : Int) - pt))]) → l2.length ≤ l.length + 1 → yRt (F_VR_plain_L21 x2 t0_0 t0_1 t0_2 t0_3 t0_4 t0_5 t0_6 t0_7 t0_8 t0_9 t0_10 t0_11 t0_12 t0_13 t0_14 t0_15 t0_16 t0_17 t0_18 t0_19 t0_20 t0_21 t1_0 t2_0 lx35 n (lx46 + 1) p.1 p.2).1 (F_VR_plain_L21 x2 t0_0 t0_1 t0_2 t0_3 t0_4 t0_5 t0_6 t0_7 t0_8 t0_9 t0_10 t0_11 t0_12 t0_13 t0_14 t0_15 t0_16 t0_17 t0_18 t0_19 t0_20 t0_21 t1_0 t2_0 lx35 n (lx46 + 1) p.1 p.2).2 (l2 ++ (yPlA N ((m : Int) - pt) (t0_9 &&& 16) B ++ yTail N ((m : Int) - pt) bh (t0_9 &&& 2))) := by
        intro p l2 hp hl
        have q := ih (lx46 + 1) p.1 p.2 j (l2 ++ [48 + yFz N ((j : Int) + ((m : Int) - pt))]) ((if (t0_9 &&& 16) ≠ 0 ∧ 0 < j ∧ j % 3 = 0 then [44] else []) ++ yPlA N ((m : Int) - pt) (t0_9 &&& 16) j) hn1 (by omega) (by omega) (by omega) hp (by rw [List.length_append]; show l2.length + 1 + _ < _; omega) (Or.inr ⟨by omega, rfl⟩)
        rw [pl]
        rw [List.append_assoc] at q
        exact q
      have one : ∀ s : Int32, F_VR_has 44 t0_0 t0_1 t0_2 t0_3 t0_4 t0_5 t0_6 t0_7 t0_8 t0_9 t0_10 t0_11 t0_12 t0_13 t0_14 t0_15 t0_16 s t0_18 t0_19 t0_20 t0_21 = if t0_9 &&& 16 = 0 then 0 else 1 := fun s => Z_hasR (k := 16) rfl
      rw [one lx47]
      have dir : r = yPlA N ((m : Int) - pt) (t0_9 &&& 16) B → ∀ p, p = F_VR_put (48 + F_VR_figureAt lx46 t0_0 t0_1 t0_2 t0_3 t0_4 t0_5 t0_6 t0_7 t0_8 t0_9 t0_10 t0_11 t0_12 t0_13 t0_14 t0_15 t0_16 lx47 t0_18 t0_19 t0_20 t0_21 t2_0) t0_0 t0_1 t0_2 t0_3 t0_4 t0_5 t0_6 t0_7 t0_8 t0_9 t0_10 t0_11 t0_12 t0_13 t0_14 t0_15 t0_16 lx47 t0_18 t0_19 t0_20 t0_21 lx48 → yRt (F_VR_plain_L21 x2 t0_0 t0_1 t0_2 t0_3 t0_4 t0_5 t0_6 t0_7 t0_8 t0_9 t0_10 t0_11 t0_12 t0_13 t0_14 t0_15 t0_16 t0_17 t0_18 t0_19 t0_20 t0_21 t1_0 t2_0 lx35 n (lx46 + 1) p.1 p.2).1 (F_VR_plain_L21 x2 t0_0 t0_1 t0_2 t0_3 t0_4 t0_5 t0_6 t0_7 t0_8 t0_9 t0_10 t0_11 t0_12 t0_13 t0_14 t0_15 t0_16 t0_17 t0_18 t0_19 t0_20 t0_21 t1_0 t2_0 lx35 n (lx46 + 1) p.1 p.2).2 (l ++ (r ++ yTail N ((m : Int) - pt) bh (t0_9 &&& 2))) := by
        intro e p hp
        have w := Z_put (t0_0 := t0_0) (t0_1 := t0_1) (t0_2 := t0_2) (t0_3 := t0_3) (t0_4 := t0_4) (t0_5 := t0_5) (t0_6 := t0_6) (t0_7 := t0_7) (t0_8 := t0_8) (t0_9 := t0_9) (t0_10 := t0_10) (t0_11 := t0_11) (t0_12 := t0_12) (t0_13 := t0_13) (t0_14 := t0_14) (t0_15 := t0_15) (t0_16 := t0_16) (t0_17 := lx47) (t0_18 := t0_18) (t0_19 := t0_19) (t0_20 := t0_20) (t0_21 := t0_21) h5 (by omega) (fa lx47)
        rw [← hp] at w
        rw [e]
        exact nx p l w (by omega)
      by_cases d : t0_9 &&& 16 = 0
      · rw [if_pos d, if_pos (rfl : (0 : Int32) = 0)]
        unfold F_VR_plain_c73
        refine dir ?_ _ rfl
        rcases h7 with ⟨_, e⟩ | ⟨_, e⟩
        · exact e
        · rw [if_neg (fun z => z.1 d)] at e
          exact e
      · rw [if_neg d, if_neg (show ¬ (1 : Int32) = 0 by decide)]
        by_cases g : lx46 ≤ lx35
        · rw [if_pos g]
          have g' := q_leI g
          unfold F_VR_plain_c73_9
          refine dir ?_ _ rfl
          rcases h7 with ⟨_, e⟩ | ⟨z, _⟩
          · exact e
          · omega
        · rw [if_neg g]
          have g' := q_nleI g
          have e : r = (if (t0_9 &&& 16) ≠ 0 ∧ 0 < B ∧ B % 3 = 0 then [44] else []) ++ yPlA N ((m : Int) - pt) (t0_9 &&& 16) B := by
            rcases h7 with ⟨z, _⟩ | ⟨_, e⟩
            · omega
            · exact e
          have sb : (t0_21 - lx46).toInt = (B : Int) := by
            rw [q_subI ptE h1 (by omega) (by omega)]
            omega
          have m3 := Z_mod3 sb (by omega)
          by_cases k : (t0_21 - lx46 - (t0_21 - lx46) / 3 * 3 : Int32) = 0
          · rw [if_pos k]
            rw [if_pos ⟨d, by omega, m3.mp k⟩] at e
            have w := Z_put (x2 := 44) (v := 44) (t0_0 := t0_0) (t0_1 := t0_1) (t0_2 := t0_2) (t0_3 := t0_3) (t0_4 := t0_4) (t0_5 := t0_5) (t0_6 := t0_6) (t0_7 := t0_7) (t0_8 := t0_8) (t0_9 := t0_9) (t0_10 := t0_10) (t0_11 := t0_11) (t0_12 := t0_12) (t0_13 := t0_13) (t0_14 := t0_14) (t0_15 := t0_15) (t0_16 := t0_16) (t0_17 := lx47) (t0_18 := t0_18) (t0_19 := t0_19) (t0_20 := t0_20) (t0_21 := t0_21) h5 (by omega) rfl
            revert w
            generalize F_VR_put 44 t0_0 t0_1 t0_2 t0_3 t0_4 t0_5 t0_6 t0_7 t0_8 t0_9 t0_10 t0_11 t0_12 t0_13 t0_14 t0_15 t0_16 lx47 t0_18 t0_19 t0_20 t0_21 lx48 = p
            intro w
            unfold F_VR_plain_c61
            have w2 := Z_put (t0_0 := t0_0) (t0_1 := t0_1) (t0_2 := t0_2) (t0_3 := t0_3) (t0_4 := t0_4) (t0_5 := t0_5) (t0_6 := t0_6) (t0_7 := t0_7) (t0_8 := t0_8) (t0_9 := t0_9) (t0_10 := t0_10) (t0_11 := t0_11) (t0_12 := t0_12) (t0_13 := t0_13) (t0_14 := t0_14) (t0_15 := t0_15) (t0_16 := t0_16) (t0_17 := p.1) (t0_18 := t0_18) (t0_19 := t0_19) (t0_20 := t0_20) (t0_21 := t0_21) w (by rw [List.length_append]; show l.length + 1 < _; omega) (fa p.1)
            revert w2
            generalize F_VR_put (48 + F_VR_figureAt lx46 t0_0 t0_1 t0_2 t0_3 t0_4 t0_5 t0_6 t0_7 t0_8 t0_9 t0_10 t0_11 t0_12 t0_13 t0_14 t0_15 t0_16 p.1 t0_18 t0_19 t0_20 t0_21 t2_0) t0_0 t0_1 t0_2 t0_3 t0_4 t0_5 t0_6 t0_7 t0_8 t0_9 t0_10 t0_11 t0_12 t0_13 t0_14 t0_15 t0_16 p.1 t0_18 t0_19 t0_20 t0_21 p.2 = p2
            intro w2
            unfold F_VR_plain_c73_12
            rw [e]
            have q := nx p2 (l ++ [44]) w2 (by rw [List.length_append]; exact Nat.le_refl _)
            rw [List.append_assoc] at q
            rw [List.append_assoc]
            exact q
          · rw [if_neg k]
            rw [if_neg (fun z => k (m3.mpr z.2.2)), List.nil_append] at e
            unfold F_VR_plain_c73_10
            exact dir e _ rfl
theorem Z_plain {x2 : Int32} {t0_0 : Int32} {t0_1 : Int32} {t0_2 : Int32} {t0_3 : Int32} {t0_4 : Int32} {t0_5 : Int32} {t0_6 : Int32} {t0_7 : Int32} {t0_8 : Int32} {t0_9 : Int32} {t0_10 : Int32} {t0_11 : Int32} {t0_12 : Int32} {t0_13 : Int32} {t0_14 : Int32} {t0_15 : Int32} {t0_16 : Int32} {t0_17 : Int32} {t0_18 : Int32} {t0_19 : Int32} {t0_20 : Int32} {t0_21 : Int32} {t1_0 : (Nat → Int32)} {t2_0 : (Nat → Int32)} {N m bh : Nat} {pt : Int} {l : List Nat} (h : zFp t0_20 t0_21 t2_0 N m pt) (hp : pt ≤ 90) (hb : x2.toInt = (bh : Int)) (hb2 : bh ≤ 20000) (hl : yRt t0_17 t1_0 l) (hl2 : l.length ≤ 1000) : yRt (F_VR_plain x2 t0_0 t0_1 t0_2 t0_3 t0_4 t0_5 t0_6 t0_7 t0_8 t0_9 t0_10 t0_11 t0_12 t0_13 t0_14 t0_15 t0_16 t0_17 t0_18 t0_19 t0_20 t0_21 t1_0 t2_0).1 (F_VR_plain x2 t0_0 t0_1 t0_2 t0_3 t0_4 t0_5 t0_6 t0_7 t0_8 t0_9 t0_10 t0_11 t0_12 t0_13 t0_14 t0_15 t0_16 t0_17 t0_18 t0_19 t0_20 t0_21 t1_0 t2_0).2 (l ++ (yPlA N ((m : Int) - pt) (t0_9 &&& 16) (max pt 1).toNat ++ yTail N ((m : Int) - pt) bh (t0_9 &&& 2))) := by
  have e1 : (1 : Int32).toInt = 1 := rfl
  have e0 : (0 : Int32).toInt = 0 := rfl
  have pb := h.2.2.2.1
  have pE := h.2.1
  unfold F_VR_plain
  by_cases c : 1 ≤ t0_21
  · rw [if_pos c]
    have c' := q_leI c
    unfold F_VR_plain_J18
    exact Z_plL (fs := 0) h hb hb2 rfl (by omega) 1000000 0 t0_17 t1_0 (max pt 1).toNat l _ (by rw [e0]; omega) (by omega) (by omega) (by omega) hl (by omega) (Or.inl ⟨by omega, rfl⟩)
  · rw [if_neg c]
    have c' := q_nleI c
    unfold F_VR_plain_J18
    have s1 : (t0_21 - 1).toInt = pt - 1 := q_subI (b := 1) (y := 1) pE rfl (by omega) (by omega)
    exact Z_plL (fs := pt - 1) h hb hb2 s1 (by omega) 1000000 (t0_21 - 1) t0_17 t1_0 (max pt 1).toNat l _ (by rw [s1]; omega) (by omega) (by omega) (by omega) hl (by omega) (Or.inl ⟨by omega, rfl⟩)

