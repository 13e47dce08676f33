/-! values, for whole: a directive, parsed by the reference -/
/-- the format: its length and its bytes -/
def zFm (len : Int32) (row : Nat → Int32) (L : Nat) (B : Nat → Int) : Prop := len.toInt = (L : Int) ∧ L ≤ 256 ∧ yTr row L B ∧ ∀ i, i < L → 0 ≤ B i ∧ B i ≤ 255
theorem Z_here {t0_0 : Int32} {t0_1 : Int32} {t0_2 : Int32} {t0_3 : Int32} {t0_4 : Int32} {t0_5 : Int32} {t0_6 : Int32} {t0_7 : Int32} {t0_8 : Int32} {t0_9 : Int32} {t0_10 : Int32} {t0_11 : Int32} {t0_12 : Int32} {t0_13 : Int32} {t0_14 : Int32} {t0_15 : Int32} {t0_16 : Int32} {t0_17 : Int32} {t0_18 : Int32} {t0_19 : Int32} {t0_20 : Int32} {t0_21 : Int32} {t1_0 : (Nat → Int32)} {L p : Nat} {B : Nat → Int} (h : zFm t0_1 t1_0 L B) (hp : t0_7.toInt = (p : Int)) : (F_VR_here t0_0 t0_1 t0_2 t0_3 t0_4 t0_5 t0_6 t0_7 t0_8 t0_9 t0_10 t0_11 t0_12 t0_13 t0_14 t0_15 t0_16 t0_17 t0_18 t0_19 t0_20 t0_21 t1_0).toInt = if p < L then B p else -1 := by
  have h1 := h.1
  unfold F_VR_here
  by_cases c : t0_1 ≤ t0_7
  · rw [if_pos c]
    have c' := q_leI c
    rw [if_neg (by omega)]
    rfl
  · rw [if_neg c]
    have c' := q_nleI c
    rw [if_pos (by omega), show t0_7.toNatClampNeg = p by show t0_7.toInt.toNat = p; omega]
    exact h.2.2.1 p (by omega)
theorem Z_isD {t0_0 : Int32} {t0_1 : Int32} {t0_2 : Int32} {t0_3 : Int32} {t0_4 : Int32} {t0_5 : Int32} {t0_6 : Int32} {t0_7 : Int32} {t0_8 : Int32} {t0_9 : Int32} {t0_10 : Int32} {t0_11 : Int32} {t0_12 : Int32} {t0_13 : Int32} {t0_14 : Int32} {t0_15 : Int32} {t0_16 : Int32} {t0_17 : Int32} {t0_18 : Int32} {t0_19 : Int32} {t0_20 : Int32} {t0_21 : Int32} {t1_0 : (Nat → Int32)} {L p : Nat} {B : Nat → Int} (h : zFm t0_1 t1_0 L B) (hp : t0_7.toInt = (p : Int)) : ((F_VR_isDigit t0_0 t0_1 t0_2 t0_3 t0_4 t0_5 t0_6 t0_7 t0_8 t0_9 t0_10 t0_11 t0_12 t0_13 t0_14 t0_15 t0_16 t0_17 t0_18 t0_19 t0_20 t0_21 t1_0) = 1 ∧ p < L ∧ 48 ≤ B p ∧ B p ≤ 57) ∨ ((F_VR_isDigit t0_0 t0_1 t0_2 t0_3 t0_4 t0_5 t0_6 t0_7 t0_8 t0_9 t0_10 t0_11 t0_12 t0_13 t0_14 t0_15 t0_16 t0_17 t0_18 t0_19 t0_20 t0_21 t1_0) = 0 ∧ ¬ (p < L ∧ 48 ≤ B p ∧ B p ≤ 57)) := by
  have a := Z_here (t0_0 := t0_0) (t0_1 := t0_1) (t0_2 := t0_2) (t0_3 := t0_3) (t0_4 := t0_4) (t0_5 := t0_5) (t0_6 := t0_6) (t0_7 := t0_7) (t0_8 := t0_8) (t0_9 := t0_9) (t0_10 := t0_10) (t0_11 := t0_11) (t0_12 := t0_12) (t0_13 := t0_13) (t0_14 := t0_14) (t0_15 := t0_15) (t0_16 := t0_16) (t0_17 := t0_17) (t0_18 := t0_18) (t0_19 := t0_19) (t0_20 := t0_20) (t0_21 := t0_21) h hp
  have e48 : (48 : Int32).toInt = 48 := rfl
  have e57 : (57 : Int32).toInt = 57 := rfl
  unfold F_VR_isDigit
  generalize F_VR_here t0_0 t0_1 t0_2 t0_3 t0_4 t0_5 t0_6 t0_7 t0_8 t0_9 t0_10 t0_11 t0_12 t0_13 t0_14 t0_15 t0_16 t0_17 t0_18 t0_19 t0_20 t0_21 t1_0 = c at a ⊢
  by_cases q : p < L
  · rw [if_pos q] at a
    by_cases g : c < 48
    · rw [if_pos g]
      exact Or.inr ⟨rfl, fun z => by have := q_ltI g; omega⟩
    · rw [if_neg g]
      have g' := q_nltI g
      by_cases g2 : 57 < c
      · rw [if_pos g2]
        exact Or.inr ⟨rfl, fun z => by have := q_ltI g2; omega⟩
      · rw [if_neg g2]
        have g3 := q_nltI g2
        exact Or.inl ⟨rfl, q, by omega, by omega⟩
  · rw [if_neg q] at a
    rw [if_pos (Int32.lt_iff_toInt_lt.mpr (by omega))]
    exact Or.inr ⟨rfl, fun z => q z.1⟩
theorem Z_nuL {t0_0 : Int32} {t0_1 : Int32} {t0_2 : Int32} {t0_3 : Int32} {t0_4 : Int32} {t0_5 : Int32} {t0_6 : Int32} {t0_7 : Int32} {t0_8 : Int32} {t0_9 : Int32} {t0_10 : Int32} {t0_11 : Int32} {t0_12 : Int32} {t0_13 : Int32} {t0_14 : Int32} {t0_15 : Int32} {t0_16 : Int32} {t0_17 : Int32} {t0_18 : Int32} {t0_19 : Int32} {t0_20 : Int32} {t0_21 : Int32} {t1_0 : (Nat → Int32)} {L p : Nat} {B : Nat → Int} (h : zFm t0_1 t1_0 L B) (hp : p ≤ L) : ∀ (n : Nat) (lx33 : Int32) (lx34 : Int32), ∀ i : Nat, lx34.toInt = (i : Int) → p ≤ i → i ≤ L → L < n + i → (∀ j, p ≤ j → j < i → 48 ≤ B j ∧ B j ≤ 57) → ((yDx B p (i - p) ≤ 9999 ∧ lx33.toInt = ((yDx B p (i - p) : Nat) : Int)) ∨ (9999 < yDx B p (i - p) ∧ 9999 < lx33.toInt ∧ lx33.toInt ≤ 99999)) → (F_VR_number_L2 t0_0 t0_1 t0_2 t0_3 t0_4 t0_5 t0_6 t0_7 t0_8 t0_9 t0_10 t0_11 t0_12 t0_13 t0_14 t0_15 t0_16 t0_17 t0_18 t0_19 t0_20 t0_21 t1_0 n lx33 lx34).1.toInt = ((yNm B L p : Nat) : Int) ∧ (F_VR_number_L2 t0_0 t0_1 t0_2 t0_3 t0_4 t0_5 t0_6 t0_7 t0_8 t0_9 t0_10 t0_11 t0_12 t0_13 t0_14 t0_15 t0_16 t0_17 t0_18 t0_19 t0_20 t0_21 t1_0 n lx33 lx34).2.toInt = ((yDe B L p : Nat) : Int) := by
  have e9 : (9999 : Int32).toInt = 9999 := rfl
  have h1 := h.1
  have hL := h.2.1
  intro n
  induction n with
  | zero =>
    intro _ _ i _ _ q1 q2
    omega
  | succ n ih =>
    intro lx33 lx34 i hi g1 g2 g3 g4 g5
    unfold F_VR_number_L2
    have a := Z_here (t0_0 := t0_0) (t0_1 := t0_1) (t0_2 := t0_2) (t0_3 := t0_3) (t0_4 := t0_4) (t0_5 := t0_5) (t0_6 := t0_6) (t0_7 := lx34) (t0_8 := t0_8) (t0_9 := t0_9) (t0_10 := t0_10) (t0_11 := t0_11) (t0_12 := t0_12) (t0_13 := t0_13) (t0_14 := t0_14) (t0_15 := t0_15) (t0_16 := t0_16) (t0_17 := t0_17) (t0_18 := t0_18) (t0_19 := t0_19) (t0_20 := t0_20) (t0_21 := t0_21) h hi
    have d := Z_isD (t0_0 := t0_0) (t0_1 := t0_1) (t0_2 := t0_2) (t0_3 := t0_3) (t0_4 := t0_4) (t0_5 := t0_5) (t0_6 := t0_6) (t0_7 := lx34) (t0_8 := t0_8) (t0_9 := t0_9) (t0_10 := t0_10) (t0_11 := t0_11) (t0_12 := t0_12) (t0_13 := t0_13) (t0_14 := t0_14) (t0_15 := t0_15) (t0_16 := t0_16) (t0_17 := t0_17) (t0_18 := t0_18) (t0_19 := t0_19) (t0_20 := t0_20) (t0_21 := t0_21) h hi
    generalize F_VR_isDigit t0_0 t0_1 t0_2 t0_3 t0_4 t0_5 t0_6 lx34 t0_8 t0_9 t0_10 t0_11 t0_12 t0_13 t0_14 t0_15 t0_16 t0_17 t0_18 t0_19 t0_20 t0_21 t1_0 = b at d ⊢
    rcases d with ⟨d1, d2⟩ | ⟨d1, d2⟩
    · rw [if_neg (by rw [d1]; decide)]
      rw [if_pos d2.1] at a
      generalize F_VR_here t0_0 t0_1 t0_2 t0_3 t0_4 t0_5 t0_6 lx34 t0_8 t0_9 t0_10 t0_11 t0_12 t0_13 t0_14 t0_15 t0_16 t0_17 t0_18 t0_19 t0_20 t0_21 t1_0 = c at a ⊢
      have st : yDx B p (i + 1 - p) = yDx B p (i - p) * 10 + (B i - 48).toNat := by
        rw [show i + 1 - p = (i - p) + 1 by omega, yDx_s, show p + (i - p) = i by omega]
      have hi1 : (lx34 + 1).toInt = ((i + 1 : Nat) : Int) := by
        rw [q_addI (y := 1) hi rfl (by omega) (by omega)]
        omega
      have dg : ∀ j, p ≤ j → j < i + 1 → 48 ≤ B j ∧ B j ≤ 57 := fun j j1 j2 => by
        by_cases e : j = i
        · rw [e]; exact d2.2
        · exact g4 j j1 (by omega)
      by_cases k : lx33 ≤ 9999
      · rw [if_pos k]
        have k' := q_leI k
        have v : yDx B p (i - p) ≤ 9999 ∧ lx33.toInt = ((yDx B p (i - p) : Nat) : Int) := by
          rcases g5 with z | z
          · exact z
          · omega
        have m1 : (10 * lx33 : Int32).toInt = 10 * ((yDx B p (i - p) : Nat) : Int) := q_mulI (x := 10) rfl v.2 (by omega) (by omega)
        have m2 := q_addI m1 a (by omega) (by omega)
        have m3 := q_subI (b := 48) (y := 48) m2 rfl (by omega) (by omega)
        refine ih _ _ (i + 1) hi1 (by omega) (by omega) (by omega) dg ?_
        rw [st]
        have w := d2.2
        have v1 := v.1
        generalize yDx B p (i - p) = X at m3 v1
        generalize B i = bi at m3 w
        by_cases z : X * 10 + (bi - 48).toNat ≤ 9999
        · exact Or.inl ⟨z, by rw [m3]; omega⟩
        · exact Or.inr ⟨by omega, by rw [m3]; omega, by rw [m3]; omega⟩
      · rw [if_neg k]
        have k' := q_nleI k
        have v : 9999 < yDx B p (i - p) ∧ 9999 < lx33.toInt ∧ lx33.toInt ≤ 99999 := by
          rcases g5 with z | z
          · omega
          · exact z
        refine ih _ _ (i + 1) hi1 (by omega) (by omega) (by omega) dg (Or.inr ⟨by rw [st]; omega, v.2⟩)
    · rw [if_pos d1]
      have e := yDe_U (B := B) (L := L) (p := p) (e := i) ⟨g1, g2, g4, by omega⟩
      unfold yNm
      rw [← e]
      by_cases k : lx33 ≤ 9999
      · rw [if_pos k]
        have k' := q_leI k
        refine ⟨?_, hi⟩
        show lx33.toInt = _
        rcases g5 with z | z
        · omega
        · omega
      · rw [if_neg k]
        have k' := q_nleI k
        refine ⟨?_, hi⟩
        show (9999 : Int32).toInt = _
        rcases g5 with z | z
        · omega
        · omega
theorem Z_num {t0_0 : Int32} {t0_1 : Int32} {t0_2 : Int32} {t0_3 : Int32} {t0_4 : Int32} {t0_5 : Int32} {t0_6 : Int32} {t0_7 : Int32} {t0_8 : Int32} {t0_9 : Int32} {t0_10 : Int32} {t0_11 : Int32} {t0_12 : Int32} {t0_13 : Int32} {t0_14 : Int32} {t0_15 : Int32} {t0_16 : Int32} {t0_17 : Int32} {t0_18 : Int32} {t0_19 : Int32} {t0_20 : Int32} {t0_21 : Int32} {t1_0 : (Nat → Int32)} {L p : Nat} {B : Nat → Int} (h : zFm t0_1 t1_0 L B) (hp : p ≤ L) (h7 : t0_7.toInt = (p : Int)) : (F_VR_number t0_0 t0_1 t0_2 t0_3 t0_4 t0_5 t0_6 t0_7 t0_8 t0_9 t0_10 t0_11 t0_12 t0_13 t0_14 t0_15 t0_16 t0_17 t0_18 t0_19 t0_20 t0_21 t1_0).1.toInt = ((yNm B L p : Nat) : Int) ∧ (F_VR_number t0_0 t0_1 t0_2 t0_3 t0_4 t0_5 t0_6 t0_7 t0_8 t0_9 t0_10 t0_11 t0_12 t0_13 t0_14 t0_15 t0_16 t0_17 t0_18 t0_19 t0_20 t0_21 t1_0).2.toInt = ((yDe B L p : Nat) : Int) := by
  have hL := h.2.1
  unfold F_VR_number
  exact Z_nuL h hp 1000000 0 t0_7 p h7 (Nat.le_refl _) hp (by omega) (fun j j1 j2 => by omega) (Or.inl ⟨by rw [Nat.sub_self]; exact Nat.zero_le _, by rw [Nat.sub_self]; rfl⟩)
def QZ_dir (B : Nat → Int) (L p : Nat) (at1 ix fl tw wd pr cv : Int32) : Prop := (yP4 B L p < L → at1.toInt = ((yP4 B L p : Nat) : Int) + 1) ∧ ix.toInt = (yIdx B L p : Int) ∧ fl = (zF3 B L p).1 ∧ tw = (zF3 B L p).2.1 ∧ wd.toInt = yWd B L p ∧ pr.toInt = yPc B L p ∧ cv.toInt = yCv B L p
theorem Z_t239 {K_F_VR_take_L86 : Int32 → Int32 → Int32 → (Int32 × Int32 × Int32 × Int32 × Int32 × Int32 × Int32)} {t0_0 : Int32} {t0_1 : Int32} {t0_2 : Int32} {t0_3 : Int32} {t0_4 : Int32} {t0_5 : Int32} {t0_6 : Int32} {t0_7 : Int32} {t0_8 : Int32} {t0_9 : Int32} {t0_10 : Int32} {t0_11 : Int32} {t0_12 : Int32} {t0_13 : Int32} {t0_14 : Int32} {t0_15 : Int32} {t0_16 : Int32} {t0_17 : Int32} {t0_18 : Int32} {t0_19 : Int32} {t0_20 : Int32} {t0_21 : Int32} {t1_0 : (Nat → Int32)} {lx50 : Int32} {lx51 : Int32} {lx62 : Int32} {lx63 : Int32} {lx64 : Int32} {lx100 : Int32} {lx101 : Int32} {lx118 : Int32} {lx119 : Int32} {L p : Nat} {B : Nat → Int} (h : zFm t0_1 t1_0 L B) (hp : p ≤ L) (h1 : lx51.toInt = (yIdx B L p : Int)) (h2 : lx63 = (zF3 B L p).1) (h3 : lx64 = (zF3 B L p).2.1) (h4 : lx101.toInt = yWd B L p) (h5 : lx119.toInt = yPc B L p) (h6 : lx118.toInt = ((yP4 B L p : Nat) : Int)) : QZ_dir B L p (F_VR_take_J239 K_F_VR_take_L86 t0_0 t0_1 t0_2 t0_3 t0_4 t0_5 t0_6 t0_7 t0_8 t0_9 t0_10 t0_11 t0_12 t0_13 t0_14 t0_15 t0_16 t0_17 t0_18 t0_19 t0_20 t0_21 t1_0 lx50 lx51 lx62 lx63 lx64 lx100 lx101 lx118 lx119).1 (F_VR_take_J239 K_F_VR_take_L86 t0_0 t0_1 t0_2 t0_3 t0_4 t0_5 t0_6 t0_7 t0_8 t0_9 t0_10 t0_11 t0_12 t0_13 t0_14 t0_15 t0_16 t0_17 t0_18 t0_19 t0_20 t0_21 t1_0 lx50 lx51 lx62 lx63 lx64 lx100 lx101 lx118 lx119).2.1 (F_VR_take_J239 K_F_VR_take_L86 t0_0 t0_1 t0_2 t0_3 t0_4 t0_5 t0_6 t0_7 t0_8 t0_9 t0_10 t0_11 t0_12 t0_13 t0_14 t0_15 t0_16 t0_17 t0_18 t0_19 t0_20 t0_21 t1_0 lx50 lx51 lx62 lx63 lx64 lx100 lx101 lx118 lx119).2.2.1 (F_VR_take_J239 K_F_VR_take_L86 t0_0 t0_1 t0_2 t0_3 t0_4 t0_5 t0_6 t0_7 t0_8 t0_9 t0_10 t0_11 t0_12 t0_13 t0_14 t0_15 t0_16 t0_17 t0_18 t0_19 t0_20 t0_21 t1_0 lx50 lx51 lx62 lx63 lx64 lx100 lx101 lx118 lx119).2.2.2.1 (F_VR_take_J239 K_F_VR_take_L86 t0_0 t0_1 t0_2 t0_3 t0_4 t0_5 t0_6 t0_7 t0_8 t0_9 t0_10 t0_11 t0_12 t0_13 t0_14 t0_15 t0_16 t0_17 t0_18 t0_19 t0_20 t0_21 t1_0 lx50 lx51 lx62 lx63 lx64 lx100 lx101 lx118 lx119).2.2.2.2.1 (F_VR_take_J239 K_F_VR_take_L86 t0_0 t0_1 t0_2 t0_3 t0_4 t0_5 t0_6 t0_7 t0_8 t0_9 t0_10 t0_11 t0_12 t0_13 t0_14 t0_15 t0_16 t0_17 t0_18 t0_19 t0_20 t0_21 t1_0 lx50 lx51 lx62 lx63 lx64 lx100 lx101 lx118 lx119).2.2.2.2.2.1 (F_VR_take_J239 K_F_VR_take_L86 t0_0 t0_1 t0_2 t0_3 t0_4 t0_5 t0_6 t0_7 t0_8 t0_9 t0_10 t0_11 t0_12 t0_13 t0_14 t0_15 t0_16 t0_17 t0_18 t0_19 t0_20 t0_21 t1_0 lx50 lx51 lx62 lx63 lx64 lx100 lx101 lx118 lx119).2.2.2.2.2.2 := by
  have e0 : (0 : Int32).toInt = 0 := rfl
  have hL := h.2.1
  have b := yP4_b (B := B) hp
  unfold F_VR_take_J239
  have a := Z_here (t0_0 := t0_0) (t0_1 := t0_1) (t0_2 := t0_2) (t0_3 := t0_3) (t0_4 := t0_4) (t0_5 := t0_5) (t0_6 := t0_6) (t0_7 := lx118) (t0_8 := lx51) (t0_9 := lx63) (t0_10 := lx64) (t0_11 := lx101) (t0_12 := lx119) (t0_13 := t0_13) (t0_14 := t0_14) (t0_15 := t0_15) (t0_16 := t0_16) (t0_17 := t0_17) (t0_18 := t0_18) (t0_19 := t0_19) (t0_20 := t0_20) (t0_21 := t0_21) h h6
  generalize F_VR_here t0_0 t0_1 t0_2 t0_3 t0_4 t0_5 t0_6 lx118 lx51 lx63 lx64 lx101 lx119 t0_13 t0_14 t0_15 t0_16 t0_17 t0_18 t0_19 t0_20 t0_21 t1_0 = c at a ⊢
  by_cases g : 0 ≤ c
  · rw [if_pos g]
    exact ⟨fun _ => q_addI (y := 1) h6 rfl (by omega) (by omega), h1, h2, h3, h4, h5, a⟩
  · rw [if_neg g]
    have g' := q_nleI g
    refine ⟨fun z => ?_, h1, h2, h3, h4, h5, a⟩
    rw [if_pos z] at a
    have := (h.2.2.2 _ z).1
    omega
theorem Z_t167 {K_F_VR_take_L86 : Int32 → Int32 → Int32 → (Int32 × Int32 × Int32 × Int32 × Int32 × Int32 × Int32)} {t0_0 : Int32} {t0_1 : Int32} {t0_2 : Int32} {t0_3 : Int32} {t0_4 : Int32} {t0_5 : Int32} {t0_6 : Int32} {t0_7 : Int32} {t0_8 : Int32} {t0_9 : Int32} {t0_10 : Int32} {t0_11 : Int32} {t0_12 : Int32} {t0_13 : Int32} {t0_14 : Int32} {t0_15 : Int32} {t0_16 : Int32} {t0_17 : Int32} {t0_18 : Int32} {t0_19 : Int32} {t0_20 : Int32} {t0_21 : Int32} {t1_0 : (Nat → Int32)} {lx50 : Int32} {lx51 : Int32} {lx62 : Int32} {lx63 : Int32} {lx64 : Int32} {lx100 : Int32} {lx101 : Int32} {L p : Nat} {B : Nat → Int} (h : zFm t0_1 t1_0 L B) (hp : p ≤ L) (h1 : lx51.toInt = (yIdx B L p : Int)) (h2 : lx63 = (zF3 B L p).1) (h3 : lx64 = (zF3 B L p).2.1) (h4 : lx101.toInt = yWd B L p) (h6 : lx100.toInt = ((yP3 B L p : Nat) : Int)) : QZ_dir B L p (F_VR_take_J167 K_F_VR_take_L86 t0_0 t0_1 t0_2 t0_3 t0_4 t0_5 t0_6 t0_7 t0_8 t0_9 t0_10 t0_11 t0_12 t0_13 t0_14 t0_15 t0_16 t0_17 t0_18 t0_19 t0_20 t0_21 t1_0 lx50 lx51 lx62 lx63 lx64 lx100 lx101).1 (F_VR_take_J167 K_F_VR_take_L86 t0_0 t0_1 t0_2 t0_3 t0_4 t0_5 t0_6 t0_7 t0_8 t0_9 t0_10 t0_11 t0_12 t0_13 t0_14 t0_15 t0_16 t0_17 t0_18 t0_19 t0_20 t0_21 t1_0 lx50 lx51 lx62 lx63 lx64 lx100 lx101).2.1 (F_VR_take_J167 K_F_VR_take_L86 t0_0 t0_1 t0_2 t0_3 t0_4 t0_5 t0_6 t0_7 t0_8 t0_9 t0_10 t0_11 t0_12 t0_13 t0_14 t0_15 t0_16 t0_17 t0_18 t0_19 t0_20 t0_21 t1_0 lx50 lx51 lx62 lx63 lx64 lx100 lx101).2.2.1 (F_VR_take_J167 K_F_VR_take_L86 t0_0 t0_1 t0_2 t0_3 t0_4 t0_5 t0_6 t0_7 t0_8 t0_9 t0_10 t0_11 t0_12 t0_13 t0_14 t0_15 t0_16 t0_17 t0_18 t0_19 t0_20 t0_21 t1_0 lx50 lx51 lx62 lx63 lx64 lx100 lx101).2.2.2.1 (F_VR_take_J167 K_F_VR_take_L86 t0_0 t0_1 t0_2 t0_3 t0_4 t0_5 t0_6 t0_7 t0_8 t0_9 t0_10 t0_11 t0_12 t0_13 t0_14 t0_15 t0_16 t0_17 t0_18 t0_19 t0_20 t0_21 t1_0 lx50 lx51 lx62 lx63 lx64 lx100 lx101).2.2.2.2.1 (F_VR_take_J167 K_F_VR_take_L86 t0_0 t0_1 t0_2 t0_3 t0_4 t0_5 t0_6 t0_7 t0_8 t0_9 t0_10 t0_11 t0_12 t0_13 t0_14 t0_15 t0_16 t0_17 t0_18 t0_19 t0_20 t0_21 t1_0 lx50 lx51 lx62 lx63 lx64 lx100 lx101).2.2.2.2.2.1 (F_VR_take_J167 K_F_VR_take_L86 t0_0 t0_1 t0_2 t0_3 t0_4 t0_5 t0_6 t0_7 t0_8 t0_9 t0_10 t0_11 t0_12 t0_13 t0_14 t0_15 t0_16 t0_17 t0_18 t0_19 t0_20 t0_21 t1_0 lx50 lx51 lx62 lx63 lx64 lx100 lx101).2.2.2.2.2.2 := by
  have e46 : (46 : Int32).toInt = 46 := rfl
  have e48 : (48 : Int32).toInt = 48 := rfl
  have e57 : (57 : Int32).toInt = 57 := rfl
  have hL := h.2.1
  have hl1 := h.1
  have b := yP3_b (B := B) hp
  have ad : (lx100 + 1).toInt = ((yP3 B L p + 1 : Nat) : Int) := by
    rw [q_addI (y := 1) h6 rfl (by omega) (by omega)]
    omega
  unfold F_VR_take_J167
  have a := Z_here (t0_0 := t0_0) (t0_1 := t0_1) (t0_2 := t0_2) (t0_3 := t0_3) (t0_4 := t0_4) (t0_5 := t0_5) (t0_6 := t0_6) (t0_7 := lx100) (t0_8 := lx51) (t0_9 := lx63) (t0_10 := lx64) (t0_11 := lx101) (t0_12 := -1) (t0_13 := t0_13) (t0_14 := t0_14) (t0_15 := t0_15) (t0_16 := t0_16) (t0_17 := t0_17) (t0_18 := t0_18) (t0_19 := t0_19) (t0_20 := t0_20) (t0_21 := t0_21) h h6
  generalize F_VR_here t0_0 t0_1 t0_2 t0_3 t0_4 t0_5 t0_6 lx100 lx51 lx63 lx64 lx101 (-1) t0_13 t0_14 t0_15 t0_16 t0_17 t0_18 t0_19 t0_20 t0_21 t1_0 = c at a ⊢
  have noC : ¬ ((yP3 B L p < L ∧ B (yP3 B L p) = 46) ∧ 0 ≤ yFg0 B L (yP3 B L p + 1)) → yPc B L p = -1 ∧ yP4 B L p = yP3 B L p := by
    intro z
    unfold yPc yP4
    rw [if_neg z, if_neg z]
    exact ⟨rfl, rfl⟩
  by_cases g : c = 46
  · rw [if_pos g]
    have g' := q_eqI g
    have lt : yP3 B L p < L := by
      by_cases z : yP3 B L p < L
      · exact z
      · rw [if_neg z] at a; omega
    rw [if_pos lt] at a
    by_cases c1 : t0_1 ≤ (lx100 + 1)
    · rw [if_pos c1]
      have c2 := q_leI c1
      obtain ⟨z1, z2⟩ := noC (fun z => by
        have w := z.2
        unfold yFg0 at w
        rw [if_neg (by omega)] at w
        omega)
      exact Z_t239 h hp h1 h2 h3 h4 (by rw [z1]; rfl) (by rw [z2]; exact h6)
    · rw [if_neg c1]
      have c2 := q_nleI c1
      have r := h.2.2.1 (yP3 B L p + 1) (by omega)
      rw [show (lx100 + 1).toNatClampNeg = yP3 B L p + 1 by show (lx100 + 1).toInt.toNat = _; omega]
      by_cases c3 : t1_0 (yP3 B L p + 1) < 48
      · rw [if_pos c3]
        have c4 := q_ltI c3
        obtain ⟨z1, z2⟩ := noC (fun z => by
          have w := z.2
          unfold yFg0 at w
          rw [if_neg (by omega)] at w
          omega)
        exact Z_t239 h hp h1 h2 h3 h4 (by rw [z1]; rfl) (by rw [z2]; exact h6)
      · rw [if_neg c3]
        have c4 := q_nltI c3
        by_cases c5 : 57 < t1_0 (yP3 B L p + 1)
        · rw [if_pos c5]
          have c6 := q_ltI c5
          obtain ⟨z1, z2⟩ := noC (fun z => by
            have w := z.2
            unfold yFg0 at w
            rw [if_neg (by omega)] at w
            omega)
          exact Z_t239 h hp h1 h2 h3 h4 (by rw [z1]; rfl) (by rw [z2]; exact h6)
        · rw [if_neg c5]
          have c6 := q_nltI c5
          have yes : (yP3 B L p < L ∧ B (yP3 B L p) = 46) ∧ 0 ≤ yFg0 B L (yP3 B L p + 1) := by
            refine ⟨⟨lt, by omega⟩, ?_⟩
            unfold yFg0
            rw [if_pos ⟨by omega, by omega, by omega⟩]
            omega
          obtain ⟨r1, r2⟩ := Z_num (t0_0 := t0_0) (t0_1 := t0_1) (t0_2 := t0_2) (t0_3 := t0_3) (t0_4 := t0_4) (t0_5 := t0_5) (t0_6 := t0_6) (t0_7 := lx100 + 1) (t0_8 := lx51) (t0_9 := lx63) (t0_10 := lx64) (t0_11 := lx101) (t0_12 := -1) (t0_13 := t0_13) (t0_14 := t0_14) (t0_15 := t0_15) (t0_16 := t0_16) (t0_17 := t0_17) (t0_18 := t0_18) (t0_19 := t0_19) (t0_20 := t0_20) (t0_21 := t0_21) h (p := yP3 B L p + 1) (by omega) ad
          revert r1 r2
          generalize F_VR_number t0_0 t0_1 t0_2 t0_3 t0_4 t0_5 t0_6 (lx100 + 1) lx51 lx63 lx64 lx101 (-1) t0_13 t0_14 t0_15 t0_16 t0_17 t0_18 t0_19 t0_20 t0_21 t1_0 = q
          intro r1 r2
          unfold F_VR_take_c233
          refine Z_t239 h hp h1 h2 h3 h4 ?_ ?_
          · unfold yPc
            rw [if_pos yes]
            exact r1
          · unfold yP4
            rw [if_pos yes]
            exact r2
  · rw [if_neg g]
    have g' := q_neI g
    obtain ⟨z1, z2⟩ := noC (fun z => by
      rw [if_pos z.1.1] at a
      have := z.1.2
      omega)
    exact Z_t239 h hp h1 h2 h3 h4 (by rw [z1]; rfl) (by rw [z2]; exact h6)
theorem Z_tkL {t0_0 : Int32} {t0_1 : Int32} {t0_2 : Int32} {t0_3 : Int32} {t0_4 : Int32} {t0_5 : Int32} {t0_6 : Int32} {t0_7 : Int32} {t0_8 : Int32} {t0_9 : Int32} {t0_10 : Int32} {t0_11 : Int32} {t0_12 : Int32} {t0_13 : Int32} {t0_14 : Int32} {t0_15 : Int32} {t0_16 : Int32} {t0_17 : Int32} {t0_18 : Int32} {t0_19 : Int32} {t0_20 : Int32} {t0_21 : Int32} {t1_0 : (Nat → Int32)} {lx50 : Int32} {lx51 : Int32} {L p : Nat} {B : Nat → Int} (h : zFm t0_1 t1_0 L B) (hp : p ≤ L) (h1 : lx51.toInt = (yIdx B L p : Int)) : ∀ (n : Nat) (lx62 : Int32) (lx63 : Int32) (lx64 : Int32), ∀ i : Nat, lx62.toInt = (i : Int) → i ≤ L → L < n + i → (lx64 = 0 ∨ lx64 = 1) → yFs B (L - i) i lx63 lx64 = zF3 B L p → QZ_dir B L p (F_VR_take_L86 t0_0 t0_1 t0_2 t0_3 t0_4 t0_5 t0_6 t0_7 t0_8 t0_9 t0_10 t0_11 t0_12 t0_13 t0_14 t0_15 t0_16 t0_17 t0_18 t0_19 t0_20 t0_21 t1_0 lx50 lx51 n lx62 lx63 lx64).1 (F_VR_take_L86 t0_0 t0_1 t0_2 t0_3 t0_4 t0_5 t0_6 t0_7 t0_8 t0_9 t0_10 t0_11 t0_12 t0_13 t0_14 t0_15 t0_16 t0_17 t0_18 t0_19 t0_20 t0_21 t1_0 lx50 lx51 n lx62 lx63 lx64).2.1 (F_VR_take_L86 t0_0 t0_1 t0_2 t0_3 t0_4 t0_5 t0_6 t0_7 t0_8 t0_9 t0_10 t0_11 t0_12 t0_13 t0_14 t0_15 t0_16 t0_17 t0_18 t0_19 t0_20 t0_21 t1_0 lx50 lx51 n lx62 lx63 lx64).2.2.1 (F_VR_take_L86 t0_0 t0_1 t0_2 t0_3 t0_4 t0_5 t0_6 t0_7 t0_8 t0_9 t0_10 t0_11 t0_12 t0_13 t0_14 t0_15 t0_16 t0_17 t0_18 t0_19 t0_20 t0_21 t1_0 lx50 lx51 n lx62 lx63 lx64).2.2.2.1 (F_VR_take_L86 t0_0 t0_1 t0_2 t0_3 t0_4 t0_5 t0_6 t0_7 t0_8 t0_9 t0_10 t0_11 t0_12 t0_13 t0_14 t0_15 t0_16 t0_17 t0_18 t0_19 t0_20 t0_21 t1_0 lx50 lx51 n lx62 lx63 lx64).2.2.2.2.1 (F_VR_take_L86 t0_0 t0_1 t0_2 t0_3 t0_4 t0_5 t0_6 t0_7 t0_8 t0_9 t0_10 t0_11 t0_12 t0_13 t0_14 t0_15 t0_16 t0_17 t0_18 t0_19 t0_20 t0_21 t1_0 lx50 lx51 n lx62 lx63 lx64).2.2.2.2.2.1 (F_VR_take_L86 t0_0 t0_1 t0_2 t0_3 t0_4 t0_5 t0_6 t0_7 t0_8 t0_9 t0_10 t0_11 t0_12 t0_13 t0_14 t0_15 t0_16 t0_17 t0_18 t0_19 t0_20 t0_21 t1_0 lx50 lx51 n lx62 lx63 lx64).2.2.2.2.2.2 := by
  have hL := h.2.1
  intro n
  induction n with
  | zero =>
    intro _ _ _ i _ q1 q2
    omega
  | succ n ih =>
    intro lx62 lx63 lx64 i hi g1 g2 g3 g4
    unfold F_VR_take_L86
    have a := Z_here (t0_0 := t0_0) (t0_1 := t0_1) (t0_2 := t0_2) (t0_3 := t0_3) (t0_4 := t0_4) (t0_5 := t0_5) (t0_6 := t0_6) (t0_7 := lx62) (t0_8 := lx51) (t0_9 := lx63) (t0_10 := lx64) (t0_11 := -1) (t0_12 := -1) (t0_13 := t0_13) (t0_14 := t0_14) (t0_15 := t0_15) (t0_16 := t0_16) (t0_17 := t0_17) (t0_18 := t0_18) (t0_19 := t0_19) (t0_20 := t0_20) (t0_21 := t0_21) h hi
    have d := Z_isD (t0_0 := t0_0) (t0_1 := t0_1) (t0_2 := t0_2) (t0_3 := t0_3) (t0_4 := t0_4) (t0_5 := t0_5) (t0_6 := t0_6) (t0_7 := lx62) (t0_8 := lx51) (t0_9 := lx63) (t0_10 := lx64) (t0_11 := -1) (t0_12 := -1) (t0_13 := t0_13) (t0_14 := t0_14) (t0_15 := t0_15) (t0_16 := t0_16) (t0_17 := t0_17) (t0_18 := t0_18) (t0_19 := t0_19) (t0_20 := t0_20) (t0_21 := t0_21) h hi
    have fl : F_VR_flag (F_VR_here t0_0 t0_1 t0_2 t0_3 t0_4 t0_5 t0_6 lx62 lx51 lx63 lx64 (-1) (-1) t0_13 t0_14 t0_15 t0_16 t0_17 t0_18 t0_19 t0_20 t0_21 t1_0) = if i < L then yFlg (B i) else 0 := by
      rw [y_flgR, a]
      split
      · rfl
      · decide
    by_cases z : (if i < L then yFlg (B i) else 0) = 0
    · rw [if_pos (by rw [fl]; exact z)]
      have fin : (lx63, lx64, i) = zF3 B L p := by
        rw [← g4]
        by_cases w : i < L
        · rw [if_pos w] at z
          obtain ⟨k, hk⟩ : ∃ k, L - i = k + 1 := ⟨L - i - 1, by omega⟩
          rw [hk]
          unfold yFs
          rw [if_pos z]
        · rw [show L - i = 0 by omega]
          rfl
      have f1 : lx63 = (zF3 B L p).1 := by rw [← fin]
      have f2 : lx64 = (zF3 B L p).2.1 := by rw [← fin]
      have f3 : (zF3 B L p).2.2 = i := by rw [← fin]
      rcases d with ⟨d1, d2⟩ | ⟨d1, d2⟩
      · rw [if_neg (by rw [d1]; decide)]
        rw [if_pos d2.1] at z
        have n0 : B i ≠ 48 := fun w => by
          rw [w] at z
          exact absurd z (by decide)
        have pos : 0 < yFg0 B L (zF3 B L p).2.2 := by
          rw [f3]
          unfold yFg0
          rw [if_pos d2]
          omega
        obtain ⟨r1, r2⟩ := Z_num (t0_0 := t0_0) (t0_1 := t0_1) (t0_2 := t0_2) (t0_3 := t0_3) (t0_4 := t0_4) (t0_5 := t0_5) (t0_6 := t0_6) (t0_7 := lx62) (t0_8 := lx51) (t0_9 := lx63) (t0_10 := lx64) (t0_11 := -1) (t0_12 := -1) (t0_13 := t0_13) (t0_14 := t0_14) (t0_15 := t0_15) (t0_16 := t0_16) (t0_17 := t0_17) (t0_18 := t0_18) (t0_19 := t0_19) (t0_20 := t0_20) (t0_21 := t0_21) h (p := i) g1 hi
        revert r1 r2
        generalize F_VR_number t0_0 t0_1 t0_2 t0_3 t0_4 t0_5 t0_6 lx62 lx51 lx63 lx64 (-1) (-1) t0_13 t0_14 t0_15 t0_16 t0_17 t0_18 t0_19 t0_20 t0_21 t1_0 = q
        intro r1 r2
        unfold F_VR_take_c161
        refine Z_t167 h hp h1 f1 f2 ?_ ?_
        · unfold yWd
          rw [if_pos pos, f3]
          exact r1
        · unfold yP3
          rw [if_pos pos, f3]
          exact r2
      · rw [if_pos d1]
        have npos : ¬ 0 < yFg0 B L (zF3 B L p).2.2 := by
          rw [f3]
          unfold yFg0
          rw [if_neg d2]
          decide
        refine Z_t167 h hp h1 f1 f2 ?_ ?_
        · unfold yWd
          rw [if_neg npos]
          rfl
        · unfold yP3
          rw [if_neg npos, f3]
          exact hi
    · rw [if_neg (by rw [fl]; exact z)]
      have w : i < L := by
        by_cases w : i < L
        · exact w
        · rw [if_neg w] at z
          exact absurd rfl z
      rw [if_pos w] at z
      obtain ⟨k, hk⟩ : ∃ k, L - i = k + 1 := ⟨L - i - 1, by omega⟩
      have hk2 : L - (i + 1) = k := by omega
      rw [hk] at g4
      unfold yFs at g4
      rw [if_neg z, ← hk2] at g4
      have hi1 : (lx62 + 1).toInt = ((i + 1 : Nat) : Int) := by
        rw [q_addI (y := 1) hi rfl (by omega) (by omega)]
        omega
      have fl1 : ∀ t : Int32, F_VR_flag (F_VR_here t0_0 t0_1 t0_2 t0_3 t0_4 t0_5 t0_6 lx62 lx51 lx63 t (-1) (-1) t0_13 t0_14 t0_15 t0_16 t0_17 t0_18 t0_19 t0_20 t0_21 t1_0) = yFlg (B i) := by
        intro t
        have a := Z_here (t0_0 := t0_0) (t0_1 := t0_1) (t0_2 := t0_2) (t0_3 := t0_3) (t0_4 := t0_4) (t0_5 := t0_5) (t0_6 := t0_6) (t0_7 := lx62) (t0_8 := lx51) (t0_9 := lx63) (t0_10 := t) (t0_11 := -1) (t0_12 := -1) (t0_13 := t0_13) (t0_14 := t0_14) (t0_15 := t0_15) (t0_16 := t0_16) (t0_17 := t0_17) (t0_18 := t0_18) (t0_19 := t0_19) (t0_20 := t0_20) (t0_21 := t0_21) h hi
        rw [y_flgR, a, if_pos w]
      have nx : ∀ t : Int32, (t = 0 ∨ t = 1) → t = (if lx63 &&& yFlg (B i) = 0 then lx64 else 1) → QZ_dir B L p (F_VR_take_J120 (F_VR_take_L86 t0_0 t0_1 t0_2 t0_3 t0_4 t0_5 t0_6 t0_7 t0_8 t0_9 t0_10 t0_11 t0_12 t0_13 t0_14 t0_15 t0_16 t0_17 t0_18 t0_19 t0_20 t0_21 t1_0 lx50 lx51 n) t0_0 t0_1 t0_2 t0_3 t0_4 t0_5 t0_6 t0_7 t0_8 t0_9 t0_10 t0_11 t0_12 t0_13 t0_14 t0_15 t0_16 t0_17 t0_18 t0_19 t0_20 t0_21 t1_0 lx50 lx51 lx62 lx63 lx64 t).1 (F_VR_take_J120 (F_VR_take_L86 t0_0 t0_1 t0_2 t0_3 t0_4 t0_5 t0_6 t0_7 t0_8 t0_9 t0_10 t0_11 t0_12 t0_13 t0_14 t0_15 t0_16 t0_17 t0_18 t0_19 t0_20 t0_21 t1_0 lx50 lx51 n) t0_0 t0_1 t0_2 t0_3 t0_4 t0_5 t0_6 t0_7 t0_8 t0_9 t0_10 t0_11 t0_12 t0_13 t0_14 t0_15 t0_16 t0_17 t0_18 t0_19 t0_20 t0_21 t1_0 lx50 lx51 lx62 lx63 lx64 t).2.1 (F_VR_take_J120 (F_VR_take_L86 t0_0 t0_1 t0_2 t0_3 t0_4 t0_5 t0_6 t0_7 t0_8 t0_9 t0_10 t0_11 t0_12 t0_13 t0_14 t0_15 t0_16 t0_17 t0_18 t0_19 t0_20 t0_21 t1_0 lx50 lx51 n) t0_0 t0_1 t0_2 t0_3 t0_4 t0_5 t0_6 t0_7 t0_8 t0_9 t0_10 t0_11 t0_12 t0_13 t0_14 t0_15 t0_16 t0_17 t0_18 t0_19 t0_20 t0_21 t1_0 lx50 lx51 lx62 lx63 lx64 t).2.2.1 (F_VR_take_J120 (F_VR_take_L86 t0_0 t0_1 t0_2 t0_3 t0_4 t0_5 t0_6 t0_7 t0_8 t0_9 t0_10 t0_11 t0_12 t0_13 t0_14 t0_15 t0_16 t0_17 t0_18 t0_19 t0_20 t0_21 t1_0 lx50 lx51 n) t0_0 t0_1 t0_2 t0_3 t0_4 t0_5 t0_6 t0_7 t0_8 t0_9 t0_10 t0_11 t0_12 t0_13 t0_14 t0_15 t0_16 t0_17 t0_18 t0_19 t0_20 t0_21 t1_0 lx50 lx51 lx62 lx63 lx64 t).2.2.2.1 (F_VR_take_J120 (F_VR_take_L86 t0_0 t0_1 t0_2 t0_3 t0_4 t0_5 t0_6 t0_7 t0_8 t0_9 t0_10 t0_11 t0_12 t0_13 t0_14 t0_15 t0_16 t0_17 t0_18 t0_19 t0_20 t0_21 t1_0 lx50 lx51 n) t0_0 t0_1 t0_2 t0_3 t0_4 t0_5 t0_6 t0_7 t0_8 t0_9 t0_10 t0_11 t0_12 t0_13 t0_14 t0_15 t0_16 t0_17 t0_18 t0_19 t0_20 t0_21 t1_0 lx50 lx51 lx62 lx63 lx64 t).2.2.2.2.1 (F_VR_take_J120 (F_VR_take_L86 t0_0 t0_1 t0_2 t0_3 t0_4 t0_5 t0_6 t0_7 t0_8 t0_9 t0_10 t0_11 t0_12 t0_13 t0_14 t0_15 t0_16 t0_17 t0_18 t0_19 t0_20 t0_21 t1_0 lx50 lx51 n) t0_0 t0_1 t0_2 t0_3 t0_4 t0_5 t0_6 t0_7 t0_8 t0_9 t0_10 t0_11 t0_12 t0_13 t0_14 t0_15 t0_16 t0_17 t0_18 t0_19 t0_20 t0_21 t1_0 lx50 lx51 lx62 lx63 lx64 t).2.2.2.2.2.1 (F_VR_take_J120 (F_VR_take_L86 t0_0 t0_1 t0_2 t0_3 t0_4 t0_5 t0_6 t0_7 t0_8 t0_9 t0_10 t0_11 t0_12 t0_13 t0_14 t0_15 t0_16 t0_17 t0_18 t0_19 t0_20 t0_21 t1_0 lx50 lx51 n) t0_0 t0_1 t0_2 t0_3 t0_4 t0_5 t0_6 t0_7 t0_8 t0_9 t0_10 t0_11 t0_12 t0_13 t0_14 t0_15 t0_16 t0_17 t0_18 t0_19 t0_20 t0_21 t1_0 lx50 lx51 lx62 lx63 lx64 t).2.2.2.2.2.2 := by
        intro t t1 t2
        unfold F_VR_take_J120
        rw [fl1 t]
        refine ih (lx62 + 1) (lx63 ||| yFlg (B i)) t (i + 1) hi1 (by omega) (by omega) t1 ?_
        rw [t2]
        exact g4
      have hs : F_VR_has (F_VR_here t0_0 t0_1 t0_2 t0_3 t0_4 t0_5 t0_6 lx62 lx51 lx63 lx64 (-1) (-1) t0_13 t0_14 t0_15 t0_16 t0_17 t0_18 t0_19 t0_20 t0_21 t1_0) t0_0 t0_1 t0_2 t0_3 t0_4 t0_5 t0_6 lx62 lx51 lx63 lx64 (-1) (-1) t0_13 t0_14 t0_15 t0_16 t0_17 t0_18 t0_19 t0_20 t0_21 = if lx63 &&& yFlg (B i) = 0 then 0 else 1 := by
        unfold F_VR_has
        rw [fl1 lx64]
      by_cases t0z : lx64 = 0
      · rw [if_pos t0z, hs]
        by_cases y : lx63 &&& yFlg (B i) = 0
        · rw [if_pos y, if_pos rfl]
          exact nx 0 (Or.inl rfl) (by rw [if_pos y, t0z])
        · rw [if_neg y, if_neg (show ¬ (1 : Int32) = 0 by decide)]
          unfold F_VR_take_J115
          exact nx 1 (Or.inr rfl) (by rw [if_neg y])
      · rw [if_neg t0z]
        unfold F_VR_take_J115
        refine nx 1 (Or.inr rfl) ?_
        have : lx64 = 1 := g3.resolve_left t0z
        rw [this]
        split <;> rfl
theorem Z_take {t0_0 : Int32} {t0_1 : Int32} {t0_2 : Int32} {t0_3 : Int32} {t0_4 : Int32} {t0_5 : Int32} {t0_6 : Int32} {t0_7 : Int32} {t0_8 : Int32} {t0_9 : Int32} {t0_10 : Int32} {t0_11 : Int32} {t0_12 : Int32} {t0_13 : Int32} {t0_14 : Int32} {t0_15 : Int32} {t0_16 : Int32} {t0_17 : Int32} {t0_18 : Int32} {t0_19 : Int32} {t0_20 : Int32} {t0_21 : Int32} {t1_0 : (Nat → Int32)} {L p : Nat} {B : Nat → Int} (h : zFm t0_1 t1_0 L B) (hp : p ≤ L) (h7 : t0_7.toInt = (p : Int)) : QZ_dir B L p (F_VR_take t0_0 t0_1 t0_2 t0_3 t0_4 t0_5 t0_6 t0_7 t0_8 t0_9 t0_10 t0_11 t0_12 t0_13 t0_14 t0_15 t0_16 t0_17 t0_18 t0_19 t0_20 t0_21 t1_0).1 (F_VR_take t0_0 t0_1 t0_2 t0_3 t0_4 t0_5 t0_6 t0_7 t0_8 t0_9 t0_10 t0_11 t0_12 t0_13 t0_14 t0_15 t0_16 t0_17 t0_18 t0_19 t0_20 t0_21 t1_0).2.1 (F_VR_take t0_0 t0_1 t0_2 t0_3 t0_4 t0_5 t0_6 t0_7 t0_8 t0_9 t0_10 t0_11 t0_12 t0_13 t0_14 t0_15 t0_16 t0_17 t0_18 t0_19 t0_20 t0_21 t1_0).2.2.1 (F_VR_take t0_0 t0_1 t0_2 t0_3 t0_4 t0_5 t0_6 t0_7 t0_8 t0_9 t0_10 t0_11 t0_12 t0_13 t0_14 t0_15 t0_16 t0_17 t0_18 t0_19 t0_20 t0_21 t1_0).2.2.2.1 (F_VR_take t0_0 t0_1 t0_2 t0_3 t0_4 t0_5 t0_6 t0_7 t0_8 t0_9 t0_10 t0_11 t0_12 t0_13 t0_14 t0_15 t0_16 t0_17 t0_18 t0_19 t0_20 t0_21 t1_0).2.2.2.2.1 (F_VR_take t0_0 t0_1 t0_2 t0_3 t0_4 t0_5 t0_6 t0_7 t0_8 t0_9 t0_10 t0_11 t0_12 t0_13 t0_14 t0_15 t0_16 t0_17 t0_18 t0_19 t0_20 t0_21 t1_0).2.2.2.2.2.1 (F_VR_take t0_0 t0_1 t0_2 t0_3 t0_4 t0_5 t0_6 t0_7 t0_8 t0_9 t0_10 t0_11 t0_12 t0_13 t0_14 t0_15 t0_16 t0_17 t0_18 t0_19 t0_20 t0_21 t1_0).2.2.2.2.2.2 := by
  have e36 : (36 : Int32).toInt = 36 := rfl
  have e48 : (48 : Int32).toInt = 48 := rfl
  have hL := h.2.1
  unfold F_VR_take
  have a := Z_here (t0_0 := t0_0) (t0_1 := t0_1) (t0_2 := t0_2) (t0_3 := t0_3) (t0_4 := t0_4) (t0_5 := t0_5) (t0_6 := t0_6) (t0_7 := t0_7) (t0_8 := 0) (t0_9 := 0) (t0_10 := 0) (t0_11 := -1) (t0_12 := -1) (t0_13 := t0_13) (t0_14 := t0_14) (t0_15 := t0_15) (t0_16 := t0_16) (t0_17 := t0_17) (t0_18 := t0_18) (t0_19 := t0_19) (t0_20 := t0_20) (t0_21 := t0_21) h h7
  have d := Z_isD (t0_0 := t0_0) (t0_1 := t0_1) (t0_2 := t0_2) (t0_3 := t0_3) (t0_4 := t0_4) (t0_5 := t0_5) (t0_6 := t0_6) (t0_7 := t0_7) (t0_8 := 0) (t0_9 := 0) (t0_10 := 0) (t0_11 := -1) (t0_12 := -1) (t0_13 := t0_13) (t0_14 := t0_14) (t0_15 := t0_15) (t0_16 := t0_16) (t0_17 := t0_17) (t0_18 := t0_18) (t0_19 := t0_19) (t0_20 := t0_20) (t0_21 := t0_21) h h7
  have no : ¬ yHasI B L p (yDe B L p) → QZ_dir B L p (F_VR_take_J86 t0_0 t0_1 t0_2 t0_3 t0_4 t0_5 t0_6 t0_7 t0_8 t0_9 t0_10 t0_11 t0_12 t0_13 t0_14 t0_15 t0_16 t0_17 t0_18 t0_19 t0_20 t0_21 t1_0 t0_7 0).1 (F_VR_take_J86 t0_0 t0_1 t0_2 t0_3 t0_4 t0_5 t0_6 t0_7 t0_8 t0_9 t0_10 t0_11 t0_12 t0_13 t0_14 t0_15 t0_16 t0_17 t0_18 t0_19 t0_20 t0_21 t1_0 t0_7 0).2.1 (F_VR_take_J86 t0_0 t0_1 t0_2 t0_3 t0_4 t0_5 t0_6 t0_7 t0_8 t0_9 t0_10 t0_11 t0_12 t0_13 t0_14 t0_15 t0_16 t0_17 t0_18 t0_19 t0_20 t0_21 t1_0 t0_7 0).2.2.1 (F_VR_take_J86 t0_0 t0_1 t0_2 t0_3 t0_4 t0_5 t0_6 t0_7 t0_8 t0_9 t0_10 t0_11 t0_12 t0_13 t0_14 t0_15 t0_16 t0_17 t0_18 t0_19 t0_20 t0_21 t1_0 t0_7 0).2.2.2.1 (F_VR_take_J86 t0_0 t0_1 t0_2 t0_3 t0_4 t0_5 t0_6 t0_7 t0_8 t0_9 t0_10 t0_11 t0_12 t0_13 t0_14 t0_15 t0_16 t0_17 t0_18 t0_19 t0_20 t0_21 t1_0 t0_7 0).2.2.2.2.1 (F_VR_take_J86 t0_0 t0_1 t0_2 t0_3 t0_4 t0_5 t0_6 t0_7 t0_8 t0_9 t0_10 t0_11 t0_12 t0_13 t0_14 t0_15 t0_16 t0_17 t0_18 t0_19 t0_20 t0_21 t1_0 t0_7 0).2.2.2.2.2.1 (F_VR_take_J86 t0_0 t0_1 t0_2 t0_3 t0_4 t0_5 t0_6 t0_7 t0_8 t0_9 t0_10 t0_11 t0_12 t0_13 t0_14 t0_15 t0_16 t0_17 t0_18 t0_19 t0_20 t0_21 t1_0 t0_7 0).2.2.2.2.2.2 := by
    intro z
    have i0 : yIdx B L p = 0 := by unfold yIdx; rw [if_neg z]
    have p1 : yP1 B L p = p := by unfold yP1; rw [if_neg z]
    unfold F_VR_take_J86
    refine Z_tkL h hp (by rw [i0]; rfl) 1000000 t0_7 0 0 p h7 hp (by omega) (Or.inl rfl) ?_
    unfold zF3
    rw [p1]
  generalize F_VR_here t0_0 t0_1 t0_2 t0_3 t0_4 t0_5 t0_6 t0_7 0 0 0 (-1) (-1) t0_13 t0_14 t0_15 t0_16 t0_17 t0_18 t0_19 t0_20 t0_21 t1_0 = c at a ⊢
  generalize F_VR_isDigit t0_0 t0_1 t0_2 t0_3 t0_4 t0_5 t0_6 t0_7 0 0 0 (-1) (-1) t0_13 t0_14 t0_15 t0_16 t0_17 t0_18 t0_19 t0_20 t0_21 t1_0 = e at d ⊢
  rcases d with ⟨d1, d2⟩ | ⟨d1, d2⟩
  · rw [if_neg (by rw [d1]; decide)]
    rw [if_pos d2.1] at a
    by_cases g : c = 48
    · rw [if_pos g]
      have g' := q_eqI g
      refine no (fun z => ?_)
      have w := z.1
      unfold yFg0 at w
      rw [if_pos d2] at w
      omega
    · rw [if_neg g]
      have g' := q_neI g
      have pos : 0 < yFg0 B L p := by
        unfold yFg0
        rw [if_pos d2]
        omega
      obtain ⟨r1, r2⟩ := Z_num (t0_0 := t0_0) (t0_1 := t0_1) (t0_2 := t0_2) (t0_3 := t0_3) (t0_4 := t0_4) (t0_5 := t0_5) (t0_6 := t0_6) (t0_7 := t0_7) (t0_8 := 0) (t0_9 := 0) (t0_10 := 0) (t0_11 := -1) (t0_12 := -1) (t0_13 := t0_13) (t0_14 := t0_14) (t0_15 := t0_15) (t0_16 := t0_16) (t0_17 := t0_17) (t0_18 := t0_18) (t0_19 := t0_19) (t0_20 := t0_20) (t0_21 := t0_21) h hp h7
      revert r1 r2
      generalize F_VR_number t0_0 t0_1 t0_2 t0_3 t0_4 t0_5 t0_6 t0_7 0 0 0 (-1) (-1) t0_13 t0_14 t0_15 t0_16 t0_17 t0_18 t0_19 t0_20 t0_21 t1_0 = q
      intro r1 r2
      unfold F_VR_take_c48
      have a2 := Z_here (t0_0 := t0_0) (t0_1 := t0_1) (t0_2 := t0_2) (t0_3 := t0_3) (t0_4 := t0_4) (t0_5 := t0_5) (t0_6 := t0_6) (t0_7 := q.2) (t0_8 := q.1) (t0_9 := 0) (t0_10 := 0) (t0_11 := -1) (t0_12 := -1) (t0_13 := t0_13) (t0_14 := t0_14) (t0_15 := t0_15) (t0_16 := t0_16) (t0_17 := t0_17) (t0_18 := t0_18) (t0_19 := t0_19) (t0_20 := t0_20) (t0_21 := t0_21) h r2
      generalize F_VR_here t0_0 t0_1 t0_2 t0_3 t0_4 t0_5 t0_6 q.2 q.1 0 0 (-1) (-1) t0_13 t0_14 t0_15 t0_16 t0_17 t0_18 t0_19 t0_20 t0_21 t1_0 = c2 at a2 ⊢
      by_cases k : c2 = 36
      · rw [if_pos k]
        have k' := q_eqI k
        have lt : yDe B L p < L := by
          by_cases z : yDe B L p < L
          · exact z
          · rw [if_neg z] at a2; omega
        rw [if_pos lt] at a2
        have has : yHasI B L p (yDe B L p) := ⟨pos, lt, by omega⟩
        have i0 : yIdx B L p = yNm B L p := by unfold yIdx; rw [if_pos has]
        have p1 : yP1 B L p = yDe B L p + 1 := by unfold yP1; rw [if_pos has]
        unfold F_VR_take_J86
        refine Z_tkL h hp (by rw [i0]; exact r1) 1000000 (q.2 + 1) 0 0 (yDe B L p + 1) (by rw [q_addI (y := 1) r2 rfl (by omega) (by omega)]; omega) (by omega) (by omega) (Or.inl rfl) ?_
        unfold zF3
        rw [p1]
      · rw [if_neg k]
        have k' := q_neI k
        refine no (fun z => ?_)
        rw [if_pos z.2.1] at a2
        have := z.2.2
        omega
  · rw [if_pos d1]
    refine no (fun z => ?_)
    have w := z.1
    unfold yFg0 at w
    rw [if_neg d2] at w
    omega

