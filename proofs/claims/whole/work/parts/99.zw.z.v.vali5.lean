/-! values, for whole: the reference makes a piece -/
theorem Z_sfL {t0_0 : Int32} {t0_1 : Int32} {t0_2 : Int32} {t0_3 : Int32} {t0_4 : Int32} {t0_5 : Int32} {t0_6 : Int32} {t0_7 : Int32} {t0_8 : Int32} {t0_9 : Int32} {t0_10 : Int32} {t0_11 : Int32} {t0_12 : Int32} {t0_13 : Int32} {t0_14 : Int32} {t0_15 : Int32} {t0_16 : Int32} {t0_17 : Int32} {t0_18 : Int32} {t0_19 : Int32} {t0_20 : Int32} {t0_21 : Int32} {t1_0 : (Nat → Int32)} {t2_0 : (Nat → Int32)} {t3_0 : (Nat → Int64)} {t4_0 : (Nat → Int32)} {t5_0 : (Nat → Int32)} {t6_0 : (Nat → Int32)} {L : Nat} (hL : (t2_0 t0_14.toNatClampNeg).toInt = (L : Int)) (hL2 : L ≤ 64) : ∀ (n : Nat) (lx258 : Int32) (lx259 : Int32) (lx260 : (Nat → Int32)), ∀ a : Nat, lx258.toInt = (a : Int) → a ≤ L → L < n + a → (F_VR_string_L89 t0_0 t0_1 t0_2 t0_3 t0_4 t0_5 t0_6 t0_7 t0_8 t0_9 t0_10 t0_11 t0_12 t0_13 t0_14 t0_15 t0_16 t0_17 t0_18 t0_19 t0_20 t0_21 t1_0 t2_0 t3_0 t4_0 t5_0 t6_0 n lx258 lx259 lx260).1 = t0_9 := by
  intro n
  induction n with
  | zero =>
    intro _ _ _ a _ q1 q2
    omega
  | succ n ih =>
    intro lx258 lx259 lx260 a h1 h2 h3
    unfold F_VR_string_L89
    by_cases d : t2_0 t0_14.toNatClampNeg ≤ lx258
    · rw [if_pos d]
    · rw [if_neg d]
      have d' := q_nleI d
      unfold F_VR_string_c117
      exact ih _ _ _ (a + 1) (by rw [q_addI (y := 1) h1 rfl (by omega) (by omega)]; omega) (by omega) (by omega)
theorem Z_strF {t0_0 : Int32} {t0_1 : Int32} {t0_2 : Int32} {t0_3 : Int32} {t0_4 : Int32} {t0_5 : Int32} {t0_6 : Int32} {t0_7 : Int32} {t0_8 : Int32} {t0_9 : Int32} {t0_10 : Int32} {t0_11 : Int32} {t0_12 : Int32} {t0_13 : Int32} {t0_14 : Int32} {t0_15 : Int32} {t0_16 : Int32} {t0_17 : Int32} {t0_18 : Int32} {t0_19 : Int32} {t0_20 : Int32} {t0_21 : Int32} {t1_0 : (Nat → Int32)} {t2_0 : (Nat → Int32)} {t3_0 : (Nat → Int64)} {t4_0 : (Nat → Int32)} {t5_0 : (Nat → Int32)} {t6_0 : (Nat → Int32)} (hZ : 0 ≤ (t2_0 t0_14.toNatClampNeg).toInt ∧ (t2_0 t0_14.toNatClampNeg).toInt ≤ 64) : (F_VR_string t0_0 t0_1 t0_2 t0_3 t0_4 t0_5 t0_6 t0_7 t0_8 t0_9 t0_10 t0_11 t0_12 t0_13 t0_14 t0_15 t0_16 t0_17 t0_18 t0_19 t0_20 t0_21 t1_0 t2_0 t3_0 t4_0 t5_0 t6_0).1 &&& 1 = t0_9 &&& 1 := by
  have m : (t0_9 &&& -19) &&& 1 = t0_9 &&& 1 := by
    rw [Int32.and_assoc]
    rfl
  unfold F_VR_string
  split
  · split
    · rfl
    · rfl
  · split
    · rfl
    · split
      · split
        · unfold F_VR_string_J149 F_VR_string_c164
          split
          · exact m
          · exact m
        · unfold F_VR_string_c146 F_VR_string_J149 F_VR_string_c164
          split
          · exact m
          · exact m
      · split
        · rw [Z_sfL (L := (t2_0 t0_14.toNatClampNeg).toInt.toNat) (by omega) (by omega) 1000000 0 _ _ 0 rfl (by omega) (by omega)]
        · split
          · unfold F_VR_string_J149_11 F_VR_string_c164_12
            split
            · exact m
            · exact m
          · unfold F_VR_string_c146_15 F_VR_string_J149_11 F_VR_string_c164_12
            split
            · exact m
            · exact m
theorem Z_tkS {cv : Int32} {k : Nat} (hc : 0 ≤ cv.toInt ∧ cv.toInt ≤ 255) (hk : k ≤ 5) (h : zTk cv k) (k0 : k ≠ 0) (ho : cv ∈ yO1) : zSm cv = 37 ∨ zSm cv = 110 ∨ zSm cv = 98 ∨ zSm cv = 115 ∨ (zSm cv = 99 ∧ k = 2) ∨ ((zSm cv = 111 ∨ zSm cv = 120 ∨ zSm cv = 100) ∧ k = 3) ∨ ((zSm cv = 102 ∨ zSm cv = 101 ∨ zSm cv = 103) ∧ k = 5) := by
  obtain ⟨n, hn, rfl⟩ := y_c256 hc
  have kA : ∀ n : Nat, n < 256 → Int32.ofNat n ∈ yO8 → zSm (Int32.ofNat n) = 98 ∨ zSm (Int32.ofNat n) = 115 := by decide +kernel
  have kB : ∀ n : Nat, n < 256 → Int32.ofNat n ∈ yO9 → zSm (Int32.ofNat n) = 99 := by decide +kernel
  have kC : ∀ n : Nat, n < 256 → Int32.ofNat n ∈ yO10 → zSm (Int32.ofNat n) = 111 ∨ zSm (Int32.ofNat n) = 120 ∨ zSm (Int32.ofNat n) = 100 := by decide +kernel
  have kD : ∀ n : Nat, n < 256 → Int32.ofNat n ∈ yO1 → Int32.ofNat n ∈ yO8 ∨ Int32.ofNat n ∈ yO9 ∨ Int32.ofNat n ∈ yO10 ∨ zSm (Int32.ofNat n) ∈ [37, 110, 102, 101, 103] := by decide +kernel
  have key : zSm (Int32.ofNat n) = 37 ∨ zSm (Int32.ofNat n) = 110 ∨ (zSm (Int32.ofNat n) = 98 ∨ zSm (Int32.ofNat n) = 115) ∨ (¬ Int32.ofNat n ∈ yO8 ∧ Int32.ofNat n ∈ yO9 ∧ zSm (Int32.ofNat n) = 99) ∨ (¬ Int32.ofNat n ∈ yO8 ∧ ¬ Int32.ofNat n ∈ yO9 ∧ Int32.ofNat n ∈ yO10 ∧ (zSm (Int32.ofNat n) = 111 ∨ zSm (Int32.ofNat n) = 120 ∨ zSm (Int32.ofNat n) = 100)) ∨ (¬ Int32.ofNat n ∈ yO8 ∧ ¬ Int32.ofNat n ∈ yO9 ∧ ¬ Int32.ofNat n ∈ yO10 ∧ (zSm (Int32.ofNat n) = 102 ∨ zSm (Int32.ofNat n) = 101 ∨ zSm (Int32.ofNat n) = 103)) := by
    by_cases m8 : Int32.ofNat n ∈ yO8
    · exact Or.inr (Or.inr (Or.inl (kA n hn m8)))
    · by_cases m9 : Int32.ofNat n ∈ yO9
      · exact Or.inr (Or.inr (Or.inr (Or.inl ⟨m8, m9, kB n hn m9⟩)))
      · by_cases m10 : Int32.ofNat n ∈ yO10
        · exact Or.inr (Or.inr (Or.inr (Or.inr (Or.inl ⟨m8, m9, m10, kC n hn m10⟩))))
        · have kE := (((kD n hn ho).resolve_left m8).resolve_left m9).resolve_left m10
          simp only [List.mem_cons, List.not_mem_nil, or_false] at kE
          rcases kE with w | w | w
          · exact Or.inl w
          · exact Or.inr (Or.inl w)
          · exact Or.inr (Or.inr (Or.inr (Or.inr (Or.inr ⟨m8, m9, m10, w⟩))))
  unfold zTk at h
  rcases key with x | x | x | ⟨n8, y9, x⟩ | ⟨n8, n9, y10, x⟩ | ⟨n8, n9, n10, x⟩
  · exact Or.inl x
  · exact Or.inr (Or.inl x)
  · exact Or.inr (Or.inr (x.elim Or.inl (fun w => Or.inr (Or.inl w))))
  · rcases h with h | h | h | h | h
    · exact absurd h k0
    · exact absurd h n8
    · exact Or.inr (Or.inr (Or.inr (Or.inr (Or.inl ⟨x, h.2.2⟩))))
    · exact absurd y9 h.2.1
    · exact absurd y9 h.2.1
  · rcases h with h | h | h | h | h
    · exact absurd h k0
    · exact absurd h n8
    · exact absurd h.2.1 n9
    · exact Or.inr (Or.inr (Or.inr (Or.inr (Or.inr (Or.inl ⟨x, h.2.2.2⟩)))))
    · exact absurd y10 h.2.2.1
  · rcases h with h | h | h | h | h
    · exact absurd h k0
    · exact absurd h n8
    · exact absurd h.2.1 n9
    · exact absurd h.2.2.1 n10
    · exact Or.inr (Or.inr (Or.inr (Or.inr (Or.inr (Or.inr ⟨x, h.2.2.2⟩)))))
theorem Z_mk48 {t0_0 : Int32} {t0_1 : Int32} {t0_2 : Int32} {t0_3 : Int32} {t0_4 : Int32} {t0_5 : Int32} {t0_6 : Int32} {t0_7 : Int32} {t0_8 : Int32} {t0_9 : Int32} {t0_10 : Int32} {t0_11 : Int32} {t0_12 : Int32} {t0_13 : Int32} {t0_14 : Int32} {t0_15 : Int32} {t0_16 : Int32} {t0_17 : Int32} {t0_18 : Int32} {t0_19 : Int32} {t0_20 : Int32} {t0_21 : Int32} {t1_0 : (Nat → Int32)} {t2_0 : (Nat → Int32)} {t3_0 : (Nat → Int64)} {t4_0 : (Nat → Int32)} {t5_0 : (Nat → Int32)} {t6_0 : (Nat → Int32)} {a48 : Int32} {W pr : Int} {a : yA} (h11 : t0_11.toInt = W) (hW : -1 ≤ W ∧ W ≤ 9999) (h12 : t0_12.toInt = pr) (hpr : -1 ≤ pr ∧ pr ≤ 9999) (h13 : 0 ≤ t0_13.toInt ∧ t0_13.toInt ≤ 255) (h48 : a48 = zSm t0_13) (h : a48 = 37 ∨ a48 = 110) : ∃ q, zPc t0_13 t0_9 W pr a q ∧ yRt (F_VR_make_J48 t0_0 t0_1 t0_2 t0_3 t0_4 t0_5 t0_6 t0_7 t0_8 t0_9 t0_10 t0_11 t0_12 t0_13 t0_14 t0_15 t0_16 t0_17 t0_18 t0_19 t0_20 t0_21 t1_0 t2_0 t3_0 t4_0 t5_0 t6_0 a48).2.1 (F_VR_make_J48 t0_0 t0_1 t0_2 t0_3 t0_4 t0_5 t0_6 t0_7 t0_8 t0_9 t0_10 t0_11 t0_12 t0_13 t0_14 t0_15 t0_16 t0_17 t0_18 t0_19 t0_20 t0_21 t1_0 t2_0 t3_0 t4_0 t5_0 t6_0 a48).2.2.2.2.2.2.1 q := by
  unfold F_VR_make_J48 F_VR_make_J49
  have go : ∀ (c : Int32) (k : Nat), c.toInt = (k : Int) → (a48 = 37 ∧ k = 37 ∨ a48 = 110 ∧ k = 10) → ∃ q, zPc t0_13 t0_9 W pr a q ∧ yRt (F_VR_make_J76 t0_0 t0_1 t0_2 t0_3 t0_4 t0_5 t0_6 t0_7 t0_8 t0_9 t0_10 t0_11 t0_12 t0_13 t0_14 t0_15 t0_16 t0_17 t0_18 t0_19 t0_20 t0_21 t1_0 t2_0 t3_0 t4_0 t5_0 t6_0 a48 0 c).2.1 (F_VR_make_J76 t0_0 t0_1 t0_2 t0_3 t0_4 t0_5 t0_6 t0_7 t0_8 t0_9 t0_10 t0_11 t0_12 t0_13 t0_14 t0_15 t0_16 t0_17 t0_18 t0_19 t0_20 t0_21 t1_0 t2_0 t3_0 t4_0 t5_0 t6_0 a48 0 c).2.2.2.2.2.2.1 q := by
    intro c k hc hk
    unfold F_VR_make_J76
    have w := Z_put (x2 := c) (t0_0 := t0_0) (t0_1 := t0_1) (t0_2 := t0_2) (t0_3 := t0_3) (t0_4 := t0_4) (t0_5 := t0_5) (t0_6 := t0_6) (t0_7 := t0_7) (t0_8 := t0_8) (t0_9 := t0_9) (t0_10 := t0_10) (t0_11 := t0_11) (t0_12 := t0_12) (t0_13 := t0_13) (t0_14 := t0_14) (t0_15 := t0_15) (t0_16 := t0_16) (t0_17 := 0) (t0_18 := 0) (t0_19 := 0) (t0_20 := t0_20) (t0_21 := t0_21) (t1_0 := t5_0) yRt_0 (by decide) hc
    revert w
    generalize F_VR_put c t0_0 t0_1 t0_2 t0_3 t0_4 t0_5 t0_6 t0_7 t0_8 t0_9 t0_10 t0_11 t0_12 t0_13 t0_14 t0_15 t0_16 0 0 0 t0_20 t0_21 t5_0 = q
    intro w
    unfold F_VR_make_c76
    exact Z_mE (t := [k]) (f := 0) h11 hW h12 h48 (by
      rcases hk with ⟨x, y⟩ | ⟨x, y⟩
      · exact Or.inl ⟨x, by rw [y], rfl, rfl⟩
      · exact Or.inr (Or.inl ⟨x, by rw [y], rfl, rfl⟩)) rfl w (by show 1 ≤ 20000; decide) rfl (Or.inl rfl)
  rcases h with x | x
  · rw [if_pos x]
    unfold F_VR_make_J62
    rw [if_pos x]
    exact go 37 37 rfl (Or.inl ⟨x, rfl⟩)
  · have x2 : ¬ a48 = 37 := by rw [x]; decide
    rw [if_neg x2, if_pos x]
    unfold F_VR_make_J62
    rw [if_neg x2]
    exact go 10 10 rfl (Or.inr ⟨x, rfl⟩)
theorem Z_mk124 {t0_0 : Int32} {t0_1 : Int32} {t0_2 : Int32} {t0_3 : Int32} {t0_4 : Int32} {t0_5 : Int32} {t0_6 : Int32} {t0_7 : Int32} {t0_8 : Int32} {t0_9 : Int32} {t0_10 : Int32} {t0_11 : Int32} {t0_12 : Int32} {t0_13 : Int32} {t0_14 : Int32} {t0_15 : Int32} {t0_16 : Int32} {t0_17 : Int32} {t0_18 : Int32} {t0_19 : Int32} {t0_20 : Int32} {t0_21 : Int32} {t1_0 : (Nat → Int32)} {t2_0 : (Nat → Int32)} {t3_0 : (Nat → Int64)} {t4_0 : (Nat → Int32)} {t5_0 : (Nat → Int32)} {t6_0 : (Nat → Int32)} {a48 : Int32} {lx59 : Int32} {lx406 : Int32} {W pr : Int} {a : yA} (h11 : t0_11.toInt = W) (hW : -1 ≤ W ∧ W ≤ 9999) (h12 : t0_12.toInt = pr) (hpr : -1 ≤ pr ∧ pr ≤ 9999) (h13 : 0 ≤ t0_13.toInt ∧ t0_13.toInt ≤ 255) (h48 : a48 = zSm t0_13) (h98 : a48 = 98) (h406 : lx406 = if a.1 = 0 ∨ (a.1 = 1 ∧ a.2.1 = 0) then 1 else 0) : ∃ q, zPc t0_13 t0_9 W pr a q ∧ yRt (F_VR_make_J124 t0_0 t0_1 t0_2 t0_3 t0_4 t0_5 t0_6 t0_7 t0_8 t0_9 t0_10 t0_11 t0_12 t0_13 t0_14 t0_15 t0_16 t0_17 t0_18 t0_19 t0_20 t0_21 t1_0 t2_0 t3_0 t4_0 t5_0 t6_0 a48 lx59 lx406).2.1 (F_VR_make_J124 t0_0 t0_1 t0_2 t0_3 t0_4 t0_5 t0_6 t0_7 t0_8 t0_9 t0_10 t0_11 t0_12 t0_13 t0_14 t0_15 t0_16 t0_17 t0_18 t0_19 t0_20 t0_21 t1_0 t2_0 t3_0 t4_0 t5_0 t6_0 a48 lx59 lx406).2.2.2.2.2.2.1 q := by
  unfold F_VR_make_J124
  have go : ∀ (c : Int64) (X : Nat), c.toInt = (X : Int) → X < 256 ^ 5 → zWl 5 X = (if a.1 = 0 ∨ (a.1 = 1 ∧ a.2.1 = 0) then zFal else zTru) → ∃ q, zPc t0_13 t0_9 W pr a q ∧ yRt (F_VR_make_J139 t0_0 t0_1 t0_2 t0_3 t0_4 t0_5 t0_6 t0_7 t0_8 t0_9 t0_10 t0_11 t0_12 t0_13 t0_14 t0_15 t0_16 t0_17 t0_18 t0_19 t0_20 t0_21 t1_0 t2_0 t3_0 t4_0 t5_0 t6_0 a48 lx59 lx406 c).2.1 (F_VR_make_J139 t0_0 t0_1 t0_2 t0_3 t0_4 t0_5 t0_6 t0_7 t0_8 t0_9 t0_10 t0_11 t0_12 t0_13 t0_14 t0_15 t0_16 t0_17 t0_18 t0_19 t0_20 t0_21 t1_0 t2_0 t3_0 t4_0 t5_0 t6_0 a48 lx59 lx406 c).2.2.2.2.2.2.1 q := by
    intro c X hc hX hw
    unfold F_VR_make_J139
    have w := Z_word (x2 := c) (t0_0 := t0_0) (t0_1 := t0_1) (t0_2 := t0_2) (t0_3 := t0_3) (t0_4 := t0_4) (t0_5 := t0_5) (t0_6 := t0_6) (t0_7 := t0_7) (t0_8 := t0_8) (t0_9 := t0_9) (t0_10 := t0_10) (t0_11 := t0_11) (t0_12 := t0_12) (t0_13 := t0_13) (t0_14 := t0_14) (t0_15 := t0_15) (t0_16 := t0_16) (t0_17 := 0) (t0_18 := 0) (t0_19 := 0) (t0_20 := t0_20) (t0_21 := t0_21) (t1_0 := t5_0) hc hX yRt_0 (by decide)
    rw [List.nil_append, hw] at w
    revert w
    generalize F_VR_word c t0_0 t0_1 t0_2 t0_3 t0_4 t0_5 t0_6 t0_7 t0_8 t0_9 t0_10 t0_11 t0_12 t0_13 t0_14 t0_15 t0_16 0 0 0 t0_20 t0_21 t5_0 = q
    intro w
    unfold F_VR_make_c139
    exact Z_mE (f := 0) h11 hW h12 h48 (Or.inr (Or.inr (Or.inl ⟨h98, rfl, rfl, rfl⟩))) rfl w (by split <;> decide) rfl (Or.inl rfl)
  by_cases c : a.1 = 0 ∨ (a.1 = 1 ∧ a.2.1 = 0)
  · rw [if_pos c] at h406
    rw [if_neg (by rw [h406]; decide)]
    exact go 435728179558 435728179558 rfl (by decide) (by rw [if_pos c]; exact Z_fal)
  · rw [if_neg c] at h406
    rw [if_pos h406]
    exact go 1702195828 1702195828 rfl (by decide) (by rw [if_neg c]; exact Z_tru)
theorem Z_mk49 {t0_0 : Int32} {t0_1 : Int32} {t0_2 : Int32} {t0_3 : Int32} {t0_4 : Int32} {t0_5 : Int32} {t0_6 : Int32} {t0_7 : Int32} {t0_8 : Int32} {t0_9 : Int32} {t0_10 : Int32} {t0_11 : Int32} {t0_12 : Int32} {t0_13 : Int32} {t0_14 : Int32} {t0_15 : Int32} {t0_16 : Int32} {t0_17 : Int32} {t0_18 : Int32} {t0_19 : Int32} {t0_20 : Int32} {t0_21 : Int32} {t1_0 : (Nat → Int32)} {t2_0 : (Nat → Int32)} {t3_0 : (Nat → Int64)} {t4_0 : (Nat → Int32)} {t5_0 : (Nat → Int32)} {t6_0 : (Nat → Int32)} {a48 : Int32} {lx59 : Int32} {W pr : Int} {a : yA} (h11 : t0_11.toInt = W) (hW : -1 ≤ W ∧ W ≤ 9999) (h12 : t0_12.toInt = pr) (hpr : -1 ≤ pr ∧ pr ≤ 9999) (h13 : 0 ≤ t0_13.toInt ∧ t0_13.toInt ≤ 255) (h48 : a48 = zSm t0_13) (n37 : ¬ a48 = 37) (n110 : ¬ a48 = 110) (hZ : ∀ i, i < 9 → 0 ≤ (t2_0 i).toInt ∧ (t2_0 i).toInt ≤ 64) {i : Nat} (hi : t0_14.toInt = (i : Int)) (hi2 : i ≤ 8) (ha : zRa (t1_0 t0_14.toNatClampNeg) (t2_0 t0_14.toNatClampNeg) (t3_0 t0_14.toNatClampNeg) t4_0 i a) (hO : t0_13 ∈ yO1) (hk : zTk t0_13 a.1) (h59 : lx59 = if a.1 = 0 then 1 else 0) : ∃ q, zPc t0_13 t0_9 W pr a q ∧ yRt (F_VR_make_J49 t0_0 t0_1 t0_2 t0_3 t0_4 t0_5 t0_6 t0_7 t0_8 t0_9 t0_10 t0_11 t0_12 t0_13 t0_14 t0_15 t0_16 t0_17 t0_18 t0_19 t0_20 t0_21 t1_0 t2_0 t3_0 t4_0 t5_0 t6_0 a48 lx59).2.1 (F_VR_make_J49 t0_0 t0_1 t0_2 t0_3 t0_4 t0_5 t0_6 t0_7 t0_8 t0_9 t0_10 t0_11 t0_12 t0_13 t0_14 t0_15 t0_16 t0_17 t0_18 t0_19 t0_20 t0_21 t1_0 t2_0 t3_0 t4_0 t5_0 t6_0 a48 lx59).2.2.2.2.2.2.1 q := by
  have e0 : (0 : Int64).toInt = 0 := rfl
  have e1 : (1 : Int32).toInt = 1 := rfl
  have aw := ha.2.2.2.2.2
  have ka := ha.1
  have va := ha.2.1
  have z14 : t0_14.toNatClampNeg = i := by show t0_14.toInt.toNat = _; omega
  have h14 : 0 ≤ t0_14.toInt ∧ t0_14.toInt ≤ 8 := by omega
  unfold F_VR_make_J49
  rw [if_neg n37, if_neg n110]
  by_cases c98 : a48 = 98
  · rw [if_pos c98]
    by_cases k0 : a.1 = 0
    · rw [if_pos k0] at h59
      rw [if_neg (show ¬ lx59 = 0 by rw [h59]; decide)]
      unfold F_VR_make_J119
      exact Z_mk124 h11 hW h12 hpr h13 h48 c98 (by rw [if_pos (Or.inl k0)])
    · rw [if_neg k0] at h59
      rw [if_pos h59]
      by_cases k1 : a.1 = 1
      · rw [if_pos (show t1_0 t0_14.toNatClampNeg = 1 by rw [← Int32.toInt_inj]; omega)]
        by_cases cw : lg_cmp (t3_0 t0_14.toNatClampNeg) 0 = 0
        · rw [if_pos cw]
          have v0 : a.2.1 = 0 := by have := q_k9 cw; rw [va] at this; exact Int64.toInt_inj.mp this
          unfold F_VR_make_J119
          exact Z_mk124 h11 hW h12 hpr h13 h48 c98 (by rw [if_pos (Or.inr ⟨k1, v0⟩)])
        · rw [if_neg cw]
          have v0 : ¬ a.2.1 = 0 := fun w => by have := q_k10 cw; rw [va, w] at this; exact this rfl
          unfold F_VR_make_J123
          exact Z_mk124 h11 hW h12 hpr h13 h48 c98 (by rw [if_neg (by rintro (w | w); exact k0 w; exact v0 w.2)])
      · rw [if_neg (show ¬ t1_0 t0_14.toNatClampNeg = 1 by rw [← Int32.toInt_inj]; omega)]
        unfold F_VR_make_J123
        exact Z_mk124 h11 hW h12 hpr h13 h48 c98 (by rw [if_neg (by rintro (w | w); exact k0 w; exact k1 w.1)])
  · rw [if_neg c98]
    by_cases k0 : a.1 = 0
    · rw [if_pos k0] at h59
      rw [if_neg (show ¬ lx59 = 0 by rw [h59]; decide)]
      have w := Z_word (x2 := 1819047278) (t0_0 := t0_0) (t0_1 := t0_1) (t0_2 := t0_2) (t0_3 := t0_3) (t0_4 := t0_4) (t0_5 := t0_5) (t0_6 := t0_6) (t0_7 := t0_7) (t0_8 := t0_8) (t0_9 := t0_9) (t0_10 := t0_10) (t0_11 := t0_11) (t0_12 := t0_12) (t0_13 := t0_13) (t0_14 := t0_14) (t0_15 := t0_15) (t0_16 := t0_16) (t0_17 := 0) (t0_18 := 0) (t0_19 := 0) (t0_20 := t0_20) (t0_21 := t0_21) (t1_0 := t5_0) (X := 1819047278) rfl (by decide) yRt_0 (by decide)
      rw [List.nil_append, Z_nul] at w
      revert w
      generalize F_VR_word 1819047278 t0_0 t0_1 t0_2 t0_3 t0_4 t0_5 t0_6 t0_7 t0_8 t0_9 t0_10 t0_11 t0_12 t0_13 t0_14 t0_15 t0_16 0 0 0 t0_20 t0_21 t5_0 = q
      intro w
      unfold F_VR_make_c153
      exact Z_mE (f := 0) h11 hW h12 h48 (Or.inr (Or.inr (Or.inr (Or.inl ⟨by rintro (w | w | w); exact n37 w; exact n110 w; exact c98 w, k0, rfl, rfl, rfl⟩)))) rfl w (by decide) rfl (Or.inl rfl)
    · rw [if_neg k0] at h59
      rw [if_pos h59]
      have tk := Z_tkS h13 aw.1 hk k0 hO
      rw [← h48] at tk
      by_cases c115 : a48 = 115
      · rw [if_pos c115]
        obtain ⟨u, w1, w2⟩ := Z_strg (t0_0 := t0_0) (t0_1 := t0_1) (t0_2 := t0_2) (t0_3 := t0_3) (t0_4 := t0_4) (t0_5 := t0_5) (t0_6 := t0_6) (t0_7 := t0_7) (t0_8 := t0_8) (t0_9 := t0_9) (t0_10 := t0_10) (t0_11 := t0_11) (t0_12 := t0_12) (t0_13 := t0_13) (t0_14 := t0_14) (t0_15 := t0_15) (t0_16 := t0_16) (t0_17 := 0) (t0_18 := 0) (t0_19 := 0) (t0_20 := t0_20) (t0_21 := t0_21) (t5_0 := t5_0) (t6_0 := t6_0) hi hi2 ha k0 yRt_0 (by decide)
        have w3 := Z_strF (t0_0 := t0_0) (t0_1 := t0_1) (t0_2 := t0_2) (t0_3 := t0_3) (t0_4 := t0_4) (t0_5 := t0_5) (t0_6 := t0_6) (t0_7 := t0_7) (t0_8 := t0_8) (t0_9 := t0_9) (t0_10 := t0_10) (t0_11 := t0_11) (t0_12 := t0_12) (t0_13 := t0_13) (t0_14 := t0_14) (t0_15 := t0_15) (t0_16 := t0_16) (t0_17 := 0) (t0_18 := 0) (t0_19 := 0) (t0_20 := t0_20) (t0_21 := t0_21) (t1_0 := t1_0) (t2_0 := t2_0) (t3_0 := t3_0) (t4_0 := t4_0) (t5_0 := t5_0) (t6_0 := t6_0) (hZ _ (by omega))
        have w4 := (T_VR_string (t0_0 := t0_0) (t0_1 := t0_1) (t0_2 := t0_2) (t0_3 := t0_3) (t0_4 := t0_4) (t0_5 := t0_5) (t0_6 := t0_6) (t0_7 := t0_7) (t0_8 := t0_8) (t0_9 := t0_9) (t0_10 := t0_10) (t0_11 := t0_11) (t0_12 := t0_12) (t0_13 := t0_13) (t0_14 := t0_14) (t0_15 := t0_15) (t0_16 := t0_16) (t0_17 := 0) (t0_18 := 0) (t0_19 := 0) (t0_20 := t0_20) (t0_21 := t0_21) (t1_0 := t1_0) (t2_0 := t2_0) (t3_0 := t3_0) (t4_0 := t4_0) (t5_0 := t5_0) (t6_0 := t6_0) hZ h14 (by decide)).2
        unfold Q_VR_str at w4
        rw [List.nil_append] at w2
        revert w2 w3 w4
        generalize F_VR_string t0_0 t0_1 t0_2 t0_3 t0_4 t0_5 t0_6 t0_7 t0_8 t0_9 t0_10 t0_11 t0_12 t0_13 t0_14 t0_15 t0_16 0 0 0 t0_20 t0_21 t1_0 t2_0 t3_0 t4_0 t5_0 t6_0 = q
        intro w2 w3 w4
        have z0 : (0 : Int32).toInt = 0 := rfl
        unfold F_VR_make_c166
        exact Z_mE (f := 0) h11 hW h12 h48 (Or.inr (Or.inr (Or.inr (Or.inr (Or.inl ⟨c115, k0, w1, rfl, rfl⟩))))) w3 w2 (by have := w2.1; omega) rfl (Or.inl rfl)
      · rw [if_neg c115]
        by_cases c99 : a48 = 99
        · rw [if_pos c99]
          have k2 : a.1 = 2 := by
            rcases tk with x | x | x | x | x | x | x
            · exact absurd x n37
            · exact absurd x n110
            · exact absurd x c98
            · exact absurd x c115
            · exact x.2
            · exact absurd x.1 (by rw [c99]; decide)
            · exact absurd x.1 (by rw [c99]; decide)
          have vb := aw.2.2.2.2.2.2.1 k2
          have w := Z_put (x2 := (t3_0 t0_14.toNatClampNeg).toInt32) (t0_0 := t0_0) (t0_1 := t0_1) (t0_2 := t0_2) (t0_3 := t0_3) (t0_4 := t0_4) (t0_5 := t0_5) (t0_6 := t0_6) (t0_7 := t0_7) (t0_8 := t0_8) (t0_9 := t0_9) (t0_10 := t0_10) (t0_11 := t0_11) (t0_12 := t0_12) (t0_13 := t0_13) (t0_14 := t0_14) (t0_15 := t0_15) (t0_16 := t0_16) (t0_17 := 0) (t0_18 := 0) (t0_19 := 0) (t0_20 := t0_20) (t0_21 := t0_21) (t1_0 := t5_0) (v := a.2.1.toInt.toNat) yRt_0 (by decide) (by
            rw [va, Int64.toInt_toInt32, Int.bmod_eq_of_le (by omega) (by omega)]
            omega)
          revert w
          generalize F_VR_put (t3_0 t0_14.toNatClampNeg).toInt32 t0_0 t0_1 t0_2 t0_3 t0_4 t0_5 t0_6 t0_7 t0_8 t0_9 t0_10 t0_11 t0_12 t0_13 t0_14 t0_15 t0_16 0 0 0 t0_20 t0_21 t5_0 = q
          intro w
          unfold F_VR_make_c189
          exact Z_mE (f := 0) h11 hW h12 h48 (Or.inr (Or.inr (Or.inr (Or.inr (Or.inr (Or.inl ⟨c99, k0, rfl, rfl, rfl⟩)))))) rfl w (by show 1 ≤ 20000; decide) rfl (Or.inl rfl)
        · rw [if_neg c99]
          have nu : ((a48 = 111 ∨ a48 = 120 ∨ a48 = 100) ∧ a.1 = 3) ∨ ((a48 = 102 ∨ a48 = 101 ∨ a48 = 103) ∧ a.1 = 5) := by
            rcases tk with x | x | x | x | x | x | x
            · exact absurd x n37
            · exact absurd x n110
            · exact absurd x c98
            · exact absurd x c115
            · exact absurd x.1 c99
            · exact Or.inl x
            · exact Or.inr x
          have hx : a48 = 111 ∨ a48 = 120 ∨ a48 = 100 ∨ a48 = 102 ∨ a48 = 101 ∨ a48 = 103 := by
            rcases nu with ⟨x | x | x, _⟩ | ⟨x | x | x, _⟩
            · exact Or.inl x
            · exact Or.inr (Or.inl x)
            · exact Or.inr (Or.inr (Or.inl x))
            · exact Or.inr (Or.inr (Or.inr (Or.inl x)))
            · exact Or.inr (Or.inr (Or.inr (Or.inr (Or.inl x))))
            · exact Or.inr (Or.inr (Or.inr (Or.inr (Or.inr x))))
          have i64 : a48 = 111 ∨ a48 = 120 → t2_0 t0_14.toNatClampNeg = 64 := by
            intro y
            rcases nu with ⟨_, k3⟩ | ⟨x, _⟩
            · exact ha.2.2.1 k3
            · exfalso
              rcases y with y | y <;> rw [y] at x <;> revert x <;> decide
          have isc : a48 = 102 ∨ a48 = 101 ∨ a48 = 103 → (t2_0 t0_14.toNatClampNeg).toInt = (a.2.2.1 : Int) := by
            intro y
            rcases nu with ⟨x, _⟩ | ⟨_, k5⟩
            · exfalso
              rcases y with y | y | y <;> rw [y] at x <;> revert x <;> decide
            · exact ha.2.2.2.1 k5
          obtain ⟨dg, hdg⟩ := yDt_ex a.2.1.toInt.natAbs
          obtain ⟨t, f, w1, w2, w3, w4⟩ := Z_numr (x2 := a48) (t0_0 := t0_0) (t0_1 := t0_1) (t0_2 := t0_2) (t0_3 := t0_3) (t0_4 := t0_4) (t0_5 := t0_5) (t0_6 := t0_6) (t0_7 := t0_7) (t0_8 := t0_8) (t0_9 := t0_9) (t0_10 := t0_10) (t0_11 := t0_11) (t0_12 := t0_12) (t0_13 := t0_13) (t0_14 := t0_14) (t0_15 := t0_15) (t0_16 := t0_16) (t0_17 := 0) (t0_18 := 0) (t0_19 := 0) (t0_20 := t0_20) (t0_21 := t0_21) (t1_0 := t2_0) (t2_0 := t3_0) (t3_0 := t5_0) (t4_0 := t6_0) (p := if pr < 0 then 6 else pr.toNat) (s := a.2.2.1) va hZ h14 hx i64 isc aw.2.1 (by
            by_cases c : pr < 0
            · exact Or.inl ⟨by omega, by rw [if_pos c]⟩
            · refine Or.inr ?_
              rw [if_neg c]
              omega) (by split <;> omega) hdg yRt_0
          have w5 := (T_VR_numeric (x2 := a48) (t0_0 := t0_0) (t0_1 := t0_1) (t0_2 := t0_2) (t0_3 := t0_3) (t0_4 := t0_4) (t0_5 := t0_5) (t0_6 := t0_6) (t0_7 := t0_7) (t0_8 := t0_8) (t0_9 := t0_9) (t0_10 := t0_10) (t0_11 := t0_11) (t0_12 := t0_12) (t0_13 := t0_13) (t0_14 := t0_14) (t0_15 := t0_15) (t0_16 := t0_16) (t0_17 := 0) (t0_18 := 0) (t0_19 := 0) (t0_20 := t0_20) (t0_21 := t0_21) (t1_0 := t2_0) (t2_0 := t3_0) (t3_0 := t5_0) (t4_0 := t6_0) hZ h14 (by omega) (by decide)).2
          unfold Q_VR_num at w5
          revert w2 w3 w4 w5
          generalize F_VR_numeric a48 t0_0 t0_1 t0_2 t0_3 t0_4 t0_5 t0_6 t0_7 t0_8 t0_9 t0_10 t0_11 t0_12 t0_13 t0_14 t0_15 t0_16 0 0 0 t0_20 t0_21 t2_0 t3_0 t5_0 t6_0 = q
          intro w2 w3 w4 w5
          have z0 : (0 : Int32).toInt = 0 := rfl
          have l2 := w2.1
          unfold F_VR_make_c197
          exact Z_mE (f := f) h11 hW h12 h48 (Or.inr (Or.inr (Or.inr (Or.inr (Or.inr (Or.inr ⟨hx, k0, ⟨dg, hdg, w1⟩, w4⟩)))))) rfl w2 (by omega) w3 (Or.inr ⟨fun w => w.elim c98 c115, by omega⟩)
theorem Z_make {t0_0 : Int32} {t0_1 : Int32} {t0_2 : Int32} {t0_3 : Int32} {t0_4 : Int32} {t0_5 : Int32} {t0_6 : Int32} {t0_7 : Int32} {t0_8 : Int32} {t0_9 : Int32} {t0_10 : Int32} {t0_11 : Int32} {t0_12 : Int32} {t0_13 : Int32} {t0_14 : Int32} {t0_15 : Int32} {t0_16 : Int32} {t0_17 : Int32} {t0_18 : Int32} {t0_19 : Int32} {t0_20 : Int32} {t0_21 : Int32} {t1_0 : (Nat → Int32)} {t2_0 : (Nat → Int32)} {t3_0 : (Nat → Int64)} {t4_0 : (Nat → Int32)} {t5_0 : (Nat → Int32)} {t6_0 : (Nat → Int32)} {W pr : Int} {a : yA} (h11 : t0_11.toInt = W) (hW : -1 ≤ W ∧ W ≤ 9999) (h12 : t0_12.toInt = pr) (hpr : -1 ≤ pr ∧ pr ≤ 9999) (h13 : 0 ≤ t0_13.toInt ∧ t0_13.toInt ≤ 255) (h : (zSm t0_13 = 37 ∨ zSm t0_13 = 110) ∨ ((∀ i, i < 9 → 0 ≤ (t2_0 i).toInt ∧ (t2_0 i).toInt ≤ 64) ∧ ∃ i : Nat, t0_14.toInt = (i : Int) ∧ i ≤ 8 ∧ zRa (t1_0 t0_14.toNatClampNeg) (t2_0 t0_14.toNatClampNeg) (t3_0 t0_14.toNatClampNeg) t4_0 i a ∧ t0_13 ∈ yO1 ∧ zTk t0_13 a.1)) : ∃ q, zPc t0_13 t0_9 W pr a q ∧ yRt (F_VR_make t0_0 t0_1 t0_2 t0_3 t0_4 t0_5 t0_6 t0_7 t0_8 t0_9 t0_10 t0_11 t0_12 t0_13 t0_14 t0_15 t0_16 t0_17 t0_18 t0_19 t0_20 t0_21 t1_0 t2_0 t3_0 t4_0 t5_0 t6_0).2.1 (F_VR_make t0_0 t0_1 t0_2 t0_3 t0_4 t0_5 t0_6 t0_7 t0_8 t0_9 t0_10 t0_11 t0_12 t0_13 t0_14 t0_15 t0_16 t0_17 t0_18 t0_19 t0_20 t0_21 t1_0 t2_0 t3_0 t4_0 t5_0 t6_0).2.2.2.2.2.2.1 q := by
  have e0 : (0 : Int32).toInt = 0 := rfl
  unfold F_VR_make
  rw [Z_sm h13]
  by_cases c : zSm t0_13 = 37
  · rw [if_pos c]
    exact Z_mk48 h11 hW h12 hpr h13 rfl (Or.inl c)
  · rw [if_neg c]
    by_cases d : zSm t0_13 = 110
    · rw [if_pos d]
      exact Z_mk48 h11 hW h12 hpr h13 rfl (Or.inr d)
    · rw [if_neg d]
      rcases h with h | ⟨hZ, i, hi, hi2, ha, hO, hk⟩
      · exact absurd h (by rintro (w | w); exact c w; exact d w)
      · by_cases k0 : t1_0 t0_14.toNatClampNeg = 0
        · rw [if_pos k0]
          have a0 : a.1 = 0 := by have := ha.1; rw [k0] at this; omega
          exact Z_mk49 h11 hW h12 hpr h13 rfl c d hZ hi hi2 ha hO hk (by rw [if_pos a0])
        · rw [if_neg k0]
          have a0 : ¬ a.1 = 0 := by
            intro w
            have := ha.1
            rw [w] at this
            exact k0 (Int32.toInt_inj.mp (by rw [this]; rfl))
          unfold F_VR_make_J48
          exact Z_mk49 h11 hW h12 hpr h13 rfl c d hZ hi hi2 ha hO hk (by rw [if_neg a0])

