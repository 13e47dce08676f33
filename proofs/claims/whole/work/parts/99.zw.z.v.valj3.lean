/-! values, for whole: the printer's o and x, its signs -/
theorem y_ch19 {x : Int32} {k : Nat} (h : x.toInt = (k : Int)) (hk : k < 16) : (F_jStr_charAt_19 x).toInt = ((yLet k : Nat) : Int) := by
  have xc : x.toNatClampNeg = k := by
    have := q_clI h (by omega)
    omega
  unfold F_jStr_charAt_19 F_jLat_charAt_19
  rw [xc]
  have key : ∀ k : Nat, k < 36 → (((((([48, 49, 50, 51, 52, 53, 54, 55, 56, 57, 97, 98, 99, 100, 101, 102, 103, 104, 105, 106, 107, 108, 109, 110, 111, 112, 113, 114, 115, 116, 117, 118, 119, 120, 121, 122] : List Int32).getD k 0) : Int32) &&& 255 : Int32).toUInt32 % 65536).toInt32 : Int32).toInt = ((yLet k : Nat) : Int) := by decide +kernel
  exact key k (by omega)
def zLg (g b M : Nat) (m : Int32) : Prop := (g = 3 ∧ b = 8 ∧ M = 22 ∧ m = 3) ∨ (g = 4 ∧ b = 16 ∧ M = 16 ∧ m = 4)
theorem V_lgS {g b M j : Nat} {a lx : Int32} {x : Int64} (h : zLg g b M lx) (ha : a.toInt = (j : Int)) (hj : j < M) : yu ((x.toUInt64 >>> ((lx * a : Int32).toInt64.toUInt64 &&& Int64.toUInt64 63)).toInt64) = yu x / b ^ j := by
  rcases h with ⟨h1, h2, h3, h4⟩ | ⟨h1, h2, h3, h4⟩
  · subst h4
    have e : (3 * a : Int32).toInt = ((3 * j : Nat) : Int) := by
      rw [q_mulI (show (3 : Int32).toInt = 3 from rfl) ha (by omega) (by omega)]
      omega
    have w := w_lshr (x := x) e (by omega)
    exact w.trans (by rw [Nat.pow_mul, h2, show (2 : Nat) ^ 3 = 8 from rfl])
  · subst h4
    have e : (4 * a : Int32).toInt = ((4 * j : Nat) : Int) := by
      rw [q_mulI (show (4 : Int32).toInt = 4 from rfl) ha (by omega) (by omega)]
      omega
    have w := w_lshr (x := x) e (by omega)
    exact w.trans (by rw [Nat.pow_mul, h2, show (2 : Nat) ^ 4 = 16 from rfl])
theorem V_lgD {g b M j : Nat} {a lx : Int32} {x : Int64} (h : zLg g b M lx) (ha : a.toInt = (j : Int)) (hj : j < M) : ((((x.toUInt64 >>> ((lx * a : Int32).toInt64.toUInt64 &&& Int64.toUInt64 63)).toInt64).toInt32) &&& (((1 : Int32) <<< (lx &&& 31) : Int32) - 1)).toInt = ((yBg b (yu x) j : Nat) : Int) := by
  have s := V_lgS (x := x) h ha hj
  unfold yBg
  rcases h with ⟨h1, h2, h3, h4⟩ | ⟨h1, h2, h3, h4⟩
  · subst h4
    have m : ((1 : Int32) <<< ((3 : Int32) &&& 31) : Int32) - 1 = 7 := by decide
    rw [m, fx_and (k := 3) s (by decide) (by decide), h2]
  · subst h4
    have m : ((1 : Int32) <<< ((4 : Int32) &&& 31) : Int32) - 1 = 15 := by decide
    rw [m, fx_and (k := 4) s (by decide) (by decide), h2]
theorem V_tbW {K_F_Pri_writeToBase_L78 : Int32 → (Int32 × Int32 × Int32 × Int32 × Int32 × (Nat → Int64))} {x2 : Int64} {t0_0 : Int32} {t0_1 : Int32} {t0_2 : Int32} {t0_3 : Int32} {t1_0 : Int32} {t2_0 : (Nat → Int64)} {t3_0 : Int32} {t3_1 : Int32} {t3_2 : Int32} {t3_3 : Int32} {t3_4 : Int32} {t3_5 : Int32} {t3_6 : Int32} {lx25 : Int32} {lx45 : Int32} {lx46 : (Nat → Int64)} {lx62 : Int32} {lx82 : Int32} {g b M : Nat} (hg : zLg g b M lx62) : ∀ (n : Nat) (lx105 : Int32) (lx106 : Int32) (lx107 : (Nat → Int64)), ∀ (j : Nat) (l : List Nat), lx105.toInt = (j : Int) - 1 → j ≤ M → j < n → yShl 4104 lx106 lx107 l → l.length + j ≤ 1000 → (F_Pri_writeToBase_L110 K_F_Pri_writeToBase_L78 x2 t0_0 t0_1 t0_2 t0_3 t1_0 t2_0 t3_0 t3_1 t3_2 t3_3 t3_4 t3_5 t3_6 lx25 lx45 lx46 lx62 lx82 n lx105 lx106 lx107).2.1 = lx45 ∧ (F_Pri_writeToBase_L110 K_F_Pri_writeToBase_L78 x2 t0_0 t0_1 t0_2 t0_3 t1_0 t2_0 t3_0 t3_1 t3_2 t3_3 t3_4 t3_5 t3_6 lx25 lx45 lx46 lx62 lx82 n lx105 lx106 lx107).1 = t0_0 ∧ (F_Pri_writeToBase_L110 K_F_Pri_writeToBase_L78 x2 t0_0 t0_1 t0_2 t0_3 t1_0 t2_0 t3_0 t3_1 t3_2 t3_3 t3_4 t3_5 t3_6 lx25 lx45 lx46 lx62 lx82 n lx105 lx106 lx107).2.2.1 = t0_2 ∧ (F_Pri_writeToBase_L110 K_F_Pri_writeToBase_L78 x2 t0_0 t0_1 t0_2 t0_3 t1_0 t2_0 t3_0 t3_1 t3_2 t3_3 t3_4 t3_5 t3_6 lx25 lx45 lx46 lx62 lx82 n lx105 lx106 lx107).2.2.2.1 = t0_3 ∧ yShl 4104 (F_Pri_writeToBase_L110 K_F_Pri_writeToBase_L78 x2 t0_0 t0_1 t0_2 t0_3 t1_0 t2_0 t3_0 t3_1 t3_2 t3_3 t3_4 t3_5 t3_6 lx25 lx45 lx46 lx62 lx82 n lx105 lx106 lx107).2.2.2.2.1 (F_Pri_writeToBase_L110 K_F_Pri_writeToBase_L78 x2 t0_0 t0_1 t0_2 t0_3 t1_0 t2_0 t3_0 t3_1 t3_2 t3_3 t3_4 t3_5 t3_6 lx25 lx45 lx46 lx62 lx82 n lx105 lx106 lx107).2.2.2.2.2 (l ++ (yLw b (yu x2) 0 j).reverse) := by
  have e0 : (0 : Int32).toInt = 0 := rfl
  have mb : M ≤ 22 ∧ 2 ≤ b ∧ b ≤ 16 := by rcases hg with ⟨h1, h2, h3, h4⟩ | ⟨h1, h2, h3, h4⟩ <;> omega
  intro n
  induction n with
  | zero =>
    intro _ _ _ j _ _ _ q
    omega
  | succ n ih =>
    intro lx105 lx106 lx107 j l h1 h2 h3 h4 h5
    unfold F_Pri_writeToBase_L110
    by_cases c : lx105 < 0
    · rw [if_pos c]
      have c' := q_ltI c
      have j0 : j = 0 := by omega
      subst j0
      refine ⟨rfl, rfl, rfl, rfl, ?_⟩
      show yShl 4104 lx106 lx107 (l ++ [])
      rw [List.append_nil]
      exact h4
    · rw [if_neg c]
      have c' := q_nltI c
      obtain ⟨i, rfl⟩ : ∃ i, j = i + 1 := ⟨j - 1, by omega⟩
      have a1 : lx105.toInt = (i : Int) := by omega
      have bl : yBg b (yu x2) i < b := yBg_lt mb.2.1
      have dg := y_ch19 (V_lgD (x := x2) hg a1 (by omega)) (by omega)
      have w := V_paP4 (N := 513) (K := 1000000) h4 (by omega) dg (yLet_lt (by omega))
      revert w
      generalize F_She_add_p 4104 513 1000000 (F_jStr_charAt_19 ((((x2.toUInt64 >>> ((lx62 * lx105 : Int32).toInt64.toUInt64 &&& Int64.toUInt64 63)).toInt64).toInt32) &&& (((1 : Int32) <<< (lx62 &&& 31) : Int32) - 1))) lx106 lx107 = q
      intro w
      unfold F_Pri_writeToBase_c139
      have r := ih (lx105 + -1) q.1 q.2 i _ (by rw [q_addI (y := -1) a1 rfl (by omega) (by omega)]; omega) (by omega) (by omega) w (by rw [List.length_append]; show l.length + 1 + i ≤ 1000; omega)
      rw [yLw_s, List.reverse_append, Nat.zero_add]
      rw [List.append_assoc] at r
      exact r
theorem V_tbM {x2 : Int64} {t0_0 : Int32} {t0_1 : Int32} {t0_2 : Int32} {t0_3 : Int32} {t1_0 : Int32} {t2_0 : (Nat → Int64)} {t3_0 : Int32} {t3_1 : Int32} {t3_2 : Int32} {t3_3 : Int32} {t3_4 : Int32} {t3_5 : Int32} {t3_6 : Int32} {lx25 : Int32} {lx45 : Int32} {lx46 : (Nat → Int64)} {lx62 : Int32} {g b M : Nat} {l : List Nat} (hg : zLg g b M lx62) (hl : yShl 4104 lx45 lx46 l) (hl2 : l.length ≤ 900) : ∀ (n : Nat) (lx82 : Int32), ∀ m : Nat, lx82.toInt = (m : Int) → 1 ≤ m → m ≤ M → m < n → yu x2 < b ^ m → ∃ u, zBas b (yu x2) u ∧ (F_Pri_writeToBase_L78 x2 t0_0 t0_1 t0_2 t0_3 t1_0 t2_0 t3_0 t3_1 t3_2 t3_3 t3_4 t3_5 t3_6 lx25 lx45 lx46 lx62 n lx82).2.1 = lx45 ∧ (F_Pri_writeToBase_L78 x2 t0_0 t0_1 t0_2 t0_3 t1_0 t2_0 t3_0 t3_1 t3_2 t3_3 t3_4 t3_5 t3_6 lx25 lx45 lx46 lx62 n lx82).1 = t0_0 ∧ (F_Pri_writeToBase_L78 x2 t0_0 t0_1 t0_2 t0_3 t1_0 t2_0 t3_0 t3_1 t3_2 t3_3 t3_4 t3_5 t3_6 lx25 lx45 lx46 lx62 n lx82).2.2.1 = t0_2 ∧ (F_Pri_writeToBase_L78 x2 t0_0 t0_1 t0_2 t0_3 t1_0 t2_0 t3_0 t3_1 t3_2 t3_3 t3_4 t3_5 t3_6 lx25 lx45 lx46 lx62 n lx82).2.2.2.1 = t0_3 ∧ yShl 4104 (F_Pri_writeToBase_L78 x2 t0_0 t0_1 t0_2 t0_3 t1_0 t2_0 t3_0 t3_1 t3_2 t3_3 t3_4 t3_5 t3_6 lx25 lx45 lx46 lx62 n lx82).2.2.2.2.1 (F_Pri_writeToBase_L78 x2 t0_0 t0_1 t0_2 t0_3 t1_0 t2_0 t3_0 t3_1 t3_2 t3_3 t3_4 t3_5 t3_6 lx25 lx45 lx46 lx62 n lx82).2.2.2.2.2 (l ++ u) := by
  have e0 : (0 : Int32).toInt = 0 := rfl
  have e1 : (1 : Int32).toInt = 1 := rfl
  have e0L : (0 : Int64).toInt = 0 := rfl
  have mb : M ≤ 22 ∧ 2 ≤ b ∧ b ≤ 16 := by rcases hg with ⟨h1, h2, h3, h4⟩ | ⟨h1, h2, h3, h4⟩ <;> omega
  intro n
  induction n with
  | zero =>
    intro _ m _ _ _ q
    omega
  | succ n ih =>
    intro lx82 m h1 h2 h3 h4 h5
    have J : ∀ f, (m ≠ 1 → b ^ (m - 1) ≤ yu x2) → ∃ u, zBas b (yu x2) u ∧ (F_Pri_writeToBase_J104 f x2 t0_0 t0_1 t0_2 t0_3 t1_0 t2_0 t3_0 t3_1 t3_2 t3_3 t3_4 t3_5 t3_6 lx25 lx45 lx46 lx62 lx82).2.1 = lx45 ∧ (F_Pri_writeToBase_J104 f x2 t0_0 t0_1 t0_2 t0_3 t1_0 t2_0 t3_0 t3_1 t3_2 t3_3 t3_4 t3_5 t3_6 lx25 lx45 lx46 lx62 lx82).1 = t0_0 ∧ (F_Pri_writeToBase_J104 f x2 t0_0 t0_1 t0_2 t0_3 t1_0 t2_0 t3_0 t3_1 t3_2 t3_3 t3_4 t3_5 t3_6 lx25 lx45 lx46 lx62 lx82).2.2.1 = t0_2 ∧ (F_Pri_writeToBase_J104 f x2 t0_0 t0_1 t0_2 t0_3 t1_0 t2_0 t3_0 t3_1 t3_2 t3_3 t3_4 t3_5 t3_6 lx25 lx45 lx46 lx62 lx82).2.2.2.1 = t0_3 ∧ yShl 4104 (F_Pri_writeToBase_J104 f x2 t0_0 t0_1 t0_2 t0_3 t1_0 t2_0 t3_0 t3_1 t3_2 t3_3 t3_4 t3_5 t3_6 lx25 lx45 lx46 lx62 lx82).2.2.2.2.1 (F_Pri_writeToBase_J104 f x2 t0_0 t0_1 t0_2 t0_3 t1_0 t2_0 t3_0 t3_1 t3_2 t3_3 t3_4 t3_5 t3_6 lx25 lx45 lx46 lx62 lx82).2.2.2.2.2 (l ++ u) := by
      intro f hlow
      unfold F_Pri_writeToBase_J104
      have s := q_subI h1 e1 (by omega) (by omega)
      exact ⟨_, ⟨m, ⟨h2, h5, hlow⟩, rfl⟩, V_tbW hg _ _ _ _ m l s h3 (by rw [s]; omega) hl (by omega)⟩
    unfold F_Pri_writeToBase_L78
    by_cases c : lx82 ≤ 1
    · rw [if_pos c]
      have c' := q_leI c
      exact J _ (fun w => by omega)
    · rw [if_neg c]
      have c' := q_nleI c
      have s : (lx82 - 1).toInt = ((m - 1 : Nat) : Int) := by
        rw [q_subI h1 e1 (by omega) (by omega)]
        omega
      have sh := V_lgS (x := x2) hg s (by omega)
      by_cases d : lg_cmp ((x2.toUInt64 >>> ((lx62 * (lx82 - 1) : Int32).toInt64.toUInt64 &&& Int64.toUInt64 63)).toInt64) 0 = 0
      · rw [if_pos d]
        have d' := q_k9 d
        rw [e0L] at d'
        have z : yu ((x2.toUInt64 >>> ((lx62 * (lx82 - 1) : Int32).toInt64.toUInt64 &&& Int64.toUInt64 63)).toInt64) = 0 := y_natI (b := 0) d'
        rw [sh] at z
        have lt : yu x2 < b ^ (m - 1) := by
          rcases Nat.div_eq_zero_iff.mp z with w | w
          · exact absurd w (Nat.ne_of_gt (Nat.pow_pos (by omega)))
          · exact w
        exact ih _ (m - 1) (by rw [q_addI (y := -1) h1 rfl (by omega) (by omega)]; omega) (by omega) (by omega) (by omega) lt
      · rw [if_neg d]
        have d' := q_k10 d
        refine J _ (fun _ => ?_)
        apply Classical.byContradiction
        intro w
        apply d'
        have z : yu ((x2.toUInt64 >>> ((lx62 * (lx82 - 1) : Int32).toInt64.toUInt64 &&& Int64.toUInt64 63)).toInt64) = 0 := by
          rw [sh]
          exact Nat.div_eq_of_lt (by omega)
        rw [e0L]
        exact y_toI z (by decide)
theorem V_tb47 {x2 : Int64} {t0_0 : Int32} {t0_1 : Int32} {t0_2 : Int32} {t0_3 : Int32} {t1_0 : Int32} {t2_0 : (Nat → Int64)} {t3_0 : Int32} {t3_1 : Int32} {t3_2 : Int32} {t3_3 : Int32} {t3_4 : Int32} {t3_5 : Int32} {t3_6 : Int32} {lx25 : Int32} {lx45 : Int32} {lx46 : (Nat → Int64)} {l : List Nat} (h25 : lx25 = if t3_4 = 111 then 1 else 0) (hl : yShl 4104 lx45 lx46 l) (hl2 : l.length ≤ 900) : ∃ u, zBas (if t3_4 = 111 then 8 else 16) (yu x2) u ∧ (F_Pri_writeToBase_J47 x2 t0_0 t0_1 t0_2 t0_3 t1_0 t2_0 t3_0 t3_1 t3_2 t3_3 t3_4 t3_5 t3_6 lx25 lx45 lx46).2.1 = lx45 ∧ (F_Pri_writeToBase_J47 x2 t0_0 t0_1 t0_2 t0_3 t1_0 t2_0 t3_0 t3_1 t3_2 t3_3 t3_4 t3_5 t3_6 lx25 lx45 lx46).1 = t0_0 ∧ (F_Pri_writeToBase_J47 x2 t0_0 t0_1 t0_2 t0_3 t1_0 t2_0 t3_0 t3_1 t3_2 t3_3 t3_4 t3_5 t3_6 lx25 lx45 lx46).2.2.1 = t0_2 ∧ (F_Pri_writeToBase_J47 x2 t0_0 t0_1 t0_2 t0_3 t1_0 t2_0 t3_0 t3_1 t3_2 t3_3 t3_4 t3_5 t3_6 lx25 lx45 lx46).2.2.2.1 = t0_3 ∧ yShl 4104 (F_Pri_writeToBase_J47 x2 t0_0 t0_1 t0_2 t0_3 t1_0 t2_0 t3_0 t3_1 t3_2 t3_3 t3_4 t3_5 t3_6 lx25 lx45 lx46).2.2.2.2.1 (F_Pri_writeToBase_J47 x2 t0_0 t0_1 t0_2 t0_3 t1_0 t2_0 t3_0 t3_1 t3_2 t3_3 t3_4 t3_5 t3_6 lx25 lx45 lx46).2.2.2.2.2 (l ++ u) := by
  have ul := yu_lt x2
  unfold F_Pri_writeToBase_J47
  by_cases c : t3_4 = 111
  · rw [if_pos c] at h25 ⊢
    rw [if_neg (show ¬ lx25 = 0 by rw [h25]; decide)]
    unfold F_Pri_writeToBase_J67
    have d1 : (63 / 3 : Int32) + 1 = 22 := by decide
    have d2 : (8 : Nat) ^ 22 = 73786976294838206464 := by decide
    rw [d1]
    exact V_tbM (g := 3) (b := 8) (M := 22) (Or.inl ⟨rfl, rfl, rfl, rfl⟩) hl hl2 _ _ 22 rfl (by decide) (by decide) (by decide) (by omega)
  · rw [if_neg c] at h25 ⊢
    rw [if_pos h25]
    unfold F_Pri_writeToBase_J67
    have d1 : (63 / 4 : Int32) + 1 = 16 := by decide
    have d2 : (16 : Nat) ^ 16 = 18446744073709551616 := by decide
    rw [d1]
    exact V_tbM (g := 4) (b := 16) (M := 16) (Or.inr ⟨rfl, rfl, rfl, rfl⟩) hl hl2 _ _ 16 rfl (by decide) (by decide) (by decide) (by omega)
theorem V_toB {x2 : Int64} {t0_0 : Int32} {t0_1 : Int32} {t0_2 : Int32} {t0_3 : Int32} {t1_0 : Int32} {t2_0 : (Nat → Int64)} {t3_0 : Int32} {t3_1 : Int32} {t3_2 : Int32} {t3_3 : Int32} {t3_4 : Int32} {t3_5 : Int32} {t3_6 : Int32} (hl : yShl 4104 t1_0 t2_0 []) (h4 : t3_4 = 111 ∨ zSm t3_4 = 120) : ∃ u, zBas (if t3_4 = 111 then 8 else 16) (yu x2) u ∧ (F_Pri_writeToBase x2 t0_0 t0_1 t0_2 t0_3 t1_0 t2_0 t3_0 t3_1 t3_2 t3_3 t3_4 t3_5 t3_6).2.1.toInt = ((zPre (zSm t3_4) t3_1).length : Int) ∧ (F_Pri_writeToBase x2 t0_0 t0_1 t0_2 t0_3 t1_0 t2_0 t3_0 t3_1 t3_2 t3_3 t3_4 t3_5 t3_6).1 = t0_0 ∧ (F_Pri_writeToBase x2 t0_0 t0_1 t0_2 t0_3 t1_0 t2_0 t3_0 t3_1 t3_2 t3_3 t3_4 t3_5 t3_6).2.2.1 = t0_2 ∧ (F_Pri_writeToBase x2 t0_0 t0_1 t0_2 t0_3 t1_0 t2_0 t3_0 t3_1 t3_2 t3_3 t3_4 t3_5 t3_6).2.2.2.1 = t0_3 ∧ yShl 4104 (F_Pri_writeToBase x2 t0_0 t0_1 t0_2 t0_3 t1_0 t2_0 t3_0 t3_1 t3_2 t3_3 t3_4 t3_5 t3_6).2.2.2.2.1 (F_Pri_writeToBase x2 t0_0 t0_1 t0_2 t0_3 t1_0 t2_0 t3_0 t3_1 t3_2 t3_3 t3_4 t3_5 t3_6).2.2.2.2.2 (zPre (zSm t3_4) t3_1 ++ u) := by
  have s111 : t3_4 = 111 → zSm t3_4 = 111 := fun w => by rw [w]; decide
  have J : ∀ x, x = (if t3_4 = 111 then 1 else 0) → ∃ u, zBas (if t3_4 = 111 then 8 else 16) (yu x2) u ∧ (F_Pri_writeToBase_J17 x2 t0_0 t0_1 t0_2 t0_3 t1_0 t2_0 t3_0 t3_1 t3_2 t3_3 t3_4 t3_5 t3_6 x).2.1.toInt = ((zPre (zSm t3_4) t3_1).length : Int) ∧ (F_Pri_writeToBase_J17 x2 t0_0 t0_1 t0_2 t0_3 t1_0 t2_0 t3_0 t3_1 t3_2 t3_3 t3_4 t3_5 t3_6 x).1 = t0_0 ∧ (F_Pri_writeToBase_J17 x2 t0_0 t0_1 t0_2 t0_3 t1_0 t2_0 t3_0 t3_1 t3_2 t3_3 t3_4 t3_5 t3_6 x).2.2.1 = t0_2 ∧ (F_Pri_writeToBase_J17 x2 t0_0 t0_1 t0_2 t0_3 t1_0 t2_0 t3_0 t3_1 t3_2 t3_3 t3_4 t3_5 t3_6 x).2.2.2.1 = t0_3 ∧ yShl 4104 (F_Pri_writeToBase_J17 x2 t0_0 t0_1 t0_2 t0_3 t1_0 t2_0 t3_0 t3_1 t3_2 t3_3 t3_4 t3_5 t3_6 x).2.2.2.2.1 (F_Pri_writeToBase_J17 x2 t0_0 t0_1 t0_2 t0_3 t1_0 t2_0 t3_0 t3_1 t3_2 t3_3 t3_4 t3_5 t3_6 x).2.2.2.2.2 (zPre (zSm t3_4) t3_1 ++ u) := by
    intro x hx
    unfold F_Pri_writeToBase_J17 zPre
    rw [Z_has0]
    by_cases f : t3_1 &&& 2 = 0
    · simp only [if_pos f, if_pos (rfl : (0 : Int32) = 0), if_true]
      obtain ⟨u, w1, w2, w3⟩ := V_tb47 (x2 := x2) (t0_0 := t0_0) (t0_1 := t0_1) (t0_2 := t0_2) (t0_3 := t0_3) (t1_0 := t1_0) (t2_0 := t2_0) (t3_0 := t3_0) (t3_1 := t3_1) (t3_2 := t3_2) (t3_3 := t3_3) (t3_4 := t3_4) (t3_5 := t3_5) (t3_6 := t3_6) hx hl (by decide)
      exact ⟨u, w1, by rw [w2]; exact hl.1, w3⟩
    · simp only [if_neg f, if_neg (show ¬ (1 : Int32) = 0 by decide)]
      by_cases o : t3_4 = 111
      · rw [if_pos o] at hx
        rw [if_neg (show ¬ x = 0 by rw [hx]; decide), if_pos (s111 o)]
        have p := V_at174 (N := 513) (K := 1000000) rfl hl (by decide)
        rw [List.nil_append] at p
        revert p
        generalize F_She_addText_17 4104 513 1000000 t1_0 t2_0 = q
        intro p
        unfold F_Pri_writeToBase_c44_9
        obtain ⟨u, w1, w2, w3⟩ := V_tb47 (x2 := x2) (t0_0 := t0_0) (t0_1 := t0_1) (t0_2 := t0_2) (t0_3 := t0_3) (t1_0 := t1_0) (t2_0 := t2_0) (t3_0 := t3_0) (t3_1 := t3_1) (t3_2 := t3_2) (t3_3 := t3_3) (t3_4 := t3_4) (t3_5 := t3_5) (t3_6 := t3_6) (lx25 := x) (by rw [hx, if_pos o]) p (by decide)
        exact ⟨u, w1, by rw [w2]; exact p.1, w3⟩
      · rw [if_neg o] at hx
        have n111 : ¬ zSm t3_4 = 111 := fun w => by
          rcases h4 with v | v
          · exact o v
          · rw [v] at w; exact absurd w (by decide)
        rw [if_pos hx, if_neg n111]
        have p := V_at184 (N := 513) (K := 1000000) rfl hl (by decide)
        rw [List.nil_append] at p
        revert p
        generalize F_She_addText_18 4104 513 1000000 t1_0 t2_0 = q
        intro p
        unfold F_Pri_writeToBase_c44
        obtain ⟨u, w1, w2, w3⟩ := V_tb47 (x2 := x2) (t0_0 := t0_0) (t0_1 := t0_1) (t0_2 := t0_2) (t0_3 := t0_3) (t1_0 := t1_0) (t2_0 := t2_0) (t3_0 := t3_0) (t3_1 := t3_1) (t3_2 := t3_2) (t3_3 := t3_3) (t3_4 := t3_4) (t3_5 := t3_5) (t3_6 := t3_6) (lx25 := x) (by rw [hx, if_neg o]) p (by decide)
        exact ⟨u, w1, by rw [w2]; exact p.1, w3⟩
  by_cases o : t3_4 = 111
  · have e : F_Pri_writeToBase x2 t0_0 t0_1 t0_2 t0_3 t1_0 t2_0 t3_0 t3_1 t3_2 t3_3 t3_4 t3_5 t3_6 = F_Pri_writeToBase_J17 x2 t0_0 t0_1 t0_2 t0_3 t1_0 t2_0 t3_0 t3_1 t3_2 t3_3 t3_4 t3_5 t3_6 1 := by
      unfold F_Pri_writeToBase
      rw [if_pos o]
    rw [e]
    exact J 1 (by rw [if_pos o])
  · have e : F_Pri_writeToBase x2 t0_0 t0_1 t0_2 t0_3 t1_0 t2_0 t3_0 t3_1 t3_2 t3_3 t3_4 t3_5 t3_6 = F_Pri_writeToBase_J17 x2 t0_0 t0_1 t0_2 t0_3 t1_0 t2_0 t3_0 t3_1 t3_2 t3_3 t3_4 t3_5 t3_6 0 := by
      unfold F_Pri_writeToBase
      rw [if_neg o]
    rw [e]
    exact J 0 (by rw [if_neg o])
theorem V_sgn {x2 : Int32} {t0_0 : Int32} {t0_1 : Int32} {t0_2 : Int32} {t0_3 : Int32} {t1_0 : Int32} {t2_0 : (Nat → Int64)} {t3_0 : Int32} {t3_1 : Int32} {t3_2 : Int32} {t3_3 : Int32} {t3_4 : Int32} {t3_5 : Int32} {t3_6 : Int32} {v : Int} (hl : yShl 4104 t1_0 t2_0 []) (h2 : x2 = if v < 0 then 1 else 0) : (F_Pri_writeSign x2 t0_0 t0_1 t0_2 t0_3 t1_0 t2_0 t3_0 t3_1 t3_2 t3_3 t3_4 t3_5 t3_6).1 = t0_0 ∧ (F_Pri_writeSign x2 t0_0 t0_1 t0_2 t0_3 t1_0 t2_0 t3_0 t3_1 t3_2 t3_3 t3_4 t3_5 t3_6).2.1.toInt = ((zSgn v t3_1).length : Int) ∧ (F_Pri_writeSign x2 t0_0 t0_1 t0_2 t0_3 t1_0 t2_0 t3_0 t3_1 t3_2 t3_3 t3_4 t3_5 t3_6).2.2.1 = t0_2 ∧ (F_Pri_writeSign x2 t0_0 t0_1 t0_2 t0_3 t1_0 t2_0 t3_0 t3_1 t3_2 t3_3 t3_4 t3_5 t3_6).2.2.2.1 = t0_3 ∧ yShl 4104 (F_Pri_writeSign x2 t0_0 t0_1 t0_2 t0_3 t1_0 t2_0 t3_0 t3_1 t3_2 t3_3 t3_4 t3_5 t3_6).2.2.2.2.1 (F_Pri_writeSign x2 t0_0 t0_1 t0_2 t0_3 t1_0 t2_0 t3_0 t3_1 t3_2 t3_3 t3_4 t3_5 t3_6).2.2.2.2.2 (zSgn v t3_1) := by
  have P : ∀ (x : Int32) (k : Nat), x.toInt = (k : Int) → k < 256 → yShl 4104 (F_She_add_p 4104 513 1000000 x t1_0 t2_0).1 (F_She_add_p 4104 513 1000000 x t1_0 t2_0).2 [k] := fun x k hx hk => V_paP4 hl (by decide) hx hk
  unfold F_Pri_writeSign zSgn
  rw [Z_has0, Z_has0, Z_has0]
  by_cases n : v < 0
  · rw [if_pos n] at h2
    rw [if_neg (show ¬ x2 = 0 by rw [h2]; decide), if_pos n]
    by_cases f : t3_1 &&& 32 = 0
    · simp only [if_pos f, if_pos (rfl : (0 : Int32) = 0), if_true]
      have p := P 45 45 rfl (by decide)
      exact ⟨rfl, p.1, rfl, rfl, p⟩
    · simp only [if_neg f, if_neg (show ¬ (1 : Int32) = 0 by decide)]
      have p := P 40 40 rfl (by decide)
      exact ⟨rfl, p.1, rfl, rfl, p⟩
  · rw [if_neg n] at h2
    rw [if_pos h2, if_neg n]
    by_cases f : t3_1 &&& 4 = 0
    · simp only [if_pos f, if_pos (rfl : (0 : Int32) = 0), if_true]
      by_cases g : t3_1 &&& 128 = 0
      · simp only [if_pos g, if_pos (rfl : (0 : Int32) = 0), if_true]
        exact ⟨trivial, hl.1, trivial, trivial, hl⟩
      · simp only [if_neg g, if_neg (show ¬ (1 : Int32) = 0 by decide)]
        have p := P 32 32 rfl (by decide)
        exact ⟨rfl, p.1, rfl, rfl, p⟩
    · simp only [if_neg f, if_neg (show ¬ (1 : Int32) = 0 by decide)]
      have p := P 43 43 rfl (by decide)
      exact ⟨rfl, p.1, rfl, rfl, p⟩

