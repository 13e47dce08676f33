/-! values, for whole: the reference's FloatRows: narrowed, widened -/
theorem y_openN {x3 : Int32} {P T : Nat} {l : Int} {u : Nat} (hG : yG x3 P T l) (hf : yEx P T u ≠ T) : (-1074 ≤ yPx l (yEx P T u) ∧ yPx l (yEx P T u) ≤ 971) ∧ yNx P T u < 2 ^ (P + 1) ∧ (yEx P T u = 0 ∨ 2 ^ P ≤ yNx P T u) ∧ (yEx P T u = 0 → yPx l (yEx P T u) = l) := by
  obtain ⟨g1, g2, g3, g4, g5, g6⟩ := hG.n
  have hb : yEx P T u < T + 1 := Nat.mod_lt _ (by omega)
  have h1 := yFx_lt (P := P) (u := u)
  have p : 2 ^ (P + 1) = 2 ^ P * 2 := Nat.pow_succ _ _
  refine ⟨?_, ?_, ?_, ?_⟩
  · unfold yPx
    omega
  · unfold yNx
    split <;> omega
  · unfold yNx
    by_cases c : yEx P T u = 0
    · exact Or.inl c
    · rw [if_neg c]
      exact Or.inr (by omega)
  · intro h
    rw [h]
    unfold yPx
    show ((1 : Nat) : Int) - 1 + l = l
    omega
theorem yf_tw {n : Nat} {pw : Int} : yfT (pw - 1) (n * 2 ^ pw.toNat) (2 ^ (-pw).toNat) = 2 * n ∧ yfR (pw - 1) (n * 2 ^ pw.toNat) (2 ^ (-pw).toNat) = 0 := by
  obtain ⟨z1, z2⟩ := yf_ex2 (n := n) (pw := pw)
  have e : pw - 1 + ((1 : Nat) : Int) = pw := by omega
  obtain ⟨a, b⟩ := yf_ex (q := pw - 1) (k := 1) (N := n * 2 ^ pw.toNat) (D := 2 ^ (-pw).toNat) (by rw [e]; exact z2)
  rw [e, z1] at a
  exact ⟨by omega, b⟩
theorem V_FR_narrowed {x2 : Int64} {t0_0 : Int32} {t0_1 : Int32} {t0_2 : Int32} {t0_3 : Int32} {t0_4 : Int64} {t0_5 : Int32} {t0_6 : Int32} {t0_7 : Int64} {t0_8 : Int32} {t0_9 : Int64} {t0_10 : Int32}  : yCh 23 255 (-149) 52 2047 (-1074) (yu x2) (yu (F_FR_narrowed x2 t0_0 t0_1 t0_2 t0_3 t0_4 t0_5 t0_6 t0_7 t0_8 t0_9 t0_10).1) := by
  have hG : yG 0 52 2047 (-1074) := Or.inl ⟨rfl, rfl, rfl, rfl⟩
  have ho := V_FR_open (x2 := x2) (x3 := 0) (t0_0 := 0) (t0_1 := t0_1) (t0_2 := t0_2) (t0_3 := t0_3) (t0_4 := t0_4) (t0_5 := t0_5) (t0_6 := t0_6) (t0_7 := t0_7) (t0_8 := t0_8) (t0_9 := t0_9) (t0_10 := t0_10) hG
  unfold F_FR_narrowed
  generalize F_FR_open x2 0 0 t0_1 t0_2 t0_3 t0_4 t0_5 t0_6 t0_7 t0_8 t0_9 t0_10 = p53 at ho ⊢
  have hfi := y_frF hG ho
  obtain ⟨o0, o1, o2, o3, o4, o5, o6, o7, o8, o9, o10⟩ := ho
  have core : ∀ lx71 : Int64, yu lx71 = ySx 52 2047 (yu x2) * 2147483648 → yCh 23 255 (-149) 52 2047 (-1074) (yu x2) (yu (F_FR_narrowed_J25 x2 t0_0 t0_1 t0_2 t0_3 t0_4 t0_5 t0_6 t0_7 t0_8 t0_9 t0_10 p53 p53.1 p53.2.1 p53.2.2.1 p53.2.2.2.1 p53.2.2.2.2.1 p53.2.2.2.2.2.1 p53.2.2.2.2.2.2.1 p53.2.2.2.2.2.2.2.1 p53.2.2.2.2.2.2.2.2.1 p53.2.2.2.2.2.2.2.2.2.1 p53.2.2.2.2.2.2.2.2.2.2 lx71).1) := fun lx71 h71 => by
    have s1 : ySx 52 2047 (yu x2) ≤ 1 := by
      rcases ySx_01 (P := 52) (T := 2047) (u := yu x2) with z | z <;> omega
    unfold F_FR_narrowed_J25
    by_cases c : yEx 52 2047 (yu x2) = 2047
    · rw [if_pos c] at hfi
      rw [hfi, if_pos rfl]
      have fz : lg_cmp p53.2.2.2.2.1 0 = 0 ↔ yFx 52 (yu x2) = 0 := by
        rw [y_lcE, o4, show (0 : Int64).toInt = 0 from rfl]
        omega
      by_cases d : yFx 52 (yu x2) = 0
      · rw [if_pos (fz.mpr d)]
        refine Or.inr (Or.inl ⟨c, d, ?_⟩)
        rw [show 255 * 2 ^ 23 = 2139095040 by decide, show 2 ^ 23 * (255 + 1) = 2147483648 by decide]
        exact y_orN h71 s1 (by decide) (by decide)
      · rw [if_neg (fun h => d (fz.mp h))]
        refine Or.inl ⟨c, d, ?_⟩
        show yu 2143289344 = _
        decide
    · rw [if_neg c] at hfi
      rw [hfi, if_neg (show ¬ (1 : Int32) = 0 by decide)]
      obtain ⟨n1, n2, n3, n4⟩ := y_openN hG c
      obtain ⟨t1, t2⟩ := yf_tw (n := yNx 52 2047 (yu x2)) (pw := yPx (-1074) (yEx 52 2047 (yu x2)))
      obtain ⟨b, b1, b2⟩ := V_na72 (N := yNx 52 2047 (yu x2) * 2 ^ (yPx (-1074) (yEx 52 2047 (yu x2))).toNat) (D := 2 ^ (-(yPx (-1074) (yEx 52 2047 (yu x2)))).toNat) h71 s1 1000000 0 0 _ _ _ _ o8 o7 ⟨by omega, by omega⟩ (by omega) ⟨0, rfl, by omega, by rw [t1, Nat.add_zero]⟩ (Or.inl rfl) ⟨fun _ => rfl, fun _ => t2⟩ (by
        rcases n3 with z | z
        · exact Or.inl (by rw [n4 z]; decide)
        · exact Or.inr (Nat.le_trans (by decide) z)) (Nat.lt_of_lt_of_le n2 (Nat.pow_le_pow_right (by decide) (by omega)))
      refine Or.inr (Or.inr ⟨c, b, b1, ?_⟩)
      rw [show 2 ^ 23 * (255 + 1) = 2147483648 by decide]
      exact b2
  unfold F_FR_narrowed_c8
  rcases ySx_01 (P := 52) (T := 2047) (u := yu x2) with z | z
  · rw [z, if_neg (by decide)] at o2
    rw [if_pos o2]
    exact core 0 (by rw [z]; rfl)
  · rw [z, if_pos rfl] at o2
    rw [if_neg (show ¬ p53.2.2.1 = 0 by rw [o2]; decide)]
    exact core 2147483648 (by rw [z]; decide)
def QV_wi (N D sg : Nat) (y : Int64) : Prop := ∃ b, yfRnd 52 2047 (-1074) N D b ∧ yu y = b + sg * 9223372036854775808
theorem y_orW {x y : Int64} {sg b : Nat} (hx : yu x = sg * 9223372036854775808) (hs : sg ≤ 1) (hy : yu y = b) (hb : b < 9223372036854775808) : yu (x ||| y) = b + sg * 9223372036854775808 := by
  show (x ||| y).toBitVec.toNat = _
  rw [Int64.toBitVec_or, BitVec.toNat_or]
  have e1 : x.toBitVec.toNat = sg * 9223372036854775808 := hx
  have e2 : y.toBitVec.toNat = b := hy
  rw [e1, e2]
  have := Nat.two_pow_add_eq_or_of_lt (i := 63) (b := b) hb sg
  rw [show 2 ^ 63 = 9223372036854775808 from rfl, Nat.mul_comm] at this
  rw [← this, Nat.add_comm]
theorem y_sh52 {x : Int64} {n : Nat} (hx : x.toInt = (n : Int)) (hn : n ≤ 2000) : (x <<< ((52 : Int32).toInt64 &&& 63)).toInt = (n : Int) * 4503599627370496 := by
  have h : n * 2 ^ 52 < 9223372036854775808 := Nat.lt_of_le_of_lt (Nat.mul_le_mul_right _ hn) (by decide)
  rw [fx_shl (k := 52) (c := 52) hx (by decide) (by decide) h, Int.natCast_mul]
  rfl
theorem y_52 : 2 ^ 52 = 4503599627370496 := by decide
theorem V_wi98 {x2 : Int64} {t0_0 : Int32} {t0_1 : Int32} {t0_2 : Int32} {t0_3 : Int32} {t0_4 : Int64} {t0_5 : Int32} {t0_6 : Int32} {t0_7 : Int64} {t0_8 : Int32} {t0_9 : Int64} {t0_10 : Int32} {lx21 : Int32} {p72 : (Int32 × Int32 × Int32 × Int32 × Int64 × Int32 × Int32 × Int64 × Int32 × Int64 × Int32)} {y38 : Int32} {y39 : Int32} {y40 : Int32} {y41 : Int32} {y42 : Int64} {y43 : Int32} {y44 : Int32} {y45 : Int64} {y46 : Int32} {y47 : Int64} {y48 : Int32} {lx90 : Int64} {sg N D : Nat} (h90 : yu lx90 = sg * 9223372036854775808) (hs : sg ≤ 1) : ∀ (n : Nat) (lx115 : Int32) (lx116 : Int64), ∀ (k : Int) (m : Nat), lx115.toInt = k → lx116.toInt = (m : Int) → (-400 ≤ k ∧ k ≤ 500) → 1 ≤ m → m < 9007199254740992 → yfT k N D = m → yfR k N D = 0 → (∃ j : Nat, 4503599627370496 ≤ m * 2 ^ j ∧ j < n ∧ (j : Int) - 300 ≤ k) → QV_wi N D sg (F_FR_widened_L98 x2 t0_0 t0_1 t0_2 t0_3 t0_4 t0_5 t0_6 t0_7 t0_8 t0_9 t0_10 lx21 p72 y38 y39 y40 y41 y42 y43 y44 y45 y46 y47 y48 lx90 n lx115 lx116).1 := by
  have e52 : (4503599627370496 : Int64).toInt = 4503599627370496 := rfl
  intro n
  induction n with
  | zero =>
    intro lx115 lx116 k m h0 h1 h2 h3 h4 h5 h6 ⟨j, j1, j2, j3⟩
    omega
  | succ n ih =>
    intro lx115 lx116 k m h0 h1 h2 h3 h4 h5 h6 ⟨j, j1, j2, j3⟩
    rw [F_FR_widened_L98.eq_2]
    obtain ⟨a, b⟩ := yf_ex (q := k - 1) (k := 1) (N := N) (D := D) (by rw [show k - 1 + ((1 : Nat) : Int) = k by omega]; exact h6)
    rw [show k - 1 + ((1 : Nat) : Int) = k by omega, h5, Nat.pow_one] at a
    by_cases g1 : 0 ≤ lg_cmp lx116 4503599627370496
    · rw [if_pos g1]
      have g2 := g_lc5 g1
      have i1 : (lx115 + 1075 : Int32).toInt = k + 1075 := q_addI (y := 1075) h0 rfl (by omega) (by omega)
      have i2 : (lx115 + 1075 : Int32).toInt64.toInt = (((k + 1075).toNat : Nat) : Int) := by
        rw [q_i2l i1]
        omega
      have i3 := y_sh52 i2 (by omega)
      have i4 := q_addL i3 h1 (by omega) (by omega)
      have i5 := q_subL (b := 4503599627370496) i4 e52 (by omega) (by omega)
      have up : yfUp (m * 2) (yfR (k - 1) N D) = m := by
        unfold yfUp
        rw [if_neg (by omega)]
        omega
      refine ⟨(k + 1074).toNat * 4503599627370496 + m, ⟨k, ⟨by omega, ?_, Or.inr ?_⟩, ?_⟩, ?_⟩
      · rw [a]
        exact Nat.lt_of_lt_of_le (show m * 2 < 18014398509481984 by omega) (by decide)
      · rw [a]
        exact Nat.le_trans (by decide) (show 9007199254740992 ≤ m * 2 by omega)
      · rw [a, up, show k - (-1074) = k + 1074 by omega, y_52]
        exact (Nat.min_eq_right (by omega)).symm
      · refine y_orW h90 hs (y_tI ?_) (by omega)
        show (((((lx115 + 1075 : Int32).toInt64) <<< ((52 : Int32).toInt64 &&& 63)) + lx116) - 4503599627370496 : Int64).toInt = _
        rw [i5]
        omega
    · rw [if_neg g1]
      have g2 := g_lc6 g1
      obtain ⟨i, rfl⟩ : ∃ i, j = i + 1 := by
        rcases Nat.eq_zero_or_pos j with z | z
        · exfalso
          rw [z, Nat.pow_zero] at j1
          omega
        · exact ⟨j - 1, by omega⟩
      have m2 : (lx116 <<< ((1 : Int32).toInt64 &&& 63)).toInt = ((m * 2 : Nat) : Int) := by
        rw [fl_shl1 (by omega) (by omega), h1]
        omega
      have b1 : i < n := by omega
      have b2 : -400 ≤ k - 1 ∧ k - 1 ≤ 500 := by omega
      have b3 : 1 ≤ m * 2 ∧ m * 2 < 9007199254740992 := by omega
      have b4 : (i : Int) - 300 ≤ k - 1 := by omega
      have b5 : 4503599627370496 ≤ m * 2 * 2 ^ i := by
        rw [Nat.pow_succ] at j1
        rw [Nat.mul_assoc, Nat.mul_comm 2]
        exact j1
      have e1 : (lx115 + (-1) : Int32).toInt = k - 1 := by
        rw [q_addI (y := (-1)) h0 (by decide) (by omega) (by omega)]
        rfl
      exact ih _ _ (k - 1) (m * 2) e1 m2 b2 b3.1 b3.2 a b ⟨i, b5, b1, b4⟩
theorem V_FR_widened {x2 : Int64} {t0_0 : Int32} {t0_1 : Int32} {t0_2 : Int32} {t0_3 : Int32} {t0_4 : Int64} {t0_5 : Int32} {t0_6 : Int32} {t0_7 : Int64} {t0_8 : Int32} {t0_9 : Int64} {t0_10 : Int32} (hx : yu x2 < 4294967296) : yCh 52 2047 (-1074) 23 255 (-149) (yu x2) (yu (F_FR_widened x2 t0_0 t0_1 t0_2 t0_3 t0_4 t0_5 t0_6 t0_7 t0_8 t0_9 t0_10).1) := by
  have hG : yG 1 23 255 (-149) := Or.inr ⟨rfl, rfl, rfl, rfl⟩
  have wr : F_FR_isWrong x2 1 = 0 := by
    unfold F_FR_isWrong
    rw [if_neg (by decide), if_pos]
    rw [y_lc0]
    have := fx_ush (x := x2) (c := 32) (k := 32) (by decide)
    show ((x2.toUInt64 >>> ((32 : Int32).toInt64.toUInt64 &&& Int64.toUInt64 63)).toInt64).toBitVec.toNat = 0
    rw [this]
    exact Nat.div_eq_of_lt hx
  have ho := V_FR_open (x2 := x2) (x3 := 1) (t0_0 := 0) (t0_1 := t0_1) (t0_2 := t0_2) (t0_3 := t0_3) (t0_4 := t0_4) (t0_5 := t0_5) (t0_6 := t0_6) (t0_7 := t0_7) (t0_8 := t0_8) (t0_9 := t0_9) (t0_10 := t0_10) hG
  unfold F_FR_widened
  rw [if_pos wr]
  unfold F_FR_widened_J14
  rw [if_pos (show (0 : Int32) ≤ 0 by decide)]
  generalize F_FR_open x2 1 0 t0_1 t0_2 t0_3 t0_4 t0_5 t0_6 t0_7 t0_8 t0_9 t0_10 = p72 at ho ⊢
  have hfi := y_frF hG ho
  obtain ⟨o0, o1, o2, o3, o4, o5, o6, o7, o8, o9, o10⟩ := ho
  have core : ∀ lx90 : Int64, yu lx90 = ySx 23 255 (yu x2) * 9223372036854775808 → yCh 52 2047 (-1074) 23 255 (-149) (yu x2) (yu (F_FR_widened_J46 x2 t0_0 t0_1 t0_2 t0_3 t0_4 t0_5 t0_6 t0_7 t0_8 t0_9 t0_10 0 p72 p72.1 p72.2.1 p72.2.2.1 p72.2.2.2.1 p72.2.2.2.2.1 p72.2.2.2.2.2.1 p72.2.2.2.2.2.2.1 p72.2.2.2.2.2.2.2.1 p72.2.2.2.2.2.2.2.2.1 p72.2.2.2.2.2.2.2.2.2.1 p72.2.2.2.2.2.2.2.2.2.2 lx90).1) := fun lx90 h90 => by
    have s1 : ySx 23 255 (yu x2) ≤ 1 := by
      rcases ySx_01 (P := 23) (T := 255) (u := yu x2) with z | z <;> omega
    unfold F_FR_widened_J46
    by_cases c : yEx 23 255 (yu x2) = 255
    · rw [if_pos c] at hfi
      rw [hfi, if_pos rfl]
      have fz : lg_cmp p72.2.2.2.2.1 0 = 0 ↔ yFx 23 (yu x2) = 0 := by
        rw [y_lcE, o4, show (0 : Int64).toInt = 0 from rfl]
        omega
      by_cases d : yFx 23 (yu x2) = 0
      · rw [if_pos (fz.mpr d)]
        refine Or.inr (Or.inl ⟨c, d, ?_⟩)
        rw [show 2047 * 2 ^ 52 = 9218868437227405312 by decide, show 2 ^ 52 * (2047 + 1) = 9223372036854775808 by decide]
        exact y_orW h90 s1 (by decide) (by decide)
      · rw [if_neg (fun h => d (fz.mp h))]
        refine Or.inl ⟨c, d, ?_⟩
        show yu 9221120237041090560 = _
        decide
    · rw [if_neg c] at hfi
      rw [hfi, if_neg (show ¬ (1 : Int32) = 0 by decide)]
      obtain ⟨n1, n2, n3, n4⟩ := y_openN hG c
      have zz : lg_cmp p72.2.2.2.2.2.2.2.1 0 = 0 ↔ yNx 23 255 (yu x2) = 0 := by
        rw [y_lcE, o7, show (0 : Int64).toInt = 0 from rfl]
        omega
      by_cases d : yNx 23 255 (yu x2) = 0
      · rw [if_pos (zz.mpr d)]
        refine Or.inr (Or.inr ⟨c, 0, ?_, ?_⟩)
        · rw [d, Nat.zero_mul]
          exact yfRnd_0
        · rw [show 2 ^ 52 * (2047 + 1) = 9223372036854775808 by decide, Nat.zero_add]
          exact h90
      · rw [if_neg (fun h => d (zz.mp h))]
        obtain ⟨t1, t2⟩ := yf_ex2 (n := yNx 23 255 (yu x2)) (pw := yPx (-149) (yEx 23 255 (yu x2)))
        have pk : -149 ≤ yPx (-149) (yEx 23 255 (yu x2)) ∧ yPx (-149) (yEx 23 255 (yu x2)) ≤ 300 := by
          have hb : yEx 23 255 (yu x2) < 256 := Nat.mod_lt _ (by omega)
          unfold yPx
          omega
        have nb : yNx 23 255 (yu x2) < 16777216 := Nat.lt_of_lt_of_le n2 (by decide)
        obtain ⟨b, b1, b2⟩ := V_wi98 (N := yNx 23 255 (yu x2) * 2 ^ (yPx (-149) (yEx 23 255 (yu x2))).toNat) (D := 2 ^ (-(yPx (-149) (yEx 23 255 (yu x2)))).toNat) h90 s1 1000000 _ _ _ _ o8 o7 ⟨by omega, by omega⟩ (by omega) (by omega) t1 t2 ⟨52, by
          rw [y_52]
          omega, by omega, by omega⟩
        refine Or.inr (Or.inr ⟨c, b, b1, ?_⟩)
        rw [show 2 ^ 52 * (2047 + 1) = 9223372036854775808 by decide]
        exact b2
  unfold F_FR_widened_c29
  rcases ySx_01 (P := 23) (T := 255) (u := yu x2) with z | z
  · rw [z, if_neg (by decide)] at o2
    rw [if_pos o2]
    exact core 0 (by rw [z]; rfl)
  · rw [z, if_pos rfl] at o2
    rw [if_neg (show ¬ p72.2.2.1 = 0 by rw [o2]; decide)]
    exact core (-9223372036854775808) (by rw [z]; decide)
