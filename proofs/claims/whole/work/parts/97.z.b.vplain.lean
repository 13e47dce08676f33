/-! DirectiveRows: plain, exponential, fixed, general -/
def Q_VR_plain (x2 t0_1 t0_2 t0_4 t0_7 t0_9 t0_11 t0_12 t0_13 t0_14 t0_15 t0_16 t0_18 t0_17 : Int32) (p : Int32 × Int32 × Int32 × Int32 × Int32 × Int32 × Int32 × Int32 × Int32 × Int32 × Int32 × Int32 × Int32 × Int32 × Int32 × Int32 × Int32 × Int32 × Int32 × Int32 × Int32 × Int32 × (Nat → Int32)) : Prop := vrK p.2.1 p.2.2.1 p.2.2.2.2.1 p.2.2.2.2.2.2.2.1 p.2.2.2.2.2.2.2.2.2.1 p.2.2.2.2.2.2.2.2.2.2.2.1 p.2.2.2.2.2.2.2.2.2.2.2.2.1 p.2.2.2.2.2.2.2.2.2.2.2.2.2.1 p.2.2.2.2.2.2.2.2.2.2.2.2.2.2.1 p.2.2.2.2.2.2.2.2.2.2.2.2.2.2.2.1 p.2.2.2.2.2.2.2.2.2.2.2.2.2.2.2.2.1 p.2.2.2.2.2.2.2.2.2.2.2.2.2.2.2.2.2.2.1 t0_1 t0_2 t0_4 t0_7 t0_9 t0_11 t0_12 t0_13 t0_14 t0_15 t0_16 t0_18 ∧ (t0_17.toInt ≤ p.2.2.2.2.2.2.2.2.2.2.2.2.2.2.2.2.2.1.toInt ∧ p.2.2.2.2.2.2.2.2.2.2.2.2.2.2.2.2.2.1.toInt ≤ t0_17.toInt + 140 + x2.toInt)
theorem vv_p2 {K_F_VR_plain_L21 : Int32 → Int32 → Int32 → Int32 → Int32 → Int32 → Int32 → Int32 → Int32 → Int32 → Int32 → Int32 → Int32 → Int32 → Int32 → Int32 → Int32 → Int32 → Int32 → Int32 → Int32 → Int32 → Int32 → (Nat → Int32) → (Int32 × Int32 × Int32 × Int32 × Int32 × Int32 × Int32 × Int32 × Int32 × Int32 × Int32 × Int32 × Int32 × Int32 × Int32 × Int32 × Int32 × Int32 × Int32 × Int32 × Int32 × Int32 × (Nat → Int32))} {x2 : Int32} {t0_0 : Int32} {t0_1 : Int32} {t0_2 : Int32} {t0_3 : Int32} {t0_4 : Int32} {t0_5 : Int32} {t0_6 : Int32} {t0_7 : Int32} {t0_8 : Int32} {t0_9 : Int32} {t0_10 : Int32} {t0_11 : Int32} {t0_12 : Int32} {t0_13 : Int32} {t0_14 : Int32} {t0_15 : Int32} {t0_16 : Int32} {t0_17 : Int32} {t0_18 : Int32} {t0_19 : Int32} {t0_20 : Int32} {t0_21 : Int32} {t1_0 : (Nat → Int32)} {t2_0 : (Nat → Int32)} {lx35 : Int32} {lx46 : Int32} {lx47 : Int32} {lx48 : Int32} {lx49 : Int32} {lx50 : Int32} {lx51 : Int32} {lx52 : Int32} {lx53 : Int32} {lx54 : Int32} {lx55 : Int32} {lx56 : Int32} {lx57 : Int32} {lx58 : Int32} {lx59 : Int32} {lx60 : Int32} {lx61 : Int32} {lx62 : Int32} {lx63 : Int32} {lx64 : Int32} {lx65 : Int32} {lx66 : Int32} {lx67 : Int32} {lx68 : Int32} {lx69 : (Nat → Int32)} {lx126 : Int32} {lx127 : Int32} {lx128 : Int32} {lx129 : Int32} {lx130 : Int32} {lx131 : Int32} {lx132 : Int32} {lx133 : Int32} {lx134 : Int32} {lx135 : Int32} {lx136 : Int32} {lx137 : Int32} {lx138 : Int32} {lx139 : Int32} {lx140 : Int32} {lx141 : Int32} {lx142 : Int32} {lx143 : Int32} {lx144 : Int32} {lx145 : Int32} {lx146 : Int32} {lx147 : Int32} {lx148 : (Nat → Int32)} {K_S_VR_plain_L21 : Int32 → Int32 → Int32 → Int32 → Int32 → Int32 → Int32 → Int32 → Int32 → Int32 → Int32 → Int32 → Int32 → Int32 → Int32 → Int32 → Int32 → Int32 → Int32 → Int32 → Int32 → Int32 → Int32 → (Nat → Int32) → Prop} (h20 : 0 ≤ t0_20.toInt ∧ t0_20.toInt ≤ 60) (h21 : -20000 ≤ t0_21.toInt ∧ t0_21.toInt ≤ 64) (hL : 0 ≤ t0_17.toInt ∧ t0_17.toInt ≤ 200)(hx2 : 0 ≤ x2.toInt ∧ x2.toInt ≤ 10200) : ∀ (n : Nat) (lx204 : Int32) (lx205 : Int32) (lx206 : Int32) (lx207 : Int32) (lx208 : Int32) (lx209 : Int32) (lx210 : Int32) (lx211 : Int32) (lx212 : Int32) (lx213 : Int32) (lx214 : Int32) (lx215 : Int32) (lx216 : Int32) (lx217 : Int32) (lx218 : Int32) (lx219 : Int32) (lx220 : Int32) (lx221 : Int32) (lx222 : Int32) (lx223 : Int32) (lx224 : Int32) (lx225 : Int32) (lx226 : Int32) (lx227 : (Nat → Int32)), (0 ≤ lx204.toInt ∧ lx204.toInt ≤ x2.toInt) → (x2.toInt - lx204.toInt < (n : Int)) → (vrK lx206 lx207 lx209 lx212 lx214 lx216 lx217 lx218 lx219 lx220 lx221 lx223 t0_1 t0_2 t0_4 t0_7 t0_9 t0_11 t0_12 t0_13 t0_14 t0_15 t0_16 t0_18) → (t0_17.toInt ≤ lx222.toInt ∧ lx222.toInt ≤ t0_17.toInt + 135 + lx204.toInt) → (lx225.toInt = t0_20.toInt ∧ lx226.toInt = t0_21.toInt) → (S_VR_plain_L103 K_S_VR_plain_L21 x2 t0_0 t0_1 t0_2 t0_3 t0_4 t0_5 t0_6 t0_7 t0_8 t0_9 t0_10 t0_11 t0_12 t0_13 t0_14 t0_15 t0_16 t0_17 t0_18 t0_19 t0_20 t0_21 t1_0 t2_0 lx35 lx46 lx47 lx48 lx49 lx50 lx51 lx52 lx53 lx54 lx55 lx56 lx57 lx58 lx59 lx60 lx61 lx62 lx63 lx64 lx65 lx66 lx67 lx68 lx69 lx126 lx127 lx128 lx129 lx130 lx131 lx132 lx133 lx134 lx135 lx136 lx137 lx138 lx139 lx140 lx141 lx142 lx143 lx144 lx145 lx146 lx147 lx148 n lx204 lx205 lx206 lx207 lx208 lx209 lx210 lx211 lx212 lx213 lx214 lx215 lx216 lx217 lx218 lx219 lx220 lx221 lx222 lx223 lx224 lx225 lx226 lx227) ∧ Q_VR_plain x2 t0_1 t0_2 t0_4 t0_7 t0_9 t0_11 t0_12 t0_13 t0_14 t0_15 t0_16 t0_18 t0_17 (F_VR_plain_L103 K_F_VR_plain_L21 x2 t0_0 t0_1 t0_2 t0_3 t0_4 t0_5 t0_6 t0_7 t0_8 t0_9 t0_10 t0_11 t0_12 t0_13 t0_14 t0_15 t0_16 t0_17 t0_18 t0_19 t0_20 t0_21 t1_0 t2_0 lx35 lx46 lx47 lx48 lx49 lx50 lx51 lx52 lx53 lx54 lx55 lx56 lx57 lx58 lx59 lx60 lx61 lx62 lx63 lx64 lx65 lx66 lx67 lx68 lx69 lx126 lx127 lx128 lx129 lx130 lx131 lx132 lx133 lx134 lx135 lx136 lx137 lx138 lx139 lx140 lx141 lx142 lx143 lx144 lx145 lx146 lx147 lx148 n lx204 lx205 lx206 lx207 lx208 lx209 lx210 lx211 lx212 lx213 lx214 lx215 lx216 lx217 lx218 lx219 lx220 lx221 lx222 lx223 lx224 lx225 lx226 lx227) := by
  intro n
  induction n with
  | zero => intro lx204 lx205 lx206 lx207 lx208 lx209 lx210 lx211 lx212 lx213 lx214 lx215 lx216 lx217 lx218 lx219 lx220 lx221 lx222 lx223 lx224 lx225 lx226 lx227 h0 hm hk hs hc; exact absurd (show False by omega) id
  | succ n ih =>
    intro lx204 lx205 lx206 lx207 lx208 lx209 lx210 lx211 lx212 lx213 lx214 lx215 lx216 lx217 lx218 lx219 lx220 lx221 lx222 lx223 lx224 lx225 lx226 lx227 h0 hm hk hs hc
    have e0 : (0 : Int32).toInt = 0 := rfl
    have e1 : (1 : Int32).toInt = 1 := rfl
    have eL0 : (0 : Int64).toInt = 0 := rfl
    have em : (-1 : Int32).toInt = -1 := rfl
    rw [S_VR_plain_L103.eq_2, F_VR_plain_L103.eq_2]
    by_cases g1 : x2 ≤ lx204
    ·
      rw [if_pos g1, if_pos g1]
      have g1i : x2.toInt ≤ lx204.toInt := q_leI g1
      refine ⟨trivial, ?_⟩
      (unfold Q_VR_plain; dsimp only; exact ⟨hk, ⟨by omega, by omega⟩⟩)
    ·
      rw [if_neg g1, if_neg g1]
      have g1i : lx204.toInt < x2.toInt := q_nleI g1
      have h2 := T_VR_figureAt (x2 := (lx226 + lx204 : Int32)) (t0_0 := lx205) (t0_1 := lx206) (t0_2 := lx207) (t0_3 := lx208) (t0_4 := lx209) (t0_5 := lx210) (t0_6 := lx211) (t0_7 := lx212) (t0_8 := lx213) (t0_9 := lx214) (t0_10 := lx215) (t0_11 := lx216) (t0_12 := lx217) (t0_13 := lx218) (t0_14 := lx219) (t0_15 := lx220) (t0_16 := lx221) (t0_17 := lx222) (t0_18 := lx223) (t0_19 := lx224) (t0_20 := lx225) (t0_21 := lx226) (t1_0 := t2_0) (by omega)
      with_reducible refine v_owe h2 ?_
      have h3 := T_VR_put (x2 := (48 + ((F_VR_figureAt (lx226 + lx204 : Int32) lx205 lx206 lx207 lx208 lx209 lx210 lx211 lx212 lx213 lx214 lx215 lx216 lx217 lx218 lx219 lx220 lx221 lx222 lx223 lx224 lx225 lx226 t2_0) : Int32) : Int32)) (t0_0 := lx205) (t0_1 := lx206) (t0_2 := lx207) (t0_3 := lx208) (t0_4 := lx209) (t0_5 := lx210) (t0_6 := lx211) (t0_7 := lx212) (t0_8 := lx213) (t0_9 := lx214) (t0_10 := lx215) (t0_11 := lx216) (t0_12 := lx217) (t0_13 := lx218) (t0_14 := lx219) (t0_15 := lx220) (t0_16 := lx221) (t0_17 := lx222) (t0_18 := lx223) (t0_19 := lx224) (t0_20 := lx225) (t0_21 := lx226) (t1_0 := lx227) ⟨by first | omega | decide, by first | omega | decide⟩
      with_reducible refine v_owe h3.1 ?_
      replace h3 := h3.2
      generalize F_VR_put (48 + ((F_VR_figureAt (lx226 + lx204 : Int32) lx205 lx206 lx207 lx208 lx209 lx210 lx211 lx212 lx213 lx214 lx215 lx216 lx217 lx218 lx219 lx220 lx221 lx222 lx223 lx224 lx225 lx226 t2_0) : Int32) : Int32) lx205 lx206 lx207 lx208 lx209 lx210 lx211 lx212 lx213 lx214 lx215 lx216 lx217 lx218 lx219 lx220 lx221 lx222 lx223 lx224 lx225 lx226 lx227 = p382 at *
      unfold Q_VR_put at h3
      obtain ⟨kp382, h317, h320, h321⟩ := h3
      unfold S_VR_plain_c122 F_VR_plain_c122
      obtain ⟨a4, e5⟩ := q_nm (lx204 + 1 : Int32)
      rw [e5]
      have a4i : a4.toInt = lx204.toInt + 1 := by rw [← e5]; exact q_addI (x := lx204.toInt) (y := 1) rfl (by decide) (by omega) (by omega)
      exact ih _ _ _ _ _ _ _ _ _ _ _ _ _ _ _ _ _ _ _ _ _ _ _ _ ⟨by omega, by omega⟩ (by omega) (kp382.trans hk) ⟨by omega, by omega⟩ ⟨by omega, by omega⟩
theorem vv_p1 {x2 : Int32} {t0_0 : Int32} {t0_1 : Int32} {t0_2 : Int32} {t0_3 : Int32} {t0_4 : Int32} {t0_5 : Int32} {t0_6 : Int32} {t0_7 : Int32} {t0_8 : Int32} {t0_9 : Int32} {t0_10 : Int32} {t0_11 : Int32} {t0_12 : Int32} {t0_13 : Int32} {t0_14 : Int32} {t0_15 : Int32} {t0_16 : Int32} {t0_17 : Int32} {t0_18 : Int32} {t0_19 : Int32} {t0_20 : Int32} {t0_21 : Int32} {t1_0 : (Nat → Int32)} {t2_0 : (Nat → Int32)} {lx35 : Int32} (h20 : 0 ≤ t0_20.toInt ∧ t0_20.toInt ≤ 60) (h21 : -20000 ≤ t0_21.toInt ∧ t0_21.toInt ≤ 64) (hL : 0 ≤ t0_17.toInt ∧ t0_17.toInt ≤ 200)(hx2 : 0 ≤ x2.toInt ∧ x2.toInt ≤ 10200)(h35 : (lx35.toInt = 0 ∧ 1 ≤ t0_21.toInt) ∨ (lx35.toInt = t0_21.toInt - 1 ∧ t0_21.toInt < 1)) : ∀ (n : Nat) (lx46 : Int32) (lx47 : Int32) (lx48 : Int32) (lx49 : Int32) (lx50 : Int32) (lx51 : Int32) (lx52 : Int32) (lx53 : Int32) (lx54 : Int32) (lx55 : Int32) (lx56 : Int32) (lx57 : Int32) (lx58 : Int32) (lx59 : Int32) (lx60 : Int32) (lx61 : Int32) (lx62 : Int32) (lx63 : Int32) (lx64 : Int32) (lx65 : Int32) (lx66 : Int32) (lx67 : Int32) (lx68 : Int32) (lx69 : (Nat → Int32)), (lx35.toInt ≤ lx46.toInt ∧ lx46.toInt ≤ t0_21.toInt) → (t0_21.toInt - lx46.toInt < (n : Int)) → (vrK lx48 lx49 lx51 lx54 lx56 lx58 lx59 lx60 lx61 lx62 lx63 lx65 t0_1 t0_2 t0_4 t0_7 t0_9 t0_11 t0_12 t0_13 t0_14 t0_15 t0_16 t0_18) → (t0_17.toInt ≤ lx64.toInt ∧ lx64.toInt ≤ t0_17.toInt + 2 * (lx46.toInt - lx35.toInt)) → (lx67.toInt = t0_20.toInt ∧ lx68.toInt = t0_21.toInt) → (S_VR_plain_L21 x2 t0_0 t0_1 t0_2 t0_3 t0_4 t0_5 t0_6 t0_7 t0_8 t0_9 t0_10 t0_11 t0_12 t0_13 t0_14 t0_15 t0_16 t0_17 t0_18 t0_19 t0_20 t0_21 t1_0 t2_0 lx35 n lx46 lx47 lx48 lx49 lx50 lx51 lx52 lx53 lx54 lx55 lx56 lx57 lx58 lx59 lx60 lx61 lx62 lx63 lx64 lx65 lx66 lx67 lx68 lx69) ∧ Q_VR_plain x2 t0_1 t0_2 t0_4 t0_7 t0_9 t0_11 t0_12 t0_13 t0_14 t0_15 t0_16 t0_18 t0_17 (F_VR_plain_L21 x2 t0_0 t0_1 t0_2 t0_3 t0_4 t0_5 t0_6 t0_7 t0_8 t0_9 t0_10 t0_11 t0_12 t0_13 t0_14 t0_15 t0_16 t0_17 t0_18 t0_19 t0_20 t0_21 t1_0 t2_0 lx35 n lx46 lx47 lx48 lx49 lx50 lx51 lx52 lx53 lx54 lx55 lx56 lx57 lx58 lx59 lx60 lx61 lx62 lx63 lx64 lx65 lx66 lx67 lx68 lx69) := by
  intro n
  induction n with
  | zero => intro lx46 lx47 lx48 lx49 lx50 lx51 lx52 lx53 lx54 lx55 lx56 lx57 lx58 lx59 lx60 lx61 lx62 lx63 lx64 lx65 lx66 lx67 lx68 lx69 h0 hm hk hs hc; exact absurd (show False by omega) id
  | succ n ih =>
    intro lx46 lx47 lx48 lx49 lx50 lx51 lx52 lx53 lx54 lx55 lx56 lx57 lx58 lx59 lx60 lx61 lx62 lx63 lx64 lx65 lx66 lx67 lx68 lx69 h0 hm hk hs hc
    have e0 : (0 : Int32).toInt = 0 := rfl
    have e1 : (1 : Int32).toInt = 1 := rfl
    have eL0 : (0 : Int64).toInt = 0 := rfl
    have em : (-1 : Int32).toInt = -1 := rfl
    rw [S_VR_plain_L21.eq_2, F_VR_plain_L21.eq_2]
    by_cases g1 : lx68 ≤ lx46
    ·
      rw [if_pos g1, if_pos g1]
      have g1i : lx68.toInt ≤ lx46.toInt := q_leI g1
      by_cases g2 : (0 : Int32) < x2
      ·
        rw [if_pos g2, if_pos g2]
        have g2i : 0 < x2.toInt := q_ltI g2
        unfold S_VR_plain_J95 F_VR_plain_J95
        have h3 := T_VR_put (x2 := (46 : Int32)) (t0_0 := lx47) (t0_1 := lx48) (t0_2 := lx49) (t0_3 := lx50) (t0_4 := lx51) (t0_5 := lx52) (t0_6 := lx53) (t0_7 := lx54) (t0_8 := lx55) (t0_9 := lx56) (t0_10 := lx57) (t0_11 := lx58) (t0_12 := lx59) (t0_13 := lx60) (t0_14 := lx61) (t0_15 := lx62) (t0_16 := lx63) (t0_17 := lx64) (t0_18 := lx65) (t0_19 := lx66) (t0_20 := lx67) (t0_21 := lx68) (t1_0 := lx69) ⟨by first | omega | decide, by first | omega | decide⟩
        with_reducible refine v_owe h3.1 ?_
        replace h3 := h3.2
        generalize F_VR_put (46 : Int32) lx47 lx48 lx49 lx50 lx51 lx52 lx53 lx54 lx55 lx56 lx57 lx58 lx59 lx60 lx61 lx62 lx63 lx64 lx65 lx66 lx67 lx68 lx69 = p500 at *
        unfold Q_VR_put at h3
        obtain ⟨kp500, h317, h320, h321⟩ := h3
        unfold S_VR_plain_c98 F_VR_plain_c98
        unfold S_VR_plain_J101 F_VR_plain_J101
        exact vv_p2 h20 h21 hL hx2 _ _ _ _ _ _ _ _ _ _ _ _ _ _ _ _ _ _ _ _ _ _ _ _ _ ⟨by decide, by omega⟩ (by omega) (kp500.trans hk) ⟨by omega, by omega⟩ ⟨by omega, by omega⟩
      ·
        rw [if_neg g2, if_neg g2]
        have g2i : x2.toInt ≤ 0 := q_nltI g2
        by_cases g4 : ((F_VR_has (35 : Int32) lx47 lx48 lx49 lx50 lx51 lx52 lx53 lx54 lx55 lx56 lx57 lx58 lx59 lx60 lx61 lx62 lx63 lx64 lx65 lx66 lx67 lx68) : Int32) = (0 : Int32)
        ·
          rw [if_pos g4, if_pos g4]
          unfold S_VR_plain_J101 F_VR_plain_J101
          exact vv_p2 h20 h21 hL hx2 _ _ _ _ _ _ _ _ _ _ _ _ _ _ _ _ _ _ _ _ _ _ _ _ _ ⟨by decide, by omega⟩ (by omega) hk ⟨by omega, by omega⟩ ⟨by omega, by omega⟩
        ·
          rw [if_neg g4, if_neg g4]
          unfold S_VR_plain_J95 F_VR_plain_J95
          have h5 := T_VR_put (x2 := (46 : Int32)) (t0_0 := lx47) (t0_1 := lx48) (t0_2 := lx49) (t0_3 := lx50) (t0_4 := lx51) (t0_5 := lx52) (t0_6 := lx53) (t0_7 := lx54) (t0_8 := lx55) (t0_9 := lx56) (t0_10 := lx57) (t0_11 := lx58) (t0_12 := lx59) (t0_13 := lx60) (t0_14 := lx61) (t0_15 := lx62) (t0_16 := lx63) (t0_17 := lx64) (t0_18 := lx65) (t0_19 := lx66) (t0_20 := lx67) (t0_21 := lx68) (t1_0 := lx69) ⟨by first | omega | decide, by first | omega | decide⟩
          with_reducible refine v_owe h5.1 ?_
          replace h5 := h5.2
          generalize F_VR_put (46 : Int32) lx47 lx48 lx49 lx50 lx51 lx52 lx53 lx54 lx55 lx56 lx57 lx58 lx59 lx60 lx61 lx62 lx63 lx64 lx65 lx66 lx67 lx68 lx69 = p500 at *
          unfold Q_VR_put at h5
          obtain ⟨kp500, h517, h520, h521⟩ := h5
          unfold S_VR_plain_c98 F_VR_plain_c98
          unfold S_VR_plain_J101 F_VR_plain_J101
          exact vv_p2 h20 h21 hL hx2 _ _ _ _ _ _ _ _ _ _ _ _ _ _ _ _ _ _ _ _ _ _ _ _ _ ⟨by decide, by omega⟩ (by omega) (kp500.trans hk) ⟨by omega, by omega⟩ ⟨by omega, by omega⟩
    ·
      rw [if_neg g1, if_neg g1]
      have g1i : lx46.toInt < lx68.toInt := q_nleI g1
      by_cases g6 : ((F_VR_has (44 : Int32) lx47 lx48 lx49 lx50 lx51 lx52 lx53 lx54 lx55 lx56 lx57 lx58 lx59 lx60 lx61 lx62 lx63 lx64 lx65 lx66 lx67 lx68) : Int32) = (0 : Int32)
      ·
        rw [if_pos g6, if_pos g6]
        have h7 := T_VR_figureAt (x2 := lx46) (t0_0 := lx47) (t0_1 := lx48) (t0_2 := lx49) (t0_3 := lx50) (t0_4 := lx51) (t0_5 := lx52) (t0_6 := lx53) (t0_7 := lx54) (t0_8 := lx55) (t0_9 := lx56) (t0_10 := lx57) (t0_11 := lx58) (t0_12 := lx59) (t0_13 := lx60) (t0_14 := lx61) (t0_15 := lx62) (t0_16 := lx63) (t0_17 := lx64) (t0_18 := lx65) (t0_19 := lx66) (t0_20 := lx67) (t0_21 := lx68) (t1_0 := t2_0) (by omega)
        with_reducible refine v_owe h7 ?_
        have h8 := T_VR_put (x2 := (48 + ((F_VR_figureAt lx46 lx47 lx48 lx49 lx50 lx51 lx52 lx53 lx54 lx55 lx56 lx57 lx58 lx59 lx60 lx61 lx62 lx63 lx64 lx65 lx66 lx67 lx68 t2_0) : Int32) : Int32)) (t0_0 := lx47) (t0_1 := lx48) (t0_2 := lx49) (t0_3 := lx50) (t0_4 := lx51) (t0_5 := lx52) (t0_6 := lx53) (t0_7 := lx54) (t0_8 := lx55) (t0_9 := lx56) (t0_10 := lx57) (t0_11 := lx58) (t0_12 := lx59) (t0_13 := lx60) (t0_14 := lx61) (t0_15 := lx62) (t0_16 := lx63) (t0_17 := lx64) (t0_18 := lx65) (t0_19 := lx66) (t0_20 := lx67) (t0_21 := lx68) (t1_0 := lx69) ⟨by first | omega | decide, by first | omega | decide⟩
        with_reducible refine v_owe h8.1 ?_
        replace h8 := h8.2
        generalize F_VR_put (48 + ((F_VR_figureAt lx46 lx47 lx48 lx49 lx50 lx51 lx52 lx53 lx54 lx55 lx56 lx57 lx58 lx59 lx60 lx61 lx62 lx63 lx64 lx65 lx66 lx67 lx68 t2_0) : Int32) : Int32) lx47 lx48 lx49 lx50 lx51 lx52 lx53 lx54 lx55 lx56 lx57 lx58 lx59 lx60 lx61 lx62 lx63 lx64 lx65 lx66 lx67 lx68 lx69 = p639 at *
        unfold Q_VR_put at h8
        obtain ⟨kp639, h817, h820, h821⟩ := h8
        unfold S_VR_plain_c73 F_VR_plain_c73
        obtain ⟨a9, e10⟩ := q_nm (lx46 + 1 : Int32)
        rw [e10]
        have a9i : a9.toInt = lx46.toInt + 1 := by rw [← e10]; exact q_addI (x := lx46.toInt) (y := 1) rfl (by decide) (by omega) (by omega)
        exact ih _ _ _ _ _ _ _ _ _ _ _ _ _ _ _ _ _ _ _ _ _ _ _ _ ⟨by omega, by omega⟩ (by omega) (kp639.trans hk) ⟨by omega, by omega⟩ ⟨by omega, by omega⟩
      ·
        rw [if_neg g6, if_neg g6]
        by_cases g11 : lx46 ≤ lx35
        ·
          rw [if_pos g11, if_pos g11]
          have g11i : lx46.toInt ≤ lx35.toInt := q_leI g11
          have h12 := T_VR_figureAt (x2 := lx46) (t0_0 := lx47) (t0_1 := lx48) (t0_2 := lx49) (t0_3 := lx50) (t0_4 := lx51) (t0_5 := lx52) (t0_6 := lx53) (t0_7 := lx54) (t0_8 := lx55) (t0_9 := lx56) (t0_10 := lx57) (t0_11 := lx58) (t0_12 := lx59) (t0_13 := lx60) (t0_14 := lx61) (t0_15 := lx62) (t0_16 := lx63) (t0_17 := lx64) (t0_18 := lx65) (t0_19 := lx66) (t0_20 := lx67) (t0_21 := lx68) (t1_0 := t2_0) (by omega)
          with_reducible refine v_owe h12 ?_
          have h13 := T_VR_put (x2 := (48 + ((F_VR_figureAt lx46 lx47 lx48 lx49 lx50 lx51 lx52 lx53 lx54 lx55 lx56 lx57 lx58 lx59 lx60 lx61 lx62 lx63 lx64 lx65 lx66 lx67 lx68 t2_0) : Int32) : Int32)) (t0_0 := lx47) (t0_1 := lx48) (t0_2 := lx49) (t0_3 := lx50) (t0_4 := lx51) (t0_5 := lx52) (t0_6 := lx53) (t0_7 := lx54) (t0_8 := lx55) (t0_9 := lx56) (t0_10 := lx57) (t0_11 := lx58) (t0_12 := lx59) (t0_13 := lx60) (t0_14 := lx61) (t0_15 := lx62) (t0_16 := lx63) (t0_17 := lx64) (t0_18 := lx65) (t0_19 := lx66) (t0_20 := lx67) (t0_21 := lx68) (t1_0 := lx69) ⟨by first | omega | decide, by first | omega | decide⟩
          with_reducible refine v_owe h13.1 ?_
          replace h13 := h13.2
          generalize F_VR_put (48 + ((F_VR_figureAt lx46 lx47 lx48 lx49 lx50 lx51 lx52 lx53 lx54 lx55 lx56 lx57 lx58 lx59 lx60 lx61 lx62 lx63 lx64 lx65 lx66 lx67 lx68 t2_0) : Int32) : Int32) lx47 lx48 lx49 lx50 lx51 lx52 lx53 lx54 lx55 lx56 lx57 lx58 lx59 lx60 lx61 lx62 lx63 lx64 lx65 lx66 lx67 lx68 lx69 = p759 at *
          unfold Q_VR_put at h13
          obtain ⟨kp759, h1317, h1320, h1321⟩ := h13
          unfold S_VR_plain_c73_9 F_VR_plain_c73_9
          obtain ⟨a14, e15⟩ := q_nm (lx46 + 1 : Int32)
          rw [e15]
          have a14i : a14.toInt = lx46.toInt + 1 := by rw [← e15]; exact q_addI (x := lx46.toInt) (y := 1) rfl (by decide) (by omega) (by omega)
          exact ih _ _ _ _ _ _ _ _ _ _ _ _ _ _ _ _ _ _ _ _ _ _ _ _ ⟨by omega, by omega⟩ (by omega) (kp759.trans hk) ⟨by omega, by omega⟩ ⟨by omega, by omega⟩
        ·
          rw [if_neg g11, if_neg g11]
          have g11i : lx35.toInt < lx46.toInt := q_nleI g11
          by_cases g16 : ((lx68 - lx46 : Int32) - (lx68 - lx46 : Int32) / 3 * 3 : Int32) = (0 : Int32)
          ·
            rw [if_pos g16, if_pos g16]
            have h17 := T_VR_put (x2 := (44 : Int32)) (t0_0 := lx47) (t0_1 := lx48) (t0_2 := lx49) (t0_3 := lx50) (t0_4 := lx51) (t0_5 := lx52) (t0_6 := lx53) (t0_7 := lx54) (t0_8 := lx55) (t0_9 := lx56) (t0_10 := lx57) (t0_11 := lx58) (t0_12 := lx59) (t0_13 := lx60) (t0_14 := lx61) (t0_15 := lx62) (t0_16 := lx63) (t0_17 := lx64) (t0_18 := lx65) (t0_19 := lx66) (t0_20 := lx67) (t0_21 := lx68) (t1_0 := lx69) ⟨by first | omega | decide, by first | omega | decide⟩
            with_reducible refine v_owe h17.1 ?_
            replace h17 := h17.2
            generalize F_VR_put (44 : Int32) lx47 lx48 lx49 lx50 lx51 lx52 lx53 lx54 lx55 lx56 lx57 lx58 lx59 lx60 lx61 lx62 lx63 lx64 lx65 lx66 lx67 lx68 lx69 = p991 at *
            unfold Q_VR_put at h17
            obtain ⟨kp991, h1717, h1720, h1721⟩ := h17
            unfold S_VR_plain_c61 F_VR_plain_c61
            have h18 := T_VR_figureAt (x2 := lx46) (t0_0 := (p991.1 : Int32)) (t0_1 := (p991.2.1 : Int32)) (t0_2 := (p991.2.2.1 : Int32)) (t0_3 := (p991.2.2.2.1 : Int32)) (t0_4 := (p991.2.2.2.2.1 : Int32)) (t0_5 := (p991.2.2.2.2.2.1 : Int32)) (t0_6 := (p991.2.2.2.2.2.2.1 : Int32)) (t0_7 := (p991.2.2.2.2.2.2.2.1 : Int32)) (t0_8 := (p991.2.2.2.2.2.2.2.2.1 : Int32)) (t0_9 := (p991.2.2.2.2.2.2.2.2.2.1 : Int32)) (t0_10 := (p991.2.2.2.2.2.2.2.2.2.2.1 : Int32)) (t0_11 := (p991.2.2.2.2.2.2.2.2.2.2.2.1 : Int32)) (t0_12 := (p991.2.2.2.2.2.2.2.2.2.2.2.2.1 : Int32)) (t0_13 := (p991.2.2.2.2.2.2.2.2.2.2.2.2.2.1 : Int32)) (t0_14 := (p991.2.2.2.2.2.2.2.2.2.2.2.2.2.2.1 : Int32)) (t0_15 := (p991.2.2.2.2.2.2.2.2.2.2.2.2.2.2.2.1 : Int32)) (t0_16 := (p991.2.2.2.2.2.2.2.2.2.2.2.2.2.2.2.2.1 : Int32)) (t0_17 := (p991.2.2.2.2.2.2.2.2.2.2.2.2.2.2.2.2.2.1 : Int32)) (t0_18 := (p991.2.2.2.2.2.2.2.2.2.2.2.2.2.2.2.2.2.2.1 : Int32)) (t0_19 := (p991.2.2.2.2.2.2.2.2.2.2.2.2.2.2.2.2.2.2.2.1 : Int32)) (t0_20 := (p991.2.2.2.2.2.2.2.2.2.2.2.2.2.2.2.2.2.2.2.2.1 : Int32)) (t0_21 := (p991.2.2.2.2.2.2.2.2.2.2.2.2.2.2.2.2.2.2.2.2.2.1 : Int32)) (t1_0 := t2_0) (by omega)
            with_reducible refine v_owe h18 ?_
            have h19 := T_VR_put (x2 := (48 + ((F_VR_figureAt lx46 (p991.1 : Int32) (p991.2.1 : Int32) (p991.2.2.1 : Int32) (p991.2.2.2.1 : Int32) (p991.2.2.2.2.1 : Int32) (p991.2.2.2.2.2.1 : Int32) (p991.2.2.2.2.2.2.1 : Int32) (p991.2.2.2.2.2.2.2.1 : Int32) (p991.2.2.2.2.2.2.2.2.1 : Int32) (p991.2.2.2.2.2.2.2.2.2.1 : Int32) (p991.2.2.2.2.2.2.2.2.2.2.1 : Int32) (p991.2.2.2.2.2.2.2.2.2.2.2.1 : Int32) (p991.2.2.2.2.2.2.2.2.2.2.2.2.1 : Int32) (p991.2.2.2.2.2.2.2.2.2.2.2.2.2.1 : Int32) (p991.2.2.2.2.2.2.2.2.2.2.2.2.2.2.1 : Int32) (p991.2.2.2.2.2.2.2.2.2.2.2.2.2.2.2.1 : Int32) (p991.2.2.2.2.2.2.2.2.2.2.2.2.2.2.2.2.1 : Int32) (p991.2.2.2.2.2.2.2.2.2.2.2.2.2.2.2.2.2.1 : Int32) (p991.2.2.2.2.2.2.2.2.2.2.2.2.2.2.2.2.2.2.1 : Int32) (p991.2.2.2.2.2.2.2.2.2.2.2.2.2.2.2.2.2.2.2.1 : Int32) (p991.2.2.2.2.2.2.2.2.2.2.2.2.2.2.2.2.2.2.2.2.1 : Int32) (p991.2.2.2.2.2.2.2.2.2.2.2.2.2.2.2.2.2.2.2.2.2.1 : Int32) t2_0) : Int32) : Int32)) (t0_0 := (p991.1 : Int32)) (t0_1 := (p991.2.1 : Int32)) (t0_2 := (p991.2.2.1 : Int32)) (t0_3 := (p991.2.2.2.1 : Int32)) (t0_4 := (p991.2.2.2.2.1 : Int32)) (t0_5 := (p991.2.2.2.2.2.1 : Int32)) (t0_6 := (p991.2.2.2.2.2.2.1 : Int32)) (t0_7 := (p991.2.2.2.2.2.2.2.1 : Int32)) (t0_8 := (p991.2.2.2.2.2.2.2.2.1 : Int32)) (t0_9 := (p991.2.2.2.2.2.2.2.2.2.1 : Int32)) (t0_10 := (p991.2.2.2.2.2.2.2.2.2.2.1 : Int32)) (t0_11 := (p991.2.2.2.2.2.2.2.2.2.2.2.1 : Int32)) (t0_12 := (p991.2.2.2.2.2.2.2.2.2.2.2.2.1 : Int32)) (t0_13 := (p991.2.2.2.2.2.2.2.2.2.2.2.2.2.1 : Int32)) (t0_14 := (p991.2.2.2.2.2.2.2.2.2.2.2.2.2.2.1 : Int32)) (t0_15 := (p991.2.2.2.2.2.2.2.2.2.2.2.2.2.2.2.1 : Int32)) (t0_16 := (p991.2.2.2.2.2.2.2.2.2.2.2.2.2.2.2.2.1 : Int32)) (t0_17 := (p991.2.2.2.2.2.2.2.2.2.2.2.2.2.2.2.2.2.1 : Int32)) (t0_18 := (p991.2.2.2.2.2.2.2.2.2.2.2.2.2.2.2.2.2.2.1 : Int32)) (t0_19 := (p991.2.2.2.2.2.2.2.2.2.2.2.2.2.2.2.2.2.2.2.1 : Int32)) (t0_20 := (p991.2.2.2.2.2.2.2.2.2.2.2.2.2.2.2.2.2.2.2.2.1 : Int32)) (t0_21 := (p991.2.2.2.2.2.2.2.2.2.2.2.2.2.2.2.2.2.2.2.2.2.1 : Int32)) (t1_0 := (p991.2.2.2.2.2.2.2.2.2.2.2.2.2.2.2.2.2.2.2.2.2.2 : (Nat → Int32))) ⟨by first | omega | decide, by first | omega | decide⟩
            with_reducible refine v_owe h19.1 ?_
            replace h19 := h19.2
            generalize F_VR_put (48 + ((F_VR_figureAt lx46 (p991.1 : Int32) (p991.2.1 : Int32) (p991.2.2.1 : Int32) (p991.2.2.2.1 : Int32) (p991.2.2.2.2.1 : Int32) (p991.2.2.2.2.2.1 : Int32) (p991.2.2.2.2.2.2.1 : Int32) (p991.2.2.2.2.2.2.2.1 : Int32) (p991.2.2.2.2.2.2.2.2.1 : Int32) (p991.2.2.2.2.2.2.2.2.2.1 : Int32) (p991.2.2.2.2.2.2.2.2.2.2.1 : Int32) (p991.2.2.2.2.2.2.2.2.2.2.2.1 : Int32) (p991.2.2.2.2.2.2.2.2.2.2.2.2.1 : Int32) (p991.2.2.2.2.2.2.2.2.2.2.2.2.2.1 : Int32) (p991.2.2.2.2.2.2.2.2.2.2.2.2.2.2.1 : Int32) (p991.2.2.2.2.2.2.2.2.2.2.2.2.2.2.2.1 : Int32) (p991.2.2.2.2.2.2.2.2.2.2.2.2.2.2.2.2.1 : Int32) (p991.2.2.2.2.2.2.2.2.2.2.2.2.2.2.2.2.2.1 : Int32) (p991.2.2.2.2.2.2.2.2.2.2.2.2.2.2.2.2.2.2.1 : Int32) (p991.2.2.2.2.2.2.2.2.2.2.2.2.2.2.2.2.2.2.2.1 : Int32) (p991.2.2.2.2.2.2.2.2.2.2.2.2.2.2.2.2.2.2.2.2.1 : Int32) (p991.2.2.2.2.2.2.2.2.2.2.2.2.2.2.2.2.2.2.2.2.2.1 : Int32) t2_0) : Int32) : Int32) (p991.1 : Int32) (p991.2.1 : Int32) (p991.2.2.1 : Int32) (p991.2.2.2.1 : Int32) (p991.2.2.2.2.1 : Int32) (p991.2.2.2.2.2.1 : Int32) (p991.2.2.2.2.2.2.1 : Int32) (p991.2.2.2.2.2.2.2.1 : Int32) (p991.2.2.2.2.2.2.2.2.1 : Int32) (p991.2.2.2.2.2.2.2.2.2.1 : Int32) (p991.2.2.2.2.2.2.2.2.2.2.1 : Int32) (p991.2.2.2.2.2.2.2.2.2.2.2.1 : Int32) (p991.2.2.2.2.2.2.2.2.2.2.2.2.1 : Int32) (p991.2.2.2.2.2.2.2.2.2.2.2.2.2.1 : Int32) (p991.2.2.2.2.2.2.2.2.2.2.2.2.2.2.1 : Int32) (p991.2.2.2.2.2.2.2.2.2.2.2.2.2.2.2.1 : Int32) (p991.2.2.2.2.2.2.2.2.2.2.2.2.2.2.2.2.1 : Int32) (p991.2.2.2.2.2.2.2.2.2.2.2.2.2.2.2.2.2.1 : Int32) (p991.2.2.2.2.2.2.2.2.2.2.2.2.2.2.2.2.2.2.1 : Int32) (p991.2.2.2.2.2.2.2.2.2.2.2.2.2.2.2.2.2.2.2.1 : Int32) (p991.2.2.2.2.2.2.2.2.2.2.2.2.2.2.2.2.2.2.2.2.1 : Int32) (p991.2.2.2.2.2.2.2.2.2.2.2.2.2.2.2.2.2.2.2.2.2.1 : Int32) (p991.2.2.2.2.2.2.2.2.2.2.2.2.2.2.2.2.2.2.2.2.2.2 : (Nat → Int32)) = p1105 at *
            unfold Q_VR_put at h19
            obtain ⟨kp1105, h1917, h1920, h1921⟩ := h19
            unfold S_VR_plain_c73_12 F_VR_plain_c73_12
            obtain ⟨a20, e21⟩ := q_nm (lx46 + 1 : Int32)
            rw [e21]
            have a20i : a20.toInt = lx46.toInt + 1 := by rw [← e21]; exact q_addI (x := lx46.toInt) (y := 1) rfl (by decide) (by omega) (by omega)
            exact ih _ _ _ _ _ _ _ _ _ _ _ _ _ _ _ _ _ _ _ _ _ _ _ _ ⟨by omega, by omega⟩ (by omega) (kp1105.trans (kp991.trans hk)) ⟨by omega, by omega⟩ ⟨by omega, by omega⟩
          ·
            rw [if_neg g16, if_neg g16]
            have h22 := T_VR_figureAt (x2 := lx46) (t0_0 := lx47) (t0_1 := lx48) (t0_2 := lx49) (t0_3 := lx50) (t0_4 := lx51) (t0_5 := lx52) (t0_6 := lx53) (t0_7 := lx54) (t0_8 := lx55) (t0_9 := lx56) (t0_10 := lx57) (t0_11 := lx58) (t0_12 := lx59) (t0_13 := lx60) (t0_14 := lx61) (t0_15 := lx62) (t0_16 := lx63) (t0_17 := lx64) (t0_18 := lx65) (t0_19 := lx66) (t0_20 := lx67) (t0_21 := lx68) (t1_0 := t2_0) (by omega)
            with_reducible refine v_owe h22 ?_
            have h23 := T_VR_put (x2 := (48 + ((F_VR_figureAt lx46 lx47 lx48 lx49 lx50 lx51 lx52 lx53 lx54 lx55 lx56 lx57 lx58 lx59 lx60 lx61 lx62 lx63 lx64 lx65 lx66 lx67 lx68 t2_0) : Int32) : Int32)) (t0_0 := lx47) (t0_1 := lx48) (t0_2 := lx49) (t0_3 := lx50) (t0_4 := lx51) (t0_5 := lx52) (t0_6 := lx53) (t0_7 := lx54) (t0_8 := lx55) (t0_9 := lx56) (t0_10 := lx57) (t0_11 := lx58) (t0_12 := lx59) (t0_13 := lx60) (t0_14 := lx61) (t0_15 := lx62) (t0_16 := lx63) (t0_17 := lx64) (t0_18 := lx65) (t0_19 := lx66) (t0_20 := lx67) (t0_21 := lx68) (t1_0 := lx69) ⟨by first | omega | decide, by first | omega | decide⟩
            with_reducible refine v_owe h23.1 ?_
            replace h23 := h23.2
            generalize F_VR_put (48 + ((F_VR_figureAt lx46 lx47 lx48 lx49 lx50 lx51 lx52 lx53 lx54 lx55 lx56 lx57 lx58 lx59 lx60 lx61 lx62 lx63 lx64 lx65 lx66 lx67 lx68 t2_0) : Int32) : Int32) lx47 lx48 lx49 lx50 lx51 lx52 lx53 lx54 lx55 lx56 lx57 lx58 lx59 lx60 lx61 lx62 lx63 lx64 lx65 lx66 lx67 lx68 lx69 = p881 at *
            unfold Q_VR_put at h23
            obtain ⟨kp881, h2317, h2320, h2321⟩ := h23
            unfold S_VR_plain_c73_10 F_VR_plain_c73_10
            obtain ⟨a24, e25⟩ := q_nm (lx46 + 1 : Int32)
            rw [e25]
            have a24i : a24.toInt = lx46.toInt + 1 := by rw [← e25]; exact q_addI (x := lx46.toInt) (y := 1) rfl (by decide) (by omega) (by omega)
            exact ih _ _ _ _ _ _ _ _ _ _ _ _ _ _ _ _ _ _ _ _ _ _ _ _ ⟨by omega, by omega⟩ (by omega) (kp881.trans hk) ⟨by omega, by omega⟩ ⟨by omega, by omega⟩
theorem T_VR_plain {x2 : Int32} {t0_0 : Int32} {t0_1 : Int32} {t0_2 : Int32} {t0_3 : Int32} {t0_4 : Int32} {t0_5 : Int32} {t0_6 : Int32} {t0_7 : Int32} {t0_8 : Int32} {t0_9 : Int32} {t0_10 : Int32} {t0_11 : Int32} {t0_12 : Int32} {t0_13 : Int32} {t0_14 : Int32} {t0_15 : Int32} {t0_16 : Int32} {t0_17 : Int32} {t0_18 : Int32} {t0_19 : Int32} {t0_20 : Int32} {t0_21 : Int32} {t1_0 : (Nat → Int32)} {t2_0 : (Nat → Int32)} (h20 : 0 ≤ t0_20.toInt ∧ t0_20.toInt ≤ 60) (h21 : -20000 ≤ t0_21.toInt ∧ t0_21.toInt ≤ 64) (hL : 0 ≤ t0_17.toInt ∧ t0_17.toInt ≤ 200)(hx2 : 0 ≤ x2.toInt ∧ x2.toInt ≤ 10200) : (S_VR_plain x2 t0_0 t0_1 t0_2 t0_3 t0_4 t0_5 t0_6 t0_7 t0_8 t0_9 t0_10 t0_11 t0_12 t0_13 t0_14 t0_15 t0_16 t0_17 t0_18 t0_19 t0_20 t0_21 t1_0 t2_0) ∧ Q_VR_plain x2 t0_1 t0_2 t0_4 t0_7 t0_9 t0_11 t0_12 t0_13 t0_14 t0_15 t0_16 t0_18 t0_17 (F_VR_plain x2 t0_0 t0_1 t0_2 t0_3 t0_4 t0_5 t0_6 t0_7 t0_8 t0_9 t0_10 t0_11 t0_12 t0_13 t0_14 t0_15 t0_16 t0_17 t0_18 t0_19 t0_20 t0_21 t1_0 t2_0) := by
  have e0 : (0 : Int32).toInt = 0 := rfl
  have e1 : (1 : Int32).toInt = 1 := rfl
  have eL0 : (0 : Int64).toInt = 0 := rfl
  have em : (-1 : Int32).toInt = -1 := rfl
  unfold S_VR_plain F_VR_plain
  by_cases g1 : (1 : Int32) ≤ t0_21
  ·
    rw [if_pos g1, if_pos g1]
    have g1i : 1 ≤ t0_21.toInt := q_leI g1
    unfold S_VR_plain_J18 F_VR_plain_J18
    exact vv_p1 h20 h21 hL hx2 (by first | exact Or.inl ⟨rfl, by omega⟩ | exact Or.inr ⟨by omega, by omega⟩) _ _ _ _ _ _ _ _ _ _ _ _ _ _ _ _ _ _ _ _ _ _ _ _ _ ⟨by omega, by omega⟩ (by omega) vrK.refl' ⟨by omega, by omega⟩ ⟨by omega, by omega⟩
  ·
    rw [if_neg g1, if_neg g1]
    have g1i : t0_21.toInt < 1 := q_nleI g1
    unfold S_VR_plain_J18 F_VR_plain_J18
    have eK : (t0_21 - 1 : Int32).toInt = t0_21.toInt - 1 := q_subI (y := 1) rfl (by decide) (by omega) (by omega); exact vv_p1 h20 h21 hL hx2 (by first | exact Or.inl ⟨rfl, by omega⟩ | exact Or.inr ⟨by omega, by omega⟩) _ _ _ _ _ _ _ _ _ _ _ _ _ _ _ _ _ _ _ _ _ _ _ _ _ ⟨by omega, by omega⟩ (by omega) vrK.refl' ⟨by omega, by omega⟩ ⟨by omega, by omega⟩
def Q_VR_ex (lx238 lx239 lx241 lx244 lx246 lx248 lx249 lx250 lx251 lx252 lx253 lx255 lx254 : Int32) (p : Int32 × Int32 × Int32 × Int32 × Int32 × Int32 × Int32 × Int32 × Int32 × Int32 × Int32 × Int32 × Int32 × Int32 × Int32 × Int32 × Int32 × Int32 × Int32 × Int32 × Int32 × Int32 × (Nat → Int32)) : Prop := vrK p.2.1 p.2.2.1 p.2.2.2.2.1 p.2.2.2.2.2.2.2.1 p.2.2.2.2.2.2.2.2.2.1 p.2.2.2.2.2.2.2.2.2.2.2.1 p.2.2.2.2.2.2.2.2.2.2.2.2.1 p.2.2.2.2.2.2.2.2.2.2.2.2.2.1 p.2.2.2.2.2.2.2.2.2.2.2.2.2.2.1 p.2.2.2.2.2.2.2.2.2.2.2.2.2.2.2.1 p.2.2.2.2.2.2.2.2.2.2.2.2.2.2.2.2.1 p.2.2.2.2.2.2.2.2.2.2.2.2.2.2.2.2.2.2.1 lx238 lx239 lx241 lx244 lx246 lx248 lx249 lx250 lx251 lx252 lx253 lx255 ∧ (lx254.toInt ≤ p.2.2.2.2.2.2.2.2.2.2.2.2.2.2.2.2.2.1.toInt ∧ p.2.2.2.2.2.2.2.2.2.2.2.2.2.2.2.2.2.1.toInt ≤ lx254.toInt + 6)
theorem vr_exA {b1 b2 b4 b7 b9 b11 b12 b13 b14 b15 b16 b18 b17 c0 c1 c2 c3 c4 c5 c6 c7 c8 c9 c10 c11 c12 c13 c14 c15 c16 c17 c18 c19 c20 c21 : Int32} {f : Nat → Int32} (h : vrK c1 c2 c4 c7 c9 c11 c12 c13 c14 c15 c16 c18 b1 b2 b4 b7 b9 b11 b12 b13 b14 b15 b16 b18) (h2 : b17.toInt ≤ c17.toInt ∧ c17.toInt ≤ b17.toInt + 6) : Q_VR_ex b1 b2 b4 b7 b9 b11 b12 b13 b14 b15 b16 b18 b17 (c0, c1, c2, c3, c4, c5, c6, c7, c8, c9, c10, c11, c12, c13, c14, c15, c16, c17, c18, c19, c20, c21, f) := ⟨h, h2⟩
theorem T_VR_exJ {K_F_VR_exponential_L38 : Int32 → Int32 → Int32 → Int32 → Int32 → Int32 → Int32 → Int32 → Int32 → Int32 → Int32 → Int32 → Int32 → Int32 → Int32 → Int32 → Int32 → Int32 → Int32 → Int32 → Int32 → Int32 → Int32 → (Nat → Int32) → (Int32 × Int32 × Int32 × Int32 × Int32 × Int32 × Int32 × Int32 × Int32 × Int32 × Int32 × Int32 × Int32 × Int32 × Int32 × Int32 × Int32 × Int32 × Int32 × Int32 × Int32 × Int32 × (Nat → Int32))} {x2 : Int32} {t0_0 : Int32} {t0_1 : Int32} {t0_2 : Int32} {t0_3 : Int32} {t0_4 : Int32} {t0_5 : Int32} {t0_6 : Int32} {t0_7 : Int32} {t0_8 : Int32} {t0_9 : Int32} {t0_10 : Int32} {t0_11 : Int32} {t0_12 : Int32} {t0_13 : Int32} {t0_14 : Int32} {t0_15 : Int32} {t0_16 : Int32} {t0_17 : Int32} {t0_18 : Int32} {t0_19 : Int32} {t0_20 : Int32} {t0_21 : Int32} {t1_0 : (Nat → Int32)} {t2_0 : (Nat → Int32)} {a38 : Int32} {p127 : (Int32 × Int32 × Int32 × Int32 × Int32 × Int32 × Int32 × Int32 × Int32 × Int32 × Int32 × Int32 × Int32 × Int32 × Int32 × Int32 × Int32 × Int32 × Int32 × Int32 × Int32 × Int32 × (Nat → Int32))} {lx157 : Int32} {lx158 : Int32} {lx159 : Int32} {lx160 : Int32} {lx161 : Int32} {lx162 : Int32} {lx163 : Int32} {lx164 : Int32} {lx165 : Int32} {lx166 : Int32} {lx167 : Int32} {lx168 : Int32} {lx169 : Int32} {lx170 : Int32} {lx171 : Int32} {lx172 : Int32} {lx173 : Int32} {lx174 : Int32} {lx175 : Int32} {lx176 : Int32} {lx177 : Int32} {lx178 : Int32} {lx179 : (Nat → Int32)} {lx236 : Int32} {lx237 : Int32} {lx238 : Int32} {lx239 : Int32} {lx240 : Int32} {lx241 : Int32} {lx242 : Int32} {lx243 : Int32} {lx244 : Int32} {lx245 : Int32} {lx246 : Int32} {lx247 : Int32} {lx248 : Int32} {lx249 : Int32} {lx250 : Int32} {lx251 : Int32} {lx252 : Int32} {lx253 : Int32} {lx254 : Int32} {lx255 : Int32} {lx256 : Int32} {lx257 : Int32} {lx258 : Int32} {lx259 : (Nat → Int32)} {lx326 : Int32} {K_S_VR_exponential_L38 : Int32 → Int32 → Int32 → Int32 → Int32 → Int32 → Int32 → Int32 → Int32 → Int32 → Int32 → Int32 → Int32 → Int32 → Int32 → Int32 → Int32 → Int32 → Int32 → Int32 → Int32 → Int32 → Int32 → (Nat → Int32) → Prop} (hs : 0 ≤ lx254.toInt ∧ lx254.toInt ≤ 20100) : (S_VR_exponential_J75 K_S_VR_exponential_L38 x2 t0_0 t0_1 t0_2 t0_3 t0_4 t0_5 t0_6 t0_7 t0_8 t0_9 t0_10 t0_11 t0_12 t0_13 t0_14 t0_15 t0_16 t0_17 t0_18 t0_19 t0_20 t0_21 t1_0 t2_0 a38 p127 lx157 lx158 lx159 lx160 lx161 lx162 lx163 lx164 lx165 lx166 lx167 lx168 lx169 lx170 lx171 lx172 lx173 lx174 lx175 lx176 lx177 lx178 lx179 lx236 lx237 lx238 lx239 lx240 lx241 lx242 lx243 lx244 lx245 lx246 lx247 lx248 lx249 lx250 lx251 lx252 lx253 lx254 lx255 lx256 lx257 lx258 lx259 lx326) ∧ Q_VR_ex lx238 lx239 lx241 lx244 lx246 lx248 lx249 lx250 lx251 lx252 lx253 lx255 lx254 (F_VR_exponential_J75 K_F_VR_exponential_L38 x2 t0_0 t0_1 t0_2 t0_3 t0_4 t0_5 t0_6 t0_7 t0_8 t0_9 t0_10 t0_11 t0_12 t0_13 t0_14 t0_15 t0_16 t0_17 t0_18 t0_19 t0_20 t0_21 t1_0 t2_0 a38 p127 lx157 lx158 lx159 lx160 lx161 lx162 lx163 lx164 lx165 lx166 lx167 lx168 lx169 lx170 lx171 lx172 lx173 lx174 lx175 lx176 lx177 lx178 lx179 lx236 lx237 lx238 lx239 lx240 lx241 lx242 lx243 lx244 lx245 lx246 lx247 lx248 lx249 lx250 lx251 lx252 lx253 lx254 lx255 lx256 lx257 lx258 lx259 lx326) := by
  unfold S_VR_exponential_J75 F_VR_exponential_J75
  have h1 := T_VR_put (x2 := (101 : Int32)) (t0_0 := lx237) (t0_1 := lx238) (t0_2 := lx239) (t0_3 := lx240) (t0_4 := lx241) (t0_5 := lx242) (t0_6 := lx243) (t0_7 := lx244) (t0_8 := lx245) (t0_9 := lx246) (t0_10 := lx247) (t0_11 := lx248) (t0_12 := lx249) (t0_13 := lx250) (t0_14 := lx251) (t0_15 := lx252) (t0_16 := lx253) (t0_17 := lx254) (t0_18 := lx255) (t0_19 := lx256) (t0_20 := lx257) (t0_21 := lx258) (t1_0 := lx259) ⟨by omega, by omega⟩
  with_reducible refine v_owe h1.1 ?_
  replace h1 := h1.2
  generalize F_VR_put (101 : Int32) lx237 lx238 lx239 lx240 lx241 lx242 lx243 lx244 lx245 lx246 lx247 lx248 lx249 lx250 lx251 lx252 lx253 lx254 lx255 lx256 lx257 lx258 lx259 = p412 at *
  unfold Q_VR_put at h1
  obtain ⟨kp412, h117, h120, h121⟩ := h1
  unfold S_VR_exponential_c79 F_VR_exponential_c79
  by_cases g2 : (0 : Int32) ≤ lx326
  ·
    rw [if_pos g2, if_pos g2]
    unfold S_VR_exponential_J94 F_VR_exponential_J94
    have h3 := T_VR_put (x2 := (43 : Int32)) (t0_0 := (p412.1 : Int32)) (t0_1 := (p412.2.1 : Int32)) (t0_2 := (p412.2.2.1 : Int32)) (t0_3 := (p412.2.2.2.1 : Int32)) (t0_4 := (p412.2.2.2.2.1 : Int32)) (t0_5 := (p412.2.2.2.2.2.1 : Int32)) (t0_6 := (p412.2.2.2.2.2.2.1 : Int32)) (t0_7 := (p412.2.2.2.2.2.2.2.1 : Int32)) (t0_8 := (p412.2.2.2.2.2.2.2.2.1 : Int32)) (t0_9 := (p412.2.2.2.2.2.2.2.2.2.1 : Int32)) (t0_10 := (p412.2.2.2.2.2.2.2.2.2.2.1 : Int32)) (t0_11 := (p412.2.2.2.2.2.2.2.2.2.2.2.1 : Int32)) (t0_12 := (p412.2.2.2.2.2.2.2.2.2.2.2.2.1 : Int32)) (t0_13 := (p412.2.2.2.2.2.2.2.2.2.2.2.2.2.1 : Int32)) (t0_14 := (p412.2.2.2.2.2.2.2.2.2.2.2.2.2.2.1 : Int32)) (t0_15 := (p412.2.2.2.2.2.2.2.2.2.2.2.2.2.2.2.1 : Int32)) (t0_16 := (p412.2.2.2.2.2.2.2.2.2.2.2.2.2.2.2.2.1 : Int32)) (t0_17 := (p412.2.2.2.2.2.2.2.2.2.2.2.2.2.2.2.2.2.1 : Int32)) (t0_18 := (p412.2.2.2.2.2.2.2.2.2.2.2.2.2.2.2.2.2.2.1 : Int32)) (t0_19 := (p412.2.2.2.2.2.2.2.2.2.2.2.2.2.2.2.2.2.2.2.1 : Int32)) (t0_20 := (p412.2.2.2.2.2.2.2.2.2.2.2.2.2.2.2.2.2.2.2.2.1 : Int32)) (t0_21 := (p412.2.2.2.2.2.2.2.2.2.2.2.2.2.2.2.2.2.2.2.2.2.1 : Int32)) (t1_0 := (p412.2.2.2.2.2.2.2.2.2.2.2.2.2.2.2.2.2.2.2.2.2.2 : (Nat → Int32))) ⟨by omega, by omega⟩
    with_reducible refine v_owe h3.1 ?_
    replace h3 := h3.2
    generalize F_VR_put (43 : Int32) (p412.1 : Int32) (p412.2.1 : Int32) (p412.2.2.1 : Int32) (p412.2.2.2.1 : Int32) (p412.2.2.2.2.1 : Int32) (p412.2.2.2.2.2.1 : Int32) (p412.2.2.2.2.2.2.1 : Int32) (p412.2.2.2.2.2.2.2.1 : Int32) (p412.2.2.2.2.2.2.2.2.1 : Int32) (p412.2.2.2.2.2.2.2.2.2.1 : Int32) (p412.2.2.2.2.2.2.2.2.2.2.1 : Int32) (p412.2.2.2.2.2.2.2.2.2.2.2.1 : Int32) (p412.2.2.2.2.2.2.2.2.2.2.2.2.1 : Int32) (p412.2.2.2.2.2.2.2.2.2.2.2.2.2.1 : Int32) (p412.2.2.2.2.2.2.2.2.2.2.2.2.2.2.1 : Int32) (p412.2.2.2.2.2.2.2.2.2.2.2.2.2.2.2.1 : Int32) (p412.2.2.2.2.2.2.2.2.2.2.2.2.2.2.2.2.1 : Int32) (p412.2.2.2.2.2.2.2.2.2.2.2.2.2.2.2.2.2.1 : Int32) (p412.2.2.2.2.2.2.2.2.2.2.2.2.2.2.2.2.2.2.1 : Int32) (p412.2.2.2.2.2.2.2.2.2.2.2.2.2.2.2.2.2.2.2.1 : Int32) (p412.2.2.2.2.2.2.2.2.2.2.2.2.2.2.2.2.2.2.2.2.1 : Int32) (p412.2.2.2.2.2.2.2.2.2.2.2.2.2.2.2.2.2.2.2.2.2.1 : Int32) (p412.2.2.2.2.2.2.2.2.2.2.2.2.2.2.2.2.2.2.2.2.2.2 : (Nat → Int32)) = p530 at *
    unfold Q_VR_put at h3
    obtain ⟨kp530, h317, h320, h321⟩ := h3
    unfold S_VR_exponential_c94 F_VR_exponential_c94
    rw [if_pos g2, if_pos g2]
    unfold S_VR_exponential_J107 F_VR_exponential_J107
    by_cases g4 : lx326 ≤ (99 : Int32)
    ·
      rw [if_pos g4, if_pos g4]
      unfold S_VR_exponential_J125 F_VR_exponential_J125
      have h5 := T_VR_put (x2 := (48 + ((lx326 / 10 : Int32) - (lx326 / 10 : Int32) / 10 * 10 : Int32) : Int32)) (t0_0 := (p530.1 : Int32)) (t0_1 := (p530.2.1 : Int32)) (t0_2 := (p530.2.2.1 : Int32)) (t0_3 := (p530.2.2.2.1 : Int32)) (t0_4 := (p530.2.2.2.2.1 : Int32)) (t0_5 := (p530.2.2.2.2.2.1 : Int32)) (t0_6 := (p530.2.2.2.2.2.2.1 : Int32)) (t0_7 := (p530.2.2.2.2.2.2.2.1 : Int32)) (t0_8 := (p530.2.2.2.2.2.2.2.2.1 : Int32)) (t0_9 := (p530.2.2.2.2.2.2.2.2.2.1 : Int32)) (t0_10 := (p530.2.2.2.2.2.2.2.2.2.2.1 : Int32)) (t0_11 := (p530.2.2.2.2.2.2.2.2.2.2.2.1 : Int32)) (t0_12 := (p530.2.2.2.2.2.2.2.2.2.2.2.2.1 : Int32)) (t0_13 := (p530.2.2.2.2.2.2.2.2.2.2.2.2.2.1 : Int32)) (t0_14 := (p530.2.2.2.2.2.2.2.2.2.2.2.2.2.2.1 : Int32)) (t0_15 := (p530.2.2.2.2.2.2.2.2.2.2.2.2.2.2.2.1 : Int32)) (t0_16 := (p530.2.2.2.2.2.2.2.2.2.2.2.2.2.2.2.2.1 : Int32)) (t0_17 := (p530.2.2.2.2.2.2.2.2.2.2.2.2.2.2.2.2.2.1 : Int32)) (t0_18 := (p530.2.2.2.2.2.2.2.2.2.2.2.2.2.2.2.2.2.2.1 : Int32)) (t0_19 := (p530.2.2.2.2.2.2.2.2.2.2.2.2.2.2.2.2.2.2.2.1 : Int32)) (t0_20 := (p530.2.2.2.2.2.2.2.2.2.2.2.2.2.2.2.2.2.2.2.2.1 : Int32)) (t0_21 := (p530.2.2.2.2.2.2.2.2.2.2.2.2.2.2.2.2.2.2.2.2.2.1 : Int32)) (t1_0 := (p530.2.2.2.2.2.2.2.2.2.2.2.2.2.2.2.2.2.2.2.2.2.2 : (Nat → Int32))) ⟨by omega, by omega⟩
      with_reducible refine v_owe h5.1 ?_
      replace h5 := h5.2
      generalize F_VR_put (48 + ((lx326 / 10 : Int32) - (lx326 / 10 : Int32) / 10 * 10 : Int32) : Int32) (p530.1 : Int32) (p530.2.1 : Int32) (p530.2.2.1 : Int32) (p530.2.2.2.1 : Int32) (p530.2.2.2.2.1 : Int32) (p530.2.2.2.2.2.1 : Int32) (p530.2.2.2.2.2.2.1 : Int32) (p530.2.2.2.2.2.2.2.1 : Int32) (p530.2.2.2.2.2.2.2.2.1 : Int32) (p530.2.2.2.2.2.2.2.2.2.1 : Int32) (p530.2.2.2.2.2.2.2.2.2.2.1 : Int32) (p530.2.2.2.2.2.2.2.2.2.2.2.1 : Int32) (p530.2.2.2.2.2.2.2.2.2.2.2.2.1 : Int32) (p530.2.2.2.2.2.2.2.2.2.2.2.2.2.1 : Int32) (p530.2.2.2.2.2.2.2.2.2.2.2.2.2.2.1 : Int32) (p530.2.2.2.2.2.2.2.2.2.2.2.2.2.2.2.1 : Int32) (p530.2.2.2.2.2.2.2.2.2.2.2.2.2.2.2.2.1 : Int32) (p530.2.2.2.2.2.2.2.2.2.2.2.2.2.2.2.2.2.1 : Int32) (p530.2.2.2.2.2.2.2.2.2.2.2.2.2.2.2.2.2.2.1 : Int32) (p530.2.2.2.2.2.2.2.2.2.2.2.2.2.2.2.2.2.2.2.1 : Int32) (p530.2.2.2.2.2.2.2.2.2.2.2.2.2.2.2.2.2.2.2.2.1 : Int32) (p530.2.2.2.2.2.2.2.2.2.2.2.2.2.2.2.2.2.2.2.2.2.1 : Int32) (p530.2.2.2.2.2.2.2.2.2.2.2.2.2.2.2.2.2.2.2.2.2.2 : (Nat → Int32)) = p731 at *
      unfold Q_VR_put at h5
      obtain ⟨kp731, h517, h520, h521⟩ := h5
      unfold S_VR_exponential_c136 F_VR_exponential_c136
      have h6 := T_VR_put (x2 := (48 + (lx326 - lx326 / 10 * 10 : Int32) : Int32)) (t0_0 := (p731.1 : Int32)) (t0_1 := (p731.2.1 : Int32)) (t0_2 := (p731.2.2.1 : Int32)) (t0_3 := (p731.2.2.2.1 : Int32)) (t0_4 := (p731.2.2.2.2.1 : Int32)) (t0_5 := (p731.2.2.2.2.2.1 : Int32)) (t0_6 := (p731.2.2.2.2.2.2.1 : Int32)) (t0_7 := (p731.2.2.2.2.2.2.2.1 : Int32)) (t0_8 := (p731.2.2.2.2.2.2.2.2.1 : Int32)) (t0_9 := (p731.2.2.2.2.2.2.2.2.2.1 : Int32)) (t0_10 := (p731.2.2.2.2.2.2.2.2.2.2.1 : Int32)) (t0_11 := (p731.2.2.2.2.2.2.2.2.2.2.2.1 : Int32)) (t0_12 := (p731.2.2.2.2.2.2.2.2.2.2.2.2.1 : Int32)) (t0_13 := (p731.2.2.2.2.2.2.2.2.2.2.2.2.2.1 : Int32)) (t0_14 := (p731.2.2.2.2.2.2.2.2.2.2.2.2.2.2.1 : Int32)) (t0_15 := (p731.2.2.2.2.2.2.2.2.2.2.2.2.2.2.2.1 : Int32)) (t0_16 := (p731.2.2.2.2.2.2.2.2.2.2.2.2.2.2.2.2.1 : Int32)) (t0_17 := (p731.2.2.2.2.2.2.2.2.2.2.2.2.2.2.2.2.2.1 : Int32)) (t0_18 := (p731.2.2.2.2.2.2.2.2.2.2.2.2.2.2.2.2.2.2.1 : Int32)) (t0_19 := (p731.2.2.2.2.2.2.2.2.2.2.2.2.2.2.2.2.2.2.2.1 : Int32)) (t0_20 := (p731.2.2.2.2.2.2.2.2.2.2.2.2.2.2.2.2.2.2.2.2.1 : Int32)) (t0_21 := (p731.2.2.2.2.2.2.2.2.2.2.2.2.2.2.2.2.2.2.2.2.2.1 : Int32)) (t1_0 := (p731.2.2.2.2.2.2.2.2.2.2.2.2.2.2.2.2.2.2.2.2.2.2 : (Nat → Int32))) ⟨by omega, by omega⟩
      with_reducible refine v_owe h6.1 ?_
      replace h6 := h6.2
      generalize F_VR_put (48 + (lx326 - lx326 / 10 * 10 : Int32) : Int32) (p731.1 : Int32) (p731.2.1 : Int32) (p731.2.2.1 : Int32) (p731.2.2.2.1 : Int32) (p731.2.2.2.2.1 : Int32) (p731.2.2.2.2.2.1 : Int32) (p731.2.2.2.2.2.2.1 : Int32) (p731.2.2.2.2.2.2.2.1 : Int32) (p731.2.2.2.2.2.2.2.2.1 : Int32) (p731.2.2.2.2.2.2.2.2.2.1 : Int32) (p731.2.2.2.2.2.2.2.2.2.2.1 : Int32) (p731.2.2.2.2.2.2.2.2.2.2.2.1 : Int32) (p731.2.2.2.2.2.2.2.2.2.2.2.2.1 : Int32) (p731.2.2.2.2.2.2.2.2.2.2.2.2.2.1 : Int32) (p731.2.2.2.2.2.2.2.2.2.2.2.2.2.2.1 : Int32) (p731.2.2.2.2.2.2.2.2.2.2.2.2.2.2.2.1 : Int32) (p731.2.2.2.2.2.2.2.2.2.2.2.2.2.2.2.2.1 : Int32) (p731.2.2.2.2.2.2.2.2.2.2.2.2.2.2.2.2.2.1 : Int32) (p731.2.2.2.2.2.2.2.2.2.2.2.2.2.2.2.2.2.2.1 : Int32) (p731.2.2.2.2.2.2.2.2.2.2.2.2.2.2.2.2.2.2.2.1 : Int32) (p731.2.2.2.2.2.2.2.2.2.2.2.2.2.2.2.2.2.2.2.2.1 : Int32) (p731.2.2.2.2.2.2.2.2.2.2.2.2.2.2.2.2.2.2.2.2.2.1 : Int32) (p731.2.2.2.2.2.2.2.2.2.2.2.2.2.2.2.2.2.2.2.2.2.2 : (Nat → Int32)) = p841 at *
      unfold Q_VR_put at h6
      obtain ⟨kp841, h617, h620, h621⟩ := h6
      unfold S_VR_exponential_c147 F_VR_exponential_c147
      refine ⟨trivial, ?_⟩
      exact vr_exA (kp841.trans (kp731.trans (kp530.trans (kp412.trans (vrK.refl'))))) ⟨by omega, by omega⟩
    ·
      rw [if_neg g4, if_neg g4]
      have h7 := T_VR_put (x2 := (48 + (lx326 / 100 : Int32) : Int32)) (t0_0 := (p530.1 : Int32)) (t0_1 := (p530.2.1 : Int32)) (t0_2 := (p530.2.2.1 : Int32)) (t0_3 := (p530.2.2.2.1 : Int32)) (t0_4 := (p530.2.2.2.2.1 : Int32)) (t0_5 := (p530.2.2.2.2.2.1 : Int32)) (t0_6 := (p530.2.2.2.2.2.2.1 : Int32)) (t0_7 := (p530.2.2.2.2.2.2.2.1 : Int32)) (t0_8 := (p530.2.2.2.2.2.2.2.2.1 : Int32)) (t0_9 := (p530.2.2.2.2.2.2.2.2.2.1 : Int32)) (t0_10 := (p530.2.2.2.2.2.2.2.2.2.2.1 : Int32)) (t0_11 := (p530.2.2.2.2.2.2.2.2.2.2.2.1 : Int32)) (t0_12 := (p530.2.2.2.2.2.2.2.2.2.2.2.2.1 : Int32)) (t0_13 := (p530.2.2.2.2.2.2.2.2.2.2.2.2.2.1 : Int32)) (t0_14 := (p530.2.2.2.2.2.2.2.2.2.2.2.2.2.2.1 : Int32)) (t0_15 := (p530.2.2.2.2.2.2.2.2.2.2.2.2.2.2.2.1 : Int32)) (t0_16 := (p530.2.2.2.2.2.2.2.2.2.2.2.2.2.2.2.2.1 : Int32)) (t0_17 := (p530.2.2.2.2.2.2.2.2.2.2.2.2.2.2.2.2.2.1 : Int32)) (t0_18 := (p530.2.2.2.2.2.2.2.2.2.2.2.2.2.2.2.2.2.2.1 : Int32)) (t0_19 := (p530.2.2.2.2.2.2.2.2.2.2.2.2.2.2.2.2.2.2.2.1 : Int32)) (t0_20 := (p530.2.2.2.2.2.2.2.2.2.2.2.2.2.2.2.2.2.2.2.2.1 : Int32)) (t0_21 := (p530.2.2.2.2.2.2.2.2.2.2.2.2.2.2.2.2.2.2.2.2.2.1 : Int32)) (t1_0 := (p530.2.2.2.2.2.2.2.2.2.2.2.2.2.2.2.2.2.2.2.2.2.2 : (Nat → Int32))) ⟨by omega, by omega⟩
      with_reducible refine v_owe h7.1 ?_
      replace h7 := h7.2
      generalize F_VR_put (48 + (lx326 / 100 : Int32) : Int32) (p530.1 : Int32) (p530.2.1 : Int32) (p530.2.2.1 : Int32) (p530.2.2.2.1 : Int32) (p530.2.2.2.2.1 : Int32) (p530.2.2.2.2.2.1 : Int32) (p530.2.2.2.2.2.2.1 : Int32) (p530.2.2.2.2.2.2.2.1 : Int32) (p530.2.2.2.2.2.2.2.2.1 : Int32) (p530.2.2.2.2.2.2.2.2.2.1 : Int32) (p530.2.2.2.2.2.2.2.2.2.2.1 : Int32) (p530.2.2.2.2.2.2.2.2.2.2.2.1 : Int32) (p530.2.2.2.2.2.2.2.2.2.2.2.2.1 : Int32) (p530.2.2.2.2.2.2.2.2.2.2.2.2.2.1 : Int32) (p530.2.2.2.2.2.2.2.2.2.2.2.2.2.2.1 : Int32) (p530.2.2.2.2.2.2.2.2.2.2.2.2.2.2.2.1 : Int32) (p530.2.2.2.2.2.2.2.2.2.2.2.2.2.2.2.2.1 : Int32) (p530.2.2.2.2.2.2.2.2.2.2.2.2.2.2.2.2.2.1 : Int32) (p530.2.2.2.2.2.2.2.2.2.2.2.2.2.2.2.2.2.2.1 : Int32) (p530.2.2.2.2.2.2.2.2.2.2.2.2.2.2.2.2.2.2.2.1 : Int32) (p530.2.2.2.2.2.2.2.2.2.2.2.2.2.2.2.2.2.2.2.2.1 : Int32) (p530.2.2.2.2.2.2.2.2.2.2.2.2.2.2.2.2.2.2.2.2.2.1 : Int32) (p530.2.2.2.2.2.2.2.2.2.2.2.2.2.2.2.2.2.2.2.2.2.2 : (Nat → Int32)) = p956 at *
      unfold Q_VR_put at h7
      obtain ⟨kp956, h717, h720, h721⟩ := h7
      unfold S_VR_exponential_c122 F_VR_exponential_c122
      unfold S_VR_exponential_J125 F_VR_exponential_J125
      have h8 := T_VR_put (x2 := (48 + ((lx326 / 10 : Int32) - (lx326 / 10 : Int32) / 10 * 10 : Int32) : Int32)) (t0_0 := (p956.1 : Int32)) (t0_1 := (p956.2.1 : Int32)) (t0_2 := (p956.2.2.1 : Int32)) (t0_3 := (p956.2.2.2.1 : Int32)) (t0_4 := (p956.2.2.2.2.1 : Int32)) (t0_5 := (p956.2.2.2.2.2.1 : Int32)) (t0_6 := (p956.2.2.2.2.2.2.1 : Int32)) (t0_7 := (p956.2.2.2.2.2.2.2.1 : Int32)) (t0_8 := (p956.2.2.2.2.2.2.2.2.1 : Int32)) (t0_9 := (p956.2.2.2.2.2.2.2.2.2.1 : Int32)) (t0_10 := (p956.2.2.2.2.2.2.2.2.2.2.1 : Int32)) (t0_11 := (p956.2.2.2.2.2.2.2.2.2.2.2.1 : Int32)) (t0_12 := (p956.2.2.2.2.2.2.2.2.2.2.2.2.1 : Int32)) (t0_13 := (p956.2.2.2.2.2.2.2.2.2.2.2.2.2.1 : Int32)) (t0_14 := (p956.2.2.2.2.2.2.2.2.2.2.2.2.2.2.1 : Int32)) (t0_15 := (p956.2.2.2.2.2.2.2.2.2.2.2.2.2.2.2.1 : Int32)) (t0_16 := (p956.2.2.2.2.2.2.2.2.2.2.2.2.2.2.2.2.1 : Int32)) (t0_17 := (p956.2.2.2.2.2.2.2.2.2.2.2.2.2.2.2.2.2.1 : Int32)) (t0_18 := (p956.2.2.2.2.2.2.2.2.2.2.2.2.2.2.2.2.2.2.1 : Int32)) (t0_19 := (p956.2.2.2.2.2.2.2.2.2.2.2.2.2.2.2.2.2.2.2.1 : Int32)) (t0_20 := (p956.2.2.2.2.2.2.2.2.2.2.2.2.2.2.2.2.2.2.2.2.1 : Int32)) (t0_21 := (p956.2.2.2.2.2.2.2.2.2.2.2.2.2.2.2.2.2.2.2.2.2.1 : Int32)) (t1_0 := (p956.2.2.2.2.2.2.2.2.2.2.2.2.2.2.2.2.2.2.2.2.2.2 : (Nat → Int32))) ⟨by omega, by omega⟩
      with_reducible refine v_owe h8.1 ?_
      replace h8 := h8.2
      generalize F_VR_put (48 + ((lx326 / 10 : Int32) - (lx326 / 10 : Int32) / 10 * 10 : Int32) : Int32) (p956.1 : Int32) (p956.2.1 : Int32) (p956.2.2.1 : Int32) (p956.2.2.2.1 : Int32) (p956.2.2.2.2.1 : Int32) (p956.2.2.2.2.2.1 : Int32) (p956.2.2.2.2.2.2.1 : Int32) (p956.2.2.2.2.2.2.2.1 : Int32) (p956.2.2.2.2.2.2.2.2.1 : Int32) (p956.2.2.2.2.2.2.2.2.2.1 : Int32) (p956.2.2.2.2.2.2.2.2.2.2.1 : Int32) (p956.2.2.2.2.2.2.2.2.2.2.2.1 : Int32) (p956.2.2.2.2.2.2.2.2.2.2.2.2.1 : Int32) (p956.2.2.2.2.2.2.2.2.2.2.2.2.2.1 : Int32) (p956.2.2.2.2.2.2.2.2.2.2.2.2.2.2.1 : Int32) (p956.2.2.2.2.2.2.2.2.2.2.2.2.2.2.2.1 : Int32) (p956.2.2.2.2.2.2.2.2.2.2.2.2.2.2.2.2.1 : Int32) (p956.2.2.2.2.2.2.2.2.2.2.2.2.2.2.2.2.2.1 : Int32) (p956.2.2.2.2.2.2.2.2.2.2.2.2.2.2.2.2.2.2.1 : Int32) (p956.2.2.2.2.2.2.2.2.2.2.2.2.2.2.2.2.2.2.2.1 : Int32) (p956.2.2.2.2.2.2.2.2.2.2.2.2.2.2.2.2.2.2.2.2.1 : Int32) (p956.2.2.2.2.2.2.2.2.2.2.2.2.2.2.2.2.2.2.2.2.2.1 : Int32) (p956.2.2.2.2.2.2.2.2.2.2.2.2.2.2.2.2.2.2.2.2.2.2 : (Nat → Int32)) = p731 at *
      unfold Q_VR_put at h8
      obtain ⟨kp731, h817, h820, h821⟩ := h8
      unfold S_VR_exponential_c136 F_VR_exponential_c136
      have h9 := T_VR_put (x2 := (48 + (lx326 - lx326 / 10 * 10 : Int32) : Int32)) (t0_0 := (p731.1 : Int32)) (t0_1 := (p731.2.1 : Int32)) (t0_2 := (p731.2.2.1 : Int32)) (t0_3 := (p731.2.2.2.1 : Int32)) (t0_4 := (p731.2.2.2.2.1 : Int32)) (t0_5 := (p731.2.2.2.2.2.1 : Int32)) (t0_6 := (p731.2.2.2.2.2.2.1 : Int32)) (t0_7 := (p731.2.2.2.2.2.2.2.1 : Int32)) (t0_8 := (p731.2.2.2.2.2.2.2.2.1 : Int32)) (t0_9 := (p731.2.2.2.2.2.2.2.2.2.1 : Int32)) (t0_10 := (p731.2.2.2.2.2.2.2.2.2.2.1 : Int32)) (t0_11 := (p731.2.2.2.2.2.2.2.2.2.2.2.1 : Int32)) (t0_12 := (p731.2.2.2.2.2.2.2.2.2.2.2.2.1 : Int32)) (t0_13 := (p731.2.2.2.2.2.2.2.2.2.2.2.2.2.1 : Int32)) (t0_14 := (p731.2.2.2.2.2.2.2.2.2.2.2.2.2.2.1 : Int32)) (t0_15 := (p731.2.2.2.2.2.2.2.2.2.2.2.2.2.2.2.1 : Int32)) (t0_16 := (p731.2.2.2.2.2.2.2.2.2.2.2.2.2.2.2.2.1 : Int32)) (t0_17 := (p731.2.2.2.2.2.2.2.2.2.2.2.2.2.2.2.2.2.1 : Int32)) (t0_18 := (p731.2.2.2.2.2.2.2.2.2.2.2.2.2.2.2.2.2.2.1 : Int32)) (t0_19 := (p731.2.2.2.2.2.2.2.2.2.2.2.2.2.2.2.2.2.2.2.1 : Int32)) (t0_20 := (p731.2.2.2.2.2.2.2.2.2.2.2.2.2.2.2.2.2.2.2.2.1 : Int32)) (t0_21 := (p731.2.2.2.2.2.2.2.2.2.2.2.2.2.2.2.2.2.2.2.2.2.1 : Int32)) (t1_0 := (p731.2.2.2.2.2.2.2.2.2.2.2.2.2.2.2.2.2.2.2.2.2.2 : (Nat → Int32))) ⟨by omega, by omega⟩
      with_reducible refine v_owe h9.1 ?_
      replace h9 := h9.2
      generalize F_VR_put (48 + (lx326 - lx326 / 10 * 10 : Int32) : Int32) (p731.1 : Int32) (p731.2.1 : Int32) (p731.2.2.1 : Int32) (p731.2.2.2.1 : Int32) (p731.2.2.2.2.1 : Int32) (p731.2.2.2.2.2.1 : Int32) (p731.2.2.2.2.2.2.1 : Int32) (p731.2.2.2.2.2.2.2.1 : Int32) (p731.2.2.2.2.2.2.2.2.1 : Int32) (p731.2.2.2.2.2.2.2.2.2.1 : Int32) (p731.2.2.2.2.2.2.2.2.2.2.1 : Int32) (p731.2.2.2.2.2.2.2.2.2.2.2.1 : Int32) (p731.2.2.2.2.2.2.2.2.2.2.2.2.1 : Int32) (p731.2.2.2.2.2.2.2.2.2.2.2.2.2.1 : Int32) (p731.2.2.2.2.2.2.2.2.2.2.2.2.2.2.1 : Int32) (p731.2.2.2.2.2.2.2.2.2.2.2.2.2.2.2.1 : Int32) (p731.2.2.2.2.2.2.2.2.2.2.2.2.2.2.2.2.1 : Int32) (p731.2.2.2.2.2.2.2.2.2.2.2.2.2.2.2.2.2.1 : Int32) (p731.2.2.2.2.2.2.2.2.2.2.2.2.2.2.2.2.2.2.1 : Int32) (p731.2.2.2.2.2.2.2.2.2.2.2.2.2.2.2.2.2.2.2.1 : Int32) (p731.2.2.2.2.2.2.2.2.2.2.2.2.2.2.2.2.2.2.2.2.1 : Int32) (p731.2.2.2.2.2.2.2.2.2.2.2.2.2.2.2.2.2.2.2.2.2.1 : Int32) (p731.2.2.2.2.2.2.2.2.2.2.2.2.2.2.2.2.2.2.2.2.2.2 : (Nat → Int32)) = p841 at *
      unfold Q_VR_put at h9
      obtain ⟨kp841, h917, h920, h921⟩ := h9
      unfold S_VR_exponential_c147 F_VR_exponential_c147
      refine ⟨trivial, ?_⟩
      exact vr_exA (kp841.trans (kp731.trans (kp956.trans (kp530.trans (kp412.trans (vrK.refl')))))) ⟨by omega, by omega⟩
  ·
    rw [if_neg g2, if_neg g2]
    unfold S_VR_exponential_J94 F_VR_exponential_J94
    have h10 := T_VR_put (x2 := (45 : Int32)) (t0_0 := (p412.1 : Int32)) (t0_1 := (p412.2.1 : Int32)) (t0_2 := (p412.2.2.1 : Int32)) (t0_3 := (p412.2.2.2.1 : Int32)) (t0_4 := (p412.2.2.2.2.1 : Int32)) (t0_5 := (p412.2.2.2.2.2.1 : Int32)) (t0_6 := (p412.2.2.2.2.2.2.1 : Int32)) (t0_7 := (p412.2.2.2.2.2.2.2.1 : Int32)) (t0_8 := (p412.2.2.2.2.2.2.2.2.1 : Int32)) (t0_9 := (p412.2.2.2.2.2.2.2.2.2.1 : Int32)) (t0_10 := (p412.2.2.2.2.2.2.2.2.2.2.1 : Int32)) (t0_11 := (p412.2.2.2.2.2.2.2.2.2.2.2.1 : Int32)) (t0_12 := (p412.2.2.2.2.2.2.2.2.2.2.2.2.1 : Int32)) (t0_13 := (p412.2.2.2.2.2.2.2.2.2.2.2.2.2.1 : Int32)) (t0_14 := (p412.2.2.2.2.2.2.2.2.2.2.2.2.2.2.1 : Int32)) (t0_15 := (p412.2.2.2.2.2.2.2.2.2.2.2.2.2.2.2.1 : Int32)) (t0_16 := (p412.2.2.2.2.2.2.2.2.2.2.2.2.2.2.2.2.1 : Int32)) (t0_17 := (p412.2.2.2.2.2.2.2.2.2.2.2.2.2.2.2.2.2.1 : Int32)) (t0_18 := (p412.2.2.2.2.2.2.2.2.2.2.2.2.2.2.2.2.2.2.1 : Int32)) (t0_19 := (p412.2.2.2.2.2.2.2.2.2.2.2.2.2.2.2.2.2.2.2.1 : Int32)) (t0_20 := (p412.2.2.2.2.2.2.2.2.2.2.2.2.2.2.2.2.2.2.2.2.1 : Int32)) (t0_21 := (p412.2.2.2.2.2.2.2.2.2.2.2.2.2.2.2.2.2.2.2.2.2.1 : Int32)) (t1_0 := (p412.2.2.2.2.2.2.2.2.2.2.2.2.2.2.2.2.2.2.2.2.2.2 : (Nat → Int32))) ⟨by omega, by omega⟩
    with_reducible refine v_owe h10.1 ?_
    replace h10 := h10.2
    generalize F_VR_put (45 : Int32) (p412.1 : Int32) (p412.2.1 : Int32) (p412.2.2.1 : Int32) (p412.2.2.2.1 : Int32) (p412.2.2.2.2.1 : Int32) (p412.2.2.2.2.2.1 : Int32) (p412.2.2.2.2.2.2.1 : Int32) (p412.2.2.2.2.2.2.2.1 : Int32) (p412.2.2.2.2.2.2.2.2.1 : Int32) (p412.2.2.2.2.2.2.2.2.2.1 : Int32) (p412.2.2.2.2.2.2.2.2.2.2.1 : Int32) (p412.2.2.2.2.2.2.2.2.2.2.2.1 : Int32) (p412.2.2.2.2.2.2.2.2.2.2.2.2.1 : Int32) (p412.2.2.2.2.2.2.2.2.2.2.2.2.2.1 : Int32) (p412.2.2.2.2.2.2.2.2.2.2.2.2.2.2.1 : Int32) (p412.2.2.2.2.2.2.2.2.2.2.2.2.2.2.2.1 : Int32) (p412.2.2.2.2.2.2.2.2.2.2.2.2.2.2.2.2.1 : Int32) (p412.2.2.2.2.2.2.2.2.2.2.2.2.2.2.2.2.2.1 : Int32) (p412.2.2.2.2.2.2.2.2.2.2.2.2.2.2.2.2.2.2.1 : Int32) (p412.2.2.2.2.2.2.2.2.2.2.2.2.2.2.2.2.2.2.2.1 : Int32) (p412.2.2.2.2.2.2.2.2.2.2.2.2.2.2.2.2.2.2.2.2.1 : Int32) (p412.2.2.2.2.2.2.2.2.2.2.2.2.2.2.2.2.2.2.2.2.2.1 : Int32) (p412.2.2.2.2.2.2.2.2.2.2.2.2.2.2.2.2.2.2.2.2.2.2 : (Nat → Int32)) = p530 at *
    unfold Q_VR_put at h10
    obtain ⟨kp530, h1017, h1020, h1021⟩ := h10
    unfold S_VR_exponential_c94 F_VR_exponential_c94
    rw [if_neg g2, if_neg g2]
    obtain ⟨lx560, e11⟩ := q_nm ((-lx326 : Int32) : Int32)
    rw [e11]
    unfold S_VR_exponential_J107 F_VR_exponential_J107
    by_cases g12 : lx560 ≤ (99 : Int32)
    ·
      rw [if_pos g12, if_pos g12]
      unfold S_VR_exponential_J125 F_VR_exponential_J125
      have h13 := T_VR_put (x2 := (48 + ((lx560 / 10 : Int32) - (lx560 / 10 : Int32) / 10 * 10 : Int32) : Int32)) (t0_0 := (p530.1 : Int32)) (t0_1 := (p530.2.1 : Int32)) (t0_2 := (p530.2.2.1 : Int32)) (t0_3 := (p530.2.2.2.1 : Int32)) (t0_4 := (p530.2.2.2.2.1 : Int32)) (t0_5 := (p530.2.2.2.2.2.1 : Int32)) (t0_6 := (p530.2.2.2.2.2.2.1 : Int32)) (t0_7 := (p530.2.2.2.2.2.2.2.1 : Int32)) (t0_8 := (p530.2.2.2.2.2.2.2.2.1 : Int32)) (t0_9 := (p530.2.2.2.2.2.2.2.2.2.1 : Int32)) (t0_10 := (p530.2.2.2.2.2.2.2.2.2.2.1 : Int32)) (t0_11 := (p530.2.2.2.2.2.2.2.2.2.2.2.1 : Int32)) (t0_12 := (p530.2.2.2.2.2.2.2.2.2.2.2.2.1 : Int32)) (t0_13 := (p530.2.2.2.2.2.2.2.2.2.2.2.2.2.1 : Int32)) (t0_14 := (p530.2.2.2.2.2.2.2.2.2.2.2.2.2.2.1 : Int32)) (t0_15 := (p530.2.2.2.2.2.2.2.2.2.2.2.2.2.2.2.1 : Int32)) (t0_16 := (p530.2.2.2.2.2.2.2.2.2.2.2.2.2.2.2.2.1 : Int32)) (t0_17 := (p530.2.2.2.2.2.2.2.2.2.2.2.2.2.2.2.2.2.1 : Int32)) (t0_18 := (p530.2.2.2.2.2.2.2.2.2.2.2.2.2.2.2.2.2.2.1 : Int32)) (t0_19 := (p530.2.2.2.2.2.2.2.2.2.2.2.2.2.2.2.2.2.2.2.1 : Int32)) (t0_20 := (p530.2.2.2.2.2.2.2.2.2.2.2.2.2.2.2.2.2.2.2.2.1 : Int32)) (t0_21 := (p530.2.2.2.2.2.2.2.2.2.2.2.2.2.2.2.2.2.2.2.2.2.1 : Int32)) (t1_0 := (p530.2.2.2.2.2.2.2.2.2.2.2.2.2.2.2.2.2.2.2.2.2.2 : (Nat → Int32))) ⟨by omega, by omega⟩
      with_reducible refine v_owe h13.1 ?_
      replace h13 := h13.2
      generalize F_VR_put (48 + ((lx560 / 10 : Int32) - (lx560 / 10 : Int32) / 10 * 10 : Int32) : Int32) (p530.1 : Int32) (p530.2.1 : Int32) (p530.2.2.1 : Int32) (p530.2.2.2.1 : Int32) (p530.2.2.2.2.1 : Int32) (p530.2.2.2.2.2.1 : Int32) (p530.2.2.2.2.2.2.1 : Int32) (p530.2.2.2.2.2.2.2.1 : Int32) (p530.2.2.2.2.2.2.2.2.1 : Int32) (p530.2.2.2.2.2.2.2.2.2.1 : Int32) (p530.2.2.2.2.2.2.2.2.2.2.1 : Int32) (p530.2.2.2.2.2.2.2.2.2.2.2.1 : Int32) (p530.2.2.2.2.2.2.2.2.2.2.2.2.1 : Int32) (p530.2.2.2.2.2.2.2.2.2.2.2.2.2.1 : Int32) (p530.2.2.2.2.2.2.2.2.2.2.2.2.2.2.1 : Int32) (p530.2.2.2.2.2.2.2.2.2.2.2.2.2.2.2.1 : Int32) (p530.2.2.2.2.2.2.2.2.2.2.2.2.2.2.2.2.1 : Int32) (p530.2.2.2.2.2.2.2.2.2.2.2.2.2.2.2.2.2.1 : Int32) (p530.2.2.2.2.2.2.2.2.2.2.2.2.2.2.2.2.2.2.1 : Int32) (p530.2.2.2.2.2.2.2.2.2.2.2.2.2.2.2.2.2.2.2.1 : Int32) (p530.2.2.2.2.2.2.2.2.2.2.2.2.2.2.2.2.2.2.2.2.1 : Int32) (p530.2.2.2.2.2.2.2.2.2.2.2.2.2.2.2.2.2.2.2.2.2.1 : Int32) (p530.2.2.2.2.2.2.2.2.2.2.2.2.2.2.2.2.2.2.2.2.2.2 : (Nat → Int32)) = p731 at *
      unfold Q_VR_put at h13
      obtain ⟨kp731, h1317, h1320, h1321⟩ := h13
      unfold S_VR_exponential_c136 F_VR_exponential_c136
      have h14 := T_VR_put (x2 := (48 + (lx560 - lx560 / 10 * 10 : Int32) : Int32)) (t0_0 := (p731.1 : Int32)) (t0_1 := (p731.2.1 : Int32)) (t0_2 := (p731.2.2.1 : Int32)) (t0_3 := (p731.2.2.2.1 : Int32)) (t0_4 := (p731.2.2.2.2.1 : Int32)) (t0_5 := (p731.2.2.2.2.2.1 : Int32)) (t0_6 := (p731.2.2.2.2.2.2.1 : Int32)) (t0_7 := (p731.2.2.2.2.2.2.2.1 : Int32)) (t0_8 := (p731.2.2.2.2.2.2.2.2.1 : Int32)) (t0_9 := (p731.2.2.2.2.2.2.2.2.2.1 : Int32)) (t0_10 := (p731.2.2.2.2.2.2.2.2.2.2.1 : Int32)) (t0_11 := (p731.2.2.2.2.2.2.2.2.2.2.2.1 : Int32)) (t0_12 := (p731.2.2.2.2.2.2.2.2.2.2.2.2.1 : Int32)) (t0_13 := (p731.2.2.2.2.2.2.2.2.2.2.2.2.2.1 : Int32)) (t0_14 := (p731.2.2.2.2.2.2.2.2.2.2.2.2.2.2.1 : Int32)) (t0_15 := (p731.2.2.2.2.2.2.2.2.2.2.2.2.2.2.2.1 : Int32)) (t0_16 := (p731.2.2.2.2.2.2.2.2.2.2.2.2.2.2.2.2.1 : Int32)) (t0_17 := (p731.2.2.2.2.2.2.2.2.2.2.2.2.2.2.2.2.2.1 : Int32)) (t0_18 := (p731.2.2.2.2.2.2.2.2.2.2.2.2.2.2.2.2.2.2.1 : Int32)) (t0_19 := (p731.2.2.2.2.2.2.2.2.2.2.2.2.2.2.2.2.2.2.2.1 : Int32)) (t0_20 := (p731.2.2.2.2.2.2.2.2.2.2.2.2.2.2.2.2.2.2.2.2.1 : Int32)) (t0_21 := (p731.2.2.2.2.2.2.2.2.2.2.2.2.2.2.2.2.2.2.2.2.2.1 : Int32)) (t1_0 := (p731.2.2.2.2.2.2.2.2.2.2.2.2.2.2.2.2.2.2.2.2.2.2 : (Nat → Int32))) ⟨by omega, by omega⟩
      with_reducible refine v_owe h14.1 ?_
      replace h14 := h14.2
      generalize F_VR_put (48 + (lx560 - lx560 / 10 * 10 : Int32) : Int32) (p731.1 : Int32) (p731.2.1 : Int32) (p731.2.2.1 : Int32) (p731.2.2.2.1 : Int32) (p731.2.2.2.2.1 : Int32) (p731.2.2.2.2.2.1 : Int32) (p731.2.2.2.2.2.2.1 : Int32) (p731.2.2.2.2.2.2.2.1 : Int32) (p731.2.2.2.2.2.2.2.2.1 : Int32) (p731.2.2.2.2.2.2.2.2.2.1 : Int32) (p731.2.2.2.2.2.2.2.2.2.2.1 : Int32) (p731.2.2.2.2.2.2.2.2.2.2.2.1 : Int32) (p731.2.2.2.2.2.2.2.2.2.2.2.2.1 : Int32) (p731.2.2.2.2.2.2.2.2.2.2.2.2.2.1 : Int32) (p731.2.2.2.2.2.2.2.2.2.2.2.2.2.2.1 : Int32) (p731.2.2.2.2.2.2.2.2.2.2.2.2.2.2.2.1 : Int32) (p731.2.2.2.2.2.2.2.2.2.2.2.2.2.2.2.2.1 : Int32) (p731.2.2.2.2.2.2.2.2.2.2.2.2.2.2.2.2.2.1 : Int32) (p731.2.2.2.2.2.2.2.2.2.2.2.2.2.2.2.2.2.2.1 : Int32) (p731.2.2.2.2.2.2.2.2.2.2.2.2.2.2.2.2.2.2.2.1 : Int32) (p731.2.2.2.2.2.2.2.2.2.2.2.2.2.2.2.2.2.2.2.2.1 : Int32) (p731.2.2.2.2.2.2.2.2.2.2.2.2.2.2.2.2.2.2.2.2.2.1 : Int32) (p731.2.2.2.2.2.2.2.2.2.2.2.2.2.2.2.2.2.2.2.2.2.2 : (Nat → Int32)) = p841 at *
      unfold Q_VR_put at h14
      obtain ⟨kp841, h1417, h1420, h1421⟩ := h14
      unfold S_VR_exponential_c147 F_VR_exponential_c147
      refine ⟨trivial, ?_⟩
      exact vr_exA (kp841.trans (kp731.trans (kp530.trans (kp412.trans (vrK.refl'))))) ⟨by omega, by omega⟩
    ·
      rw [if_neg g12, if_neg g12]
      have h15 := T_VR_put (x2 := (48 + (lx560 / 100 : Int32) : Int32)) (t0_0 := (p530.1 : Int32)) (t0_1 := (p530.2.1 : Int32)) (t0_2 := (p530.2.2.1 : Int32)) (t0_3 := (p530.2.2.2.1 : Int32)) (t0_4 := (p530.2.2.2.2.1 : Int32)) (t0_5 := (p530.2.2.2.2.2.1 : Int32)) (t0_6 := (p530.2.2.2.2.2.2.1 : Int32)) (t0_7 := (p530.2.2.2.2.2.2.2.1 : Int32)) (t0_8 := (p530.2.2.2.2.2.2.2.2.1 : Int32)) (t0_9 := (p530.2.2.2.2.2.2.2.2.2.1 : Int32)) (t0_10 := (p530.2.2.2.2.2.2.2.2.2.2.1 : Int32)) (t0_11 := (p530.2.2.2.2.2.2.2.2.2.2.2.1 : Int32)) (t0_12 := (p530.2.2.2.2.2.2.2.2.2.2.2.2.1 : Int32)) (t0_13 := (p530.2.2.2.2.2.2.2.2.2.2.2.2.2.1 : Int32)) (t0_14 := (p530.2.2.2.2.2.2.2.2.2.2.2.2.2.2.1 : Int32)) (t0_15 := (p530.2.2.2.2.2.2.2.2.2.2.2.2.2.2.2.1 : Int32)) (t0_16 := (p530.2.2.2.2.2.2.2.2.2.2.2.2.2.2.2.2.1 : Int32)) (t0_17 := (p530.2.2.2.2.2.2.2.2.2.2.2.2.2.2.2.2.2.1 : Int32)) (t0_18 := (p530.2.2.2.2.2.2.2.2.2.2.2.2.2.2.2.2.2.2.1 : Int32)) (t0_19 := (p530.2.2.2.2.2.2.2.2.2.2.2.2.2.2.2.2.2.2.2.1 : Int32)) (t0_20 := (p530.2.2.2.2.2.2.2.2.2.2.2.2.2.2.2.2.2.2.2.2.1 : Int32)) (t0_21 := (p530.2.2.2.2.2.2.2.2.2.2.2.2.2.2.2.2.2.2.2.2.2.1 : Int32)) (t1_0 := (p530.2.2.2.2.2.2.2.2.2.2.2.2.2.2.2.2.2.2.2.2.2.2 : (Nat → Int32))) ⟨by omega, by omega⟩
      with_reducible refine v_owe h15.1 ?_
      replace h15 := h15.2
      generalize F_VR_put (48 + (lx560 / 100 : Int32) : Int32) (p530.1 : Int32) (p530.2.1 : Int32) (p530.2.2.1 : Int32) (p530.2.2.2.1 : Int32) (p530.2.2.2.2.1 : Int32) (p530.2.2.2.2.2.1 : Int32) (p530.2.2.2.2.2.2.1 : Int32) (p530.2.2.2.2.2.2.2.1 : Int32) (p530.2.2.2.2.2.2.2.2.1 : Int32) (p530.2.2.2.2.2.2.2.2.2.1 : Int32) (p530.2.2.2.2.2.2.2.2.2.2.1 : Int32) (p530.2.2.2.2.2.2.2.2.2.2.2.1 : Int32) (p530.2.2.2.2.2.2.2.2.2.2.2.2.1 : Int32) (p530.2.2.2.2.2.2.2.2.2.2.2.2.2.1 : Int32) (p530.2.2.2.2.2.2.2.2.2.2.2.2.2.2.1 : Int32) (p530.2.2.2.2.2.2.2.2.2.2.2.2.2.2.2.1 : Int32) (p530.2.2.2.2.2.2.2.2.2.2.2.2.2.2.2.2.1 : Int32) (p530.2.2.2.2.2.2.2.2.2.2.2.2.2.2.2.2.2.1 : Int32) (p530.2.2.2.2.2.2.2.2.2.2.2.2.2.2.2.2.2.2.1 : Int32) (p530.2.2.2.2.2.2.2.2.2.2.2.2.2.2.2.2.2.2.2.1 : Int32) (p530.2.2.2.2.2.2.2.2.2.2.2.2.2.2.2.2.2.2.2.2.1 : Int32) (p530.2.2.2.2.2.2.2.2.2.2.2.2.2.2.2.2.2.2.2.2.2.1 : Int32) (p530.2.2.2.2.2.2.2.2.2.2.2.2.2.2.2.2.2.2.2.2.2.2 : (Nat → Int32)) = p956 at *
      unfold Q_VR_put at h15
      obtain ⟨kp956, h1517, h1520, h1521⟩ := h15
      unfold S_VR_exponential_c122 F_VR_exponential_c122
      unfold S_VR_exponential_J125 F_VR_exponential_J125
      have h16 := T_VR_put (x2 := (48 + ((lx560 / 10 : Int32) - (lx560 / 10 : Int32) / 10 * 10 : Int32) : Int32)) (t0_0 := (p956.1 : Int32)) (t0_1 := (p956.2.1 : Int32)) (t0_2 := (p956.2.2.1 : Int32)) (t0_3 := (p956.2.2.2.1 : Int32)) (t0_4 := (p956.2.2.2.2.1 : Int32)) (t0_5 := (p956.2.2.2.2.2.1 : Int32)) (t0_6 := (p956.2.2.2.2.2.2.1 : Int32)) (t0_7 := (p956.2.2.2.2.2.2.2.1 : Int32)) (t0_8 := (p956.2.2.2.2.2.2.2.2.1 : Int32)) (t0_9 := (p956.2.2.2.2.2.2.2.2.2.1 : Int32)) (t0_10 := (p956.2.2.2.2.2.2.2.2.2.2.1 : Int32)) (t0_11 := (p956.2.2.2.2.2.2.2.2.2.2.2.1 : Int32)) (t0_12 := (p956.2.2.2.2.2.2.2.2.2.2.2.2.1 : Int32)) (t0_13 := (p956.2.2.2.2.2.2.2.2.2.2.2.2.2.1 : Int32)) (t0_14 := (p956.2.2.2.2.2.2.2.2.2.2.2.2.2.2.1 : Int32)) (t0_15 := (p956.2.2.2.2.2.2.2.2.2.2.2.2.2.2.2.1 : Int32)) (t0_16 := (p956.2.2.2.2.2.2.2.2.2.2.2.2.2.2.2.2.1 : Int32)) (t0_17 := (p956.2.2.2.2.2.2.2.2.2.2.2.2.2.2.2.2.2.1 : Int32)) (t0_18 := (p956.2.2.2.2.2.2.2.2.2.2.2.2.2.2.2.2.2.2.1 : Int32)) (t0_19 := (p956.2.2.2.2.2.2.2.2.2.2.2.2.2.2.2.2.2.2.2.1 : Int32)) (t0_20 := (p956.2.2.2.2.2.2.2.2.2.2.2.2.2.2.2.2.2.2.2.2.1 : Int32)) (t0_21 := (p956.2.2.2.2.2.2.2.2.2.2.2.2.2.2.2.2.2.2.2.2.2.1 : Int32)) (t1_0 := (p956.2.2.2.2.2.2.2.2.2.2.2.2.2.2.2.2.2.2.2.2.2.2 : (Nat → Int32))) ⟨by omega, by omega⟩
      with_reducible refine v_owe h16.1 ?_
      replace h16 := h16.2
      generalize F_VR_put (48 + ((lx560 / 10 : Int32) - (lx560 / 10 : Int32) / 10 * 10 : Int32) : Int32) (p956.1 : Int32) (p956.2.1 : Int32) (p956.2.2.1 : Int32) (p956.2.2.2.1 : Int32) (p956.2.2.2.2.1 : Int32) (p956.2.2.2.2.2.1 : Int32) (p956.2.2.2.2.2.2.1 : Int32) (p956.2.2.2.2.2.2.2.1 : Int32) (p956.2.2.2.2.2.2.2.2.1 : Int32) (p956.2.2.2.2.2.2.2.2.2.1 : Int32) (p956.2.2.2.2.2.2.2.2.2.2.1 : Int32) (p956.2.2.2.2.2.2.2.2.2.2.2.1 : Int32) (p956.2.2.2.2.2.2.2.2.2.2.2.2.1 : Int32) (p956.2.2.2.2.2.2.2.2.2.2.2.2.2.1 : Int32) (p956.2.2.2.2.2.2.2.2.2.2.2.2.2.2.1 : Int32) (p956.2.2.2.2.2.2.2.2.2.2.2.2.2.2.2.1 : Int32) (p956.2.2.2.2.2.2.2.2.2.2.2.2.2.2.2.2.1 : Int32) (p956.2.2.2.2.2.2.2.2.2.2.2.2.2.2.2.2.2.1 : Int32) (p956.2.2.2.2.2.2.2.2.2.2.2.2.2.2.2.2.2.2.1 : Int32) (p956.2.2.2.2.2.2.2.2.2.2.2.2.2.2.2.2.2.2.2.1 : Int32) (p956.2.2.2.2.2.2.2.2.2.2.2.2.2.2.2.2.2.2.2.2.1 : Int32) (p956.2.2.2.2.2.2.2.2.2.2.2.2.2.2.2.2.2.2.2.2.2.1 : Int32) (p956.2.2.2.2.2.2.2.2.2.2.2.2.2.2.2.2.2.2.2.2.2.2 : (Nat → Int32)) = p731 at *
      unfold Q_VR_put at h16
      obtain ⟨kp731, h1617, h1620, h1621⟩ := h16
      unfold S_VR_exponential_c136 F_VR_exponential_c136
      have h17 := T_VR_put (x2 := (48 + (lx560 - lx560 / 10 * 10 : Int32) : Int32)) (t0_0 := (p731.1 : Int32)) (t0_1 := (p731.2.1 : Int32)) (t0_2 := (p731.2.2.1 : Int32)) (t0_3 := (p731.2.2.2.1 : Int32)) (t0_4 := (p731.2.2.2.2.1 : Int32)) (t0_5 := (p731.2.2.2.2.2.1 : Int32)) (t0_6 := (p731.2.2.2.2.2.2.1 : Int32)) (t0_7 := (p731.2.2.2.2.2.2.2.1 : Int32)) (t0_8 := (p731.2.2.2.2.2.2.2.2.1 : Int32)) (t0_9 := (p731.2.2.2.2.2.2.2.2.2.1 : Int32)) (t0_10 := (p731.2.2.2.2.2.2.2.2.2.2.1 : Int32)) (t0_11 := (p731.2.2.2.2.2.2.2.2.2.2.2.1 : Int32)) (t0_12 := (p731.2.2.2.2.2.2.2.2.2.2.2.2.1 : Int32)) (t0_13 := (p731.2.2.2.2.2.2.2.2.2.2.2.2.2.1 : Int32)) (t0_14 := (p731.2.2.2.2.2.2.2.2.2.2.2.2.2.2.1 : Int32)) (t0_15 := (p731.2.2.2.2.2.2.2.2.2.2.2.2.2.2.2.1 : Int32)) (t0_16 := (p731.2.2.2.2.2.2.2.2.2.2.2.2.2.2.2.2.1 : Int32)) (t0_17 := (p731.2.2.2.2.2.2.2.2.2.2.2.2.2.2.2.2.2.1 : Int32)) (t0_18 := (p731.2.2.2.2.2.2.2.2.2.2.2.2.2.2.2.2.2.2.1 : Int32)) (t0_19 := (p731.2.2.2.2.2.2.2.2.2.2.2.2.2.2.2.2.2.2.2.1 : Int32)) (t0_20 := (p731.2.2.2.2.2.2.2.2.2.2.2.2.2.2.2.2.2.2.2.2.1 : Int32)) (t0_21 := (p731.2.2.2.2.2.2.2.2.2.2.2.2.2.2.2.2.2.2.2.2.2.1 : Int32)) (t1_0 := (p731.2.2.2.2.2.2.2.2.2.2.2.2.2.2.2.2.2.2.2.2.2.2 : (Nat → Int32))) ⟨by omega, by omega⟩
      with_reducible refine v_owe h17.1 ?_
      replace h17 := h17.2
      generalize F_VR_put (48 + (lx560 - lx560 / 10 * 10 : Int32) : Int32) (p731.1 : Int32) (p731.2.1 : Int32) (p731.2.2.1 : Int32) (p731.2.2.2.1 : Int32) (p731.2.2.2.2.1 : Int32) (p731.2.2.2.2.2.1 : Int32) (p731.2.2.2.2.2.2.1 : Int32) (p731.2.2.2.2.2.2.2.1 : Int32) (p731.2.2.2.2.2.2.2.2.1 : Int32) (p731.2.2.2.2.2.2.2.2.2.1 : Int32) (p731.2.2.2.2.2.2.2.2.2.2.1 : Int32) (p731.2.2.2.2.2.2.2.2.2.2.2.1 : Int32) (p731.2.2.2.2.2.2.2.2.2.2.2.2.1 : Int32) (p731.2.2.2.2.2.2.2.2.2.2.2.2.2.1 : Int32) (p731.2.2.2.2.2.2.2.2.2.2.2.2.2.2.1 : Int32) (p731.2.2.2.2.2.2.2.2.2.2.2.2.2.2.2.1 : Int32) (p731.2.2.2.2.2.2.2.2.2.2.2.2.2.2.2.2.1 : Int32) (p731.2.2.2.2.2.2.2.2.2.2.2.2.2.2.2.2.2.1 : Int32) (p731.2.2.2.2.2.2.2.2.2.2.2.2.2.2.2.2.2.2.1 : Int32) (p731.2.2.2.2.2.2.2.2.2.2.2.2.2.2.2.2.2.2.2.1 : Int32) (p731.2.2.2.2.2.2.2.2.2.2.2.2.2.2.2.2.2.2.2.2.1 : Int32) (p731.2.2.2.2.2.2.2.2.2.2.2.2.2.2.2.2.2.2.2.2.2.1 : Int32) (p731.2.2.2.2.2.2.2.2.2.2.2.2.2.2.2.2.2.2.2.2.2.2 : (Nat → Int32)) = p841 at *
      unfold Q_VR_put at h17
      obtain ⟨kp841, h1717, h1720, h1721⟩ := h17
      unfold S_VR_exponential_c147 F_VR_exponential_c147
      refine ⟨trivial, ?_⟩
      exact vr_exA (kp841.trans (kp731.trans (kp956.trans (kp530.trans (kp412.trans (vrK.refl')))))) ⟨by omega, by omega⟩
theorem vv_e1 {x2 : Int32} {t0_0 : Int32} {t0_1 : Int32} {t0_2 : Int32} {t0_3 : Int32} {t0_4 : Int32} {t0_5 : Int32} {t0_6 : Int32} {t0_7 : Int32} {t0_8 : Int32} {t0_9 : Int32} {t0_10 : Int32} {t0_11 : Int32} {t0_12 : Int32} {t0_13 : Int32} {t0_14 : Int32} {t0_15 : Int32} {t0_16 : Int32} {t0_17 : Int32} {t0_18 : Int32} {t0_19 : Int32} {t0_20 : Int32} {t0_21 : Int32} {t1_0 : (Nat → Int32)} {t2_0 : (Nat → Int32)} {a38 : Int32} {p127 : (Int32 × Int32 × Int32 × Int32 × Int32 × Int32 × Int32 × Int32 × Int32 × Int32 × Int32 × Int32 × Int32 × Int32 × Int32 × Int32 × Int32 × Int32 × Int32 × Int32 × Int32 × Int32 × (Nat → Int32))} {lx157 : Int32} {lx158 : Int32} {lx159 : Int32} {lx160 : Int32} {lx161 : Int32} {lx162 : Int32} {lx163 : Int32} {lx164 : Int32} {lx165 : Int32} {lx166 : Int32} {lx167 : Int32} {lx168 : Int32} {lx169 : Int32} {lx170 : Int32} {lx171 : Int32} {lx172 : Int32} {lx173 : Int32} {lx174 : Int32} {lx175 : Int32} {lx176 : Int32} {lx177 : Int32} {lx178 : Int32} {lx179 : (Nat → Int32)} (h20 : 0 ≤ t0_20.toInt ∧ t0_20.toInt ≤ 60) (h21 : -20000 ≤ t0_21.toInt ∧ t0_21.toInt ≤ 64) (hL : 0 ≤ t0_17.toInt ∧ t0_17.toInt ≤ 200)(hx2 : 0 ≤ x2.toInt ∧ x2.toInt ≤ 10200) : ∀ (n : Nat) (lx236 : Int32) (lx237 : Int32) (lx238 : Int32) (lx239 : Int32) (lx240 : Int32) (lx241 : Int32) (lx242 : Int32) (lx243 : Int32) (lx244 : Int32) (lx245 : Int32) (lx246 : Int32) (lx247 : Int32) (lx248 : Int32) (lx249 : Int32) (lx250 : Int32) (lx251 : Int32) (lx252 : Int32) (lx253 : Int32) (lx254 : Int32) (lx255 : Int32) (lx256 : Int32) (lx257 : Int32) (lx258 : Int32) (lx259 : (Nat → Int32)), (1 ≤ lx236.toInt ∧ lx236.toInt ≤ x2.toInt + 1) → (x2.toInt + 1 - lx236.toInt < (n : Int)) → (vrK lx238 lx239 lx241 lx244 lx246 lx248 lx249 lx250 lx251 lx252 lx253 lx255 t0_1 t0_2 t0_4 t0_7 t0_9 t0_11 t0_12 t0_13 t0_14 t0_15 t0_16 t0_18) → (t0_17.toInt ≤ lx254.toInt ∧ lx254.toInt ≤ t0_17.toInt + 2 + lx236.toInt) → (lx257.toInt = t0_20.toInt ∧ lx258.toInt = t0_21.toInt) → (S_VR_exponential_L38 x2 t0_0 t0_1 t0_2 t0_3 t0_4 t0_5 t0_6 t0_7 t0_8 t0_9 t0_10 t0_11 t0_12 t0_13 t0_14 t0_15 t0_16 t0_17 t0_18 t0_19 t0_20 t0_21 t1_0 t2_0 a38 p127 lx157 lx158 lx159 lx160 lx161 lx162 lx163 lx164 lx165 lx166 lx167 lx168 lx169 lx170 lx171 lx172 lx173 lx174 lx175 lx176 lx177 lx178 lx179 n lx236 lx237 lx238 lx239 lx240 lx241 lx242 lx243 lx244 lx245 lx246 lx247 lx248 lx249 lx250 lx251 lx252 lx253 lx254 lx255 lx256 lx257 lx258 lx259) ∧ Q_VR_plain x2 t0_1 t0_2 t0_4 t0_7 t0_9 t0_11 t0_12 t0_13 t0_14 t0_15 t0_16 t0_18 t0_17 (F_VR_exponential_L38 x2 t0_0 t0_1 t0_2 t0_3 t0_4 t0_5 t0_6 t0_7 t0_8 t0_9 t0_10 t0_11 t0_12 t0_13 t0_14 t0_15 t0_16 t0_17 t0_18 t0_19 t0_20 t0_21 t1_0 t2_0 a38 p127 lx157 lx158 lx159 lx160 lx161 lx162 lx163 lx164 lx165 lx166 lx167 lx168 lx169 lx170 lx171 lx172 lx173 lx174 lx175 lx176 lx177 lx178 lx179 n lx236 lx237 lx238 lx239 lx240 lx241 lx242 lx243 lx244 lx245 lx246 lx247 lx248 lx249 lx250 lx251 lx252 lx253 lx254 lx255 lx256 lx257 lx258 lx259) := by
  intro n
  induction n with
  | zero => intro lx236 lx237 lx238 lx239 lx240 lx241 lx242 lx243 lx244 lx245 lx246 lx247 lx248 lx249 lx250 lx251 lx252 lx253 lx254 lx255 lx256 lx257 lx258 lx259 h0 hm hk hs hc; exact absurd (show False by omega) id
  | succ n ih =>
    intro lx236 lx237 lx238 lx239 lx240 lx241 lx242 lx243 lx244 lx245 lx246 lx247 lx248 lx249 lx250 lx251 lx252 lx253 lx254 lx255 lx256 lx257 lx258 lx259 h0 hm hk hs hc
    have e0 : (0 : Int32).toInt = 0 := rfl
    have e1 : (1 : Int32).toInt = 1 := rfl
    have eL0 : (0 : Int64).toInt = 0 := rfl
    have em : (-1 : Int32).toInt = -1 := rfl
    rw [S_VR_exponential_L38.eq_2, F_VR_exponential_L38.eq_2]
    by_cases g1 : x2 < lx236
    ·
      rw [if_pos g1, if_pos g1]
      have g1i : x2.toInt < lx236.toInt := q_ltI g1
      by_cases g2 : a38 = (0 : Int32)
      ·
        rw [if_pos g2, if_pos g2]
        exact And.imp id (fun z => ⟨z.1.trans hk, ⟨by have := z.2; omega, by have := z.2; omega⟩⟩) (T_VR_exJ ⟨by omega, by omega⟩)
      ·
        rw [if_neg g2, if_neg g2]
        exact And.imp id (fun z => ⟨z.1.trans hk, ⟨by have := z.2; omega, by have := z.2; omega⟩⟩) (T_VR_exJ ⟨by omega, by omega⟩)
    ·
      rw [if_neg g1, if_neg g1]
      have g1i : lx236.toInt ≤ x2.toInt := q_nltI g1
      have h3 := T_VR_figureAt (x2 := lx236) (t0_0 := lx237) (t0_1 := lx238) (t0_2 := lx239) (t0_3 := lx240) (t0_4 := lx241) (t0_5 := lx242) (t0_6 := lx243) (t0_7 := lx244) (t0_8 := lx245) (t0_9 := lx246) (t0_10 := lx247) (t0_11 := lx248) (t0_12 := lx249) (t0_13 := lx250) (t0_14 := lx251) (t0_15 := lx252) (t0_16 := lx253) (t0_17 := lx254) (t0_18 := lx255) (t0_19 := lx256) (t0_20 := lx257) (t0_21 := lx258) (t1_0 := t2_0) (by omega)
      with_reducible refine v_owe h3 ?_
      have h4 := T_VR_put (x2 := (48 + ((F_VR_figureAt lx236 lx237 lx238 lx239 lx240 lx241 lx242 lx243 lx244 lx245 lx246 lx247 lx248 lx249 lx250 lx251 lx252 lx253 lx254 lx255 lx256 lx257 lx258 t2_0) : Int32) : Int32)) (t0_0 := lx237) (t0_1 := lx238) (t0_2 := lx239) (t0_3 := lx240) (t0_4 := lx241) (t0_5 := lx242) (t0_6 := lx243) (t0_7 := lx244) (t0_8 := lx245) (t0_9 := lx246) (t0_10 := lx247) (t0_11 := lx248) (t0_12 := lx249) (t0_13 := lx250) (t0_14 := lx251) (t0_15 := lx252) (t0_16 := lx253) (t0_17 := lx254) (t0_18 := lx255) (t0_19 := lx256) (t0_20 := lx257) (t0_21 := lx258) (t1_0 := lx259) ⟨by first | omega | decide, by first | omega | decide⟩
      with_reducible refine v_owe h4.1 ?_
      replace h4 := h4.2
      generalize F_VR_put (48 + ((F_VR_figureAt lx236 lx237 lx238 lx239 lx240 lx241 lx242 lx243 lx244 lx245 lx246 lx247 lx248 lx249 lx250 lx251 lx252 lx253 lx254 lx255 lx256 lx257 lx258 t2_0) : Int32) : Int32) lx237 lx238 lx239 lx240 lx241 lx242 lx243 lx244 lx245 lx246 lx247 lx248 lx249 lx250 lx251 lx252 lx253 lx254 lx255 lx256 lx257 lx258 lx259 = p1084 at *
      unfold Q_VR_put at h4
      obtain ⟨kp1084, h417, h420, h421⟩ := h4
      unfold S_VR_exponential_c52 F_VR_exponential_c52
      obtain ⟨a5, e6⟩ := q_nm (lx236 + 1 : Int32)
      rw [e6]
      have a5i : a5.toInt = lx236.toInt + 1 := by rw [← e6]; exact q_addI (x := lx236.toInt) (y := 1) rfl (by decide) (by omega) (by omega)
      exact ih _ _ _ _ _ _ _ _ _ _ _ _ _ _ _ _ _ _ _ _ _ _ _ _ ⟨by omega, by omega⟩ (by omega) (kp1084.trans hk) ⟨by omega, by omega⟩ ⟨by omega, by omega⟩
theorem T_VR_exponential {x2 : Int32} {t0_0 : Int32} {t0_1 : Int32} {t0_2 : Int32} {t0_3 : Int32} {t0_4 : Int32} {t0_5 : Int32} {t0_6 : Int32} {t0_7 : Int32} {t0_8 : Int32} {t0_9 : Int32} {t0_10 : Int32} {t0_11 : Int32} {t0_12 : Int32} {t0_13 : Int32} {t0_14 : Int32} {t0_15 : Int32} {t0_16 : Int32} {t0_17 : Int32} {t0_18 : Int32} {t0_19 : Int32} {t0_20 : Int32} {t0_21 : Int32} {t1_0 : (Nat → Int32)} {t2_0 : (Nat → Int32)} (h20 : 0 ≤ t0_20.toInt ∧ t0_20.toInt ≤ 60) (h21 : -20000 ≤ t0_21.toInt ∧ t0_21.toInt ≤ 64) (hL : 0 ≤ t0_17.toInt ∧ t0_17.toInt ≤ 200)(hx2 : 0 ≤ x2.toInt ∧ x2.toInt ≤ 10200) : (S_VR_exponential x2 t0_0 t0_1 t0_2 t0_3 t0_4 t0_5 t0_6 t0_7 t0_8 t0_9 t0_10 t0_11 t0_12 t0_13 t0_14 t0_15 t0_16 t0_17 t0_18 t0_19 t0_20 t0_21 t1_0 t2_0) ∧ Q_VR_plain x2 t0_1 t0_2 t0_4 t0_7 t0_9 t0_11 t0_12 t0_13 t0_14 t0_15 t0_16 t0_18 t0_17 (F_VR_exponential x2 t0_0 t0_1 t0_2 t0_3 t0_4 t0_5 t0_6 t0_7 t0_8 t0_9 t0_10 t0_11 t0_12 t0_13 t0_14 t0_15 t0_16 t0_17 t0_18 t0_19 t0_20 t0_21 t1_0 t2_0) := by
  have e0 : (0 : Int32).toInt = 0 := rfl
  have e1 : (1 : Int32).toInt = 1 := rfl
  have eL0 : (0 : Int64).toInt = 0 := rfl
  have em : (-1 : Int32).toInt = -1 := rfl
  unfold S_VR_exponential F_VR_exponential
  have h1 := T_VR_isZero (t0_0 := t0_0) (t0_1 := t0_1) (t0_2 := t0_2) (t0_3 := t0_3) (t0_4 := t0_4) (t0_5 := t0_5) (t0_6 := t0_6) (t0_7 := t0_7) (t0_8 := t0_8) (t0_9 := t0_9) (t0_10 := t0_10) (t0_11 := t0_11) (t0_12 := t0_12) (t0_13 := t0_13) (t0_14 := t0_14) (t0_15 := t0_15) (t0_16 := t0_16) (t0_17 := t0_17) (t0_18 := t0_18) (t0_19 := t0_19) (t0_20 := t0_20) (t0_21 := t0_21) (t1_0 := t2_0) (by omega)
  with_reducible refine v_owe h1 ?_
  have h2 := T_VR_figureAt (x2 := (0 : Int32)) (t0_0 := t0_0) (t0_1 := t0_1) (t0_2 := t0_2) (t0_3 := t0_3) (t0_4 := t0_4) (t0_5 := t0_5) (t0_6 := t0_6) (t0_7 := t0_7) (t0_8 := t0_8) (t0_9 := t0_9) (t0_10 := t0_10) (t0_11 := t0_11) (t0_12 := t0_12) (t0_13 := t0_13) (t0_14 := t0_14) (t0_15 := t0_15) (t0_16 := t0_16) (t0_17 := t0_17) (t0_18 := t0_18) (t0_19 := t0_19) (t0_20 := t0_20) (t0_21 := t0_21) (t1_0 := t2_0) (by omega)
  with_reducible refine v_owe h2 ?_
  have h3 := T_VR_put (x2 := (48 + ((F_VR_figureAt (0 : Int32) t0_0 t0_1 t0_2 t0_3 t0_4 t0_5 t0_6 t0_7 t0_8 t0_9 t0_10 t0_11 t0_12 t0_13 t0_14 t0_15 t0_16 t0_17 t0_18 t0_19 t0_20 t0_21 t2_0) : Int32) : Int32)) (t0_0 := t0_0) (t0_1 := t0_1) (t0_2 := t0_2) (t0_3 := t0_3) (t0_4 := t0_4) (t0_5 := t0_5) (t0_6 := t0_6) (t0_7 := t0_7) (t0_8 := t0_8) (t0_9 := t0_9) (t0_10 := t0_10) (t0_11 := t0_11) (t0_12 := t0_12) (t0_13 := t0_13) (t0_14 := t0_14) (t0_15 := t0_15) (t0_16 := t0_16) (t0_17 := t0_17) (t0_18 := t0_18) (t0_19 := t0_19) (t0_20 := t0_20) (t0_21 := t0_21) (t1_0 := t1_0) ⟨by first | omega | decide, by first | omega | decide⟩
  with_reducible refine v_owe h3.1 ?_
  replace h3 := h3.2
  generalize F_VR_put (48 + ((F_VR_figureAt (0 : Int32) t0_0 t0_1 t0_2 t0_3 t0_4 t0_5 t0_6 t0_7 t0_8 t0_9 t0_10 t0_11 t0_12 t0_13 t0_14 t0_15 t0_16 t0_17 t0_18 t0_19 t0_20 t0_21 t2_0) : Int32) : Int32) t0_0 t0_1 t0_2 t0_3 t0_4 t0_5 t0_6 t0_7 t0_8 t0_9 t0_10 t0_11 t0_12 t0_13 t0_14 t0_15 t0_16 t0_17 t0_18 t0_19 t0_20 t0_21 t1_0 = p127 at *
  unfold Q_VR_put at h3
  obtain ⟨kp127, h317, h320, h321⟩ := h3
  unfold S_VR_exponential_c14 F_VR_exponential_c14
  by_cases g4 : (0 : Int32) < x2
  ·
    rw [if_pos g4, if_pos g4]
    have g4i : 0 < x2.toInt := q_ltI g4
    unfold S_VR_exponential_J30 F_VR_exponential_J30
    have h5 := T_VR_put (x2 := (46 : Int32)) (t0_0 := (p127.1 : Int32)) (t0_1 := (p127.2.1 : Int32)) (t0_2 := (p127.2.2.1 : Int32)) (t0_3 := (p127.2.2.2.1 : Int32)) (t0_4 := (p127.2.2.2.2.1 : Int32)) (t0_5 := (p127.2.2.2.2.2.1 : Int32)) (t0_6 := (p127.2.2.2.2.2.2.1 : Int32)) (t0_7 := (p127.2.2.2.2.2.2.2.1 : Int32)) (t0_8 := (p127.2.2.2.2.2.2.2.2.1 : Int32)) (t0_9 := (p127.2.2.2.2.2.2.2.2.2.1 : Int32)) (t0_10 := (p127.2.2.2.2.2.2.2.2.2.2.1 : Int32)) (t0_11 := (p127.2.2.2.2.2.2.2.2.2.2.2.1 : Int32)) (t0_12 := (p127.2.2.2.2.2.2.2.2.2.2.2.2.1 : Int32)) (t0_13 := (p127.2.2.2.2.2.2.2.2.2.2.2.2.2.1 : Int32)) (t0_14 := (p127.2.2.2.2.2.2.2.2.2.2.2.2.2.2.1 : Int32)) (t0_15 := (p127.2.2.2.2.2.2.2.2.2.2.2.2.2.2.2.1 : Int32)) (t0_16 := (p127.2.2.2.2.2.2.2.2.2.2.2.2.2.2.2.2.1 : Int32)) (t0_17 := (p127.2.2.2.2.2.2.2.2.2.2.2.2.2.2.2.2.2.1 : Int32)) (t0_18 := (p127.2.2.2.2.2.2.2.2.2.2.2.2.2.2.2.2.2.2.1 : Int32)) (t0_19 := (p127.2.2.2.2.2.2.2.2.2.2.2.2.2.2.2.2.2.2.2.1 : Int32)) (t0_20 := (p127.2.2.2.2.2.2.2.2.2.2.2.2.2.2.2.2.2.2.2.2.1 : Int32)) (t0_21 := (p127.2.2.2.2.2.2.2.2.2.2.2.2.2.2.2.2.2.2.2.2.2.1 : Int32)) (t1_0 := (p127.2.2.2.2.2.2.2.2.2.2.2.2.2.2.2.2.2.2.2.2.2.2 : (Nat → Int32))) ⟨by first | omega | decide, by first | omega | decide⟩
    with_reducible refine v_owe h5.1 ?_
    replace h5 := h5.2
    generalize F_VR_put (46 : Int32) (p127.1 : Int32) (p127.2.1 : Int32) (p127.2.2.1 : Int32) (p127.2.2.2.1 : Int32) (p127.2.2.2.2.1 : Int32) (p127.2.2.2.2.2.1 : Int32) (p127.2.2.2.2.2.2.1 : Int32) (p127.2.2.2.2.2.2.2.1 : Int32) (p127.2.2.2.2.2.2.2.2.1 : Int32) (p127.2.2.2.2.2.2.2.2.2.1 : Int32) (p127.2.2.2.2.2.2.2.2.2.2.1 : Int32) (p127.2.2.2.2.2.2.2.2.2.2.2.1 : Int32) (p127.2.2.2.2.2.2.2.2.2.2.2.2.1 : Int32) (p127.2.2.2.2.2.2.2.2.2.2.2.2.2.1 : Int32) (p127.2.2.2.2.2.2.2.2.2.2.2.2.2.2.1 : Int32) (p127.2.2.2.2.2.2.2.2.2.2.2.2.2.2.2.1 : Int32) (p127.2.2.2.2.2.2.2.2.2.2.2.2.2.2.2.2.1 : Int32) (p127.2.2.2.2.2.2.2.2.2.2.2.2.2.2.2.2.2.1 : Int32) (p127.2.2.2.2.2.2.2.2.2.2.2.2.2.2.2.2.2.2.1 : Int32) (p127.2.2.2.2.2.2.2.2.2.2.2.2.2.2.2.2.2.2.2.1 : Int32) (p127.2.2.2.2.2.2.2.2.2.2.2.2.2.2.2.2.2.2.2.2.1 : Int32) (p127.2.2.2.2.2.2.2.2.2.2.2.2.2.2.2.2.2.2.2.2.2.1 : Int32) (p127.2.2.2.2.2.2.2.2.2.2.2.2.2.2.2.2.2.2.2.2.2.2 : (Nat → Int32)) = p1201 at *
    unfold Q_VR_put at h5
    obtain ⟨kp1201, h517, h520, h521⟩ := h5
    unfold S_VR_exponential_c33 F_VR_exponential_c33
    unfold S_VR_exponential_J36 F_VR_exponential_J36
    exact vv_e1 h20 h21 hL hx2 1000000 _ _ _ _ _ _ _ _ _ _ _ _ _ _ _ _ _ _ _ _ _ _ _ _ ⟨by decide, by omega⟩ (by omega) (kp1201.trans (kp127.trans (vrK.refl'))) ⟨by omega, by omega⟩ ⟨by omega, by omega⟩
  ·
    rw [if_neg g4, if_neg g4]
    have g4i : x2.toInt ≤ 0 := q_nltI g4
    by_cases g6 : ((F_VR_has (35 : Int32) (p127.1 : Int32) (p127.2.1 : Int32) (p127.2.2.1 : Int32) (p127.2.2.2.1 : Int32) (p127.2.2.2.2.1 : Int32) (p127.2.2.2.2.2.1 : Int32) (p127.2.2.2.2.2.2.1 : Int32) (p127.2.2.2.2.2.2.2.1 : Int32) (p127.2.2.2.2.2.2.2.2.1 : Int32) (p127.2.2.2.2.2.2.2.2.2.1 : Int32) (p127.2.2.2.2.2.2.2.2.2.2.1 : Int32) (p127.2.2.2.2.2.2.2.2.2.2.2.1 : Int32) (p127.2.2.2.2.2.2.2.2.2.2.2.2.1 : Int32) (p127.2.2.2.2.2.2.2.2.2.2.2.2.2.1 : Int32) (p127.2.2.2.2.2.2.2.2.2.2.2.2.2.2.1 : Int32) (p127.2.2.2.2.2.2.2.2.2.2.2.2.2.2.2.1 : Int32) (p127.2.2.2.2.2.2.2.2.2.2.2.2.2.2.2.2.1 : Int32) (p127.2.2.2.2.2.2.2.2.2.2.2.2.2.2.2.2.2.1 : Int32) (p127.2.2.2.2.2.2.2.2.2.2.2.2.2.2.2.2.2.2.1 : Int32) (p127.2.2.2.2.2.2.2.2.2.2.2.2.2.2.2.2.2.2.2.1 : Int32) (p127.2.2.2.2.2.2.2.2.2.2.2.2.2.2.2.2.2.2.2.2.1 : Int32) (p127.2.2.2.2.2.2.2.2.2.2.2.2.2.2.2.2.2.2.2.2.2.1 : Int32)) : Int32) = (0 : Int32)
    ·
      rw [if_pos g6, if_pos g6]
      unfold S_VR_exponential_J36 F_VR_exponential_J36
      exact vv_e1 h20 h21 hL hx2 1000000 _ _ _ _ _ _ _ _ _ _ _ _ _ _ _ _ _ _ _ _ _ _ _ _ ⟨by decide, by omega⟩ (by omega) (kp127.trans (vrK.refl')) ⟨by omega, by omega⟩ ⟨by omega, by omega⟩
    ·
      rw [if_neg g6, if_neg g6]
      unfold S_VR_exponential_J30 F_VR_exponential_J30
      have h7 := T_VR_put (x2 := (46 : Int32)) (t0_0 := (p127.1 : Int32)) (t0_1 := (p127.2.1 : Int32)) (t0_2 := (p127.2.2.1 : Int32)) (t0_3 := (p127.2.2.2.1 : Int32)) (t0_4 := (p127.2.2.2.2.1 : Int32)) (t0_5 := (p127.2.2.2.2.2.1 : Int32)) (t0_6 := (p127.2.2.2.2.2.2.1 : Int32)) (t0_7 := (p127.2.2.2.2.2.2.2.1 : Int32)) (t0_8 := (p127.2.2.2.2.2.2.2.2.1 : Int32)) (t0_9 := (p127.2.2.2.2.2.2.2.2.2.1 : Int32)) (t0_10 := (p127.2.2.2.2.2.2.2.2.2.2.1 : Int32)) (t0_11 := (p127.2.2.2.2.2.2.2.2.2.2.2.1 : Int32)) (t0_12 := (p127.2.2.2.2.2.2.2.2.2.2.2.2.1 : Int32)) (t0_13 := (p127.2.2.2.2.2.2.2.2.2.2.2.2.2.1 : Int32)) (t0_14 := (p127.2.2.2.2.2.2.2.2.2.2.2.2.2.2.1 : Int32)) (t0_15 := (p127.2.2.2.2.2.2.2.2.2.2.2.2.2.2.2.1 : Int32)) (t0_16 := (p127.2.2.2.2.2.2.2.2.2.2.2.2.2.2.2.2.1 : Int32)) (t0_17 := (p127.2.2.2.2.2.2.2.2.2.2.2.2.2.2.2.2.2.1 : Int32)) (t0_18 := (p127.2.2.2.2.2.2.2.2.2.2.2.2.2.2.2.2.2.2.1 : Int32)) (t0_19 := (p127.2.2.2.2.2.2.2.2.2.2.2.2.2.2.2.2.2.2.2.1 : Int32)) (t0_20 := (p127.2.2.2.2.2.2.2.2.2.2.2.2.2.2.2.2.2.2.2.2.1 : Int32)) (t0_21 := (p127.2.2.2.2.2.2.2.2.2.2.2.2.2.2.2.2.2.2.2.2.2.1 : Int32)) (t1_0 := (p127.2.2.2.2.2.2.2.2.2.2.2.2.2.2.2.2.2.2.2.2.2.2 : (Nat → Int32))) ⟨by first | omega | decide, by first | omega | decide⟩
      with_reducible refine v_owe h7.1 ?_
      replace h7 := h7.2
      generalize F_VR_put (46 : Int32) (p127.1 : Int32) (p127.2.1 : Int32) (p127.2.2.1 : Int32) (p127.2.2.2.1 : Int32) (p127.2.2.2.2.1 : Int32) (p127.2.2.2.2.2.1 : Int32) (p127.2.2.2.2.2.2.1 : Int32) (p127.2.2.2.2.2.2.2.1 : Int32) (p127.2.2.2.2.2.2.2.2.1 : Int32) (p127.2.2.2.2.2.2.2.2.2.1 : Int32) (p127.2.2.2.2.2.2.2.2.2.2.1 : Int32) (p127.2.2.2.2.2.2.2.2.2.2.2.1 : Int32) (p127.2.2.2.2.2.2.2.2.2.2.2.2.1 : Int32) (p127.2.2.2.2.2.2.2.2.2.2.2.2.2.1 : Int32) (p127.2.2.2.2.2.2.2.2.2.2.2.2.2.2.1 : Int32) (p127.2.2.2.2.2.2.2.2.2.2.2.2.2.2.2.1 : Int32) (p127.2.2.2.2.2.2.2.2.2.2.2.2.2.2.2.2.1 : Int32) (p127.2.2.2.2.2.2.2.2.2.2.2.2.2.2.2.2.2.1 : Int32) (p127.2.2.2.2.2.2.2.2.2.2.2.2.2.2.2.2.2.2.1 : Int32) (p127.2.2.2.2.2.2.2.2.2.2.2.2.2.2.2.2.2.2.2.1 : Int32) (p127.2.2.2.2.2.2.2.2.2.2.2.2.2.2.2.2.2.2.2.2.1 : Int32) (p127.2.2.2.2.2.2.2.2.2.2.2.2.2.2.2.2.2.2.2.2.2.1 : Int32) (p127.2.2.2.2.2.2.2.2.2.2.2.2.2.2.2.2.2.2.2.2.2.2 : (Nat → Int32)) = p1201 at *
      unfold Q_VR_put at h7
      obtain ⟨kp1201, h717, h720, h721⟩ := h7
      unfold S_VR_exponential_c33 F_VR_exponential_c33
      unfold S_VR_exponential_J36 F_VR_exponential_J36
      exact vv_e1 h20 h21 hL hx2 1000000 _ _ _ _ _ _ _ _ _ _ _ _ _ _ _ _ _ _ _ _ _ _ _ _ ⟨by decide, by omega⟩ (by omega) (kp1201.trans (kp127.trans (vrK.refl'))) ⟨by omega, by omega⟩ ⟨by omega, by omega⟩
def Q_VR_fixed (x2 t0_1 t0_2 t0_4 t0_7 t0_9 t0_11 t0_12 t0_13 t0_14 t0_15 t0_16 t0_18 t0_17 : Int32) (p : Int32 × Int32 × Int32 × Int32 × Int32 × Int32 × Int32 × Int32 × Int32 × Int32 × Int32 × Int32 × Int32 × Int32 × Int32 × Int32 × Int32 × Int32 × Int32 × Int32 × Int32 × Int32 × (Nat → Int32) × (Nat → Int32)) : Prop := vrK p.2.1 p.2.2.1 p.2.2.2.2.1 p.2.2.2.2.2.2.2.1 p.2.2.2.2.2.2.2.2.2.1 p.2.2.2.2.2.2.2.2.2.2.2.1 p.2.2.2.2.2.2.2.2.2.2.2.2.1 p.2.2.2.2.2.2.2.2.2.2.2.2.2.1 p.2.2.2.2.2.2.2.2.2.2.2.2.2.2.1 p.2.2.2.2.2.2.2.2.2.2.2.2.2.2.2.1 p.2.2.2.2.2.2.2.2.2.2.2.2.2.2.2.2.1 p.2.2.2.2.2.2.2.2.2.2.2.2.2.2.2.2.2.2.1 t0_1 t0_2 t0_4 t0_7 t0_9 t0_11 t0_12 t0_13 t0_14 t0_15 t0_16 t0_18 ∧ (t0_17.toInt ≤ p.2.2.2.2.2.2.2.2.2.2.2.2.2.2.2.2.2.1.toInt ∧ p.2.2.2.2.2.2.2.2.2.2.2.2.2.2.2.2.2.1.toInt ≤ t0_17.toInt + 140 + x2.toInt)
theorem T_VR_fixed {x2 : Int32} {t0_0 : Int32} {t0_1 : Int32} {t0_2 : Int32} {t0_3 : Int32} {t0_4 : Int32} {t0_5 : Int32} {t0_6 : Int32} {t0_7 : Int32} {t0_8 : Int32} {t0_9 : Int32} {t0_10 : Int32} {t0_11 : Int32} {t0_12 : Int32} {t0_13 : Int32} {t0_14 : Int32} {t0_15 : Int32} {t0_16 : Int32} {t0_17 : Int32} {t0_18 : Int32} {t0_19 : Int32} {t0_20 : Int32} {t0_21 : Int32} {t1_0 : (Nat → Int32)} {t2_0 : (Nat → Int32)} (h20 : 0 ≤ t0_20.toInt ∧ t0_20.toInt ≤ 60) (h21 : -20000 ≤ t0_21.toInt ∧ t0_21.toInt ≤ 60) (hL : 0 ≤ t0_17.toInt ∧ t0_17.toInt ≤ 200)(hx2 : 0 ≤ x2.toInt ∧ x2.toInt ≤ 10200) : (S_VR_fixed x2 t0_0 t0_1 t0_2 t0_3 t0_4 t0_5 t0_6 t0_7 t0_8 t0_9 t0_10 t0_11 t0_12 t0_13 t0_14 t0_15 t0_16 t0_17 t0_18 t0_19 t0_20 t0_21 t1_0 t2_0) ∧ Q_VR_fixed x2 t0_1 t0_2 t0_4 t0_7 t0_9 t0_11 t0_12 t0_13 t0_14 t0_15 t0_16 t0_18 t0_17 (F_VR_fixed x2 t0_0 t0_1 t0_2 t0_3 t0_4 t0_5 t0_6 t0_7 t0_8 t0_9 t0_10 t0_11 t0_12 t0_13 t0_14 t0_15 t0_16 t0_17 t0_18 t0_19 t0_20 t0_21 t1_0 t2_0) := by
  have e0 : (0 : Int32).toInt = 0 := rfl
  have e1 : (1 : Int32).toInt = 1 := rfl
  have eL0 : (0 : Int64).toInt = 0 := rfl
  have em : (-1 : Int32).toInt = -1 := rfl
  unfold S_VR_fixed F_VR_fixed
  obtain ⟨a1, e2⟩ := q_nm (t0_21 + x2 : Int32)
  rw [e2]
  have a1i : a1.toInt = t0_21.toInt + x2.toInt := by rw [← e2]; exact q_addI (x := t0_21.toInt) (y := x2.toInt) rfl rfl (by omega) (by omega)
  have h3 := T_VR_keep (x2 := a1) (t0_0 := t0_0) (t0_1 := t0_1) (t0_2 := t0_2) (t0_3 := t0_3) (t0_4 := t0_4) (t0_5 := t0_5) (t0_6 := t0_6) (t0_7 := t0_7) (t0_8 := t0_8) (t0_9 := t0_9) (t0_10 := t0_10) (t0_11 := t0_11) (t0_12 := t0_12) (t0_13 := t0_13) (t0_14 := t0_14) (t0_15 := t0_15) (t0_16 := t0_16) (t0_17 := t0_17) (t0_18 := t0_18) (t0_19 := t0_19) (t0_20 := t0_20) (t0_21 := t0_21) (t1_0 := t2_0) ⟨by omega, by omega⟩ ⟨by omega, by omega⟩
  with_reducible refine v_owe h3.1 ?_
  replace h3 := h3.2
  generalize F_VR_keep a1 t0_0 t0_1 t0_2 t0_3 t0_4 t0_5 t0_6 t0_7 t0_8 t0_9 t0_10 t0_11 t0_12 t0_13 t0_14 t0_15 t0_16 t0_17 t0_18 t0_19 t0_20 t0_21 t2_0 = p107 at *
  unfold Q_VR_keep at h3
  obtain ⟨kp107, h317e, h320, h321⟩ := h3
  have h317 := congrArg Int32.toInt h317e
  unfold S_VR_fixed_c7 F_VR_fixed_c7
  have h4 := T_VR_plain (x2 := x2) (t0_0 := (p107.1 : Int32)) (t0_1 := (p107.2.1 : Int32)) (t0_2 := (p107.2.2.1 : Int32)) (t0_3 := (p107.2.2.2.1 : Int32)) (t0_4 := (p107.2.2.2.2.1 : Int32)) (t0_5 := (p107.2.2.2.2.2.1 : Int32)) (t0_6 := (p107.2.2.2.2.2.2.1 : Int32)) (t0_7 := (p107.2.2.2.2.2.2.2.1 : Int32)) (t0_8 := (p107.2.2.2.2.2.2.2.2.1 : Int32)) (t0_9 := (p107.2.2.2.2.2.2.2.2.2.1 : Int32)) (t0_10 := (p107.2.2.2.2.2.2.2.2.2.2.1 : Int32)) (t0_11 := (p107.2.2.2.2.2.2.2.2.2.2.2.1 : Int32)) (t0_12 := (p107.2.2.2.2.2.2.2.2.2.2.2.2.1 : Int32)) (t0_13 := (p107.2.2.2.2.2.2.2.2.2.2.2.2.2.1 : Int32)) (t0_14 := (p107.2.2.2.2.2.2.2.2.2.2.2.2.2.2.1 : Int32)) (t0_15 := (p107.2.2.2.2.2.2.2.2.2.2.2.2.2.2.2.1 : Int32)) (t0_16 := (p107.2.2.2.2.2.2.2.2.2.2.2.2.2.2.2.2.1 : Int32)) (t0_17 := (p107.2.2.2.2.2.2.2.2.2.2.2.2.2.2.2.2.2.1 : Int32)) (t0_18 := (p107.2.2.2.2.2.2.2.2.2.2.2.2.2.2.2.2.2.2.1 : Int32)) (t0_19 := (p107.2.2.2.2.2.2.2.2.2.2.2.2.2.2.2.2.2.2.2.1 : Int32)) (t0_20 := (p107.2.2.2.2.2.2.2.2.2.2.2.2.2.2.2.2.2.2.2.2.1 : Int32)) (t0_21 := (p107.2.2.2.2.2.2.2.2.2.2.2.2.2.2.2.2.2.2.2.2.2.1 : Int32)) (t1_0 := t1_0) (t2_0 := (p107.2.2.2.2.2.2.2.2.2.2.2.2.2.2.2.2.2.2.2.2.2.2 : (Nat → Int32))) ⟨by omega, by omega⟩ ⟨by omega, by omega⟩ ⟨by omega, by omega⟩ ⟨by first | omega | decide, by first | omega | decide⟩
  with_reducible refine v_owe h4.1 ?_
  replace h4 := h4.2
  generalize F_VR_plain x2 (p107.1 : Int32) (p107.2.1 : Int32) (p107.2.2.1 : Int32) (p107.2.2.2.1 : Int32) (p107.2.2.2.2.1 : Int32) (p107.2.2.2.2.2.1 : Int32) (p107.2.2.2.2.2.2.1 : Int32) (p107.2.2.2.2.2.2.2.1 : Int32) (p107.2.2.2.2.2.2.2.2.1 : Int32) (p107.2.2.2.2.2.2.2.2.2.1 : Int32) (p107.2.2.2.2.2.2.2.2.2.2.1 : Int32) (p107.2.2.2.2.2.2.2.2.2.2.2.1 : Int32) (p107.2.2.2.2.2.2.2.2.2.2.2.2.1 : Int32) (p107.2.2.2.2.2.2.2.2.2.2.2.2.2.1 : Int32) (p107.2.2.2.2.2.2.2.2.2.2.2.2.2.2.1 : Int32) (p107.2.2.2.2.2.2.2.2.2.2.2.2.2.2.2.1 : Int32) (p107.2.2.2.2.2.2.2.2.2.2.2.2.2.2.2.2.1 : Int32) (p107.2.2.2.2.2.2.2.2.2.2.2.2.2.2.2.2.2.1 : Int32) (p107.2.2.2.2.2.2.2.2.2.2.2.2.2.2.2.2.2.2.1 : Int32) (p107.2.2.2.2.2.2.2.2.2.2.2.2.2.2.2.2.2.2.2.1 : Int32) (p107.2.2.2.2.2.2.2.2.2.2.2.2.2.2.2.2.2.2.2.2.1 : Int32) (p107.2.2.2.2.2.2.2.2.2.2.2.2.2.2.2.2.2.2.2.2.2.1 : Int32) t1_0 (p107.2.2.2.2.2.2.2.2.2.2.2.2.2.2.2.2.2.2.2.2.2.2 : (Nat → Int32)) = p210 at *
  unfold Q_VR_plain at h4
  obtain ⟨kp210, h417⟩ := h4
  unfold S_VR_fixed_c12 F_VR_fixed_c12
  refine ⟨trivial, ?_⟩
  (unfold Q_VR_fixed; dsimp only; exact ⟨kp210.trans (kp107.trans (vrK.refl')), ⟨by omega, by omega⟩⟩)
def Q_VR_general (x2 t0_1 t0_2 t0_4 t0_7 t0_9 t0_11 t0_12 t0_13 t0_14 t0_15 t0_16 t0_18 t0_17 : Int32) (p : Int32 × Int32 × Int32 × Int32 × Int32 × Int32 × Int32 × Int32 × Int32 × Int32 × Int32 × Int32 × Int32 × Int32 × Int32 × Int32 × Int32 × Int32 × Int32 × Int32 × Int32 × Int32 × (Nat → Int32) × (Nat → Int32)) : Prop := vrK p.2.1 p.2.2.1 p.2.2.2.2.1 p.2.2.2.2.2.2.2.1 p.2.2.2.2.2.2.2.2.2.1 p.2.2.2.2.2.2.2.2.2.2.2.1 p.2.2.2.2.2.2.2.2.2.2.2.2.1 p.2.2.2.2.2.2.2.2.2.2.2.2.2.1 p.2.2.2.2.2.2.2.2.2.2.2.2.2.2.1 p.2.2.2.2.2.2.2.2.2.2.2.2.2.2.2.1 p.2.2.2.2.2.2.2.2.2.2.2.2.2.2.2.2.1 p.2.2.2.2.2.2.2.2.2.2.2.2.2.2.2.2.2.2.1 t0_1 t0_2 t0_4 t0_7 t0_9 t0_11 t0_12 t0_13 t0_14 t0_15 t0_16 t0_18 ∧ (t0_17.toInt ≤ p.2.2.2.2.2.2.2.2.2.2.2.2.2.2.2.2.2.1.toInt ∧ p.2.2.2.2.2.2.2.2.2.2.2.2.2.2.2.2.2.1.toInt ≤ t0_17.toInt + 150 + x2.toInt)
theorem T_VR_general {x2 : Int32} {t0_0 : Int32} {t0_1 : Int32} {t0_2 : Int32} {t0_3 : Int32} {t0_4 : Int32} {t0_5 : Int32} {t0_6 : Int32} {t0_7 : Int32} {t0_8 : Int32} {t0_9 : Int32} {t0_10 : Int32} {t0_11 : Int32} {t0_12 : Int32} {t0_13 : Int32} {t0_14 : Int32} {t0_15 : Int32} {t0_16 : Int32} {t0_17 : Int32} {t0_18 : Int32} {t0_19 : Int32} {t0_20 : Int32} {t0_21 : Int32} {t1_0 : (Nat → Int32)} {t2_0 : (Nat → Int32)} (h20 : 0 ≤ t0_20.toInt ∧ t0_20.toInt ≤ 60) (h21 : -20000 ≤ t0_21.toInt ∧ t0_21.toInt ≤ 60) (hL : 0 ≤ t0_17.toInt ∧ t0_17.toInt ≤ 200)(hx2 : 1 ≤ x2.toInt ∧ x2.toInt ≤ 10000) : (S_VR_general x2 t0_0 t0_1 t0_2 t0_3 t0_4 t0_5 t0_6 t0_7 t0_8 t0_9 t0_10 t0_11 t0_12 t0_13 t0_14 t0_15 t0_16 t0_17 t0_18 t0_19 t0_20 t0_21 t1_0 t2_0) ∧ Q_VR_general x2 t0_1 t0_2 t0_4 t0_7 t0_9 t0_11 t0_12 t0_13 t0_14 t0_15 t0_16 t0_18 t0_17 (F_VR_general x2 t0_0 t0_1 t0_2 t0_3 t0_4 t0_5 t0_6 t0_7 t0_8 t0_9 t0_10 t0_11 t0_12 t0_13 t0_14 t0_15 t0_16 t0_17 t0_18 t0_19 t0_20 t0_21 t1_0 t2_0) := by
  have e0 : (0 : Int32).toInt = 0 := rfl
  have e1 : (1 : Int32).toInt = 1 := rfl
  have eL0 : (0 : Int64).toInt = 0 := rfl
  have em : (-1 : Int32).toInt = -1 := rfl
  unfold S_VR_general F_VR_general
  have h1 := T_VR_isZero (t0_0 := t0_0) (t0_1 := t0_1) (t0_2 := t0_2) (t0_3 := t0_3) (t0_4 := t0_4) (t0_5 := t0_5) (t0_6 := t0_6) (t0_7 := t0_7) (t0_8 := t0_8) (t0_9 := t0_9) (t0_10 := t0_10) (t0_11 := t0_11) (t0_12 := t0_12) (t0_13 := t0_13) (t0_14 := t0_14) (t0_15 := t0_15) (t0_16 := t0_16) (t0_17 := t0_17) (t0_18 := t0_18) (t0_19 := t0_19) (t0_20 := t0_20) (t0_21 := t0_21) (t1_0 := t2_0) (by omega)
  with_reducible refine v_owe h1 ?_
  by_cases g2 : ((F_VR_isZero t0_0 t0_1 t0_2 t0_3 t0_4 t0_5 t0_6 t0_7 t0_8 t0_9 t0_10 t0_11 t0_12 t0_13 t0_14 t0_15 t0_16 t0_17 t0_18 t0_19 t0_20 t0_21 t2_0) : Int32) = (0 : Int32)
  ·
    rw [if_pos g2, if_pos g2]
    have h3 := T_VR_keep (x2 := x2) (t0_0 := t0_0) (t0_1 := t0_1) (t0_2 := t0_2) (t0_3 := t0_3) (t0_4 := t0_4) (t0_5 := t0_5) (t0_6 := t0_6) (t0_7 := t0_7) (t0_8 := t0_8) (t0_9 := t0_9) (t0_10 := t0_10) (t0_11 := t0_11) (t0_12 := t0_12) (t0_13 := t0_13) (t0_14 := t0_14) (t0_15 := t0_15) (t0_16 := t0_16) (t0_17 := t0_17) (t0_18 := t0_18) (t0_19 := t0_19) (t0_20 := t0_20) (t0_21 := t0_21) (t1_0 := t2_0) ⟨by omega, by omega⟩ ⟨by omega, by omega⟩
    with_reducible refine v_owe h3.1 ?_
    replace h3 := h3.2
    generalize F_VR_keep x2 t0_0 t0_1 t0_2 t0_3 t0_4 t0_5 t0_6 t0_7 t0_8 t0_9 t0_10 t0_11 t0_12 t0_13 t0_14 t0_15 t0_16 t0_17 t0_18 t0_19 t0_20 t0_21 t2_0 = p115 at *
    unfold Q_VR_keep at h3
    obtain ⟨kp115, h317e, h320, h321⟩ := h3
    have h317 := congrArg Int32.toInt h317e
    unfold S_VR_general_c17 F_VR_general_c17
    obtain ⟨a4, e5⟩ := q_nm ((p115.2.2.2.2.2.2.2.2.2.2.2.2.2.2.2.2.2.2.2.2.2.1 : Int32) - 1 : Int32)
    rw [e5]
    have a4i : a4.toInt = (p115.2.2.2.2.2.2.2.2.2.2.2.2.2.2.2.2.2.2.2.2.2.1 : Int32).toInt - 1 := by rw [← e5]; exact q_subI (x := (p115.2.2.2.2.2.2.2.2.2.2.2.2.2.2.2.2.2.2.2.2.2.1 : Int32).toInt) (y := 1) rfl (by decide) (by omega) (by omega)
    by_cases g6 : a4 < (-4 : Int32)
    ·
      rw [if_pos g6, if_pos g6]
      have g6i : a4.toInt < -4 := q_ltI g6
      obtain ⟨a7, e8⟩ := q_nm (x2 - 1 : Int32)
      rw [e8]
      have a7i : a7.toInt = x2.toInt - 1 := by rw [← e8]; exact q_subI (x := x2.toInt) (y := 1) rfl (by decide) (by omega) (by omega)
      have h9 := T_VR_exponential (x2 := a7) (t0_0 := (p115.1 : Int32)) (t0_1 := (p115.2.1 : Int32)) (t0_2 := (p115.2.2.1 : Int32)) (t0_3 := (p115.2.2.2.1 : Int32)) (t0_4 := (p115.2.2.2.2.1 : Int32)) (t0_5 := (p115.2.2.2.2.2.1 : Int32)) (t0_6 := (p115.2.2.2.2.2.2.1 : Int32)) (t0_7 := (p115.2.2.2.2.2.2.2.1 : Int32)) (t0_8 := (p115.2.2.2.2.2.2.2.2.1 : Int32)) (t0_9 := (p115.2.2.2.2.2.2.2.2.2.1 : Int32)) (t0_10 := (p115.2.2.2.2.2.2.2.2.2.2.1 : Int32)) (t0_11 := (p115.2.2.2.2.2.2.2.2.2.2.2.1 : Int32)) (t0_12 := (p115.2.2.2.2.2.2.2.2.2.2.2.2.1 : Int32)) (t0_13 := (p115.2.2.2.2.2.2.2.2.2.2.2.2.2.1 : Int32)) (t0_14 := (p115.2.2.2.2.2.2.2.2.2.2.2.2.2.2.1 : Int32)) (t0_15 := (p115.2.2.2.2.2.2.2.2.2.2.2.2.2.2.2.1 : Int32)) (t0_16 := (p115.2.2.2.2.2.2.2.2.2.2.2.2.2.2.2.2.1 : Int32)) (t0_17 := (p115.2.2.2.2.2.2.2.2.2.2.2.2.2.2.2.2.2.1 : Int32)) (t0_18 := (p115.2.2.2.2.2.2.2.2.2.2.2.2.2.2.2.2.2.2.1 : Int32)) (t0_19 := (p115.2.2.2.2.2.2.2.2.2.2.2.2.2.2.2.2.2.2.2.1 : Int32)) (t0_20 := (p115.2.2.2.2.2.2.2.2.2.2.2.2.2.2.2.2.2.2.2.2.1 : Int32)) (t0_21 := (p115.2.2.2.2.2.2.2.2.2.2.2.2.2.2.2.2.2.2.2.2.2.1 : Int32)) (t1_0 := t1_0) (t2_0 := (p115.2.2.2.2.2.2.2.2.2.2.2.2.2.2.2.2.2.2.2.2.2.2 : (Nat → Int32))) ⟨by omega, by omega⟩ ⟨by omega, by omega⟩ ⟨by omega, by omega⟩ ⟨by first | omega | decide, by first | omega | decide⟩
      with_reducible refine v_owe h9.1 ?_
      replace h9 := h9.2
      generalize F_VR_exponential a7 (p115.1 : Int32) (p115.2.1 : Int32) (p115.2.2.1 : Int32) (p115.2.2.2.1 : Int32) (p115.2.2.2.2.1 : Int32) (p115.2.2.2.2.2.1 : Int32) (p115.2.2.2.2.2.2.1 : Int32) (p115.2.2.2.2.2.2.2.1 : Int32) (p115.2.2.2.2.2.2.2.2.1 : Int32) (p115.2.2.2.2.2.2.2.2.2.1 : Int32) (p115.2.2.2.2.2.2.2.2.2.2.1 : Int32) (p115.2.2.2.2.2.2.2.2.2.2.2.1 : Int32) (p115.2.2.2.2.2.2.2.2.2.2.2.2.1 : Int32) (p115.2.2.2.2.2.2.2.2.2.2.2.2.2.1 : Int32) (p115.2.2.2.2.2.2.2.2.2.2.2.2.2.2.1 : Int32) (p115.2.2.2.2.2.2.2.2.2.2.2.2.2.2.2.1 : Int32) (p115.2.2.2.2.2.2.2.2.2.2.2.2.2.2.2.2.1 : Int32) (p115.2.2.2.2.2.2.2.2.2.2.2.2.2.2.2.2.2.1 : Int32) (p115.2.2.2.2.2.2.2.2.2.2.2.2.2.2.2.2.2.2.1 : Int32) (p115.2.2.2.2.2.2.2.2.2.2.2.2.2.2.2.2.2.2.2.1 : Int32) (p115.2.2.2.2.2.2.2.2.2.2.2.2.2.2.2.2.2.2.2.2.1 : Int32) (p115.2.2.2.2.2.2.2.2.2.2.2.2.2.2.2.2.2.2.2.2.2.1 : Int32) t1_0 (p115.2.2.2.2.2.2.2.2.2.2.2.2.2.2.2.2.2.2.2.2.2.2 : (Nat → Int32)) = p183 at *
      unfold Q_VR_plain at h9
      obtain ⟨kp183, h917⟩ := h9
      unfold S_VR_general_c54 F_VR_general_c54
      refine ⟨trivial, ?_⟩
      (unfold Q_VR_general; dsimp only; exact ⟨kp183.trans (kp115.trans (vrK.refl')), ⟨by omega, by omega⟩⟩)
    ·
      rw [if_neg g6, if_neg g6]
      have g6i : -4 ≤ a4.toInt := q_nltI g6
      by_cases g10 : x2 ≤ a4
      ·
        rw [if_pos g10, if_pos g10]
        have g10i : x2.toInt ≤ a4.toInt := q_leI g10
        obtain ⟨a11, e12⟩ := q_nm (x2 - 1 : Int32)
        rw [e12]
        have a11i : a11.toInt = x2.toInt - 1 := by rw [← e12]; exact q_subI (x := x2.toInt) (y := 1) rfl (by decide) (by omega) (by omega)
        have h13 := T_VR_exponential (x2 := a11) (t0_0 := (p115.1 : Int32)) (t0_1 := (p115.2.1 : Int32)) (t0_2 := (p115.2.2.1 : Int32)) (t0_3 := (p115.2.2.2.1 : Int32)) (t0_4 := (p115.2.2.2.2.1 : Int32)) (t0_5 := (p115.2.2.2.2.2.1 : Int32)) (t0_6 := (p115.2.2.2.2.2.2.1 : Int32)) (t0_7 := (p115.2.2.2.2.2.2.2.1 : Int32)) (t0_8 := (p115.2.2.2.2.2.2.2.2.1 : Int32)) (t0_9 := (p115.2.2.2.2.2.2.2.2.2.1 : Int32)) (t0_10 := (p115.2.2.2.2.2.2.2.2.2.2.1 : Int32)) (t0_11 := (p115.2.2.2.2.2.2.2.2.2.2.2.1 : Int32)) (t0_12 := (p115.2.2.2.2.2.2.2.2.2.2.2.2.1 : Int32)) (t0_13 := (p115.2.2.2.2.2.2.2.2.2.2.2.2.2.1 : Int32)) (t0_14 := (p115.2.2.2.2.2.2.2.2.2.2.2.2.2.2.1 : Int32)) (t0_15 := (p115.2.2.2.2.2.2.2.2.2.2.2.2.2.2.2.1 : Int32)) (t0_16 := (p115.2.2.2.2.2.2.2.2.2.2.2.2.2.2.2.2.1 : Int32)) (t0_17 := (p115.2.2.2.2.2.2.2.2.2.2.2.2.2.2.2.2.2.1 : Int32)) (t0_18 := (p115.2.2.2.2.2.2.2.2.2.2.2.2.2.2.2.2.2.2.1 : Int32)) (t0_19 := (p115.2.2.2.2.2.2.2.2.2.2.2.2.2.2.2.2.2.2.2.1 : Int32)) (t0_20 := (p115.2.2.2.2.2.2.2.2.2.2.2.2.2.2.2.2.2.2.2.2.1 : Int32)) (t0_21 := (p115.2.2.2.2.2.2.2.2.2.2.2.2.2.2.2.2.2.2.2.2.2.1 : Int32)) (t1_0 := t1_0) (t2_0 := (p115.2.2.2.2.2.2.2.2.2.2.2.2.2.2.2.2.2.2.2.2.2.2 : (Nat → Int32))) ⟨by omega, by omega⟩ ⟨by omega, by omega⟩ ⟨by omega, by omega⟩ ⟨by first | omega | decide, by first | omega | decide⟩
        with_reducible refine v_owe h13.1 ?_
        replace h13 := h13.2
        generalize F_VR_exponential a11 (p115.1 : Int32) (p115.2.1 : Int32) (p115.2.2.1 : Int32) (p115.2.2.2.1 : Int32) (p115.2.2.2.2.1 : Int32) (p115.2.2.2.2.2.1 : Int32) (p115.2.2.2.2.2.2.1 : Int32) (p115.2.2.2.2.2.2.2.1 : Int32) (p115.2.2.2.2.2.2.2.2.1 : Int32) (p115.2.2.2.2.2.2.2.2.2.1 : Int32) (p115.2.2.2.2.2.2.2.2.2.2.1 : Int32) (p115.2.2.2.2.2.2.2.2.2.2.2.1 : Int32) (p115.2.2.2.2.2.2.2.2.2.2.2.2.1 : Int32) (p115.2.2.2.2.2.2.2.2.2.2.2.2.2.1 : Int32) (p115.2.2.2.2.2.2.2.2.2.2.2.2.2.2.1 : Int32) (p115.2.2.2.2.2.2.2.2.2.2.2.2.2.2.2.1 : Int32) (p115.2.2.2.2.2.2.2.2.2.2.2.2.2.2.2.2.1 : Int32) (p115.2.2.2.2.2.2.2.2.2.2.2.2.2.2.2.2.2.1 : Int32) (p115.2.2.2.2.2.2.2.2.2.2.2.2.2.2.2.2.2.2.1 : Int32) (p115.2.2.2.2.2.2.2.2.2.2.2.2.2.2.2.2.2.2.2.1 : Int32) (p115.2.2.2.2.2.2.2.2.2.2.2.2.2.2.2.2.2.2.2.2.1 : Int32) (p115.2.2.2.2.2.2.2.2.2.2.2.2.2.2.2.2.2.2.2.2.2.1 : Int32) t1_0 (p115.2.2.2.2.2.2.2.2.2.2.2.2.2.2.2.2.2.2.2.2.2.2 : (Nat → Int32)) = p250 at *
        unfold Q_VR_plain at h13
        obtain ⟨kp250, h1317⟩ := h13
        unfold S_VR_general_c54_3 F_VR_general_c54_3
        refine ⟨trivial, ?_⟩
        (unfold Q_VR_general; dsimp only; exact ⟨kp250.trans (kp115.trans (vrK.refl')), ⟨by omega, by omega⟩⟩)
      ·
        rw [if_neg g10, if_neg g10]
        have g10i : a4.toInt < x2.toInt := q_nleI g10
        obtain ⟨a14, e15⟩ := q_nm (x2 - 1 : Int32)
        rw [e15]
        have a14i : a14.toInt = x2.toInt - 1 := by rw [← e15]; exact q_subI (x := x2.toInt) (y := 1) rfl (by decide) (by omega) (by omega)
        obtain ⟨a16, e17⟩ := q_nm (a14 - a4 : Int32)
        rw [e17]
        have a16i : a16.toInt = a14.toInt - a4.toInt := by rw [← e17]; exact q_subI (x := a14.toInt) (y := a4.toInt) rfl rfl (by omega) (by omega)
        have h18 := T_VR_plain (x2 := a16) (t0_0 := (p115.1 : Int32)) (t0_1 := (p115.2.1 : Int32)) (t0_2 := (p115.2.2.1 : Int32)) (t0_3 := (p115.2.2.2.1 : Int32)) (t0_4 := (p115.2.2.2.2.1 : Int32)) (t0_5 := (p115.2.2.2.2.2.1 : Int32)) (t0_6 := (p115.2.2.2.2.2.2.1 : Int32)) (t0_7 := (p115.2.2.2.2.2.2.2.1 : Int32)) (t0_8 := (p115.2.2.2.2.2.2.2.2.1 : Int32)) (t0_9 := (p115.2.2.2.2.2.2.2.2.2.1 : Int32)) (t0_10 := (p115.2.2.2.2.2.2.2.2.2.2.1 : Int32)) (t0_11 := (p115.2.2.2.2.2.2.2.2.2.2.2.1 : Int32)) (t0_12 := (p115.2.2.2.2.2.2.2.2.2.2.2.2.1 : Int32)) (t0_13 := (p115.2.2.2.2.2.2.2.2.2.2.2.2.2.1 : Int32)) (t0_14 := (p115.2.2.2.2.2.2.2.2.2.2.2.2.2.2.1 : Int32)) (t0_15 := (p115.2.2.2.2.2.2.2.2.2.2.2.2.2.2.2.1 : Int32)) (t0_16 := (p115.2.2.2.2.2.2.2.2.2.2.2.2.2.2.2.2.1 : Int32)) (t0_17 := (p115.2.2.2.2.2.2.2.2.2.2.2.2.2.2.2.2.2.1 : Int32)) (t0_18 := (p115.2.2.2.2.2.2.2.2.2.2.2.2.2.2.2.2.2.2.1 : Int32)) (t0_19 := (p115.2.2.2.2.2.2.2.2.2.2.2.2.2.2.2.2.2.2.2.1 : Int32)) (t0_20 := (p115.2.2.2.2.2.2.2.2.2.2.2.2.2.2.2.2.2.2.2.2.1 : Int32)) (t0_21 := (p115.2.2.2.2.2.2.2.2.2.2.2.2.2.2.2.2.2.2.2.2.2.1 : Int32)) (t1_0 := t1_0) (t2_0 := (p115.2.2.2.2.2.2.2.2.2.2.2.2.2.2.2.2.2.2.2.2.2.2 : (Nat → Int32))) ⟨by omega, by omega⟩ ⟨by omega, by omega⟩ ⟨by omega, by omega⟩ ⟨by first | omega | decide, by first | omega | decide⟩
        with_reducible refine v_owe h18.1 ?_
        replace h18 := h18.2
        generalize F_VR_plain a16 (p115.1 : Int32) (p115.2.1 : Int32) (p115.2.2.1 : Int32) (p115.2.2.2.1 : Int32) (p115.2.2.2.2.1 : Int32) (p115.2.2.2.2.2.1 : Int32) (p115.2.2.2.2.2.2.1 : Int32) (p115.2.2.2.2.2.2.2.1 : Int32) (p115.2.2.2.2.2.2.2.2.1 : Int32) (p115.2.2.2.2.2.2.2.2.2.1 : Int32) (p115.2.2.2.2.2.2.2.2.2.2.1 : Int32) (p115.2.2.2.2.2.2.2.2.2.2.2.1 : Int32) (p115.2.2.2.2.2.2.2.2.2.2.2.2.1 : Int32) (p115.2.2.2.2.2.2.2.2.2.2.2.2.2.1 : Int32) (p115.2.2.2.2.2.2.2.2.2.2.2.2.2.2.1 : Int32) (p115.2.2.2.2.2.2.2.2.2.2.2.2.2.2.2.1 : Int32) (p115.2.2.2.2.2.2.2.2.2.2.2.2.2.2.2.2.1 : Int32) (p115.2.2.2.2.2.2.2.2.2.2.2.2.2.2.2.2.2.1 : Int32) (p115.2.2.2.2.2.2.2.2.2.2.2.2.2.2.2.2.2.2.1 : Int32) (p115.2.2.2.2.2.2.2.2.2.2.2.2.2.2.2.2.2.2.2.1 : Int32) (p115.2.2.2.2.2.2.2.2.2.2.2.2.2.2.2.2.2.2.2.2.1 : Int32) (p115.2.2.2.2.2.2.2.2.2.2.2.2.2.2.2.2.2.2.2.2.2.1 : Int32) t1_0 (p115.2.2.2.2.2.2.2.2.2.2.2.2.2.2.2.2.2.2.2.2.2.2 : (Nat → Int32)) = p359 at *
        unfold Q_VR_plain at h18
        obtain ⟨kp359, h1817⟩ := h18
        unfold S_VR_general_c44 F_VR_general_c44
        refine ⟨trivial, ?_⟩
        (unfold Q_VR_general; dsimp only; exact ⟨kp359.trans (kp115.trans (vrK.refl')), ⟨by omega, by omega⟩⟩)
  ·
    rw [if_neg g2, if_neg g2]
    obtain ⟨a19, e20⟩ := q_nm (x2 - 1 : Int32)
    rw [e20]
    have a19i : a19.toInt = x2.toInt - 1 := by rw [← e20]; exact q_subI (x := x2.toInt) (y := 1) rfl (by decide) (by omega) (by omega)
    have h21 := T_VR_plain (x2 := a19) (t0_0 := t0_0) (t0_1 := t0_1) (t0_2 := t0_2) (t0_3 := t0_3) (t0_4 := t0_4) (t0_5 := t0_5) (t0_6 := t0_6) (t0_7 := t0_7) (t0_8 := t0_8) (t0_9 := t0_9) (t0_10 := t0_10) (t0_11 := t0_11) (t0_12 := t0_12) (t0_13 := t0_13) (t0_14 := t0_14) (t0_15 := t0_15) (t0_16 := t0_16) (t0_17 := t0_17) (t0_18 := t0_18) (t0_19 := t0_19) (t0_20 := t0_20) (t0_21 := t0_21) (t1_0 := t1_0) (t2_0 := t2_0) ⟨by omega, by omega⟩ ⟨by omega, by omega⟩ ⟨by omega, by omega⟩ ⟨by first | omega | decide, by first | omega | decide⟩
    with_reducible refine v_owe h21.1 ?_
    replace h21 := h21.2
    generalize F_VR_plain a19 t0_0 t0_1 t0_2 t0_3 t0_4 t0_5 t0_6 t0_7 t0_8 t0_9 t0_10 t0_11 t0_12 t0_13 t0_14 t0_15 t0_16 t0_17 t0_18 t0_19 t0_20 t0_21 t1_0 t2_0 = p465 at *
    unfold Q_VR_plain at h21
    obtain ⟨kp465, h2117⟩ := h21
    unfold S_VR_general_c11 F_VR_general_c11
    refine ⟨trivial, ?_⟩
    (unfold Q_VR_general; dsimp only; exact ⟨kp465.trans (vrK.refl'), ⟨by omega, by omega⟩⟩)
