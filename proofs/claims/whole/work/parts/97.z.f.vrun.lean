/-! DirectiveRows: run, print, text and the other arguments -/
def Q_VR_run (p : Int32 × Int32 × Int32 × Int32 × Int32 × Int32 × Int32 × Int32 × Int32 × Int32 × Int32 × Int32 × Int32 × Int32 × Int32 × Int32 × Int32 × Int32 × (Nat → Int32) × (Nat → Int32) × (Nat → Int32)) : Prop := 0 ≤ p.2.1.toInt ∧ p.2.1.toInt ≤ 4096
theorem vv_r2 {K_F_VR_run_L27 : Int32 → Int32 → Int32 → Int32 → Int32 → Int32 → Int32 → Int32 → Int32 → Int32 → Int32 → Int32 → Int32 → Int32 → Int32 → Int32 → (Nat → Int32) → (Nat → Int32) → Int32 → (Nat → Int32) → (Int32 × Int32 × Int32 × Int32 × Int32 × Int32 × Int32 × Int32 × Int32 × Int32 × Int32 × Int32 × Int32 × Int32 × Int32 × Int32 × Int32 × Int32 × (Nat → Int32) × (Nat → Int32) × (Nat → Int32))} {t0_0 : Int32} {t0_1 : Int32} {t0_2 : Int32} {t0_3 : Int32} {t0_4 : Int32} {t0_5 : Int32} {t0_6 : Int32} {t0_7 : Int32} {t0_8 : Int32} {t0_9 : Int32} {t0_10 : Int32} {t0_11 : Int32} {t0_12 : Int32} {t0_13 : Int32} {t0_14 : Int32} {t0_15 : Int32} {t0_16 : Int32} {t0_17 : Int32} {t0_18 : Int32} {t0_19 : Int32} {t0_20 : Int32} {t0_21 : Int32} {t1_0 : (Nat → Int32)} {t2_0 : (Nat → Int32)} {t3_0 : (Nat → Int32)} {t4_0 : (Nat → Int64)} {t5_0 : (Nat → Int32)} {t6_0 : (Nat → Int32)} {t7_0 : (Nat → Int32)} {t8_0 : (Nat → Int32)} {lx62 : Int32} {lx63 : Int32} {lx64 : Int32} {lx65 : Int32} {lx66 : Int32} {lx67 : Int32} {lx68 : Int32} {lx69 : Int32} {lx70 : Int32} {lx71 : Int32} {lx72 : Int32} {lx73 : Int32} {lx74 : Int32} {lx75 : Int32} {lx76 : Int32} {lx77 : Int32} {lx78 : (Nat → Int32)} {lx79 : (Nat → Int32)} {lx80 : Int32} {lx81 : (Nat → Int32)} {lx114 : Int32} {lx115 : Int32} {lx116 : Int32} {lx117 : Int32} {lx118 : Int32} {lx119 : Int32} {lx120 : Int32} {lx121 : Int32} {lx122 : Int32} {lx123 : Int32} {lx124 : Int32} {lx125 : Int32} {lx126 : Int32} {lx127 : Int32} {lx128 : Int32} {lx129 : Int32} {lx130 : (Nat → Int32)} {lx131 : (Nat → Int32)} {K_S_VR_run_L27 : Int32 → Int32 → Int32 → Int32 → Int32 → Int32 → Int32 → Int32 → Int32 → Int32 → Int32 → Int32 → Int32 → Int32 → Int32 → Int32 → (Nat → Int32) → (Nat → Int32) → Int32 → (Nat → Int32) → Prop} (hK : ∀ (d : Int32) (f : Nat → Int32), 0 ≤ d.toInt ∧ d.toInt ≤ 4096 → K_S_VR_run_L27 lx114 lx115 lx116 lx117 lx118 lx119 lx120 lx121 lx122 lx123 lx124 lx125 lx126 lx127 lx128 lx129 lx130 lx131 d f ∧ Q_VR_run (K_F_VR_run_L27 lx114 lx115 lx116 lx117 lx118 lx119 lx120 lx121 lx122 lx123 lx124 lx125 lx126 lx127 lx128 lx129 lx130 lx131 d f)) (hA80 : 0 ≤ lx80.toInt ∧ lx80.toInt ≤ 4096) (hA125 : 0 ≤ lx125.toInt ∧ lx125.toInt ≤ 10400) (hA4 : lx80.toInt + lx125.toInt ≤ 4096)  : ∀ (n : Nat) (lx159 : Int32) (lx160 : Int32) (lx161 : (Nat → Int32)), (0 ≤ lx159.toInt ∧ lx159.toInt ≤ lx125.toInt) → (lx160.toInt = lx80.toInt + lx159.toInt) → (4096 - lx159.toInt < (n : Int)) → (S_VR_run_L145 K_S_VR_run_L27 t0_0 t0_1 t0_2 t0_3 t0_4 t0_5 t0_6 t0_7 t0_8 t0_9 t0_10 t0_11 t0_12 t0_13 t0_14 t0_15 t0_16 t0_17 t0_18 t0_19 t0_20 t0_21 t1_0 t2_0 t3_0 t4_0 t5_0 t6_0 t7_0 t8_0 lx62 lx63 lx64 lx65 lx66 lx67 lx68 lx69 lx70 lx71 lx72 lx73 lx74 lx75 lx76 lx77 lx78 lx79 lx80 lx81 lx114 lx115 lx116 lx117 lx118 lx119 lx120 lx121 lx122 lx123 lx124 lx125 lx126 lx127 lx128 lx129 lx130 lx131 n lx159 lx160 lx161) ∧ Q_VR_run (F_VR_run_L145 K_F_VR_run_L27 t0_0 t0_1 t0_2 t0_3 t0_4 t0_5 t0_6 t0_7 t0_8 t0_9 t0_10 t0_11 t0_12 t0_13 t0_14 t0_15 t0_16 t0_17 t0_18 t0_19 t0_20 t0_21 t1_0 t2_0 t3_0 t4_0 t5_0 t6_0 t7_0 t8_0 lx62 lx63 lx64 lx65 lx66 lx67 lx68 lx69 lx70 lx71 lx72 lx73 lx74 lx75 lx76 lx77 lx78 lx79 lx80 lx81 lx114 lx115 lx116 lx117 lx118 lx119 lx120 lx121 lx122 lx123 lx124 lx125 lx126 lx127 lx128 lx129 lx130 lx131 n lx159 lx160 lx161) := by
  intro n
  induction n with
  | zero => intro lx159 lx160 lx161 hA0 hs hm; exact absurd (show False by omega) id
  | succ n ih =>
    intro lx159 lx160 lx161 hA0 hs hm
    have e0 : (0 : Int32).toInt = 0 := rfl
    have e1 : (1 : Int32).toInt = 1 := rfl
    have eL0 : (0 : Int64).toInt = 0 := rfl
    have em : (-1 : Int32).toInt = -1 := rfl
    rw [S_VR_run_L145.eq_2, F_VR_run_L145.eq_2]
    by_cases g1 : lx125 ≤ lx159
    ·
      rw [if_pos g1, if_pos g1]
      have g1i : lx125.toInt ≤ lx159.toInt := q_leI g1
      exact hK _ _ ⟨by omega, by omega⟩
    ·
      rw [if_neg g1, if_neg g1]
      have g1i : lx159.toInt < lx125.toInt := q_nleI g1
      refine v_cons (by first | omega | decide) ?_
      obtain ⟨a2, e3⟩ := q_nm (lx159 + 1 : Int32)
      rw [e3]
      have a2i : a2.toInt = lx159.toInt + 1 := by rw [← e3]; exact q_addI (x := lx159.toInt) (y := 1) rfl (by decide) (by omega) (by omega)
      obtain ⟨a4, e5⟩ := q_nm (lx160 + 1 : Int32)
      rw [e5]
      have a4i : a4.toInt = lx160.toInt + 1 := by rw [← e5]; exact q_addI (x := lx160.toInt) (y := 1) rfl (by decide) (by omega) (by omega)
      exact ih _ _ _ ⟨by omega, by omega⟩ (by omega) (by omega)
theorem T_VR_r120 {K_F_VR_run_L27 : Int32 → Int32 → Int32 → Int32 → Int32 → Int32 → Int32 → Int32 → Int32 → Int32 → Int32 → Int32 → Int32 → Int32 → Int32 → Int32 → (Nat → Int32) → (Nat → Int32) → Int32 → (Nat → Int32) → (Int32 × Int32 × Int32 × Int32 × Int32 × Int32 × Int32 × Int32 × Int32 × Int32 × Int32 × Int32 × Int32 × Int32 × Int32 × Int32 × Int32 × Int32 × (Nat → Int32) × (Nat → Int32) × (Nat → Int32))} {t0_0 : Int32} {t0_1 : Int32} {t0_2 : Int32} {t0_3 : Int32} {t0_4 : Int32} {t0_5 : Int32} {t0_6 : Int32} {t0_7 : Int32} {t0_8 : Int32} {t0_9 : Int32} {t0_10 : Int32} {t0_11 : Int32} {t0_12 : Int32} {t0_13 : Int32} {t0_14 : Int32} {t0_15 : Int32} {t0_16 : Int32} {t0_17 : Int32} {t0_18 : Int32} {t0_19 : Int32} {t0_20 : Int32} {t0_21 : Int32} {t1_0 : (Nat → Int32)} {t2_0 : (Nat → Int32)} {t3_0 : (Nat → Int32)} {t4_0 : (Nat → Int64)} {t5_0 : (Nat → Int32)} {t6_0 : (Nat → Int32)} {t7_0 : (Nat → Int32)} {t8_0 : (Nat → Int32)} {lx62 : Int32} {lx63 : Int32} {lx64 : Int32} {lx65 : Int32} {lx66 : Int32} {lx67 : Int32} {lx68 : Int32} {lx69 : Int32} {lx70 : Int32} {lx71 : Int32} {lx72 : Int32} {lx73 : Int32} {lx74 : Int32} {lx75 : Int32} {lx76 : Int32} {lx77 : Int32} {lx78 : (Nat → Int32)} {lx79 : (Nat → Int32)} {lx80 : Int32} {lx81 : (Nat → Int32)} {lx114 : Int32} {lx115 : Int32} {lx116 : Int32} {lx117 : Int32} {lx118 : Int32} {lx119 : Int32} {lx120 : Int32} {lx121 : Int32} {lx122 : Int32} {lx123 : Int32} {lx124 : Int32} {lx125 : Int32} {lx126 : Int32} {lx127 : Int32} {lx128 : Int32} {lx129 : Int32} {lx130 : (Nat → Int32)} {lx131 : (Nat → Int32)} {K_S_VR_run_L27 : Int32 → Int32 → Int32 → Int32 → Int32 → Int32 → Int32 → Int32 → Int32 → Int32 → Int32 → Int32 → Int32 → Int32 → Int32 → Int32 → (Nat → Int32) → (Nat → Int32) → Int32 → (Nat → Int32) → Prop} (hK : ∀ (d : Int32) (f : Nat → Int32), 0 ≤ d.toInt ∧ d.toInt ≤ 4096 → K_S_VR_run_L27 lx114 lx115 lx116 lx117 lx118 lx119 lx120 lx121 lx122 lx123 lx124 lx125 lx126 lx127 lx128 lx129 lx130 lx131 d f ∧ Q_VR_run (K_F_VR_run_L27 lx114 lx115 lx116 lx117 lx118 lx119 lx120 lx121 lx122 lx123 lx124 lx125 lx126 lx127 lx128 lx129 lx130 lx131 d f)) (hA80 : 0 ≤ lx80.toInt ∧ lx80.toInt ≤ 4096) (hA125 : 0 ≤ lx125.toInt ∧ lx125.toInt ≤ 10400)  : (S_VR_run_J120 K_S_VR_run_L27 t0_0 t0_1 t0_2 t0_3 t0_4 t0_5 t0_6 t0_7 t0_8 t0_9 t0_10 t0_11 t0_12 t0_13 t0_14 t0_15 t0_16 t0_17 t0_18 t0_19 t0_20 t0_21 t1_0 t2_0 t3_0 t4_0 t5_0 t6_0 t7_0 t8_0 lx62 lx63 lx64 lx65 lx66 lx67 lx68 lx69 lx70 lx71 lx72 lx73 lx74 lx75 lx76 lx77 lx78 lx79 lx80 lx81 lx114 lx115 lx116 lx117 lx118 lx119 lx120 lx121 lx122 lx123 lx124 lx125 lx126 lx127 lx128 lx129 lx130 lx131) ∧ Q_VR_run (F_VR_run_J120 K_F_VR_run_L27 t0_0 t0_1 t0_2 t0_3 t0_4 t0_5 t0_6 t0_7 t0_8 t0_9 t0_10 t0_11 t0_12 t0_13 t0_14 t0_15 t0_16 t0_17 t0_18 t0_19 t0_20 t0_21 t1_0 t2_0 t3_0 t4_0 t5_0 t6_0 t7_0 t8_0 lx62 lx63 lx64 lx65 lx66 lx67 lx68 lx69 lx70 lx71 lx72 lx73 lx74 lx75 lx76 lx77 lx78 lx79 lx80 lx81 lx114 lx115 lx116 lx117 lx118 lx119 lx120 lx121 lx122 lx123 lx124 lx125 lx126 lx127 lx128 lx129 lx130 lx131) := by
  have e0 : (0 : Int32).toInt = 0 := rfl
  have e1 : (1 : Int32).toInt = 1 := rfl
  have eL0 : (0 : Int64).toInt = 0 := rfl
  have em : (-1 : Int32).toInt = -1 := rfl
  unfold S_VR_run_J120 F_VR_run_J120
  obtain ⟨a1, e2⟩ := q_nm (lx80 + lx125 : Int32)
  rw [e2]
  have a1i : a1.toInt = lx80.toInt + lx125.toInt := by rw [← e2]; exact q_addI (x := lx80.toInt) (y := lx125.toInt) rfl rfl (by omega) (by omega)
  by_cases g3 : a1 ≤ (4096 : Int32)
  ·
    rw [if_pos g3, if_pos g3]
    have g3i : a1.toInt ≤ 4096 := q_leI g3
    exact vv_r2 hK hA80 hA125 (by omega) _ _ _ _ ⟨by decide, by omega⟩ (by omega) (by omega)
  ·
    rw [if_neg g3, if_neg g3]
    have g3i : 4096 < a1.toInt := q_nleI g3
    refine ⟨trivial, ?_⟩
    (unfold Q_VR_run; dsimp only; exact ⟨by omega, by omega⟩)
theorem vv_r1 {t0_0 : Int32} {t0_1 : Int32} {t0_2 : Int32} {t0_3 : Int32} {t0_4 : Int32} {t0_5 : Int32} {t0_6 : Int32} {t0_7 : Int32} {t0_8 : Int32} {t0_9 : Int32} {t0_10 : Int32} {t0_11 : Int32} {t0_12 : Int32} {t0_13 : Int32} {t0_14 : Int32} {t0_15 : Int32} {t0_16 : Int32} {t0_17 : Int32} {t0_18 : Int32} {t0_19 : Int32} {t0_20 : Int32} {t0_21 : Int32} {t1_0 : (Nat → Int32)} {t2_0 : (Nat → Int32)} {t3_0 : (Nat → Int32)} {t4_0 : (Nat → Int64)} {t5_0 : (Nat → Int32)} {t6_0 : (Nat → Int32)} {t7_0 : (Nat → Int32)} {t8_0 : (Nat → Int32)} (hZ : ∀ i, i < 9 → 0 ≤ (t3_0 i).toInt ∧ (t3_0 i).toInt ≤ 64) (hA1 : t0_1.toInt ≤ 256) (hA2 : t0_2.toInt ≤ 9)  : ∀ (n : Nat) (lx62 : Int32) (lx63 : Int32) (lx64 : Int32) (lx65 : Int32) (lx66 : Int32) (lx67 : Int32) (lx68 : Int32) (lx69 : Int32) (lx70 : Int32) (lx71 : Int32) (lx72 : Int32) (lx73 : Int32) (lx74 : Int32) (lx75 : Int32) (lx76 : Int32) (lx77 : Int32) (lx78 : (Nat → Int32)) (lx79 : (Nat → Int32)) (lx80 : Int32) (lx81 : (Nat → Int32)), (0 ≤ lx63.toInt ∧ lx63.toInt ≤ 256) → (0 ≤ lx80.toInt ∧ lx80.toInt ≤ 4096) → (256 - lx63.toInt < (n : Int)) → (S_VR_run_L27 t0_0 t0_1 t0_2 t0_3 t0_4 t0_5 t0_6 t0_7 t0_8 t0_9 t0_10 t0_11 t0_12 t0_13 t0_14 t0_15 t0_16 t0_17 t0_18 t0_19 t0_20 t0_21 t1_0 t2_0 t3_0 t4_0 t5_0 t6_0 t7_0 t8_0 n lx62 lx63 lx64 lx65 lx66 lx67 lx68 lx69 lx70 lx71 lx72 lx73 lx74 lx75 lx76 lx77 lx78 lx79 lx80 lx81) ∧ Q_VR_run (F_VR_run_L27 t0_0 t0_1 t0_2 t0_3 t0_4 t0_5 t0_6 t0_7 t0_8 t0_9 t0_10 t0_11 t0_12 t0_13 t0_14 t0_15 t0_16 t0_17 t0_18 t0_19 t0_20 t0_21 t1_0 t2_0 t3_0 t4_0 t5_0 t6_0 t7_0 t8_0 n lx62 lx63 lx64 lx65 lx66 lx67 lx68 lx69 lx70 lx71 lx72 lx73 lx74 lx75 lx76 lx77 lx78 lx79 lx80 lx81) := by
  intro n
  induction n with
  | zero => intro lx62 lx63 lx64 lx65 lx66 lx67 lx68 lx69 lx70 lx71 lx72 lx73 lx74 lx75 lx76 lx77 lx78 lx79 lx80 lx81 hA0 hA80 hm; exact absurd (show False by omega) id
  | succ n ih =>
    intro lx62 lx63 lx64 lx65 lx66 lx67 lx68 lx69 lx70 lx71 lx72 lx73 lx74 lx75 lx76 lx77 lx78 lx79 lx80 lx81 hA0 hA80 hm
    have e0 : (0 : Int32).toInt = 0 := rfl
    have e1 : (1 : Int32).toInt = 1 := rfl
    have eL0 : (0 : Int64).toInt = 0 := rfl
    have em : (-1 : Int32).toInt = -1 := rfl
    rw [S_VR_run_L27.eq_2, F_VR_run_L27.eq_2]
    by_cases g1 : t0_1 ≤ lx63
    ·
      rw [if_pos g1, if_pos g1]
      have g1i : t0_1.toInt ≤ lx63.toInt := q_leI g1
      refine ⟨trivial, ?_⟩
      (unfold Q_VR_run; dsimp only; exact ⟨by omega, by omega⟩)
    ·
      rw [if_neg g1, if_neg g1]
      have g1i : lx63.toInt < t0_1.toInt := q_nleI g1
      have h2 := T_VR_here (t0_0 := t0_0) (t0_1 := t0_1) (t0_2 := t0_2) (t0_3 := t0_3) (t0_4 := lx80) (t0_5 := lx62) (t0_6 := t0_6) (t0_7 := lx63) (t0_8 := lx64) (t0_9 := lx65) (t0_10 := lx66) (t0_11 := lx67) (t0_12 := lx68) (t0_13 := lx69) (t0_14 := lx70) (t0_15 := lx71) (t0_16 := lx72) (t0_17 := lx73) (t0_18 := lx74) (t0_19 := lx75) (t0_20 := lx76) (t0_21 := lx77) (t1_0 := t1_0) (by omega)
      with_reducible refine v_owe h2 ?_
      by_cases g3 : ((F_VR_here t0_0 t0_1 t0_2 t0_3 lx80 lx62 t0_6 lx63 lx64 lx65 lx66 lx67 lx68 lx69 lx70 lx71 lx72 lx73 lx74 lx75 lx76 lx77 t1_0) : Int32) = (37 : Int32)
      ·
        rw [if_pos g3, if_pos g3]
        obtain ⟨a4, e5⟩ := q_nm (lx63 + 1 : Int32)
        rw [e5]
        have a4i : a4.toInt = lx63.toInt + 1 := by rw [← e5]; exact q_addI (x := lx63.toInt) (y := 1) rfl (by decide) (by omega) (by omega)
        have h6 := T_VR_take (t0_0 := t0_0) (t0_1 := t0_1) (t0_2 := t0_2) (t0_3 := t0_3) (t0_4 := lx80) (t0_5 := lx62) (t0_6 := t0_6) (t0_7 := a4) (t0_8 := lx64) (t0_9 := lx65) (t0_10 := lx66) (t0_11 := lx67) (t0_12 := lx68) (t0_13 := lx69) (t0_14 := lx70) (t0_15 := lx71) (t0_16 := lx72) (t0_17 := lx73) (t0_18 := lx74) (t0_19 := lx75) (t0_20 := lx76) (t0_21 := lx77) (t1_0 := t1_0) hA1 ⟨by omega, by omega⟩
        with_reducible refine v_owe h6.1 ?_
        replace h6 := h6.2
        generalize F_VR_take t0_0 t0_1 t0_2 t0_3 lx80 lx62 t0_6 a4 lx64 lx65 lx66 lx67 lx68 lx69 lx70 lx71 lx72 lx73 lx74 lx75 lx76 lx77 t1_0 = p229 at *
        unfold Q_VR_take at h6
        unfold S_VR_run_c96 F_VR_run_c96
        have h7 := T_VR_looked (t0_0 := t0_0) (t0_1 := t0_1) (t0_2 := t0_2) (t0_3 := t0_3) (t0_4 := lx80) (t0_5 := lx62) (t0_6 := t0_6) (t0_7 := (p229.1 : Int32)) (t0_8 := (p229.2.1 : Int32)) (t0_9 := (p229.2.2.1 : Int32)) (t0_10 := (p229.2.2.2.1 : Int32)) (t0_11 := (p229.2.2.2.2.1 : Int32)) (t0_12 := (p229.2.2.2.2.2.1 : Int32)) (t0_13 := (p229.2.2.2.2.2.2 : Int32)) (t0_14 := lx70) (t0_15 := lx71) (t0_16 := lx72) (t0_17 := lx73) (t0_18 := lx74) (t0_19 := lx75) (t0_20 := lx76) (t0_21 := lx77) (t1_0 := t2_0) (t2_0 := t3_0) (t3_0 := t4_0) hA2
        generalize F_VR_looked t0_0 t0_1 t0_2 t0_3 lx80 lx62 t0_6 (p229.1 : Int32) (p229.2.1 : Int32) (p229.2.2.1 : Int32) (p229.2.2.2.1 : Int32) (p229.2.2.2.2.1 : Int32) (p229.2.2.2.2.2.1 : Int32) (p229.2.2.2.2.2.2 : Int32) lx70 lx71 lx72 lx73 lx74 lx75 lx76 lx77 t2_0 t3_0 t4_0 = p255 at *
        have kp255 := h7
        unfold S_VR_run_c101 F_VR_run_c101
        by_cases g8 : (p255.1 : Int32) ≤ (0 : Int32)
        ·
          rw [if_pos g8, if_pos g8]
          have hle := q_leI g8
          have h9 := T_VR_make (t0_0 := t0_0) (t0_1 := t0_1) (t0_2 := t0_2) (t0_3 := t0_3) (t0_4 := lx80) (t0_5 := (p255.1 : Int32)) (t0_6 := t0_6) (t0_7 := (p229.1 : Int32)) (t0_8 := (p229.2.1 : Int32)) (t0_9 := (p229.2.2.1 : Int32)) (t0_10 := (p229.2.2.2.1 : Int32)) (t0_11 := (p229.2.2.2.2.1 : Int32)) (t0_12 := (p229.2.2.2.2.2.1 : Int32)) (t0_13 := (p229.2.2.2.2.2.2 : Int32)) (t0_14 := (p255.2.1 : Int32)) (t0_15 := (p255.2.2.1 : Int32)) (t0_16 := (p255.2.2.2 : Int32)) (t0_17 := lx73) (t0_18 := lx74) (t0_19 := lx75) (t0_20 := lx76) (t0_21 := lx77) (t1_0 := t2_0) (t2_0 := t3_0) (t3_0 := t4_0) (t4_0 := t5_0) (t5_0 := lx78) (t6_0 := lx79) hZ ⟨by omega, by omega⟩ (by omega) (fun a b => kp255 hle (by rwa [vr_sm] at a) (by rwa [vr_sm] at b))
          with_reducible refine v_owe h9.1 ?_
          replace h9 := h9.2
          generalize F_VR_make t0_0 t0_1 t0_2 t0_3 lx80 (p255.1 : Int32) t0_6 (p229.1 : Int32) (p229.2.1 : Int32) (p229.2.2.1 : Int32) (p229.2.2.2.1 : Int32) (p229.2.2.2.2.1 : Int32) (p229.2.2.2.2.2.1 : Int32) (p229.2.2.2.2.2.2 : Int32) (p255.2.1 : Int32) (p255.2.2.1 : Int32) (p255.2.2.2 : Int32) lx73 lx74 lx75 lx76 lx77 t2_0 t3_0 t4_0 t5_0 lx78 lx79 = p288 at *
          unfold Q_VR_make at h9
          unfold S_VR_run_c117 F_VR_run_c117
          exact T_VR_r120 (fun d f hd => ih _ _ _ _ _ _ _ _ _ _ _ _ _ _ _ _ _ _ _ _ ⟨by omega, by omega⟩ hd (by omega)) ⟨by omega, by omega⟩ ⟨by omega, by omega⟩
        ·
          rw [if_neg g8, if_neg g8]
          refine ⟨trivial, ?_⟩
          (unfold Q_VR_run; dsimp only; exact ⟨by omega, by omega⟩)
      ·
        rw [if_neg g3, if_neg g3]
        have h10 := T_VR_here (t0_0 := t0_0) (t0_1 := t0_1) (t0_2 := t0_2) (t0_3 := t0_3) (t0_4 := lx80) (t0_5 := lx62) (t0_6 := t0_6) (t0_7 := lx63) (t0_8 := lx64) (t0_9 := lx65) (t0_10 := lx66) (t0_11 := lx67) (t0_12 := lx68) (t0_13 := lx69) (t0_14 := lx70) (t0_15 := lx71) (t0_16 := lx72) (t0_17 := (1 : Int32)) (t0_18 := lx74) (t0_19 := lx75) (t0_20 := lx76) (t0_21 := lx77) (t1_0 := t1_0) (by omega)
        with_reducible refine v_owe h10 ?_
        have eK : (lx63 + 1 : Int32).toInt = lx63.toInt + 1 := q_addI (y := 1) rfl (by decide) (by omega) (by omega); exact T_VR_r120 (fun d f hd => ih _ _ _ _ _ _ _ _ _ _ _ _ _ _ _ _ _ _ _ _ ⟨by omega, by omega⟩ hd (by omega)) ⟨by omega, by omega⟩ (by decide)
theorem T_VR_run {t0_0 : Int32} {t0_1 : Int32} {t0_2 : Int32} {t0_3 : Int32} {t0_4 : Int32} {t0_5 : Int32} {t0_6 : Int32} {t0_7 : Int32} {t0_8 : Int32} {t0_9 : Int32} {t0_10 : Int32} {t0_11 : Int32} {t0_12 : Int32} {t0_13 : Int32} {t0_14 : Int32} {t0_15 : Int32} {t0_16 : Int32} {t0_17 : Int32} {t0_18 : Int32} {t0_19 : Int32} {t0_20 : Int32} {t0_21 : Int32} {t1_0 : (Nat → Int32)} {t2_0 : (Nat → Int32)} {t3_0 : (Nat → Int32)} {t4_0 : (Nat → Int64)} {t5_0 : (Nat → Int32)} {t6_0 : (Nat → Int32)} {t7_0 : (Nat → Int32)} {t8_0 : (Nat → Int32)} (hZ : ∀ i, i < 9 → 0 ≤ (t3_0 i).toInt ∧ (t3_0 i).toInt ≤ 64) (hA1 : t0_1.toInt ≤ 256) (hA2 : t0_2.toInt ≤ 9)  : (S_VR_run t0_0 t0_1 t0_2 t0_3 t0_4 t0_5 t0_6 t0_7 t0_8 t0_9 t0_10 t0_11 t0_12 t0_13 t0_14 t0_15 t0_16 t0_17 t0_18 t0_19 t0_20 t0_21 t1_0 t2_0 t3_0 t4_0 t5_0 t6_0 t7_0 t8_0) ∧ Q_VR_run (F_VR_run t0_0 t0_1 t0_2 t0_3 t0_4 t0_5 t0_6 t0_7 t0_8 t0_9 t0_10 t0_11 t0_12 t0_13 t0_14 t0_15 t0_16 t0_17 t0_18 t0_19 t0_20 t0_21 t1_0 t2_0 t3_0 t4_0 t5_0 t6_0 t7_0 t8_0) := by
  have e0 : (0 : Int32).toInt = 0 := rfl
  have e1 : (1 : Int32).toInt = 1 := rfl
  have eL0 : (0 : Int64).toInt = 0 := rfl
  have em : (-1 : Int32).toInt = -1 := rfl
  unfold S_VR_run F_VR_run
  exact vv_r1 hZ hA1 hA2 _ _ _ _ _ _ _ _ _ _ _ _ _ _ _ _ _ _ _ _ _ (by decide) (by decide) (by decide)
def Q_VR_print (p : Int32 × Int32 × Int32 × Int32 × Int32 × Int32 × Int32 × Int32 × Int32 × Int32 × Int32 × Int32 × Int32 × Int32 × Int32 × Int32 × Int32 × Int32 × Int32 × Int32 × Int32 × (Nat → Int32) × (Nat → Int32) × (Nat → Int32) × (Nat → Int32)) : Prop := p.1.toInt ≤ 4096
theorem vv_pr {t0_0 : Int32} {t0_1 : Int32} {t0_2 : Int32} {t0_3 : Int32} {t0_4 : Int32} {t0_5 : Int32} {t0_6 : Int32} {t0_7 : Int32} {t0_8 : Int32} {t0_9 : Int32} {t0_10 : Int32} {t0_11 : Int32} {t0_12 : Int32} {t0_13 : Int32} {t0_14 : Int32} {t0_15 : Int32} {t0_16 : Int32} {t0_17 : Int32} {t0_18 : Int32} {t0_19 : Int32} {t0_20 : Int32} {t0_21 : Int32} {t1_0 : (Nat → Int32)} {t2_0 : (Nat → Int32)} {t3_0 : (Nat → Int32)} {t4_0 : (Nat → Int64)} {t5_0 : (Nat → Int32)} {t6_0 : (Nat → Int32)} {t7_0 : (Nat → Int32)} {t8_0 : (Nat → Int32)} {t9_0 : (Nat → Int32)} {p96 : (Int32 × Int32 × Int32 × Int32 × Int32 × Int32 × Int32 × Int32 × Int32 × Int32 × Int32 × Int32 × Int32 × Int32 × Int32 × Int32 × Int32 × Int32 × (Nat → Int32) × (Nat → Int32) × (Nat → Int32))} {y62 : Int32} {y63 : Int32} {a60 : Int32} {y64 : Int32} {y65 : Int32} {y66 : Int32} {y67 : Int32} {y68 : Int32} {y69 : Int32} {y70 : Int32} {y71 : Int32} {y72 : Int32} {y73 : Int32} {y74 : Int32} {y75 : Int32} {y76 : Int32} {y77 : Int32} {y78 : Int32} {f79 : (Nat → Int32)} {f81 : (Nat → Int32)} {f83 : (Nat → Int32)} {lx126 : Int32} (hy : 0 ≤ y62.toInt ∧ y62.toInt ≤ 4096) (hA6 : lx126.toInt ≤ 4096) : ∀ (n : Nat) (lx151 : Int32) (lx152 : (Nat → Int32)), (0 ≤ lx151.toInt ∧ lx151.toInt ≤ 4096) → (4096 - lx151.toInt < (n : Int)) → (S_VR_print_L43 t0_0 t0_1 t0_2 t0_3 t0_4 t0_5 t0_6 t0_7 t0_8 t0_9 t0_10 t0_11 t0_12 t0_13 t0_14 t0_15 t0_16 t0_17 t0_18 t0_19 t0_20 t0_21 t1_0 t2_0 t3_0 t4_0 t5_0 t6_0 t7_0 t8_0 t9_0 p96 y62 y63 a60 y64 y65 y66 y67 y68 y69 y70 y71 y72 y73 y74 y75 y76 y77 y78 f79 f81 f83 lx126 n lx151 lx152) ∧ Q_VR_print (F_VR_print_L43 t0_0 t0_1 t0_2 t0_3 t0_4 t0_5 t0_6 t0_7 t0_8 t0_9 t0_10 t0_11 t0_12 t0_13 t0_14 t0_15 t0_16 t0_17 t0_18 t0_19 t0_20 t0_21 t1_0 t2_0 t3_0 t4_0 t5_0 t6_0 t7_0 t8_0 t9_0 p96 y62 y63 a60 y64 y65 y66 y67 y68 y69 y70 y71 y72 y73 y74 y75 y76 y77 y78 f79 f81 f83 lx126 n lx151 lx152) := by
  intro n
  induction n with
  | zero => intro lx151 lx152 hA0 hm; exact absurd (show False by omega) id
  | succ n ih =>
    intro lx151 lx152 hA0 hm
    have e0 : (0 : Int32).toInt = 0 := rfl
    have e1 : (1 : Int32).toInt = 1 := rfl
    have eL0 : (0 : Int64).toInt = 0 := rfl
    have em : (-1 : Int32).toInt = -1 := rfl
    rw [S_VR_print_L43.eq_2, F_VR_print_L43.eq_2]
    by_cases g1 : y62 ≤ lx151
    ·
      rw [if_pos g1, if_pos g1]
      have g1i : y62.toInt ≤ lx151.toInt := q_leI g1
      refine ⟨trivial, ?_⟩
      exact (show lx126.toInt ≤ 4096 from by first | omega | decide)
    ·
      rw [if_neg g1, if_neg g1]
      have g1i : lx151.toInt < y62.toInt := q_nleI g1
      refine v_cons (by first | omega | decide) ?_
      obtain ⟨a2, e3⟩ := q_nm (lx151 + 1 : Int32)
      rw [e3]
      have a2i : a2.toInt = lx151.toInt + 1 := by rw [← e3]; exact q_addI (x := lx151.toInt) (y := 1) rfl (by decide) (by omega) (by omega)
      exact ih _ _ ⟨by omega, by omega⟩ (by omega)
theorem T_VR_print {t0_0 : Int32} {t0_1 : Int32} {t0_2 : Int32} {t0_3 : Int32} {t0_4 : Int32} {t0_5 : Int32} {t0_6 : Int32} {t0_7 : Int32} {t0_8 : Int32} {t0_9 : Int32} {t0_10 : Int32} {t0_11 : Int32} {t0_12 : Int32} {t0_13 : Int32} {t0_14 : Int32} {t0_15 : Int32} {t0_16 : Int32} {t0_17 : Int32} {t0_18 : Int32} {t0_19 : Int32} {t0_20 : Int32} {t0_21 : Int32} {t1_0 : (Nat → Int32)} {t2_0 : (Nat → Int32)} {t3_0 : (Nat → Int32)} {t4_0 : (Nat → Int64)} {t5_0 : (Nat → Int32)} {t6_0 : (Nat → Int32)} {t7_0 : (Nat → Int32)} {t8_0 : (Nat → Int32)} {t9_0 : (Nat → Int32)} (hZ : ∀ i, i < 9 → 0 ≤ (t3_0 i).toInt ∧ (t3_0 i).toInt ≤ 64) (hA1 : t0_1.toInt ≤ 256) (hA2 : t0_2.toInt ≤ 9)  : (S_VR_print t0_0 t0_1 t0_2 t0_3 t0_4 t0_5 t0_6 t0_7 t0_8 t0_9 t0_10 t0_11 t0_12 t0_13 t0_14 t0_15 t0_16 t0_17 t0_18 t0_19 t0_20 t0_21 t1_0 t2_0 t3_0 t4_0 t5_0 t6_0 t7_0 t8_0 t9_0) ∧ Q_VR_print (F_VR_print t0_0 t0_1 t0_2 t0_3 t0_4 t0_5 t0_6 t0_7 t0_8 t0_9 t0_10 t0_11 t0_12 t0_13 t0_14 t0_15 t0_16 t0_17 t0_18 t0_19 t0_20 t0_21 t1_0 t2_0 t3_0 t4_0 t5_0 t6_0 t7_0 t8_0 t9_0) := by
  have e0 : (0 : Int32).toInt = 0 := rfl
  have e1 : (1 : Int32).toInt = 1 := rfl
  have eL0 : (0 : Int64).toInt = 0 := rfl
  have em : (-1 : Int32).toInt = -1 := rfl
  unfold S_VR_print F_VR_print
  have h1 := T_VR_run (t0_0 := (0 : Int32)) (t0_1 := t0_1) (t0_2 := t0_2) (t0_3 := t0_3) (t0_4 := t0_4) (t0_5 := t0_5) (t0_6 := t0_6) (t0_7 := t0_7) (t0_8 := t0_8) (t0_9 := t0_9) (t0_10 := t0_10) (t0_11 := t0_11) (t0_12 := t0_12) (t0_13 := t0_13) (t0_14 := t0_14) (t0_15 := t0_15) (t0_16 := t0_16) (t0_17 := t0_17) (t0_18 := t0_18) (t0_19 := t0_19) (t0_20 := t0_20) (t0_21 := t0_21) (t1_0 := t1_0) (t2_0 := t2_0) (t3_0 := t3_0) (t4_0 := t4_0) (t5_0 := t5_0) (t6_0 := t7_0) (t7_0 := t8_0) (t8_0 := t9_0) hZ hA1 hA2
  with_reducible refine v_owe h1.1 ?_
  replace h1 := h1.2
  generalize F_VR_run (0 : Int32) t0_1 t0_2 t0_3 t0_4 t0_5 t0_6 t0_7 t0_8 t0_9 t0_10 t0_11 t0_12 t0_13 t0_14 t0_15 t0_16 t0_17 t0_18 t0_19 t0_20 t0_21 t1_0 t2_0 t3_0 t4_0 t5_0 t7_0 t8_0 t9_0 = p96 at *
  unfold Q_VR_run at h1
  unfold S_VR_print_c7 F_VR_print_c7
  by_cases g2 : (p96.2.2.1 : Int32) ≤ (0 : Int32)
  ·
    rw [if_pos g2, if_pos g2]
    have g2i : p96.2.2.1.toInt ≤ 0 := q_leI g2
    unfold S_VR_print_J29 F_VR_print_J29
    refine v_cons (by first | omega | decide) ?_
    rw [if_pos g2, if_pos g2]
    exact vv_pr ⟨by omega, by omega⟩ (by first | omega | decide) _ _ _ (by decide) (by decide)
  ·
    rw [if_neg g2, if_neg g2]
    have g2i : 0 < p96.2.2.1.toInt := q_nleI g2
    unfold S_VR_print_J29 F_VR_print_J29
    refine v_cons (by first | omega | decide) ?_
    rw [if_neg g2, if_neg g2]
    refine ⟨trivial, ?_⟩
    exact (show (-1 : Int32).toInt ≤ 4096 from by first | omega | decide)
def vrZ (f : Nat → Int32) : Prop := ∀ i, i < 9 → 0 ≤ (f i).toInt ∧ (f i).toInt ≤ 64
theorem vrZ.put {f : Nat → Int32} {k : Nat} {x : Int32} (h : vrZ f) (hx : 0 ≤ x.toInt ∧ x.toInt ≤ 64) : vrZ (upd f k x) := fun i hi => by
  unfold upd
  split
  · exact hx
  · exact h i hi
def Q_VR_enter (t : Nat → Int32) (p : Int32 × Int32 × Int32 × (Nat → Int32) × (Nat → Int32) × (Nat → Int64)) : Prop := (vrZ t → vrZ p.2.2.2.2.1) ∧ (0 < p.1.toInt → p.1.toInt ≤ 9)
theorem T_VR_enter {x2 : Int32} {x3 : Int32} {x4 : Int64} {t0_0 : Int32} {t0_1 : Int32} {t0_2 : Int32} {t0_3 : Int32} {t0_4 : Int32} {t0_5 : Int32} {t0_6 : Int32} {t0_7 : Int32} {t0_8 : Int32} {t0_9 : Int32} {t0_10 : Int32} {t0_11 : Int32} {t0_12 : Int32} {t0_13 : Int32} {t0_14 : Int32} {t0_15 : Int32} {t0_16 : Int32} {t0_17 : Int32} {t0_18 : Int32} {t0_19 : Int32} {t0_20 : Int32} {t0_21 : Int32} {t1_0 : (Nat → Int32)} {t2_0 : (Nat → Int32)} {t3_0 : (Nat → Int64)} (hA2 : 0 ≤ t0_2.toInt ∧ t0_2.toInt ≤ 9) (hx3 : 0 ≤ x3.toInt ∧ x3.toInt ≤ 64) : Q_VR_enter t2_0 (F_VR_enter x2 x3 x4 t0_0 t0_1 t0_2 t0_3 t0_4 t0_5 t0_6 t0_7 t0_8 t0_9 t0_10 t0_11 t0_12 t0_13 t0_14 t0_15 t0_16 t0_17 t0_18 t0_19 t0_20 t0_21 t1_0 t2_0 t3_0) := by
  have e0 : (0 : Int32).toInt = 0 := rfl
  have e1 : (1 : Int32).toInt = 1 := rfl
  have eL0 : (0 : Int64).toInt = 0 := rfl
  have em : (-1 : Int32).toInt = -1 := rfl
  have e9 : (9 : Int32).toInt = 9 := rfl
  unfold F_VR_enter
  by_cases g1 : t0_2 = (9 : Int32)
  ·
    rw [if_pos g1]
    (unfold Q_VR_enter; dsimp only; first | exact ⟨fun h => h, fun h => absurd h (by decide)⟩ | exact ⟨fun h => h.put hx3, fun _ => by have eK : (t0_2 + 1 : Int32).toInt = t0_2.toInt + 1 := q_addI (y := 1) rfl (by decide) (by omega) (by omega); omega⟩)
  ·
    rw [if_neg g1]
    have g1i : t0_2.toInt ≠ 9 := q_neI g1
    (unfold Q_VR_enter; dsimp only; first | exact ⟨fun h => h, fun h => absurd h (by decide)⟩ | exact ⟨fun h => h.put hx3, fun _ => by have eK : (t0_2 + 1 : Int32).toInt = t0_2.toInt + 1 := q_addI (y := 1) rfl (by decide) (by omega) (by omega); omega⟩)
def Q_VR_arg (t : Nat → Int32) (p : Int32 × Int32 × Int32 × (Nat → Int32) × (Nat → Int32) × (Nat → Int64)) : Prop := vrZ t → vrZ p.2.2.2.2.1
theorem T_VR_wholeA {x2 : Int32} {x3 : Int64} {t0_0 : Int32} {t0_1 : Int32} {t0_2 : Int32} {t0_3 : Int32} {t0_4 : Int32} {t0_5 : Int32} {t0_6 : Int32} {t0_7 : Int32} {t0_8 : Int32} {t0_9 : Int32} {t0_10 : Int32} {t0_11 : Int32} {t0_12 : Int32} {t0_13 : Int32} {t0_14 : Int32} {t0_15 : Int32} {t0_16 : Int32} {t0_17 : Int32} {t0_18 : Int32} {t0_19 : Int32} {t0_20 : Int32} {t0_21 : Int32} {t1_0 : (Nat → Int32)} {t2_0 : (Nat → Int32)} {t3_0 : (Nat → Int64)} (hA2 : 0 ≤ t0_2.toInt ∧ t0_2.toInt ≤ 9) (hx : 0 ≤ x2.toInt ∧ x2.toInt ≤ 64) : Q_VR_arg t2_0 (F_VR_whole_J31 x2 x3 t0_0 t0_1 t0_2 t0_3 t0_4 t0_5 t0_6 t0_7 t0_8 t0_9 t0_10 t0_11 t0_12 t0_13 t0_14 t0_15 t0_16 t0_17 t0_18 t0_19 t0_20 t0_21 t1_0 t2_0 t3_0) := by
  have e0 : (0 : Int32).toInt = 0 := rfl
  have e1 : (1 : Int32).toInt = 1 := rfl
  have eL0 : (0 : Int64).toInt = 0 := rfl
  have em : (-1 : Int32).toInt = -1 := rfl
  unfold F_VR_whole_J31
  have h1 := T_VR_enter (x2 := (3 : Int32)) (x3 := x2) (x4 := ((x3 <<< ((64 - x2 : Int32).toInt64 &&& 63) : Int64) >>> ((64 - x2 : Int32).toInt64 &&& 63) : Int64)) (t0_0 := t0_0) (t0_1 := t0_1) (t0_2 := t0_2) (t0_3 := t0_3) (t0_4 := t0_4) (t0_5 := t0_5) (t0_6 := t0_6) (t0_7 := t0_7) (t0_8 := t0_8) (t0_9 := t0_9) (t0_10 := t0_10) (t0_11 := t0_11) (t0_12 := t0_12) (t0_13 := t0_13) (t0_14 := t0_14) (t0_15 := t0_15) (t0_16 := t0_16) (t0_17 := t0_17) (t0_18 := t0_18) (t0_19 := t0_19) (t0_20 := t0_20) (t0_21 := t0_21) (t1_0 := t1_0) (t2_0 := t2_0) (t3_0 := t3_0) hA2 ⟨by first | omega | decide, by first | omega | decide⟩
  generalize F_VR_enter (3 : Int32) x2 ((x3 <<< ((64 - x2 : Int32).toInt64 &&& 63) : Int64) >>> ((64 - x2 : Int32).toInt64 &&& 63) : Int64) t0_0 t0_1 t0_2 t0_3 t0_4 t0_5 t0_6 t0_7 t0_8 t0_9 t0_10 t0_11 t0_12 t0_13 t0_14 t0_15 t0_16 t0_17 t0_18 t0_19 t0_20 t0_21 t1_0 t2_0 t3_0 = p77 at *
  unfold Q_VR_enter at h1
  have qp77 := h1
  unfold F_VR_whole_c45
  (unfold Q_VR_arg; dsimp only; exact qp77.1)
theorem T_VR_whole {x2 : Int32} {x3 : Int64} {t0_0 : Int32} {t0_1 : Int32} {t0_2 : Int32} {t0_3 : Int32} {t0_4 : Int32} {t0_5 : Int32} {t0_6 : Int32} {t0_7 : Int32} {t0_8 : Int32} {t0_9 : Int32} {t0_10 : Int32} {t0_11 : Int32} {t0_12 : Int32} {t0_13 : Int32} {t0_14 : Int32} {t0_15 : Int32} {t0_16 : Int32} {t0_17 : Int32} {t0_18 : Int32} {t0_19 : Int32} {t0_20 : Int32} {t0_21 : Int32} {t1_0 : (Nat → Int32)} {t2_0 : (Nat → Int32)} {t3_0 : (Nat → Int64)} (hA2 : 0 ≤ t0_2.toInt ∧ t0_2.toInt ≤ 9)  : Q_VR_arg t2_0 (F_VR_whole x2 x3 t0_0 t0_1 t0_2 t0_3 t0_4 t0_5 t0_6 t0_7 t0_8 t0_9 t0_10 t0_11 t0_12 t0_13 t0_14 t0_15 t0_16 t0_17 t0_18 t0_19 t0_20 t0_21 t1_0 t2_0 t3_0) := by
  have e0 : (0 : Int32).toInt = 0 := rfl
  have e1 : (1 : Int32).toInt = 1 := rfl
  have eL0 : (0 : Int64).toInt = 0 := rfl
  have em : (-1 : Int32).toInt = -1 := rfl
  have e8 : (8 : Int32).toInt = 8 := rfl
  have e16 : (16 : Int32).toInt = 16 := rfl
  have e32 : (32 : Int32).toInt = 32 := rfl
  have e64 : (64 : Int32).toInt = 64 := rfl
  have e40 : (40 : Int32).toInt = 40 := rfl
  have e255 : (255 : Int32).toInt = 255 := rfl
  unfold F_VR_whole
  by_cases g1 : x2 = (8 : Int32)
  ·
    rw [if_pos g1]
    have g1i : x2.toInt = 8 := q_eqI g1
    exact T_VR_wholeA hA2 ⟨by omega, by omega⟩
  ·
    rw [if_neg g1]
    have g1i : x2.toInt ≠ 8 := q_neI g1
    by_cases g2 : x2 = (16 : Int32)
    ·
      rw [if_pos g2]
      have g2i : x2.toInt = 16 := q_eqI g2
      exact T_VR_wholeA hA2 ⟨by omega, by omega⟩
    ·
      rw [if_neg g2]
      have g2i : x2.toInt ≠ 16 := q_neI g2
      by_cases g3 : x2 = (32 : Int32)
      ·
        rw [if_pos g3]
        have g3i : x2.toInt = 32 := q_eqI g3
        exact T_VR_wholeA hA2 ⟨by omega, by omega⟩
      ·
        rw [if_neg g3]
        have g3i : x2.toInt ≠ 32 := q_neI g3
        by_cases g4 : x2 = (64 : Int32)
        ·
          rw [if_pos g4]
          have g4i : x2.toInt = 64 := q_eqI g4
          exact T_VR_wholeA hA2 ⟨by omega, by omega⟩
        ·
          rw [if_neg g4]
          have g4i : x2.toInt ≠ 64 := q_neI g4
          (unfold Q_VR_arg; dsimp only; exact fun z => z)
theorem T_VR_decimal_JII {x2 : Int64} {x3 : Int32} {t0_0 : Int32} {t0_1 : Int32} {t0_2 : Int32} {t0_3 : Int32} {t0_4 : Int32} {t0_5 : Int32} {t0_6 : Int32} {t0_7 : Int32} {t0_8 : Int32} {t0_9 : Int32} {t0_10 : Int32} {t0_11 : Int32} {t0_12 : Int32} {t0_13 : Int32} {t0_14 : Int32} {t0_15 : Int32} {t0_16 : Int32} {t0_17 : Int32} {t0_18 : Int32} {t0_19 : Int32} {t0_20 : Int32} {t0_21 : Int32} {t1_0 : (Nat → Int32)} {t2_0 : (Nat → Int32)} {t3_0 : (Nat → Int64)} (hA2 : 0 ≤ t0_2.toInt ∧ t0_2.toInt ≤ 9)  : Q_VR_arg t2_0 (F_VR_decimal_JII x2 x3 t0_0 t0_1 t0_2 t0_3 t0_4 t0_5 t0_6 t0_7 t0_8 t0_9 t0_10 t0_11 t0_12 t0_13 t0_14 t0_15 t0_16 t0_17 t0_18 t0_19 t0_20 t0_21 t1_0 t2_0 t3_0) := by
  have e0 : (0 : Int32).toInt = 0 := rfl
  have e1 : (1 : Int32).toInt = 1 := rfl
  have eL0 : (0 : Int64).toInt = 0 := rfl
  have em : (-1 : Int32).toInt = -1 := rfl
  have e8 : (8 : Int32).toInt = 8 := rfl
  have e16 : (16 : Int32).toInt = 16 := rfl
  have e32 : (32 : Int32).toInt = 32 := rfl
  have e64 : (64 : Int32).toInt = 64 := rfl
  have e40 : (40 : Int32).toInt = 40 := rfl
  have e255 : (255 : Int32).toInt = 255 := rfl
  unfold F_VR_decimal_JII
  by_cases g1 : x3 < (0 : Int32)
  ·
    rw [if_pos g1]
    have g1i : x3.toInt < 0 := q_ltI g1
    (unfold Q_VR_arg; dsimp only; exact fun z => z)
  ·
    rw [if_neg g1]
    have g1i : 0 ≤ x3.toInt := q_nltI g1
    by_cases g2 : x3 ≤ (40 : Int32)
    ·
      rw [if_pos g2]
      have g2i : x3.toInt ≤ 40 := q_leI g2
      have h3 := T_VR_enter (x2 := (5 : Int32)) (x3 := x3) (x4 := x2) (t0_0 := t0_0) (t0_1 := t0_1) (t0_2 := t0_2) (t0_3 := t0_3) (t0_4 := t0_4) (t0_5 := t0_5) (t0_6 := t0_6) (t0_7 := t0_7) (t0_8 := t0_8) (t0_9 := t0_9) (t0_10 := t0_10) (t0_11 := t0_11) (t0_12 := t0_12) (t0_13 := t0_13) (t0_14 := t0_14) (t0_15 := t0_15) (t0_16 := t0_16) (t0_17 := t0_17) (t0_18 := t0_18) (t0_19 := t0_19) (t0_20 := t0_20) (t0_21 := t0_21) (t1_0 := t1_0) (t2_0 := t2_0) (t3_0 := t3_0) hA2 ⟨by first | omega | decide, by first | omega | decide⟩
      generalize F_VR_enter (5 : Int32) x3 x2 t0_0 t0_1 t0_2 t0_3 t0_4 t0_5 t0_6 t0_7 t0_8 t0_9 t0_10 t0_11 t0_12 t0_13 t0_14 t0_15 t0_16 t0_17 t0_18 t0_19 t0_20 t0_21 t1_0 t2_0 t3_0 = p66 at *
      unfold Q_VR_enter at h3
      have qp66 := h3
      unfold F_VR_decimal_JII_c21
      (unfold Q_VR_arg; dsimp only; exact qp66.1)
    ·
      rw [if_neg g2]
      have g2i : 40 < x3.toInt := q_nleI g2
      (unfold Q_VR_arg; dsimp only; exact fun z => z)
theorem T_VR_nothing {t0_0 : Int32} {t0_1 : Int32} {t0_2 : Int32} {t0_3 : Int32} {t0_4 : Int32} {t0_5 : Int32} {t0_6 : Int32} {t0_7 : Int32} {t0_8 : Int32} {t0_9 : Int32} {t0_10 : Int32} {t0_11 : Int32} {t0_12 : Int32} {t0_13 : Int32} {t0_14 : Int32} {t0_15 : Int32} {t0_16 : Int32} {t0_17 : Int32} {t0_18 : Int32} {t0_19 : Int32} {t0_20 : Int32} {t0_21 : Int32} {t1_0 : (Nat → Int32)} {t2_0 : (Nat → Int32)} {t3_0 : (Nat → Int64)} (hA2 : 0 ≤ t0_2.toInt ∧ t0_2.toInt ≤ 9)  : Q_VR_arg t2_0 (F_VR_nothing t0_0 t0_1 t0_2 t0_3 t0_4 t0_5 t0_6 t0_7 t0_8 t0_9 t0_10 t0_11 t0_12 t0_13 t0_14 t0_15 t0_16 t0_17 t0_18 t0_19 t0_20 t0_21 t1_0 t2_0 t3_0) := by
  have e0 : (0 : Int32).toInt = 0 := rfl
  have e1 : (1 : Int32).toInt = 1 := rfl
  have eL0 : (0 : Int64).toInt = 0 := rfl
  have em : (-1 : Int32).toInt = -1 := rfl
  have e8 : (8 : Int32).toInt = 8 := rfl
  have e16 : (16 : Int32).toInt = 16 := rfl
  have e32 : (32 : Int32).toInt = 32 := rfl
  have e64 : (64 : Int32).toInt = 64 := rfl
  have e40 : (40 : Int32).toInt = 40 := rfl
  have e255 : (255 : Int32).toInt = 255 := rfl
  unfold F_VR_nothing
  have h1 := T_VR_enter (x2 := (0 : Int32)) (x3 := (0 : Int32)) (x4 := (0 : Int64)) (t0_0 := t0_0) (t0_1 := t0_1) (t0_2 := t0_2) (t0_3 := t0_3) (t0_4 := t0_4) (t0_5 := t0_5) (t0_6 := t0_6) (t0_7 := t0_7) (t0_8 := t0_8) (t0_9 := t0_9) (t0_10 := t0_10) (t0_11 := t0_11) (t0_12 := t0_12) (t0_13 := t0_13) (t0_14 := t0_14) (t0_15 := t0_15) (t0_16 := t0_16) (t0_17 := t0_17) (t0_18 := t0_18) (t0_19 := t0_19) (t0_20 := t0_20) (t0_21 := t0_21) (t1_0 := t1_0) (t2_0 := t2_0) (t3_0 := t3_0) hA2 ⟨by first | omega | decide, by first | omega | decide⟩
  generalize F_VR_enter (0 : Int32) (0 : Int32) (0 : Int64) t0_0 t0_1 t0_2 t0_3 t0_4 t0_5 t0_6 t0_7 t0_8 t0_9 t0_10 t0_11 t0_12 t0_13 t0_14 t0_15 t0_16 t0_17 t0_18 t0_19 t0_20 t0_21 t1_0 t2_0 t3_0 = p59 at *
  unfold Q_VR_enter at h1
  have qp59 := h1
  unfold F_VR_nothing_c4
  (unfold Q_VR_arg; dsimp only; exact qp59.1)
theorem T_VR_truth {x2 : Int32} {t0_0 : Int32} {t0_1 : Int32} {t0_2 : Int32} {t0_3 : Int32} {t0_4 : Int32} {t0_5 : Int32} {t0_6 : Int32} {t0_7 : Int32} {t0_8 : Int32} {t0_9 : Int32} {t0_10 : Int32} {t0_11 : Int32} {t0_12 : Int32} {t0_13 : Int32} {t0_14 : Int32} {t0_15 : Int32} {t0_16 : Int32} {t0_17 : Int32} {t0_18 : Int32} {t0_19 : Int32} {t0_20 : Int32} {t0_21 : Int32} {t1_0 : (Nat → Int32)} {t2_0 : (Nat → Int32)} {t3_0 : (Nat → Int64)} (hA2 : 0 ≤ t0_2.toInt ∧ t0_2.toInt ≤ 9)  : Q_VR_arg t2_0 (F_VR_truth x2 t0_0 t0_1 t0_2 t0_3 t0_4 t0_5 t0_6 t0_7 t0_8 t0_9 t0_10 t0_11 t0_12 t0_13 t0_14 t0_15 t0_16 t0_17 t0_18 t0_19 t0_20 t0_21 t1_0 t2_0 t3_0) := by
  have e0 : (0 : Int32).toInt = 0 := rfl
  have e1 : (1 : Int32).toInt = 1 := rfl
  have eL0 : (0 : Int64).toInt = 0 := rfl
  have em : (-1 : Int32).toInt = -1 := rfl
  have e8 : (8 : Int32).toInt = 8 := rfl
  have e16 : (16 : Int32).toInt = 16 := rfl
  have e32 : (32 : Int32).toInt = 32 := rfl
  have e64 : (64 : Int32).toInt = 64 := rfl
  have e40 : (40 : Int32).toInt = 40 := rfl
  have e255 : (255 : Int32).toInt = 255 := rfl
  unfold F_VR_truth
  by_cases g1 : x2 = (0 : Int32)
  ·
    rw [if_pos g1]
    have g1i : x2.toInt = 0 := q_eqI g1
    have h2 := T_VR_enter (x2 := (1 : Int32)) (x3 := (0 : Int32)) (x4 := (0 : Int64)) (t0_0 := t0_0) (t0_1 := t0_1) (t0_2 := t0_2) (t0_3 := t0_3) (t0_4 := t0_4) (t0_5 := t0_5) (t0_6 := t0_6) (t0_7 := t0_7) (t0_8 := t0_8) (t0_9 := t0_9) (t0_10 := t0_10) (t0_11 := t0_11) (t0_12 := t0_12) (t0_13 := t0_13) (t0_14 := t0_14) (t0_15 := t0_15) (t0_16 := t0_16) (t0_17 := t0_17) (t0_18 := t0_18) (t0_19 := t0_19) (t0_20 := t0_20) (t0_21 := t0_21) (t1_0 := t1_0) (t2_0 := t2_0) (t3_0 := t3_0) hA2 ⟨by first | omega | decide, by first | omega | decide⟩
    generalize F_VR_enter (1 : Int32) (0 : Int32) (0 : Int64) t0_0 t0_1 t0_2 t0_3 t0_4 t0_5 t0_6 t0_7 t0_8 t0_9 t0_10 t0_11 t0_12 t0_13 t0_14 t0_15 t0_16 t0_17 t0_18 t0_19 t0_20 t0_21 t1_0 t2_0 t3_0 = p61 at *
    unfold Q_VR_enter at h2
    have qp61 := h2
    unfold F_VR_truth_c12
    (unfold Q_VR_arg; dsimp only; exact qp61.1)
  ·
    rw [if_neg g1]
    have g1i : x2.toInt ≠ 0 := q_neI g1
    have h3 := T_VR_enter (x2 := (1 : Int32)) (x3 := (0 : Int32)) (x4 := (1 : Int64)) (t0_0 := t0_0) (t0_1 := t0_1) (t0_2 := t0_2) (t0_3 := t0_3) (t0_4 := t0_4) (t0_5 := t0_5) (t0_6 := t0_6) (t0_7 := t0_7) (t0_8 := t0_8) (t0_9 := t0_9) (t0_10 := t0_10) (t0_11 := t0_11) (t0_12 := t0_12) (t0_13 := t0_13) (t0_14 := t0_14) (t0_15 := t0_15) (t0_16 := t0_16) (t0_17 := t0_17) (t0_18 := t0_18) (t0_19 := t0_19) (t0_20 := t0_20) (t0_21 := t0_21) (t1_0 := t1_0) (t2_0 := t2_0) (t3_0 := t3_0) hA2 ⟨by first | omega | decide, by first | omega | decide⟩
    generalize F_VR_enter (1 : Int32) (0 : Int32) (1 : Int64) t0_0 t0_1 t0_2 t0_3 t0_4 t0_5 t0_6 t0_7 t0_8 t0_9 t0_10 t0_11 t0_12 t0_13 t0_14 t0_15 t0_16 t0_17 t0_18 t0_19 t0_20 t0_21 t1_0 t2_0 t3_0 = p97 at *
    unfold Q_VR_enter at h3
    have qp97 := h3
    unfold F_VR_truth_c12_2
    (unfold Q_VR_arg; dsimp only; exact qp97.1)
theorem T_VR_symbol {x2 : Int32} {t0_0 : Int32} {t0_1 : Int32} {t0_2 : Int32} {t0_3 : Int32} {t0_4 : Int32} {t0_5 : Int32} {t0_6 : Int32} {t0_7 : Int32} {t0_8 : Int32} {t0_9 : Int32} {t0_10 : Int32} {t0_11 : Int32} {t0_12 : Int32} {t0_13 : Int32} {t0_14 : Int32} {t0_15 : Int32} {t0_16 : Int32} {t0_17 : Int32} {t0_18 : Int32} {t0_19 : Int32} {t0_20 : Int32} {t0_21 : Int32} {t1_0 : (Nat → Int32)} {t2_0 : (Nat → Int32)} {t3_0 : (Nat → Int64)} (hA2 : 0 ≤ t0_2.toInt ∧ t0_2.toInt ≤ 9)  : Q_VR_arg t2_0 (F_VR_symbol x2 t0_0 t0_1 t0_2 t0_3 t0_4 t0_5 t0_6 t0_7 t0_8 t0_9 t0_10 t0_11 t0_12 t0_13 t0_14 t0_15 t0_16 t0_17 t0_18 t0_19 t0_20 t0_21 t1_0 t2_0 t3_0) := by
  have e0 : (0 : Int32).toInt = 0 := rfl
  have e1 : (1 : Int32).toInt = 1 := rfl
  have eL0 : (0 : Int64).toInt = 0 := rfl
  have em : (-1 : Int32).toInt = -1 := rfl
  have e8 : (8 : Int32).toInt = 8 := rfl
  have e16 : (16 : Int32).toInt = 16 := rfl
  have e32 : (32 : Int32).toInt = 32 := rfl
  have e64 : (64 : Int32).toInt = 64 := rfl
  have e40 : (40 : Int32).toInt = 40 := rfl
  have e255 : (255 : Int32).toInt = 255 := rfl
  unfold F_VR_symbol
  by_cases g1 : x2 < (0 : Int32)
  ·
    rw [if_pos g1]
    have g1i : x2.toInt < 0 := q_ltI g1
    (unfold Q_VR_arg; dsimp only; exact fun z => z)
  ·
    rw [if_neg g1]
    have g1i : 0 ≤ x2.toInt := q_nltI g1
    by_cases g2 : x2 ≤ (255 : Int32)
    ·
      rw [if_pos g2]
      have g2i : x2.toInt ≤ 255 := q_leI g2
      have h3 := T_VR_enter (x2 := (2 : Int32)) (x3 := (0 : Int32)) (x4 := (x2.toInt64 : Int64)) (t0_0 := t0_0) (t0_1 := t0_1) (t0_2 := t0_2) (t0_3 := t0_3) (t0_4 := t0_4) (t0_5 := t0_5) (t0_6 := t0_6) (t0_7 := t0_7) (t0_8 := t0_8) (t0_9 := t0_9) (t0_10 := t0_10) (t0_11 := t0_11) (t0_12 := t0_12) (t0_13 := t0_13) (t0_14 := t0_14) (t0_15 := t0_15) (t0_16 := t0_16) (t0_17 := t0_17) (t0_18 := t0_18) (t0_19 := t0_19) (t0_20 := t0_20) (t0_21 := t0_21) (t1_0 := t1_0) (t2_0 := t2_0) (t3_0 := t3_0) hA2 ⟨by first | omega | decide, by first | omega | decide⟩
      generalize F_VR_enter (2 : Int32) (0 : Int32) (x2.toInt64 : Int64) t0_0 t0_1 t0_2 t0_3 t0_4 t0_5 t0_6 t0_7 t0_8 t0_9 t0_10 t0_11 t0_12 t0_13 t0_14 t0_15 t0_16 t0_17 t0_18 t0_19 t0_20 t0_21 t1_0 t2_0 t3_0 = p69 at *
      unfold Q_VR_enter at h3
      have qp69 := h3
      unfold F_VR_symbol_c23
      (unfold Q_VR_arg; dsimp only; exact qp69.1)
    ·
      rw [if_neg g2]
      have g2i : 255 < x2.toInt := q_nleI g2
      (unfold Q_VR_arg; dsimp only; exact fun z => z)
def Q_VR_txt (t : Nat → Int32) (p : Int32 × Int32 × Int32 × Int32 × (Nat → Int32) × (Nat → Int32) × (Nat → Int64) × (Nat → Int32)) : Prop := vrZ t → vrZ p.2.2.2.2.2.1
theorem vv_tx {t0_0 : Int32} {t0_1 : Int32} {t0_2 : Int32} {t0_3 : Int32} {t0_4 : Int32} {t0_5 : Int32} {t0_6 : Int32} {t0_7 : Int32} {t0_8 : Int32} {t0_9 : Int32} {t0_10 : Int32} {t0_11 : Int32} {t0_12 : Int32} {t0_13 : Int32} {t0_14 : Int32} {t0_15 : Int32} {t0_16 : Int32} {t0_17 : Int32} {t0_18 : Int32} {t0_19 : Int32} {t0_20 : Int32} {t0_21 : Int32} {t1_0 : (Nat → Int32)} {t2_0 : (Nat → Int32)} {t3_0 : (Nat → Int32)} {t4_0 : (Nat → Int64)} {t5_0 : (Nat → Int32)} {p67 : (Int32 × Int32 × Int32 × (Nat → Int32) × (Nat → Int32) × (Nat → Int64))} {a47 : Int32} {y49 : Int32} {y50 : Int32} {f51 : (Nat → Int32)} {f53 : (Nat → Int32)} {f55 : (Nat → Int64)} {t : Nat → Int32} (ha : 1 ≤ a47.toInt ∧ a47.toInt ≤ 9) (hf : vrZ t → vrZ f53) (hA1 : t0_1.toInt ≤ 64)  : ∀ (n : Nat) (lx84 : Int32) (lx85 : (Nat → Int32)), (0 ≤ lx84.toInt ∧ lx84.toInt ≤ 64) → (64 - lx84.toInt < (n : Int)) → (S_VR_text_L33 t0_0 t0_1 t0_2 t0_3 t0_4 t0_5 t0_6 t0_7 t0_8 t0_9 t0_10 t0_11 t0_12 t0_13 t0_14 t0_15 t0_16 t0_17 t0_18 t0_19 t0_20 t0_21 t1_0 t2_0 t3_0 t4_0 t5_0 p67 a47 y49 y50 f51 f53 f55 n lx84 lx85) ∧ Q_VR_txt t (F_VR_text_L33 t0_0 t0_1 t0_2 t0_3 t0_4 t0_5 t0_6 t0_7 t0_8 t0_9 t0_10 t0_11 t0_12 t0_13 t0_14 t0_15 t0_16 t0_17 t0_18 t0_19 t0_20 t0_21 t1_0 t2_0 t3_0 t4_0 t5_0 p67 a47 y49 y50 f51 f53 f55 n lx84 lx85) := by
  intro n
  induction n with
  | zero => intro lx84 lx85 hA0 hm; exact absurd (show False by omega) id
  | succ n ih =>
    intro lx84 lx85 hA0 hm
    have e0 : (0 : Int32).toInt = 0 := rfl
    have e1 : (1 : Int32).toInt = 1 := rfl
    have eL0 : (0 : Int64).toInt = 0 := rfl
    have em : (-1 : Int32).toInt = -1 := rfl
    rw [S_VR_text_L33.eq_2, F_VR_text_L33.eq_2]
    by_cases g1 : t0_1 ≤ lx84
    ·
      rw [if_pos g1, if_pos g1]
      refine ⟨trivial, ?_⟩
      (unfold Q_VR_txt; dsimp only; exact hf)
    ·
      rw [if_neg g1, if_neg g1]
      have hb : 0 ≤ lx84.toInt ∧ lx84.toInt < 64 := ⟨hA0.1, by have := q_nleI g1; omega⟩
      obtain ⟨a2, e3⟩ := q_nm (a47 - 1 : Int32)
      rw [e3]
      have a2i : a2.toInt = a47.toInt - 1 := by rw [← e3]; exact q_subI (x := a47.toInt) (y := 1) rfl (by decide) (by omega) (by omega)
      refine v_cons (by rw [vr_64 ⟨by omega, by omega⟩ hb]; omega) ?_
      refine v_cons (by rw [vr_64 ⟨by omega, by omega⟩ hb]; omega) ?_
      obtain ⟨a4, e5⟩ := q_nm (lx84 + 1 : Int32)
      rw [e5]
      have a4i : a4.toInt = lx84.toInt + 1 := by rw [← e5]; exact q_addI (x := lx84.toInt) (y := 1) rfl (by decide) (by omega) (by omega)
      exact ih _ _ ⟨by omega, by omega⟩ (by omega)
theorem T_VR_text {t0_0 : Int32} {t0_1 : Int32} {t0_2 : Int32} {t0_3 : Int32} {t0_4 : Int32} {t0_5 : Int32} {t0_6 : Int32} {t0_7 : Int32} {t0_8 : Int32} {t0_9 : Int32} {t0_10 : Int32} {t0_11 : Int32} {t0_12 : Int32} {t0_13 : Int32} {t0_14 : Int32} {t0_15 : Int32} {t0_16 : Int32} {t0_17 : Int32} {t0_18 : Int32} {t0_19 : Int32} {t0_20 : Int32} {t0_21 : Int32} {t1_0 : (Nat → Int32)} {t2_0 : (Nat → Int32)} {t3_0 : (Nat → Int32)} {t4_0 : (Nat → Int64)} {t5_0 : (Nat → Int32)} (hA2 : 0 ≤ t0_2.toInt ∧ t0_2.toInt ≤ 9) (hA1 : 0 ≤ t0_1.toInt) : (S_VR_text t0_0 t0_1 t0_2 t0_3 t0_4 t0_5 t0_6 t0_7 t0_8 t0_9 t0_10 t0_11 t0_12 t0_13 t0_14 t0_15 t0_16 t0_17 t0_18 t0_19 t0_20 t0_21 t1_0 t2_0 t3_0 t4_0 t5_0) ∧ Q_VR_txt t3_0 (F_VR_text t0_0 t0_1 t0_2 t0_3 t0_4 t0_5 t0_6 t0_7 t0_8 t0_9 t0_10 t0_11 t0_12 t0_13 t0_14 t0_15 t0_16 t0_17 t0_18 t0_19 t0_20 t0_21 t1_0 t2_0 t3_0 t4_0 t5_0) := by
  have e0 : (0 : Int32).toInt = 0 := rfl
  have e1 : (1 : Int32).toInt = 1 := rfl
  have eL0 : (0 : Int64).toInt = 0 := rfl
  have em : (-1 : Int32).toInt = -1 := rfl
  have e8 : (8 : Int32).toInt = 8 := rfl
  have e16 : (16 : Int32).toInt = 16 := rfl
  have e32 : (32 : Int32).toInt = 32 := rfl
  have e64 : (64 : Int32).toInt = 64 := rfl
  have e40 : (40 : Int32).toInt = 40 := rfl
  have e255 : (255 : Int32).toInt = 255 := rfl
  unfold S_VR_text F_VR_text
  by_cases g1 : t0_1 ≤ (64 : Int32)
  ·
    rw [if_pos g1, if_pos g1]
    have g1i : t0_1.toInt ≤ 64 := q_leI g1
    have h2 := T_VR_enter (x2 := (4 : Int32)) (x3 := t0_1) (x4 := (0 : Int64)) (t0_0 := t0_0) (t0_1 := t0_1) (t0_2 := t0_2) (t0_3 := t0_3) (t0_4 := t0_4) (t0_5 := t0_5) (t0_6 := t0_6) (t0_7 := t0_7) (t0_8 := t0_8) (t0_9 := t0_9) (t0_10 := t0_10) (t0_11 := t0_11) (t0_12 := t0_12) (t0_13 := t0_13) (t0_14 := t0_14) (t0_15 := t0_15) (t0_16 := t0_16) (t0_17 := t0_17) (t0_18 := t0_18) (t0_19 := t0_19) (t0_20 := t0_20) (t0_21 := t0_21) (t1_0 := t2_0) (t2_0 := t3_0) (t3_0 := t4_0) hA2 ⟨by first | omega | decide, by first | omega | decide⟩
    generalize F_VR_enter (4 : Int32) t0_1 (0 : Int64) t0_0 t0_1 t0_2 t0_3 t0_4 t0_5 t0_6 t0_7 t0_8 t0_9 t0_10 t0_11 t0_12 t0_13 t0_14 t0_15 t0_16 t0_17 t0_18 t0_19 t0_20 t0_21 t2_0 t3_0 t4_0 = p67 at *
    unfold Q_VR_enter at h2
    have qp67 := h2
    unfold S_VR_text_c23 F_VR_text_c23
    by_cases g3 : (p67.1 : Int32) ≤ (0 : Int32)
    ·
      rw [if_pos g3, if_pos g3]
      refine ⟨trivial, ?_⟩
      (unfold Q_VR_txt; dsimp only; exact qp67.1)
    ·
      rw [if_neg g3, if_neg g3]
      have ga := q_nleI g3
      have ha : 1 ≤ p67.1.toInt ∧ p67.1.toInt ≤ 9 := ⟨by omega, qp67.2 (by omega)⟩
      exact vv_tx ha qp67.1 (by omega) _ _ _ (by decide) (by decide)
  ·
    rw [if_neg g1, if_neg g1]
    have g1i : 64 < t0_1.toInt := q_nleI g1
    refine ⟨trivial, ?_⟩
    (unfold Q_VR_txt; dsimp only; exact fun z => z)
