/-! FloatRows: fixed, scientific -/
theorem fl_ng1 {a b : Int32} (hb : 0 ≤ b.toInt ∧ b.toInt ≤ 2000) (g : a < -b) : a.toInt < -b.toInt := by
  have := q_ltI g; rw [v_negI (by omega) (by omega)] at this; exact this
theorem fl_ng2 {a b : Int32} (hb : 0 ≤ b.toInt ∧ b.toInt ≤ 2000) (g : ¬ a < -b) : -b.toInt ≤ a.toInt := by
  have := q_nltI g; rw [v_negI (by omega) (by omega)] at this; exact this
def Q_FR_fixed (p : Int32 × Int32 × Int32 × Int32 × Int32 × Int64 × Int32 × Int32 × Int64 × Int32 × Int64 × Int32 × (Nat → Int32) × (Nat → Int32) × (Nat → Int32) × (Nat → Int32) × (Nat → Int32)) : Prop := 0 ≤ p.1.toInt ∧ p.1.toInt ≤ 1600
theorem vf_fx3 {K_F_FR_fixed_L130 : Int32 → (Int32 × Int32 × Int32 × Int32 × Int32 × Int64 × Int32 × Int32 × Int64 × Int32 × Int64 × Int32 × (Nat → Int32) × (Nat → Int32) × (Nat → Int32) × (Nat → Int32) × (Nat → Int32))} {K_F_FR_fixed_L162 : Int32 → Int32 → Int32 → Int32 → Int32 → Int64 → Int32 → Int32 → Int64 → Int32 → Int64 → Int32 → (Nat → Int32) → (Int32 × Int32 × Int32 × Int32 × Int32 × Int64 × Int32 × Int32 × Int64 × Int32 × Int64 × Int32 × (Nat → Int32) × (Nat → Int32) × (Nat → Int32) × (Nat → Int32) × (Nat → Int32))} {x2 : Int64} {x3 : Int32} {x4 : Int32} {x5 : Int32} {t0_0 : Int32} {t0_1 : Int32} {t0_2 : Int32} {t0_3 : Int32} {t0_4 : Int64} {t0_5 : Int32} {t0_6 : Int32} {t0_7 : Int64} {t0_8 : Int32} {t0_9 : Int64} {t0_10 : Int32} {t1_0 : (Nat → Int32)} {t2_0 : (Nat → Int32)} {t3_0 : (Nat → Int32)} {t4_0 : (Nat → Int32)} {t5_0 : (Nat → Int32)} {lx29 : Int32} {p81 : (Int32 × Int32 × Int32 × Int32 × Int64 × Int32 × Int32 × Int64 × Int32 × Int64 × Int32)} {y47 : Int32} {y48 : Int32} {y49 : Int32} {y50 : Int32} {y51 : Int64} {y52 : Int32} {y53 : Int32} {y54 : Int64} {y55 : Int32} {y56 : Int64} {y57 : Int32} {lx106 : Int32} {p136 : ((Nat → Int32) × (Nat → Int32) × (Nat → Int32))} {f128 : (Nat → Int32)} {f130 : (Nat → Int32)} {f132 : (Nat → Int32)} {lx146 : Int32} {f170 : (Nat → Int32)} {p216 : (Int32 × Int32 × Int32 × Int32 × Int64 × Int32 × Int32 × Int64 × Int32 × Int64 × Int32 × (Nat → Int32))} {y179 : Int32} {y180 : Int32} {y181 : Int32} {y182 : Int32} {y183 : Int64} {y184 : Int32} {y185 : Int32} {y186 : Int64} {y187 : Int32} {y188 : Int64} {y189 : Int32} {f190 : (Nat → Int32)} {lx236 : Int32} {lx261 : Int32} {lx262 : Int32} {lx263 : Int32} {lx264 : Int32} {lx265 : Int32} {lx266 : Int64} {lx267 : Int32} {lx268 : Int32} {lx269 : Int64} {lx270 : Int32} {lx271 : Int64} {lx272 : Int32} {lx273 : (Nat → Int32)} {lx316 : Int32} {lx317 : Int32} {lx318 : Int32} {lx319 : Int32} {lx320 : Int64} {lx321 : Int32} {lx322 : Int32} {lx323 : Int64} {lx324 : Int32} {lx325 : Int64} {lx326 : Int32} {lx327 : (Nat → Int32)} {K_S_FR_fixed_L130 : Int32 → Prop} {K_S_FR_fixed_L162 : Int32 → Int32 → Int32 → Int32 → Int32 → Int64 → Int32 → Int32 → Int64 → Int32 → Int64 → Int32 → (Nat → Int32) → Prop} (hx4 : 0 ≤ x4.toInt ∧ x4.toInt ≤ 1100) : ∀ (n : Nat) (lx364 : Int32) (lx365 : Int32) (lx366 : Int32) (lx367 : Int32) (lx368 : Int32) (lx369 : Int64) (lx370 : Int32) (lx371 : Int32) (lx372 : Int64) (lx373 : Int32) (lx374 : Int64) (lx375 : Int32) (lx376 : (Nat → Int32)), (-x4.toInt - 1 ≤ lx364.toInt ∧ lx364.toInt ≤ -1) → (1897 - lx366.toInt < (n : Int)) → (0 ≤ lx366.toInt ∧ lx366.toInt + lx364.toInt ≤ 329) → (S_FR_fixed_L200 K_S_FR_fixed_L130 K_S_FR_fixed_L162 x2 x3 x4 x5 t0_0 t0_1 t0_2 t0_3 t0_4 t0_5 t0_6 t0_7 t0_8 t0_9 t0_10 t1_0 t2_0 t3_0 t4_0 t5_0 lx29 p81 y47 y48 y49 y50 y51 y52 y53 y54 y55 y56 y57 lx106 p136 f128 f130 f132 lx146 f170 p216 y179 y180 y181 y182 y183 y184 y185 y186 y187 y188 y189 f190 lx236 lx261 lx262 lx263 lx264 lx265 lx266 lx267 lx268 lx269 lx270 lx271 lx272 lx273 lx316 lx317 lx318 lx319 lx320 lx321 lx322 lx323 lx324 lx325 lx326 lx327 n lx364 lx365 lx366 lx367 lx368 lx369 lx370 lx371 lx372 lx373 lx374 lx375 lx376) ∧ Q_FR_fixed (F_FR_fixed_L200 K_F_FR_fixed_L130 K_F_FR_fixed_L162 x2 x3 x4 x5 t0_0 t0_1 t0_2 t0_3 t0_4 t0_5 t0_6 t0_7 t0_8 t0_9 t0_10 t1_0 t2_0 t3_0 t4_0 t5_0 lx29 p81 y47 y48 y49 y50 y51 y52 y53 y54 y55 y56 y57 lx106 p136 f128 f130 f132 lx146 f170 p216 y179 y180 y181 y182 y183 y184 y185 y186 y187 y188 y189 f190 lx236 lx261 lx262 lx263 lx264 lx265 lx266 lx267 lx268 lx269 lx270 lx271 lx272 lx273 lx316 lx317 lx318 lx319 lx320 lx321 lx322 lx323 lx324 lx325 lx326 lx327 n lx364 lx365 lx366 lx367 lx368 lx369 lx370 lx371 lx372 lx373 lx374 lx375 lx376) := by
  intro n
  induction n with
  | zero => intro lx364 lx365 lx366 lx367 lx368 lx369 lx370 lx371 lx372 lx373 lx374 lx375 lx376 h0 hm h1; exact absurd (show False by omega) id
  | succ n ih =>
    intro lx364 lx365 lx366 lx367 lx368 lx369 lx370 lx371 lx372 lx373 lx374 lx375 lx376 h0 hm h1
    have e0 : (0 : Int32).toInt = 0 := rfl
    have e1 : (1 : Int32).toInt = 1 := rfl
    have eL0 : (0 : Int64).toInt = 0 := rfl
    rw [S_FR_fixed_L200.eq_2, F_FR_fixed_L200.eq_2]
    by_cases g1 : lx364 < (-x4 : Int32)
    ·
      rw [if_pos g1, if_pos g1]
      have g1i := fl_ng1 ⟨by omega, by omega⟩ g1
      refine ⟨trivial, ?_⟩
      (unfold Q_FR_fixed; dsimp only; first | exact ⟨by omega, by omega⟩ | exact ⟨by decide, by decide⟩)
    ·
      rw [if_neg g1, if_neg g1]
      have g1i := fl_ng2 ⟨by omega, by omega⟩ g1
      have h2 := T_FR_add (x2 := (48 + ((F_FR_figureAt lx364 lx365 lx366 lx367 lx368 lx369 lx370 lx371 lx372 lx373 lx374 lx375 f170) : Int32) : Int32)) (t0_0 := lx365) (t0_1 := lx366) (t0_2 := lx367) (t0_3 := lx368) (t0_4 := lx369) (t0_5 := lx370) (t0_6 := lx371) (t0_7 := lx372) (t0_8 := lx373) (t0_9 := lx374) (t0_10 := lx375) (t1_0 := lx376) ⟨by first | omega | decide, by first | omega | decide⟩
      with_reducible refine v_owe h2.1 ?_
      replace h2 := h2.2
      generalize F_FR_add (48 + ((F_FR_figureAt lx364 lx365 lx366 lx367 lx368 lx369 lx370 lx371 lx372 lx373 lx374 lx375 f170) : Int32) : Int32) lx365 lx366 lx367 lx368 lx369 lx370 lx371 lx372 lx373 lx374 lx375 lx376 = p467 at *
      unfold Q_FR_add at h2
      obtain ⟨h21, h23, h25, h26, h27, h28, h29, h2x⟩ := h2
      have h29i := congrArg Int64.toInt h29
      have h27i := congrArg Int64.toInt h27
      unfold S_FR_fixed_c218 F_FR_fixed_c218
      obtain ⟨a3, e4⟩ := q_nm (lx364 + (-1) : Int32)
      rw [e4]
      have a3i : a3.toInt = lx364.toInt + (-1) := by rw [← e4]; exact q_addI (x := lx364.toInt) (y := (-1)) rfl (by decide) (by omega) (by omega)
      exact ih _ _ _ _ _ _ _ _ _ _ _ _ _ ⟨by omega, by omega⟩ (by omega) ⟨by omega, by omega⟩
theorem vf_fx2 {K_F_FR_fixed_L130 : Int32 → (Int32 × Int32 × Int32 × Int32 × Int32 × Int64 × Int32 × Int32 × Int64 × Int32 × Int64 × Int32 × (Nat → Int32) × (Nat → Int32) × (Nat → Int32) × (Nat → Int32) × (Nat → Int32))} {x2 : Int64} {x3 : Int32} {x4 : Int32} {x5 : Int32} {t0_0 : Int32} {t0_1 : Int32} {t0_2 : Int32} {t0_3 : Int32} {t0_4 : Int64} {t0_5 : Int32} {t0_6 : Int32} {t0_7 : Int64} {t0_8 : Int32} {t0_9 : Int64} {t0_10 : Int32} {t1_0 : (Nat → Int32)} {t2_0 : (Nat → Int32)} {t3_0 : (Nat → Int32)} {t4_0 : (Nat → Int32)} {t5_0 : (Nat → Int32)} {lx29 : Int32} {p81 : (Int32 × Int32 × Int32 × Int32 × Int64 × Int32 × Int32 × Int64 × Int32 × Int64 × Int32)} {y47 : Int32} {y48 : Int32} {y49 : Int32} {y50 : Int32} {y51 : Int64} {y52 : Int32} {y53 : Int32} {y54 : Int64} {y55 : Int32} {y56 : Int64} {y57 : Int32} {lx106 : Int32} {p136 : ((Nat → Int32) × (Nat → Int32) × (Nat → Int32))} {f128 : (Nat → Int32)} {f130 : (Nat → Int32)} {f132 : (Nat → Int32)} {lx146 : Int32} {f170 : (Nat → Int32)} {p216 : (Int32 × Int32 × Int32 × Int32 × Int64 × Int32 × Int32 × Int64 × Int32 × Int64 × Int32 × (Nat → Int32))} {y179 : Int32} {y180 : Int32} {y181 : Int32} {y182 : Int32} {y183 : Int64} {y184 : Int32} {y185 : Int32} {y186 : Int64} {y187 : Int32} {y188 : Int64} {y189 : Int32} {f190 : (Nat → Int32)} {lx236 : Int32} {K_S_FR_fixed_L130 : Int32 → Prop} (hx4 : 0 ≤ x4.toInt ∧ x4.toInt ≤ 1100) : ∀ (n : Nat) (lx261 : Int32) (lx262 : Int32) (lx263 : Int32) (lx264 : Int32) (lx265 : Int32) (lx266 : Int64) (lx267 : Int32) (lx268 : Int32) (lx269 : Int64) (lx270 : Int32) (lx271 : Int64) (lx272 : Int32) (lx273 : (Nat → Int32)), (-1 ≤ lx261.toInt ∧ lx261.toInt ≤ 323) → (lx261.toInt + 1074 < (n : Int)) → (0 ≤ lx263.toInt ∧ lx263.toInt + lx261.toInt ≤ 325) → (S_FR_fixed_L162 K_S_FR_fixed_L130 x2 x3 x4 x5 t0_0 t0_1 t0_2 t0_3 t0_4 t0_5 t0_6 t0_7 t0_8 t0_9 t0_10 t1_0 t2_0 t3_0 t4_0 t5_0 lx29 p81 y47 y48 y49 y50 y51 y52 y53 y54 y55 y56 y57 lx106 p136 f128 f130 f132 lx146 f170 p216 y179 y180 y181 y182 y183 y184 y185 y186 y187 y188 y189 f190 lx236 n lx261 lx262 lx263 lx264 lx265 lx266 lx267 lx268 lx269 lx270 lx271 lx272 lx273) ∧ Q_FR_fixed (F_FR_fixed_L162 K_F_FR_fixed_L130 x2 x3 x4 x5 t0_0 t0_1 t0_2 t0_3 t0_4 t0_5 t0_6 t0_7 t0_8 t0_9 t0_10 t1_0 t2_0 t3_0 t4_0 t5_0 lx29 p81 y47 y48 y49 y50 y51 y52 y53 y54 y55 y56 y57 lx106 p136 f128 f130 f132 lx146 f170 p216 y179 y180 y181 y182 y183 y184 y185 y186 y187 y188 y189 f190 lx236 n lx261 lx262 lx263 lx264 lx265 lx266 lx267 lx268 lx269 lx270 lx271 lx272 lx273) := by
  intro n
  induction n with
  | zero => intro lx261 lx262 lx263 lx264 lx265 lx266 lx267 lx268 lx269 lx270 lx271 lx272 lx273 h0 hm h1; exact absurd (show False by omega) id
  | succ n ih =>
    intro lx261 lx262 lx263 lx264 lx265 lx266 lx267 lx268 lx269 lx270 lx271 lx272 lx273 h0 hm h1
    have e0 : (0 : Int32).toInt = 0 := rfl
    have e1 : (1 : Int32).toInt = 1 := rfl
    have eL0 : (0 : Int64).toInt = 0 := rfl
    rw [S_FR_fixed_L162.eq_2, F_FR_fixed_L162.eq_2]
    by_cases g1 : lx261 < (0 : Int32)
    ·
      rw [if_pos g1, if_pos g1]
      have g1i : lx261.toInt < 0 := q_ltI g1
      by_cases g2 : x4 ≤ (0 : Int32)
      ·
        rw [if_pos g2, if_pos g2]
        have g2i : x4.toInt ≤ 0 := q_leI g2
        unfold S_FR_fixed_J197 F_FR_fixed_J197
        have em : (-1 : Int32).toInt = -1 := rfl; exact vf_fx3 hx4 _ _ _ _ _ _ _ _ _ _ _ _ _ _ ⟨by omega, by omega⟩ (by omega) ⟨by omega, by omega⟩
      ·
        rw [if_neg g2, if_neg g2]
        have g2i : 0 < x4.toInt := q_nleI g2
        have h3 := T_FR_add (x2 := (46 : Int32)) (t0_0 := lx262) (t0_1 := lx263) (t0_2 := lx264) (t0_3 := lx265) (t0_4 := lx266) (t0_5 := lx267) (t0_6 := lx268) (t0_7 := lx269) (t0_8 := lx270) (t0_9 := lx271) (t0_10 := lx272) (t1_0 := lx273) ⟨by first | omega | decide, by first | omega | decide⟩
        with_reducible refine v_owe h3.1 ?_
        replace h3 := h3.2
        generalize F_FR_add (46 : Int32) lx262 lx263 lx264 lx265 lx266 lx267 lx268 lx269 lx270 lx271 lx272 lx273 = p534 at *
        unfold Q_FR_add at h3
        obtain ⟨h31, h33, h35, h36, h37, h38, h39, h3x⟩ := h3
        have h39i := congrArg Int64.toInt h39
        have h37i := congrArg Int64.toInt h37
        unfold S_FR_fixed_c194 F_FR_fixed_c194
        unfold S_FR_fixed_J197 F_FR_fixed_J197
        have em : (-1 : Int32).toInt = -1 := rfl; exact vf_fx3 hx4 _ _ _ _ _ _ _ _ _ _ _ _ _ _ ⟨by omega, by omega⟩ (by omega) ⟨by omega, by omega⟩
    ·
      rw [if_neg g1, if_neg g1]
      have g1i : 0 ≤ lx261.toInt := q_nltI g1
      have h4 := T_FR_add (x2 := (48 + ((F_FR_figureAt lx261 lx262 lx263 lx264 lx265 lx266 lx267 lx268 lx269 lx270 lx271 lx272 f170) : Int32) : Int32)) (t0_0 := lx262) (t0_1 := lx263) (t0_2 := lx264) (t0_3 := lx265) (t0_4 := lx266) (t0_5 := lx267) (t0_6 := lx268) (t0_7 := lx269) (t0_8 := lx270) (t0_9 := lx271) (t0_10 := lx272) (t1_0 := lx273) ⟨by first | omega | decide, by first | omega | decide⟩
      with_reducible refine v_owe h4.1 ?_
      replace h4 := h4.2
      generalize F_FR_add (48 + ((F_FR_figureAt lx261 lx262 lx263 lx264 lx265 lx266 lx267 lx268 lx269 lx270 lx271 lx272 f170) : Int32) : Int32) lx262 lx263 lx264 lx265 lx266 lx267 lx268 lx269 lx270 lx271 lx272 lx273 = p604 at *
      unfold Q_FR_add at h4
      obtain ⟨h41, h43, h45, h46, h47, h48, h49, h4x⟩ := h4
      have h49i := congrArg Int64.toInt h49
      have h47i := congrArg Int64.toInt h47
      unfold S_FR_fixed_c177 F_FR_fixed_c177
      obtain ⟨a5, e6⟩ := q_nm (lx261 + (-1) : Int32)
      rw [e6]
      have a5i : a5.toInt = lx261.toInt + (-1) := by rw [← e6]; exact q_addI (x := lx261.toInt) (y := (-1)) rfl (by decide) (by omega) (by omega)
      exact ih _ _ _ _ _ _ _ _ _ _ _ _ _ ⟨by omega, by omega⟩ (by omega) ⟨by omega, by omega⟩
theorem vf_fx1 {x2 : Int64} {x3 : Int32} {x4 : Int32} {x5 : Int32} {t0_0 : Int32} {t0_1 : Int32} {t0_2 : Int32} {t0_3 : Int32} {t0_4 : Int64} {t0_5 : Int32} {t0_6 : Int32} {t0_7 : Int64} {t0_8 : Int32} {t0_9 : Int64} {t0_10 : Int32} {t1_0 : (Nat → Int32)} {t2_0 : (Nat → Int32)} {t3_0 : (Nat → Int32)} {t4_0 : (Nat → Int32)} {t5_0 : (Nat → Int32)} {lx29 : Int32} {p81 : (Int32 × Int32 × Int32 × Int32 × Int64 × Int32 × Int32 × Int64 × Int32 × Int64 × Int32)} {y47 : Int32} {y48 : Int32} {y49 : Int32} {y50 : Int32} {y51 : Int64} {y52 : Int32} {y53 : Int32} {y54 : Int64} {y55 : Int32} {y56 : Int64} {y57 : Int32} {lx106 : Int32} {p136 : ((Nat → Int32) × (Nat → Int32) × (Nat → Int32))} {f128 : (Nat → Int32)} {f130 : (Nat → Int32)} {f132 : (Nat → Int32)} {lx146 : Int32} {f170 : (Nat → Int32)} {p216 : (Int32 × Int32 × Int32 × Int32 × Int64 × Int32 × Int32 × Int64 × Int32 × Int64 × Int32 × (Nat → Int32))} {y179 : Int32} {y180 : Int32} {y181 : Int32} {y182 : Int32} {y183 : Int64} {y184 : Int32} {y185 : Int32} {y186 : Int64} {y187 : Int32} {y188 : Int64} {y189 : Int32} {f190 : (Nat → Int32)} (hx4 : 0 ≤ x4.toInt ∧ x4.toInt ≤ 1100)(hy : 0 ≤ y180.toInt ∧ y180.toInt ≤ 1) : ∀ (n : Nat) (lx236 : Int32), (1080 ≤ lx236.toInt ∧ lx236.toInt ≤ 1403) → (lx236.toInt + 1074 < (n : Int)) → (S_FR_fixed_L130 x2 x3 x4 x5 t0_0 t0_1 t0_2 t0_3 t0_4 t0_5 t0_6 t0_7 t0_8 t0_9 t0_10 t1_0 t2_0 t3_0 t4_0 t5_0 lx29 p81 y47 y48 y49 y50 y51 y52 y53 y54 y55 y56 y57 lx106 p136 f128 f130 f132 lx146 f170 p216 y179 y180 y181 y182 y183 y184 y185 y186 y187 y188 y189 f190 n lx236) ∧ Q_FR_fixed (F_FR_fixed_L130 x2 x3 x4 x5 t0_0 t0_1 t0_2 t0_3 t0_4 t0_5 t0_6 t0_7 t0_8 t0_9 t0_10 t1_0 t2_0 t3_0 t4_0 t5_0 lx29 p81 y47 y48 y49 y50 y51 y52 y53 y54 y55 y56 y57 lx106 p136 f128 f130 f132 lx146 f170 p216 y179 y180 y181 y182 y183 y184 y185 y186 y187 y188 y189 f190 n lx236) := by
  intro n
  induction n with
  | zero => intro lx236 h0 hm; exact absurd (show False by omega) id
  | succ n ih =>
    intro lx236 h0 hm
    have e0 : (0 : Int32).toInt = 0 := rfl
    have e1 : (1 : Int32).toInt = 1 := rfl
    have eL0 : (0 : Int64).toInt = 0 := rfl
    rw [S_FR_fixed_L130.eq_2, F_FR_fixed_L130.eq_2]
    by_cases g1 : lx236 ≤ (1080 : Int32)
    ·
      rw [if_pos g1, if_pos g1]
      have g1i : lx236.toInt ≤ 1080 := q_leI g1
      unfold S_FR_fixed_J154 F_FR_fixed_J154
      have e5 : (lx236 - 1080 : Int32).toInt = lx236.toInt - 1080 := q_subI (y := 1080) rfl (by decide) (by omega) (by omega); exact vf_fx2 hx4 _ _ _ _ _ _ _ _ _ _ _ _ _ _ ⟨by omega, by omega⟩ (by omega) ⟨by omega, by omega⟩
    ·
      rw [if_neg g1, if_neg g1]
      have g1i : 1080 < lx236.toInt := q_nleI g1
      by_cases g2 : (f170 lx236.toNatClampNeg : Int32) = (0 : Int32)
      ·
        rw [if_pos g2, if_pos g2]
        obtain ⟨a3, e4⟩ := q_nm (lx236 + (-1) : Int32)
        rw [e4]
        have a3i : a3.toInt = lx236.toInt + (-1) := by rw [← e4]; exact q_addI (x := lx236.toInt) (y := (-1)) rfl (by decide) (by omega) (by omega)
        exact ih _ (by first | with_reducible assumption | omega | decide) (by first | with_reducible assumption | omega | decide)
      ·
        rw [if_neg g2, if_neg g2]
        unfold S_FR_fixed_J154 F_FR_fixed_J154
        have e5 : (lx236 - 1080 : Int32).toInt = lx236.toInt - 1080 := q_subI (y := 1080) rfl (by decide) (by omega) (by omega); exact vf_fx2 hx4 _ _ _ _ _ _ _ _ _ _ _ _ _ _ ⟨by omega, by omega⟩ (by omega) ⟨by omega, by omega⟩
theorem T_FR_fixed {x2 : Int64} {x3 : Int32} {x4 : Int32} {x5 : Int32} {t0_0 : Int32} {t0_1 : Int32} {t0_2 : Int32} {t0_3 : Int32} {t0_4 : Int64} {t0_5 : Int32} {t0_6 : Int32} {t0_7 : Int64} {t0_8 : Int32} {t0_9 : Int64} {t0_10 : Int32} {t1_0 : (Nat → Int32)} {t2_0 : (Nat → Int32)} {t3_0 : (Nat → Int32)} {t4_0 : (Nat → Int32)} {t5_0 : (Nat → Int32)}  : (S_FR_fixed x2 x3 x4 x5 t0_0 t0_1 t0_2 t0_3 t0_4 t0_5 t0_6 t0_7 t0_8 t0_9 t0_10 t1_0 t2_0 t3_0 t4_0 t5_0) ∧ Q_FR_fixed (F_FR_fixed x2 x3 x4 x5 t0_0 t0_1 t0_2 t0_3 t0_4 t0_5 t0_6 t0_7 t0_8 t0_9 t0_10 t1_0 t2_0 t3_0 t4_0 t5_0) := by
  have e0 : (0 : Int32).toInt = 0 := rfl
  have e1 : (1 : Int32).toInt = 1 := rfl
  have eL0 : (0 : Int64).toInt = 0 := rfl
  unfold S_FR_fixed F_FR_fixed
  by_cases g1 : x3 = (0 : Int32)
  ·
    rw [if_pos g1, if_pos g1]
    have g1i : x3.toInt = 0 := q_eqI g1
    unfold S_FR_fixed_J18 F_FR_fixed_J18
    unfold S_FR_fixed_J19 F_FR_fixed_J19
    have h2 := T_FR_open (x2 := x2) (x3 := (0 : Int32)) (t0_0 := t0_0) (t0_1 := t0_1) (t0_2 := t0_2) (t0_3 := t0_3) (t0_4 := t0_4) (t0_5 := t0_5) (t0_6 := t0_6) (t0_7 := t0_7) (t0_8 := t0_8) (t0_9 := t0_9) (t0_10 := t0_10) 
    generalize F_FR_open x2 (0 : Int32) t0_0 t0_1 t0_2 t0_3 t0_4 t0_5 t0_6 t0_7 t0_8 t0_9 t0_10 = p81 at *
    unfold Q_FR_open at h2
    obtain ⟨h2a, h2b, h27, h28, h2f, h25⟩ := h2
    have op7 := h27
    have op8 := h28
    have opf := h2f
    unfold S_FR_fixed_c19 F_FR_fixed_c19
    by_cases g3 : ((F_FR_isWrong x2 x3) : Int32) = (0 : Int32)
    ·
      rw [if_pos g3, if_pos g3]
      by_cases g4 : x4 < (0 : Int32)
      ·
        rw [if_pos g4, if_pos g4]
        have g4i : x4.toInt < 0 := q_ltI g4
        unfold S_FR_fixed_J55 F_FR_fixed_J55
        unfold S_FR_fixed_J71 F_FR_fixed_J71
        have g5 : ¬ ((1 : Int32) ≤ (0 : Int32)) := (by decide)
        rw [if_neg g5, if_neg g5]
        refine ⟨trivial, ?_⟩
        (unfold Q_FR_fixed; dsimp only; first | exact ⟨by omega, by omega⟩ | exact ⟨by decide, by decide⟩)
      ·
        rw [if_neg g4, if_neg g4]
        have g4i : 0 ≤ x4.toInt := q_nltI g4
        by_cases g6 : (1100 : Int32) < x4
        ·
          rw [if_pos g6, if_pos g6]
          have g6i : 1100 < x4.toInt := q_ltI g6
          unfold S_FR_fixed_J55 F_FR_fixed_J55
          unfold S_FR_fixed_J71 F_FR_fixed_J71
          have g7 : ¬ ((1 : Int32) ≤ (0 : Int32)) := (by decide)
          rw [if_neg g7, if_neg g7]
          refine ⟨trivial, ?_⟩
          (unfold Q_FR_fixed; dsimp only; first | exact ⟨by omega, by omega⟩ | exact ⟨by decide, by decide⟩)
        ·
          rw [if_neg g6, if_neg g6]
          have g6i : x4.toInt ≤ 1100 := q_nltI g6
          by_cases g8 : x5 < (0 : Int32)
          ·
            rw [if_pos g8, if_pos g8]
            have g8i : x5.toInt < 0 := q_ltI g8
            unfold S_FR_fixed_J55 F_FR_fixed_J55
            unfold S_FR_fixed_J71 F_FR_fixed_J71
            have g9 : ¬ ((1 : Int32) ≤ (0 : Int32)) := (by decide)
            rw [if_neg g9, if_neg g9]
            refine ⟨trivial, ?_⟩
            (unfold Q_FR_fixed; dsimp only; first | exact ⟨by omega, by omega⟩ | exact ⟨by decide, by decide⟩)
          ·
            rw [if_neg g8, if_neg g8]
            have g8i : 0 ≤ x5.toInt := q_nltI g8
            by_cases g10 : x5 ≤ (3 : Int32)
            ·
              rw [if_pos g10, if_pos g10]
              have g10i : x5.toInt ≤ 3 := q_leI g10
              by_cases g11 : ((F_FR_isFinite (p81.1 : Int32) (p81.2.1 : Int32) (p81.2.2.1 : Int32) (p81.2.2.2.1 : Int32) (p81.2.2.2.2.1 : Int64) (p81.2.2.2.2.2.1 : Int32) (p81.2.2.2.2.2.2.1 : Int32) (p81.2.2.2.2.2.2.2.1 : Int64) (p81.2.2.2.2.2.2.2.2.1 : Int32) (p81.2.2.2.2.2.2.2.2.2.1 : Int64) (p81.2.2.2.2.2.2.2.2.2.2 : Int32)) : Int32) = (0 : Int32)
              ·
                rw [if_pos g11, if_pos g11]
                unfold S_FR_fixed_J71 F_FR_fixed_J71
                have g12 : ¬ ((2 : Int32) ≤ (0 : Int32)) := (by decide)
                rw [if_neg g12, if_neg g12]
                refine ⟨trivial, ?_⟩
                (unfold Q_FR_fixed; dsimp only; first | exact ⟨by omega, by omega⟩ | exact ⟨by decide, by decide⟩)
              ·
                rw [if_neg g11, if_neg g11]
                have fin := fl_fin g11
                unfold S_FR_fixed_J71 F_FR_fixed_J71
                have g13 : ((0 : Int32) ≤ (0 : Int32)) := (by decide)
                rw [if_pos g13, if_pos g13]
                have h14 := T_FR_setValue (t0_0 := (0 : Int32)) (t0_1 := (p81.2.1 : Int32)) (t0_2 := (p81.2.2.1 : Int32)) (t0_3 := (p81.2.2.2.1 : Int32)) (t0_4 := (p81.2.2.2.2.1 : Int64)) (t0_5 := (p81.2.2.2.2.2.1 : Int32)) (t0_6 := (p81.2.2.2.2.2.2.1 : Int32)) (t0_7 := (p81.2.2.2.2.2.2.2.1 : Int64)) (t0_8 := (p81.2.2.2.2.2.2.2.2.1 : Int32)) (t0_9 := (p81.2.2.2.2.2.2.2.2.2.1 : Int64)) (t0_10 := (p81.2.2.2.2.2.2.2.2.2.2 : Int32)) (t1_0 := t1_0) (t2_0 := t2_0) (t3_0 := t3_0) ⟨by omega, by omega⟩ ⟨by omega, by omega⟩
                with_reducible refine v_owe h14.1 ?_
                replace h14 := h14.2
                generalize F_FR_setValue (0 : Int32) (p81.2.1 : Int32) (p81.2.2.1 : Int32) (p81.2.2.2.1 : Int32) (p81.2.2.2.2.1 : Int64) (p81.2.2.2.2.2.1 : Int32) (p81.2.2.2.2.2.2.1 : Int32) (p81.2.2.2.2.2.2.2.1 : Int64) (p81.2.2.2.2.2.2.2.2.1 : Int32) (p81.2.2.2.2.2.2.2.2.2.1 : Int64) (p81.2.2.2.2.2.2.2.2.2.2 : Int32) t1_0 t2_0 t3_0 = p136 at *
                unfold Q_FR_setValue at h14
                obtain ⟨hw, hnz⟩ := h14
                unfold S_FR_fixed_c84 F_FR_fixed_c84
                by_cases g15 : x4 ≤ (1080 : Int32)
                ·
                  rw [if_pos g15, if_pos g15]
                  have g15i : x4.toInt ≤ 1080 := q_leI g15
                  obtain ⟨lx146, e16⟩ := q_nm ((1080 - x4 : Int32) : Int32)
                  rw [e16]
                  have lx146i : lx146.toInt = 1080 - x4.toInt := by rw [← e16]; exact q_subI (x := 1080) (by decide) rfl (by omega) (by omega)
                  unfold S_FR_fixed_J105 F_FR_fixed_J105
                  have h17 := T_FR_isMore (x2 := lx146) (x3 := x5) (t0_0 := (0 : Int32)) (t0_1 := (p81.2.1 : Int32)) (t0_2 := (p81.2.2.1 : Int32)) (t0_3 := (p81.2.2.2.1 : Int32)) (t0_4 := (p81.2.2.2.2.1 : Int64)) (t0_5 := (p81.2.2.2.2.2.1 : Int32)) (t0_6 := (p81.2.2.2.2.2.2.1 : Int32)) (t0_7 := (p81.2.2.2.2.2.2.2.1 : Int64)) (t0_8 := (p81.2.2.2.2.2.2.2.2.1 : Int32)) (t0_9 := (p81.2.2.2.2.2.2.2.2.2.1 : Int64)) (t0_10 := (p81.2.2.2.2.2.2.2.2.2.2 : Int32)) (t1_0 := (p136.2.2 : (Nat → Int32))) ⟨by first | omega | decide, by first | omega | decide⟩
                  with_reducible refine v_owe h17 ?_
                  have h18 := T_FR_cut (x2 := lx146) (x3 := ((F_FR_isMore lx146 x5 (0 : Int32) (p81.2.1 : Int32) (p81.2.2.1 : Int32) (p81.2.2.2.1 : Int32) (p81.2.2.2.2.1 : Int64) (p81.2.2.2.2.2.1 : Int32) (p81.2.2.2.2.2.2.1 : Int32) (p81.2.2.2.2.2.2.2.1 : Int64) (p81.2.2.2.2.2.2.2.2.1 : Int32) (p81.2.2.2.2.2.2.2.2.2.1 : Int64) (p81.2.2.2.2.2.2.2.2.2.2 : Int32) (p136.2.2 : (Nat → Int32))) : Int32)) (t0_0 := (0 : Int32)) (t0_1 := (p81.2.1 : Int32)) (t0_2 := (p81.2.2.1 : Int32)) (t0_3 := (p81.2.2.2.1 : Int32)) (t0_4 := (p81.2.2.2.2.1 : Int64)) (t0_5 := (p81.2.2.2.2.2.1 : Int32)) (t0_6 := (p81.2.2.2.2.2.2.1 : Int32)) (t0_7 := (p81.2.2.2.2.2.2.2.1 : Int64)) (t0_8 := (p81.2.2.2.2.2.2.2.2.1 : Int32)) (t0_9 := (p81.2.2.2.2.2.2.2.2.2.1 : Int64)) (t0_10 := (p81.2.2.2.2.2.2.2.2.2.2 : Int32)) (t1_0 := (p136.2.2 : (Nat → Int32))) (t2_0 := t4_0) (by with_reducible assumption) ⟨by first | omega | decide, by first | omega | decide⟩
                  with_reducible refine v_owe h18.1 ?_
                  have h19 := T_FR_begin (t0_0 := (0 : Int32)) (t0_1 := (p81.2.1 : Int32)) (t0_2 := (p81.2.2.1 : Int32)) (t0_3 := (p81.2.2.2.1 : Int32)) (t0_4 := (p81.2.2.2.2.1 : Int64)) (t0_5 := (p81.2.2.2.2.2.1 : Int32)) (t0_6 := (p81.2.2.2.2.2.2.1 : Int32)) (t0_7 := (p81.2.2.2.2.2.2.2.1 : Int64)) (t0_8 := (p81.2.2.2.2.2.2.2.2.1 : Int32)) (t0_9 := (p81.2.2.2.2.2.2.2.2.2.1 : Int64)) (t0_10 := (p81.2.2.2.2.2.2.2.2.2.2 : Int32)) (t1_0 := t5_0) 
                  with_reducible refine v_owe h19.1 ?_
                  replace h19 := h19.2
                  generalize F_FR_begin (0 : Int32) (p81.2.1 : Int32) (p81.2.2.1 : Int32) (p81.2.2.2.1 : Int32) (p81.2.2.2.2.1 : Int64) (p81.2.2.2.2.2.1 : Int32) (p81.2.2.2.2.2.2.1 : Int32) (p81.2.2.2.2.2.2.2.1 : Int64) (p81.2.2.2.2.2.2.2.2.1 : Int32) (p81.2.2.2.2.2.2.2.2.2.1 : Int64) (p81.2.2.2.2.2.2.2.2.2.2 : Int32) t5_0 = p216 at *
                  unfold Q_FR_begin at h19
                  obtain ⟨h191, h193, h195, h196, h197, h198, h199, h19x⟩ := h19
                  have h199i := congrArg Int64.toInt h199
                  have h197i := congrArg Int64.toInt h197
                  unfold S_FR_fixed_c122 F_FR_fixed_c122
                  exact vf_fx1 ⟨by omega, by omega⟩ ⟨by omega, by omega⟩ _ _ ⟨by decide, by decide⟩ (by decide)
                ·
                  rw [if_neg g15, if_neg g15]
                  have g15i : 1080 < x4.toInt := q_nleI g15
                  unfold S_FR_fixed_J105 F_FR_fixed_J105
                  have h20 := T_FR_isMore (x2 := (0 : Int32)) (x3 := x5) (t0_0 := (0 : Int32)) (t0_1 := (p81.2.1 : Int32)) (t0_2 := (p81.2.2.1 : Int32)) (t0_3 := (p81.2.2.2.1 : Int32)) (t0_4 := (p81.2.2.2.2.1 : Int64)) (t0_5 := (p81.2.2.2.2.2.1 : Int32)) (t0_6 := (p81.2.2.2.2.2.2.1 : Int32)) (t0_7 := (p81.2.2.2.2.2.2.2.1 : Int64)) (t0_8 := (p81.2.2.2.2.2.2.2.2.1 : Int32)) (t0_9 := (p81.2.2.2.2.2.2.2.2.2.1 : Int64)) (t0_10 := (p81.2.2.2.2.2.2.2.2.2.2 : Int32)) (t1_0 := (p136.2.2 : (Nat → Int32))) ⟨by first | omega | decide, by first | omega | decide⟩
                  with_reducible refine v_owe h20 ?_
                  have h21 := T_FR_cut (x2 := (0 : Int32)) (x3 := ((F_FR_isMore (0 : Int32) x5 (0 : Int32) (p81.2.1 : Int32) (p81.2.2.1 : Int32) (p81.2.2.2.1 : Int32) (p81.2.2.2.2.1 : Int64) (p81.2.2.2.2.2.1 : Int32) (p81.2.2.2.2.2.2.1 : Int32) (p81.2.2.2.2.2.2.2.1 : Int64) (p81.2.2.2.2.2.2.2.2.1 : Int32) (p81.2.2.2.2.2.2.2.2.2.1 : Int64) (p81.2.2.2.2.2.2.2.2.2.2 : Int32) (p136.2.2 : (Nat → Int32))) : Int32)) (t0_0 := (0 : Int32)) (t0_1 := (p81.2.1 : Int32)) (t0_2 := (p81.2.2.1 : Int32)) (t0_3 := (p81.2.2.2.1 : Int32)) (t0_4 := (p81.2.2.2.2.1 : Int64)) (t0_5 := (p81.2.2.2.2.2.1 : Int32)) (t0_6 := (p81.2.2.2.2.2.2.1 : Int32)) (t0_7 := (p81.2.2.2.2.2.2.2.1 : Int64)) (t0_8 := (p81.2.2.2.2.2.2.2.2.1 : Int32)) (t0_9 := (p81.2.2.2.2.2.2.2.2.2.1 : Int64)) (t0_10 := (p81.2.2.2.2.2.2.2.2.2.2 : Int32)) (t1_0 := (p136.2.2 : (Nat → Int32))) (t2_0 := t4_0) (by with_reducible assumption) ⟨by first | omega | decide, by first | omega | decide⟩
                  with_reducible refine v_owe h21.1 ?_
                  have h22 := T_FR_begin (t0_0 := (0 : Int32)) (t0_1 := (p81.2.1 : Int32)) (t0_2 := (p81.2.2.1 : Int32)) (t0_3 := (p81.2.2.2.1 : Int32)) (t0_4 := (p81.2.2.2.2.1 : Int64)) (t0_5 := (p81.2.2.2.2.2.1 : Int32)) (t0_6 := (p81.2.2.2.2.2.2.1 : Int32)) (t0_7 := (p81.2.2.2.2.2.2.2.1 : Int64)) (t0_8 := (p81.2.2.2.2.2.2.2.2.1 : Int32)) (t0_9 := (p81.2.2.2.2.2.2.2.2.2.1 : Int64)) (t0_10 := (p81.2.2.2.2.2.2.2.2.2.2 : Int32)) (t1_0 := t5_0) 
                  with_reducible refine v_owe h22.1 ?_
                  replace h22 := h22.2
                  generalize F_FR_begin (0 : Int32) (p81.2.1 : Int32) (p81.2.2.1 : Int32) (p81.2.2.2.1 : Int32) (p81.2.2.2.2.1 : Int64) (p81.2.2.2.2.2.1 : Int32) (p81.2.2.2.2.2.2.1 : Int32) (p81.2.2.2.2.2.2.2.1 : Int64) (p81.2.2.2.2.2.2.2.2.1 : Int32) (p81.2.2.2.2.2.2.2.2.2.1 : Int64) (p81.2.2.2.2.2.2.2.2.2.2 : Int32) t5_0 = p216 at *
                  unfold Q_FR_begin at h22
                  obtain ⟨h221, h223, h225, h226, h227, h228, h229, h22x⟩ := h22
                  have h229i := congrArg Int64.toInt h229
                  have h227i := congrArg Int64.toInt h227
                  unfold S_FR_fixed_c122 F_FR_fixed_c122
                  exact vf_fx1 ⟨by omega, by omega⟩ ⟨by omega, by omega⟩ _ _ ⟨by decide, by decide⟩ (by decide)
            ·
              rw [if_neg g10, if_neg g10]
              have g10i : 3 < x5.toInt := q_nleI g10
              unfold S_FR_fixed_J55 F_FR_fixed_J55
              unfold S_FR_fixed_J71 F_FR_fixed_J71
              have g23 : ¬ ((1 : Int32) ≤ (0 : Int32)) := (by decide)
              rw [if_neg g23, if_neg g23]
              refine ⟨trivial, ?_⟩
              (unfold Q_FR_fixed; dsimp only; first | exact ⟨by omega, by omega⟩ | exact ⟨by decide, by decide⟩)
    ·
      rw [if_neg g3, if_neg g3]
      unfold S_FR_fixed_J55 F_FR_fixed_J55
      unfold S_FR_fixed_J71 F_FR_fixed_J71
      have g24 : ¬ ((1 : Int32) ≤ (0 : Int32)) := (by decide)
      rw [if_neg g24, if_neg g24]
      refine ⟨trivial, ?_⟩
      (unfold Q_FR_fixed; dsimp only; first | exact ⟨by omega, by omega⟩ | exact ⟨by decide, by decide⟩)
  ·
    rw [if_neg g1, if_neg g1]
    have g1i : x3.toInt ≠ 0 := q_neI g1
    by_cases g25 : ((F_FR_isWrong x2 x3) : Int32) = (0 : Int32)
    ·
      rw [if_pos g25, if_pos g25]
      unfold S_FR_fixed_J19 F_FR_fixed_J19
      have h26 := T_FR_open (x2 := x2) (x3 := (1 : Int32)) (t0_0 := t0_0) (t0_1 := t0_1) (t0_2 := t0_2) (t0_3 := t0_3) (t0_4 := t0_4) (t0_5 := t0_5) (t0_6 := t0_6) (t0_7 := t0_7) (t0_8 := t0_8) (t0_9 := t0_9) (t0_10 := t0_10) 
      generalize F_FR_open x2 (1 : Int32) t0_0 t0_1 t0_2 t0_3 t0_4 t0_5 t0_6 t0_7 t0_8 t0_9 t0_10 = p81 at *
      unfold Q_FR_open at h26
      obtain ⟨h26a, h26b, h267, h268, h26f, h265⟩ := h26
      have op7 := h267
      have op8 := h268
      have opf := h26f
      unfold S_FR_fixed_c19 F_FR_fixed_c19
      rw [if_pos g25, if_pos g25]
      by_cases g27 : x4 < (0 : Int32)
      ·
        rw [if_pos g27, if_pos g27]
        have g27i : x4.toInt < 0 := q_ltI g27
        unfold S_FR_fixed_J55 F_FR_fixed_J55
        unfold S_FR_fixed_J71 F_FR_fixed_J71
        have g28 : ¬ ((1 : Int32) ≤ (0 : Int32)) := (by decide)
        rw [if_neg g28, if_neg g28]
        refine ⟨trivial, ?_⟩
        (unfold Q_FR_fixed; dsimp only; first | exact ⟨by omega, by omega⟩ | exact ⟨by decide, by decide⟩)
      ·
        rw [if_neg g27, if_neg g27]
        have g27i : 0 ≤ x4.toInt := q_nltI g27
        by_cases g29 : (1100 : Int32) < x4
        ·
          rw [if_pos g29, if_pos g29]
          have g29i : 1100 < x4.toInt := q_ltI g29
          unfold S_FR_fixed_J55 F_FR_fixed_J55
          unfold S_FR_fixed_J71 F_FR_fixed_J71
          have g30 : ¬ ((1 : Int32) ≤ (0 : Int32)) := (by decide)
          rw [if_neg g30, if_neg g30]
          refine ⟨trivial, ?_⟩
          (unfold Q_FR_fixed; dsimp only; first | exact ⟨by omega, by omega⟩ | exact ⟨by decide, by decide⟩)
        ·
          rw [if_neg g29, if_neg g29]
          have g29i : x4.toInt ≤ 1100 := q_nltI g29
          by_cases g31 : x5 < (0 : Int32)
          ·
            rw [if_pos g31, if_pos g31]
            have g31i : x5.toInt < 0 := q_ltI g31
            unfold S_FR_fixed_J55 F_FR_fixed_J55
            unfold S_FR_fixed_J71 F_FR_fixed_J71
            have g32 : ¬ ((1 : Int32) ≤ (0 : Int32)) := (by decide)
            rw [if_neg g32, if_neg g32]
            refine ⟨trivial, ?_⟩
            (unfold Q_FR_fixed; dsimp only; first | exact ⟨by omega, by omega⟩ | exact ⟨by decide, by decide⟩)
          ·
            rw [if_neg g31, if_neg g31]
            have g31i : 0 ≤ x5.toInt := q_nltI g31
            by_cases g33 : x5 ≤ (3 : Int32)
            ·
              rw [if_pos g33, if_pos g33]
              have g33i : x5.toInt ≤ 3 := q_leI g33
              by_cases g34 : ((F_FR_isFinite (p81.1 : Int32) (p81.2.1 : Int32) (p81.2.2.1 : Int32) (p81.2.2.2.1 : Int32) (p81.2.2.2.2.1 : Int64) (p81.2.2.2.2.2.1 : Int32) (p81.2.2.2.2.2.2.1 : Int32) (p81.2.2.2.2.2.2.2.1 : Int64) (p81.2.2.2.2.2.2.2.2.1 : Int32) (p81.2.2.2.2.2.2.2.2.2.1 : Int64) (p81.2.2.2.2.2.2.2.2.2.2 : Int32)) : Int32) = (0 : Int32)
              ·
                rw [if_pos g34, if_pos g34]
                unfold S_FR_fixed_J71 F_FR_fixed_J71
                have g35 : ¬ ((2 : Int32) ≤ (0 : Int32)) := (by decide)
                rw [if_neg g35, if_neg g35]
                refine ⟨trivial, ?_⟩
                (unfold Q_FR_fixed; dsimp only; first | exact ⟨by omega, by omega⟩ | exact ⟨by decide, by decide⟩)
              ·
                rw [if_neg g34, if_neg g34]
                have fin := fl_fin g34
                unfold S_FR_fixed_J71 F_FR_fixed_J71
                have g36 : ((0 : Int32) ≤ (0 : Int32)) := (by decide)
                rw [if_pos g36, if_pos g36]
                have h37 := T_FR_setValue (t0_0 := (0 : Int32)) (t0_1 := (p81.2.1 : Int32)) (t0_2 := (p81.2.2.1 : Int32)) (t0_3 := (p81.2.2.2.1 : Int32)) (t0_4 := (p81.2.2.2.2.1 : Int64)) (t0_5 := (p81.2.2.2.2.2.1 : Int32)) (t0_6 := (p81.2.2.2.2.2.2.1 : Int32)) (t0_7 := (p81.2.2.2.2.2.2.2.1 : Int64)) (t0_8 := (p81.2.2.2.2.2.2.2.2.1 : Int32)) (t0_9 := (p81.2.2.2.2.2.2.2.2.2.1 : Int64)) (t0_10 := (p81.2.2.2.2.2.2.2.2.2.2 : Int32)) (t1_0 := t1_0) (t2_0 := t2_0) (t3_0 := t3_0) ⟨by omega, by omega⟩ ⟨by omega, by omega⟩
                with_reducible refine v_owe h37.1 ?_
                replace h37 := h37.2
                generalize F_FR_setValue (0 : Int32) (p81.2.1 : Int32) (p81.2.2.1 : Int32) (p81.2.2.2.1 : Int32) (p81.2.2.2.2.1 : Int64) (p81.2.2.2.2.2.1 : Int32) (p81.2.2.2.2.2.2.1 : Int32) (p81.2.2.2.2.2.2.2.1 : Int64) (p81.2.2.2.2.2.2.2.2.1 : Int32) (p81.2.2.2.2.2.2.2.2.2.1 : Int64) (p81.2.2.2.2.2.2.2.2.2.2 : Int32) t1_0 t2_0 t3_0 = p136 at *
                unfold Q_FR_setValue at h37
                obtain ⟨hw, hnz⟩ := h37
                unfold S_FR_fixed_c84 F_FR_fixed_c84
                by_cases g38 : x4 ≤ (1080 : Int32)
                ·
                  rw [if_pos g38, if_pos g38]
                  have g38i : x4.toInt ≤ 1080 := q_leI g38
                  obtain ⟨lx146, e39⟩ := q_nm ((1080 - x4 : Int32) : Int32)
                  rw [e39]
                  have lx146i : lx146.toInt = 1080 - x4.toInt := by rw [← e39]; exact q_subI (x := 1080) (by decide) rfl (by omega) (by omega)
                  unfold S_FR_fixed_J105 F_FR_fixed_J105
                  have h40 := T_FR_isMore (x2 := lx146) (x3 := x5) (t0_0 := (0 : Int32)) (t0_1 := (p81.2.1 : Int32)) (t0_2 := (p81.2.2.1 : Int32)) (t0_3 := (p81.2.2.2.1 : Int32)) (t0_4 := (p81.2.2.2.2.1 : Int64)) (t0_5 := (p81.2.2.2.2.2.1 : Int32)) (t0_6 := (p81.2.2.2.2.2.2.1 : Int32)) (t0_7 := (p81.2.2.2.2.2.2.2.1 : Int64)) (t0_8 := (p81.2.2.2.2.2.2.2.2.1 : Int32)) (t0_9 := (p81.2.2.2.2.2.2.2.2.2.1 : Int64)) (t0_10 := (p81.2.2.2.2.2.2.2.2.2.2 : Int32)) (t1_0 := (p136.2.2 : (Nat → Int32))) ⟨by first | omega | decide, by first | omega | decide⟩
                  with_reducible refine v_owe h40 ?_
                  have h41 := T_FR_cut (x2 := lx146) (x3 := ((F_FR_isMore lx146 x5 (0 : Int32) (p81.2.1 : Int32) (p81.2.2.1 : Int32) (p81.2.2.2.1 : Int32) (p81.2.2.2.2.1 : Int64) (p81.2.2.2.2.2.1 : Int32) (p81.2.2.2.2.2.2.1 : Int32) (p81.2.2.2.2.2.2.2.1 : Int64) (p81.2.2.2.2.2.2.2.2.1 : Int32) (p81.2.2.2.2.2.2.2.2.2.1 : Int64) (p81.2.2.2.2.2.2.2.2.2.2 : Int32) (p136.2.2 : (Nat → Int32))) : Int32)) (t0_0 := (0 : Int32)) (t0_1 := (p81.2.1 : Int32)) (t0_2 := (p81.2.2.1 : Int32)) (t0_3 := (p81.2.2.2.1 : Int32)) (t0_4 := (p81.2.2.2.2.1 : Int64)) (t0_5 := (p81.2.2.2.2.2.1 : Int32)) (t0_6 := (p81.2.2.2.2.2.2.1 : Int32)) (t0_7 := (p81.2.2.2.2.2.2.2.1 : Int64)) (t0_8 := (p81.2.2.2.2.2.2.2.2.1 : Int32)) (t0_9 := (p81.2.2.2.2.2.2.2.2.2.1 : Int64)) (t0_10 := (p81.2.2.2.2.2.2.2.2.2.2 : Int32)) (t1_0 := (p136.2.2 : (Nat → Int32))) (t2_0 := t4_0) (by with_reducible assumption) ⟨by first | omega | decide, by first | omega | decide⟩
                  with_reducible refine v_owe h41.1 ?_
                  have h42 := T_FR_begin (t0_0 := (0 : Int32)) (t0_1 := (p81.2.1 : Int32)) (t0_2 := (p81.2.2.1 : Int32)) (t0_3 := (p81.2.2.2.1 : Int32)) (t0_4 := (p81.2.2.2.2.1 : Int64)) (t0_5 := (p81.2.2.2.2.2.1 : Int32)) (t0_6 := (p81.2.2.2.2.2.2.1 : Int32)) (t0_7 := (p81.2.2.2.2.2.2.2.1 : Int64)) (t0_8 := (p81.2.2.2.2.2.2.2.2.1 : Int32)) (t0_9 := (p81.2.2.2.2.2.2.2.2.2.1 : Int64)) (t0_10 := (p81.2.2.2.2.2.2.2.2.2.2 : Int32)) (t1_0 := t5_0) 
                  with_reducible refine v_owe h42.1 ?_
                  replace h42 := h42.2
                  generalize F_FR_begin (0 : Int32) (p81.2.1 : Int32) (p81.2.2.1 : Int32) (p81.2.2.2.1 : Int32) (p81.2.2.2.2.1 : Int64) (p81.2.2.2.2.2.1 : Int32) (p81.2.2.2.2.2.2.1 : Int32) (p81.2.2.2.2.2.2.2.1 : Int64) (p81.2.2.2.2.2.2.2.2.1 : Int32) (p81.2.2.2.2.2.2.2.2.2.1 : Int64) (p81.2.2.2.2.2.2.2.2.2.2 : Int32) t5_0 = p216 at *
                  unfold Q_FR_begin at h42
                  obtain ⟨h421, h423, h425, h426, h427, h428, h429, h42x⟩ := h42
                  have h429i := congrArg Int64.toInt h429
                  have h427i := congrArg Int64.toInt h427
                  unfold S_FR_fixed_c122 F_FR_fixed_c122
                  exact vf_fx1 ⟨by omega, by omega⟩ ⟨by omega, by omega⟩ _ _ ⟨by decide, by decide⟩ (by decide)
                ·
                  rw [if_neg g38, if_neg g38]
                  have g38i : 1080 < x4.toInt := q_nleI g38
                  unfold S_FR_fixed_J105 F_FR_fixed_J105
                  have h43 := T_FR_isMore (x2 := (0 : Int32)) (x3 := x5) (t0_0 := (0 : Int32)) (t0_1 := (p81.2.1 : Int32)) (t0_2 := (p81.2.2.1 : Int32)) (t0_3 := (p81.2.2.2.1 : Int32)) (t0_4 := (p81.2.2.2.2.1 : Int64)) (t0_5 := (p81.2.2.2.2.2.1 : Int32)) (t0_6 := (p81.2.2.2.2.2.2.1 : Int32)) (t0_7 := (p81.2.2.2.2.2.2.2.1 : Int64)) (t0_8 := (p81.2.2.2.2.2.2.2.2.1 : Int32)) (t0_9 := (p81.2.2.2.2.2.2.2.2.2.1 : Int64)) (t0_10 := (p81.2.2.2.2.2.2.2.2.2.2 : Int32)) (t1_0 := (p136.2.2 : (Nat → Int32))) ⟨by first | omega | decide, by first | omega | decide⟩
                  with_reducible refine v_owe h43 ?_
                  have h44 := T_FR_cut (x2 := (0 : Int32)) (x3 := ((F_FR_isMore (0 : Int32) x5 (0 : Int32) (p81.2.1 : Int32) (p81.2.2.1 : Int32) (p81.2.2.2.1 : Int32) (p81.2.2.2.2.1 : Int64) (p81.2.2.2.2.2.1 : Int32) (p81.2.2.2.2.2.2.1 : Int32) (p81.2.2.2.2.2.2.2.1 : Int64) (p81.2.2.2.2.2.2.2.2.1 : Int32) (p81.2.2.2.2.2.2.2.2.2.1 : Int64) (p81.2.2.2.2.2.2.2.2.2.2 : Int32) (p136.2.2 : (Nat → Int32))) : Int32)) (t0_0 := (0 : Int32)) (t0_1 := (p81.2.1 : Int32)) (t0_2 := (p81.2.2.1 : Int32)) (t0_3 := (p81.2.2.2.1 : Int32)) (t0_4 := (p81.2.2.2.2.1 : Int64)) (t0_5 := (p81.2.2.2.2.2.1 : Int32)) (t0_6 := (p81.2.2.2.2.2.2.1 : Int32)) (t0_7 := (p81.2.2.2.2.2.2.2.1 : Int64)) (t0_8 := (p81.2.2.2.2.2.2.2.2.1 : Int32)) (t0_9 := (p81.2.2.2.2.2.2.2.2.2.1 : Int64)) (t0_10 := (p81.2.2.2.2.2.2.2.2.2.2 : Int32)) (t1_0 := (p136.2.2 : (Nat → Int32))) (t2_0 := t4_0) (by with_reducible assumption) ⟨by first | omega | decide, by first | omega | decide⟩
                  with_reducible refine v_owe h44.1 ?_
                  have h45 := T_FR_begin (t0_0 := (0 : Int32)) (t0_1 := (p81.2.1 : Int32)) (t0_2 := (p81.2.2.1 : Int32)) (t0_3 := (p81.2.2.2.1 : Int32)) (t0_4 := (p81.2.2.2.2.1 : Int64)) (t0_5 := (p81.2.2.2.2.2.1 : Int32)) (t0_6 := (p81.2.2.2.2.2.2.1 : Int32)) (t0_7 := (p81.2.2.2.2.2.2.2.1 : Int64)) (t0_8 := (p81.2.2.2.2.2.2.2.2.1 : Int32)) (t0_9 := (p81.2.2.2.2.2.2.2.2.2.1 : Int64)) (t0_10 := (p81.2.2.2.2.2.2.2.2.2.2 : Int32)) (t1_0 := t5_0) 
                  with_reducible refine v_owe h45.1 ?_
                  replace h45 := h45.2
                  generalize F_FR_begin (0 : Int32) (p81.2.1 : Int32) (p81.2.2.1 : Int32) (p81.2.2.2.1 : Int32) (p81.2.2.2.2.1 : Int64) (p81.2.2.2.2.2.1 : Int32) (p81.2.2.2.2.2.2.1 : Int32) (p81.2.2.2.2.2.2.2.1 : Int64) (p81.2.2.2.2.2.2.2.2.1 : Int32) (p81.2.2.2.2.2.2.2.2.2.1 : Int64) (p81.2.2.2.2.2.2.2.2.2.2 : Int32) t5_0 = p216 at *
                  unfold Q_FR_begin at h45
                  obtain ⟨h451, h453, h455, h456, h457, h458, h459, h45x⟩ := h45
                  have h459i := congrArg Int64.toInt h459
                  have h457i := congrArg Int64.toInt h457
                  unfold S_FR_fixed_c122 F_FR_fixed_c122
                  exact vf_fx1 ⟨by omega, by omega⟩ ⟨by omega, by omega⟩ _ _ ⟨by decide, by decide⟩ (by decide)
            ·
              rw [if_neg g33, if_neg g33]
              have g33i : 3 < x5.toInt := q_nleI g33
              unfold S_FR_fixed_J55 F_FR_fixed_J55
              unfold S_FR_fixed_J71 F_FR_fixed_J71
              have g46 : ¬ ((1 : Int32) ≤ (0 : Int32)) := (by decide)
              rw [if_neg g46, if_neg g46]
              refine ⟨trivial, ?_⟩
              (unfold Q_FR_fixed; dsimp only; first | exact ⟨by omega, by omega⟩ | exact ⟨by decide, by decide⟩)
    ·
      rw [if_neg g25, if_neg g25]
      unfold S_FR_fixed_J18 F_FR_fixed_J18
      unfold S_FR_fixed_J19 F_FR_fixed_J19
      have h47 := T_FR_open (x2 := x2) (x3 := (0 : Int32)) (t0_0 := t0_0) (t0_1 := t0_1) (t0_2 := t0_2) (t0_3 := t0_3) (t0_4 := t0_4) (t0_5 := t0_5) (t0_6 := t0_6) (t0_7 := t0_7) (t0_8 := t0_8) (t0_9 := t0_9) (t0_10 := t0_10) 
      generalize F_FR_open x2 (0 : Int32) t0_0 t0_1 t0_2 t0_3 t0_4 t0_5 t0_6 t0_7 t0_8 t0_9 t0_10 = p81 at *
      unfold Q_FR_open at h47
      obtain ⟨h47a, h47b, h477, h478, h47f, h475⟩ := h47
      have op7 := h477
      have op8 := h478
      have opf := h47f
      unfold S_FR_fixed_c19 F_FR_fixed_c19
      rw [if_neg g25, if_neg g25]
      unfold S_FR_fixed_J55 F_FR_fixed_J55
      unfold S_FR_fixed_J71 F_FR_fixed_J71
      have g48 : ¬ ((1 : Int32) ≤ (0 : Int32)) := (by decide)
      rw [if_neg g48, if_neg g48]
      refine ⟨trivial, ?_⟩
      (unfold Q_FR_fixed; dsimp only; first | exact ⟨by omega, by omega⟩ | exact ⟨by decide, by decide⟩)
def Q_FR_scientific (p : Int32 × Int32 × Int32 × Int32 × Int32 × Int64 × Int32 × Int32 × Int64 × Int32 × Int64 × Int32 × (Nat → Int32) × (Nat → Int32) × (Nat → Int32) × (Nat → Int32) × (Nat → Int32)) : Prop := 0 ≤ p.1.toInt ∧ p.1.toInt ≤ 1600
theorem vf_sc2 {x2 : Int64} {x3 : Int32} {x4 : Int32} {x5 : Int32} {t0_0 : Int32} {t0_1 : Int32} {t0_2 : Int32} {t0_3 : Int32} {t0_4 : Int64} {t0_5 : Int32} {t0_6 : Int32} {t0_7 : Int64} {t0_8 : Int32} {t0_9 : Int64} {t0_10 : Int32} {t1_0 : (Nat → Int32)} {t2_0 : (Nat → Int32)} {t3_0 : (Nat → Int32)} {t4_0 : (Nat → Int32)} {t5_0 : (Nat → Int32)} {lx29 : Int32} {p81 : (Int32 × Int32 × Int32 × Int32 × Int64 × Int32 × Int32 × Int64 × Int32 × Int64 × Int32)} {y47 : Int32} {y48 : Int32} {y49 : Int32} {y50 : Int32} {y51 : Int64} {y52 : Int32} {y53 : Int32} {y54 : Int64} {y55 : Int32} {y56 : Int64} {y57 : Int32} {lx106 : Int32} {p136 : ((Nat → Int32) × (Nat → Int32) × (Nat → Int32))} {f128 : (Nat → Int32)} {f130 : (Nat → Int32)} {f132 : (Nat → Int32)} {lx149 : Int32} {lx168 : Int32} {f192 : (Nat → Int32)} {lx203 : Int32} {p259 : (Int32 × Int32 × Int32 × Int32 × Int64 × Int32 × Int32 × Int64 × Int32 × Int64 × Int32 × (Nat → Int32))} (hx4 : 1 ≤ x4.toInt ∧ x4.toInt ≤ 800)(hl : 0 ≤ lx203.toInt ∧ lx203.toInt ≤ 1403) : ∀ (n : Nat) (lx279 : Int32) (lx280 : Int32) (lx281 : Int32) (lx282 : Int32) (lx283 : Int32) (lx284 : Int64) (lx285 : Int32) (lx286 : Int32) (lx287 : Int64) (lx288 : Int32) (lx289 : Int64) (lx290 : Int32) (lx291 : (Nat → Int32)), (0 ≤ lx279.toInt ∧ lx279.toInt ≤ x4.toInt) → (x4.toInt - lx279.toInt < (n : Int)) → (0 ≤ lx281.toInt ∧ lx281.toInt ≤ lx279.toInt + 2 ∧ (lx279.toInt = 0 → lx281.toInt ≤ 1)) → (S_FR_scientific_L186 x2 x3 x4 x5 t0_0 t0_1 t0_2 t0_3 t0_4 t0_5 t0_6 t0_7 t0_8 t0_9 t0_10 t1_0 t2_0 t3_0 t4_0 t5_0 lx29 p81 y47 y48 y49 y50 y51 y52 y53 y54 y55 y56 y57 lx106 p136 f128 f130 f132 lx149 lx168 f192 lx203 p259 n lx279 lx280 lx281 lx282 lx283 lx284 lx285 lx286 lx287 lx288 lx289 lx290 lx291) ∧ Q_FR_scientific (F_FR_scientific_L186 x2 x3 x4 x5 t0_0 t0_1 t0_2 t0_3 t0_4 t0_5 t0_6 t0_7 t0_8 t0_9 t0_10 t1_0 t2_0 t3_0 t4_0 t5_0 lx29 p81 y47 y48 y49 y50 y51 y52 y53 y54 y55 y56 y57 lx106 p136 f128 f130 f132 lx149 lx168 f192 lx203 p259 n lx279 lx280 lx281 lx282 lx283 lx284 lx285 lx286 lx287 lx288 lx289 lx290 lx291) := by
  intro n
  induction n with
  | zero => intro lx279 lx280 lx281 lx282 lx283 lx284 lx285 lx286 lx287 lx288 lx289 lx290 lx291 h0 hm h1; exact absurd (show False by omega) id
  | succ n ih =>
    intro lx279 lx280 lx281 lx282 lx283 lx284 lx285 lx286 lx287 lx288 lx289 lx290 lx291 h0 hm h1
    have e0 : (0 : Int32).toInt = 0 := rfl
    have e1 : (1 : Int32).toInt = 1 := rfl
    have eL0 : (0 : Int64).toInt = 0 := rfl
    rw [S_FR_scientific_L186.eq_2, F_FR_scientific_L186.eq_2]
    by_cases g1 : x4 ≤ lx279
    ·
      rw [if_pos g1, if_pos g1]
      have g1i : x4.toInt ≤ lx279.toInt := q_leI g1
      have h2 := T_FR_add (x2 := (101 : Int32)) (t0_0 := lx280) (t0_1 := lx281) (t0_2 := lx282) (t0_3 := lx283) (t0_4 := lx284) (t0_5 := lx285) (t0_6 := lx286) (t0_7 := lx287) (t0_8 := lx288) (t0_9 := lx289) (t0_10 := lx290) (t1_0 := lx291) ⟨by first | omega | decide, by first | omega | decide⟩
      with_reducible refine v_owe h2.1 ?_
      obtain ⟨a332, e3⟩ := q_nm ((lx203 - 1080 : Int32) : Int32)
      rw [e3]
      have a332i : a332.toInt = lx203.toInt - 1080 := by rw [← e3]; exact q_subI (y := 1080) rfl (by decide) (by omega) (by omega)
      replace h2 := h2.2
      generalize F_FR_add (101 : Int32) lx280 lx281 lx282 lx283 lx284 lx285 lx286 lx287 lx288 lx289 lx290 lx291 = p378 at *
      unfold Q_FR_add at h2
      obtain ⟨h21, h23, h25, h26, h27, h28, h29, h2x⟩ := h2
      have h29i := congrArg Int64.toInt h29
      have h27i := congrArg Int64.toInt h27
      unfold S_FR_scientific_c247 F_FR_scientific_c247
      by_cases g4 : (0 : Int32) ≤ a332
      ·
        rw [if_pos g4, if_pos g4]
        have g4i : 0 ≤ a332.toInt := q_leI g4
        unfold S_FR_scientific_J263 F_FR_scientific_J263
        have h5 := T_FR_add (x2 := (43 : Int32)) (t0_0 := (p378.1 : Int32)) (t0_1 := (p378.2.1 : Int32)) (t0_2 := (p378.2.2.1 : Int32)) (t0_3 := (p378.2.2.2.1 : Int32)) (t0_4 := (p378.2.2.2.2.1 : Int64)) (t0_5 := (p378.2.2.2.2.2.1 : Int32)) (t0_6 := (p378.2.2.2.2.2.2.1 : Int32)) (t0_7 := (p378.2.2.2.2.2.2.2.1 : Int64)) (t0_8 := (p378.2.2.2.2.2.2.2.2.1 : Int32)) (t0_9 := (p378.2.2.2.2.2.2.2.2.2.1 : Int64)) (t0_10 := (p378.2.2.2.2.2.2.2.2.2.2.1 : Int32)) (t1_0 := (p378.2.2.2.2.2.2.2.2.2.2.2 : (Nat → Int32))) ⟨by first | omega | decide, by first | omega | decide⟩
        with_reducible refine v_owe h5.1 ?_
        replace h5 := h5.2
        generalize F_FR_add (43 : Int32) (p378.1 : Int32) (p378.2.1 : Int32) (p378.2.2.1 : Int32) (p378.2.2.2.1 : Int32) (p378.2.2.2.2.1 : Int64) (p378.2.2.2.2.2.1 : Int32) (p378.2.2.2.2.2.2.1 : Int32) (p378.2.2.2.2.2.2.2.1 : Int64) (p378.2.2.2.2.2.2.2.2.1 : Int32) (p378.2.2.2.2.2.2.2.2.2.1 : Int64) (p378.2.2.2.2.2.2.2.2.2.2.1 : Int32) (p378.2.2.2.2.2.2.2.2.2.2.2 : (Nat → Int32)) = p455 at *
        unfold Q_FR_add at h5
        obtain ⟨h51, h53, h55, h56, h57, h58, h59, h5x⟩ := h5
        have h59i := congrArg Int64.toInt h59
        have h57i := congrArg Int64.toInt h57
        unfold S_FR_scientific_c263 F_FR_scientific_c263
        rw [if_pos g4, if_pos g4]
        unfold S_FR_scientific_J279 F_FR_scientific_J279
        by_cases g6 : (10 : Int32) ≤ a332
        ·
          rw [if_pos g6, if_pos g6]
          have g6i : 10 ≤ a332.toInt := q_leI g6
          have h7 := T_FR_number (x2 := a332) (t0_0 := (p455.1 : Int32)) (t0_1 := (p455.2.1 : Int32)) (t0_2 := (p455.2.2.1 : Int32)) (t0_3 := (p455.2.2.2.1 : Int32)) (t0_4 := (p455.2.2.2.2.1 : Int64)) (t0_5 := (p455.2.2.2.2.2.1 : Int32)) (t0_6 := (p455.2.2.2.2.2.2.1 : Int32)) (t0_7 := (p455.2.2.2.2.2.2.2.1 : Int64)) (t0_8 := (p455.2.2.2.2.2.2.2.2.1 : Int32)) (t0_9 := (p455.2.2.2.2.2.2.2.2.2.1 : Int64)) (t0_10 := (p455.2.2.2.2.2.2.2.2.2.2.1 : Int32)) (t1_0 := (p455.2.2.2.2.2.2.2.2.2.2.2 : (Nat → Int32))) ⟨by omega, by omega⟩ ⟨by omega, by omega⟩
          with_reducible refine v_owe h7.1 ?_
          replace h7 := h7.2
          generalize F_FR_number a332 (p455.1 : Int32) (p455.2.1 : Int32) (p455.2.2.1 : Int32) (p455.2.2.2.1 : Int32) (p455.2.2.2.2.1 : Int64) (p455.2.2.2.2.2.1 : Int32) (p455.2.2.2.2.2.2.1 : Int32) (p455.2.2.2.2.2.2.2.1 : Int64) (p455.2.2.2.2.2.2.2.2.1 : Int32) (p455.2.2.2.2.2.2.2.2.2.1 : Int64) (p455.2.2.2.2.2.2.2.2.2.2.1 : Int32) (p455.2.2.2.2.2.2.2.2.2.2.2 : (Nat → Int32)) = p529 at *
          unfold Q_FR_number at h7
          unfold S_FR_scientific_c297 F_FR_scientific_c297
          refine ⟨trivial, ?_⟩
          (unfold Q_FR_scientific; dsimp only; first | exact ⟨by omega, by omega⟩ | exact ⟨by decide, by decide⟩)
        ·
          rw [if_neg g6, if_neg g6]
          have g6i : a332.toInt < 10 := q_nleI g6
          have h8 := T_FR_add (x2 := (48 : Int32)) (t0_0 := (p455.1 : Int32)) (t0_1 := (p455.2.1 : Int32)) (t0_2 := (p455.2.2.1 : Int32)) (t0_3 := (p455.2.2.2.1 : Int32)) (t0_4 := (p455.2.2.2.2.1 : Int64)) (t0_5 := (p455.2.2.2.2.2.1 : Int32)) (t0_6 := (p455.2.2.2.2.2.2.1 : Int32)) (t0_7 := (p455.2.2.2.2.2.2.2.1 : Int64)) (t0_8 := (p455.2.2.2.2.2.2.2.2.1 : Int32)) (t0_9 := (p455.2.2.2.2.2.2.2.2.2.1 : Int64)) (t0_10 := (p455.2.2.2.2.2.2.2.2.2.2.1 : Int32)) (t1_0 := (p455.2.2.2.2.2.2.2.2.2.2.2 : (Nat → Int32))) ⟨by first | omega | decide, by first | omega | decide⟩
          with_reducible refine v_owe h8.1 ?_
          replace h8 := h8.2
          generalize F_FR_add (48 : Int32) (p455.1 : Int32) (p455.2.1 : Int32) (p455.2.2.1 : Int32) (p455.2.2.2.1 : Int32) (p455.2.2.2.2.1 : Int64) (p455.2.2.2.2.2.1 : Int32) (p455.2.2.2.2.2.2.1 : Int32) (p455.2.2.2.2.2.2.2.1 : Int64) (p455.2.2.2.2.2.2.2.2.1 : Int32) (p455.2.2.2.2.2.2.2.2.2.1 : Int64) (p455.2.2.2.2.2.2.2.2.2.2.1 : Int32) (p455.2.2.2.2.2.2.2.2.2.2.2 : (Nat → Int32)) = p592 at *
          unfold Q_FR_add at h8
          obtain ⟨h81, h83, h85, h86, h87, h88, h89, h8x⟩ := h8
          have h89i := congrArg Int64.toInt h89
          have h87i := congrArg Int64.toInt h87
          unfold S_FR_scientific_c291 F_FR_scientific_c291
          have h9 := T_FR_number (x2 := a332) (t0_0 := (p592.1 : Int32)) (t0_1 := (p592.2.1 : Int32)) (t0_2 := (p592.2.2.1 : Int32)) (t0_3 := (p592.2.2.2.1 : Int32)) (t0_4 := (p592.2.2.2.2.1 : Int64)) (t0_5 := (p592.2.2.2.2.2.1 : Int32)) (t0_6 := (p592.2.2.2.2.2.2.1 : Int32)) (t0_7 := (p592.2.2.2.2.2.2.2.1 : Int64)) (t0_8 := (p592.2.2.2.2.2.2.2.2.1 : Int32)) (t0_9 := (p592.2.2.2.2.2.2.2.2.2.1 : Int64)) (t0_10 := (p592.2.2.2.2.2.2.2.2.2.2.1 : Int32)) (t1_0 := (p592.2.2.2.2.2.2.2.2.2.2.2 : (Nat → Int32))) ⟨by omega, by omega⟩ ⟨by omega, by omega⟩
          with_reducible refine v_owe h9.1 ?_
          replace h9 := h9.2
          generalize F_FR_number a332 (p592.1 : Int32) (p592.2.1 : Int32) (p592.2.2.1 : Int32) (p592.2.2.2.1 : Int32) (p592.2.2.2.2.1 : Int64) (p592.2.2.2.2.2.1 : Int32) (p592.2.2.2.2.2.2.1 : Int32) (p592.2.2.2.2.2.2.2.1 : Int64) (p592.2.2.2.2.2.2.2.2.1 : Int32) (p592.2.2.2.2.2.2.2.2.2.1 : Int64) (p592.2.2.2.2.2.2.2.2.2.2.1 : Int32) (p592.2.2.2.2.2.2.2.2.2.2.2 : (Nat → Int32)) = p651 at *
          unfold Q_FR_number at h9
          unfold S_FR_scientific_c297_16 F_FR_scientific_c297_16
          refine ⟨trivial, ?_⟩
          (unfold Q_FR_scientific; dsimp only; first | exact ⟨by omega, by omega⟩ | exact ⟨by decide, by decide⟩)
      ·
        rw [if_neg g4, if_neg g4]
        have g4i : a332.toInt < 0 := q_nleI g4
        unfold S_FR_scientific_J263 F_FR_scientific_J263
        have h10 := T_FR_add (x2 := (45 : Int32)) (t0_0 := (p378.1 : Int32)) (t0_1 := (p378.2.1 : Int32)) (t0_2 := (p378.2.2.1 : Int32)) (t0_3 := (p378.2.2.2.1 : Int32)) (t0_4 := (p378.2.2.2.2.1 : Int64)) (t0_5 := (p378.2.2.2.2.2.1 : Int32)) (t0_6 := (p378.2.2.2.2.2.2.1 : Int32)) (t0_7 := (p378.2.2.2.2.2.2.2.1 : Int64)) (t0_8 := (p378.2.2.2.2.2.2.2.2.1 : Int32)) (t0_9 := (p378.2.2.2.2.2.2.2.2.2.1 : Int64)) (t0_10 := (p378.2.2.2.2.2.2.2.2.2.2.1 : Int32)) (t1_0 := (p378.2.2.2.2.2.2.2.2.2.2.2 : (Nat → Int32))) ⟨by first | omega | decide, by first | omega | decide⟩
        with_reducible refine v_owe h10.1 ?_
        replace h10 := h10.2
        generalize F_FR_add (45 : Int32) (p378.1 : Int32) (p378.2.1 : Int32) (p378.2.2.1 : Int32) (p378.2.2.2.1 : Int32) (p378.2.2.2.2.1 : Int64) (p378.2.2.2.2.2.1 : Int32) (p378.2.2.2.2.2.2.1 : Int32) (p378.2.2.2.2.2.2.2.1 : Int64) (p378.2.2.2.2.2.2.2.2.1 : Int32) (p378.2.2.2.2.2.2.2.2.2.1 : Int64) (p378.2.2.2.2.2.2.2.2.2.2.1 : Int32) (p378.2.2.2.2.2.2.2.2.2.2.2 : (Nat → Int32)) = p455 at *
        unfold Q_FR_add at h10
        obtain ⟨h101, h103, h105, h106, h107, h108, h109, h10x⟩ := h10
        have h109i := congrArg Int64.toInt h109
        have h107i := congrArg Int64.toInt h107
        unfold S_FR_scientific_c263 F_FR_scientific_c263
        rw [if_neg g4, if_neg g4]
        obtain ⟨lx474, e11⟩ := q_nm ((-a332 : Int32) : Int32)
        rw [e11]
        have lx474i : lx474.toInt = -a332.toInt := by rw [← e11]; exact v_negI (by omega) (by omega)
        unfold S_FR_scientific_J279 F_FR_scientific_J279
        by_cases g12 : (10 : Int32) ≤ lx474
        ·
          rw [if_pos g12, if_pos g12]
          have g12i : 10 ≤ lx474.toInt := q_leI g12
          have h13 := T_FR_number (x2 := lx474) (t0_0 := (p455.1 : Int32)) (t0_1 := (p455.2.1 : Int32)) (t0_2 := (p455.2.2.1 : Int32)) (t0_3 := (p455.2.2.2.1 : Int32)) (t0_4 := (p455.2.2.2.2.1 : Int64)) (t0_5 := (p455.2.2.2.2.2.1 : Int32)) (t0_6 := (p455.2.2.2.2.2.2.1 : Int32)) (t0_7 := (p455.2.2.2.2.2.2.2.1 : Int64)) (t0_8 := (p455.2.2.2.2.2.2.2.2.1 : Int32)) (t0_9 := (p455.2.2.2.2.2.2.2.2.2.1 : Int64)) (t0_10 := (p455.2.2.2.2.2.2.2.2.2.2.1 : Int32)) (t1_0 := (p455.2.2.2.2.2.2.2.2.2.2.2 : (Nat → Int32))) ⟨by omega, by omega⟩ ⟨by omega, by omega⟩
          with_reducible refine v_owe h13.1 ?_
          replace h13 := h13.2
          generalize F_FR_number lx474 (p455.1 : Int32) (p455.2.1 : Int32) (p455.2.2.1 : Int32) (p455.2.2.2.1 : Int32) (p455.2.2.2.2.1 : Int64) (p455.2.2.2.2.2.1 : Int32) (p455.2.2.2.2.2.2.1 : Int32) (p455.2.2.2.2.2.2.2.1 : Int64) (p455.2.2.2.2.2.2.2.2.1 : Int32) (p455.2.2.2.2.2.2.2.2.2.1 : Int64) (p455.2.2.2.2.2.2.2.2.2.2.1 : Int32) (p455.2.2.2.2.2.2.2.2.2.2.2 : (Nat → Int32)) = p529 at *
          unfold Q_FR_number at h13
          unfold S_FR_scientific_c297 F_FR_scientific_c297
          refine ⟨trivial, ?_⟩
          (unfold Q_FR_scientific; dsimp only; first | exact ⟨by omega, by omega⟩ | exact ⟨by decide, by decide⟩)
        ·
          rw [if_neg g12, if_neg g12]
          have g12i : lx474.toInt < 10 := q_nleI g12
          have h14 := T_FR_add (x2 := (48 : Int32)) (t0_0 := (p455.1 : Int32)) (t0_1 := (p455.2.1 : Int32)) (t0_2 := (p455.2.2.1 : Int32)) (t0_3 := (p455.2.2.2.1 : Int32)) (t0_4 := (p455.2.2.2.2.1 : Int64)) (t0_5 := (p455.2.2.2.2.2.1 : Int32)) (t0_6 := (p455.2.2.2.2.2.2.1 : Int32)) (t0_7 := (p455.2.2.2.2.2.2.2.1 : Int64)) (t0_8 := (p455.2.2.2.2.2.2.2.2.1 : Int32)) (t0_9 := (p455.2.2.2.2.2.2.2.2.2.1 : Int64)) (t0_10 := (p455.2.2.2.2.2.2.2.2.2.2.1 : Int32)) (t1_0 := (p455.2.2.2.2.2.2.2.2.2.2.2 : (Nat → Int32))) ⟨by first | omega | decide, by first | omega | decide⟩
          with_reducible refine v_owe h14.1 ?_
          replace h14 := h14.2
          generalize F_FR_add (48 : Int32) (p455.1 : Int32) (p455.2.1 : Int32) (p455.2.2.1 : Int32) (p455.2.2.2.1 : Int32) (p455.2.2.2.2.1 : Int64) (p455.2.2.2.2.2.1 : Int32) (p455.2.2.2.2.2.2.1 : Int32) (p455.2.2.2.2.2.2.2.1 : Int64) (p455.2.2.2.2.2.2.2.2.1 : Int32) (p455.2.2.2.2.2.2.2.2.2.1 : Int64) (p455.2.2.2.2.2.2.2.2.2.2.1 : Int32) (p455.2.2.2.2.2.2.2.2.2.2.2 : (Nat → Int32)) = p592 at *
          unfold Q_FR_add at h14
          obtain ⟨h141, h143, h145, h146, h147, h148, h149, h14x⟩ := h14
          have h149i := congrArg Int64.toInt h149
          have h147i := congrArg Int64.toInt h147
          unfold S_FR_scientific_c291 F_FR_scientific_c291
          have h15 := T_FR_number (x2 := lx474) (t0_0 := (p592.1 : Int32)) (t0_1 := (p592.2.1 : Int32)) (t0_2 := (p592.2.2.1 : Int32)) (t0_3 := (p592.2.2.2.1 : Int32)) (t0_4 := (p592.2.2.2.2.1 : Int64)) (t0_5 := (p592.2.2.2.2.2.1 : Int32)) (t0_6 := (p592.2.2.2.2.2.2.1 : Int32)) (t0_7 := (p592.2.2.2.2.2.2.2.1 : Int64)) (t0_8 := (p592.2.2.2.2.2.2.2.2.1 : Int32)) (t0_9 := (p592.2.2.2.2.2.2.2.2.2.1 : Int64)) (t0_10 := (p592.2.2.2.2.2.2.2.2.2.2.1 : Int32)) (t1_0 := (p592.2.2.2.2.2.2.2.2.2.2.2 : (Nat → Int32))) ⟨by omega, by omega⟩ ⟨by omega, by omega⟩
          with_reducible refine v_owe h15.1 ?_
          replace h15 := h15.2
          generalize F_FR_number lx474 (p592.1 : Int32) (p592.2.1 : Int32) (p592.2.2.1 : Int32) (p592.2.2.2.1 : Int32) (p592.2.2.2.2.1 : Int64) (p592.2.2.2.2.2.1 : Int32) (p592.2.2.2.2.2.2.1 : Int32) (p592.2.2.2.2.2.2.2.1 : Int64) (p592.2.2.2.2.2.2.2.2.1 : Int32) (p592.2.2.2.2.2.2.2.2.2.1 : Int64) (p592.2.2.2.2.2.2.2.2.2.2.1 : Int32) (p592.2.2.2.2.2.2.2.2.2.2.2 : (Nat → Int32)) = p651 at *
          unfold Q_FR_number at h15
          unfold S_FR_scientific_c297_16 F_FR_scientific_c297_16
          refine ⟨trivial, ?_⟩
          (unfold Q_FR_scientific; dsimp only; first | exact ⟨by omega, by omega⟩ | exact ⟨by decide, by decide⟩)
    ·
      rw [if_neg g1, if_neg g1]
      have g1i : lx279.toInt < x4.toInt := q_nleI g1
      have h16 := T_FR_add (x2 := (48 + ((F_FR_figureAt ((lx203 - 1080 : Int32) - lx279 : Int32) lx280 lx281 lx282 lx283 lx284 lx285 lx286 lx287 lx288 lx289 lx290 f192) : Int32) : Int32)) (t0_0 := lx280) (t0_1 := lx281) (t0_2 := lx282) (t0_3 := lx283) (t0_4 := lx284) (t0_5 := lx285) (t0_6 := lx286) (t0_7 := lx287) (t0_8 := lx288) (t0_9 := lx289) (t0_10 := lx290) (t1_0 := lx291) ⟨by first | omega | decide, by first | omega | decide⟩
      with_reducible refine v_owe h16.1 ?_
      replace h16 := h16.2
      generalize F_FR_add (48 + ((F_FR_figureAt ((lx203 - 1080 : Int32) - lx279 : Int32) lx280 lx281 lx282 lx283 lx284 lx285 lx286 lx287 lx288 lx289 lx290 f192) : Int32) : Int32) lx280 lx281 lx282 lx283 lx284 lx285 lx286 lx287 lx288 lx289 lx290 lx291 = p734 at *
      unfold Q_FR_add at h16
      obtain ⟨h161, h163, h165, h166, h167, h168, h169, h16x⟩ := h16
      have h169i := congrArg Int64.toInt h169
      have h167i := congrArg Int64.toInt h167
      unfold S_FR_scientific_c210 F_FR_scientific_c210
      by_cases g17 : lx279 = (0 : Int32)
      ·
        rw [if_pos g17, if_pos g17]
        have g17i : lx279.toInt = 0 := q_eqI g17
        by_cases g18 : x4 ≤ (1 : Int32)
        ·
          rw [if_pos g18, if_pos g18]
          have g18i : x4.toInt ≤ 1 := q_leI g18
          obtain ⟨a19, e20⟩ := q_nm (lx279 + 1 : Int32)
          rw [e20]
          have a19i : a19.toInt = lx279.toInt + 1 := by rw [← e20]; exact q_addI (x := lx279.toInt) (y := 1) rfl (by decide) (by omega) (by omega)
          exact ih _ _ _ _ _ _ _ _ _ _ _ _ _ ⟨by omega, by omega⟩ (by omega) ⟨by omega, by omega, fun _ => by omega⟩
        ·
          rw [if_neg g18, if_neg g18]
          have g18i : 1 < x4.toInt := q_nleI g18
          have h21 := T_FR_add (x2 := (46 : Int32)) (t0_0 := (p734.1 : Int32)) (t0_1 := (p734.2.1 : Int32)) (t0_2 := (p734.2.2.1 : Int32)) (t0_3 := (p734.2.2.2.1 : Int32)) (t0_4 := (p734.2.2.2.2.1 : Int64)) (t0_5 := (p734.2.2.2.2.2.1 : Int32)) (t0_6 := (p734.2.2.2.2.2.2.1 : Int32)) (t0_7 := (p734.2.2.2.2.2.2.2.1 : Int64)) (t0_8 := (p734.2.2.2.2.2.2.2.2.1 : Int32)) (t0_9 := (p734.2.2.2.2.2.2.2.2.2.1 : Int64)) (t0_10 := (p734.2.2.2.2.2.2.2.2.2.2.1 : Int32)) (t1_0 := (p734.2.2.2.2.2.2.2.2.2.2.2 : (Nat → Int32))) ⟨by first | omega | decide, by first | omega | decide⟩
          with_reducible refine v_owe h21.1 ?_
          replace h21 := h21.2
          generalize F_FR_add (46 : Int32) (p734.1 : Int32) (p734.2.1 : Int32) (p734.2.2.1 : Int32) (p734.2.2.2.1 : Int32) (p734.2.2.2.2.1 : Int64) (p734.2.2.2.2.2.1 : Int32) (p734.2.2.2.2.2.2.1 : Int32) (p734.2.2.2.2.2.2.2.1 : Int64) (p734.2.2.2.2.2.2.2.2.1 : Int32) (p734.2.2.2.2.2.2.2.2.2.1 : Int64) (p734.2.2.2.2.2.2.2.2.2.2.1 : Int32) (p734.2.2.2.2.2.2.2.2.2.2.2 : (Nat → Int32)) = p808 at *
          unfold Q_FR_add at h21
          obtain ⟨h211, h213, h215, h216, h217, h218, h219, h21x⟩ := h21
          have h219i := congrArg Int64.toInt h219
          have h217i := congrArg Int64.toInt h217
          unfold S_FR_scientific_c227 F_FR_scientific_c227
          obtain ⟨a22, e23⟩ := q_nm (lx279 + 1 : Int32)
          rw [e23]
          have a22i : a22.toInt = lx279.toInt + 1 := by rw [← e23]; exact q_addI (x := lx279.toInt) (y := 1) rfl (by decide) (by omega) (by omega)
          exact ih _ _ _ _ _ _ _ _ _ _ _ _ _ ⟨by omega, by omega⟩ (by omega) ⟨by omega, by omega, fun _ => by omega⟩
      ·
        rw [if_neg g17, if_neg g17]
        have g17i : lx279.toInt ≠ 0 := q_neI g17
        obtain ⟨a24, e25⟩ := q_nm (lx279 + 1 : Int32)
        rw [e25]
        have a24i : a24.toInt = lx279.toInt + 1 := by rw [← e25]; exact q_addI (x := lx279.toInt) (y := 1) rfl (by decide) (by omega) (by omega)
        exact ih _ _ _ _ _ _ _ _ _ _ _ _ _ ⟨by omega, by omega⟩ (by omega) ⟨by omega, by omega, fun _ => by omega⟩
theorem fl_plE {a b : Int32} (ha : 0 ≤ a.toInt ∧ a.toInt ≤ 1403) (hb : 1 ≤ b.toInt ∧ b.toInt ≤ 800) : ((a - b : Int32) + 1 : Int32).toInt = a.toInt - b.toInt + 1 := q_addI (y := 1) (q_subI rfl rfl (by omega) (by omega)) (by decide) (by omega) (by omega)
theorem fl_pl {a b : Int32} (ha : 0 ≤ a.toInt ∧ a.toInt ≤ 1403) (hb : 1 ≤ b.toInt ∧ b.toInt ≤ 800) (g : 0 ≤ ((a - b : Int32) + 1 : Int32)) : 0 ≤ a.toInt - b.toInt + 1 := by
  have h := q_leI g; rw [fl_plE ha hb] at h; exact h
theorem T_FR_sciJ {x2 : Int64} {x3 : Int32} {x4 : Int32} {x5 : Int32} {t0_0 : Int32} {t0_1 : Int32} {t0_2 : Int32} {t0_3 : Int32} {t0_4 : Int64} {t0_5 : Int32} {t0_6 : Int32} {t0_7 : Int64} {t0_8 : Int32} {t0_9 : Int64} {t0_10 : Int32} {t1_0 : (Nat → Int32)} {t2_0 : (Nat → Int32)} {t3_0 : (Nat → Int32)} {t4_0 : (Nat → Int32)} {t5_0 : (Nat → Int32)} {lx29 : Int32} {p81 : (Int32 × Int32 × Int32 × Int32 × Int64 × Int32 × Int32 × Int64 × Int32 × Int64 × Int32)} {y47 : Int32} {y48 : Int32} {y49 : Int32} {y50 : Int32} {y51 : Int64} {y52 : Int32} {y53 : Int32} {y54 : Int64} {y55 : Int32} {y56 : Int64} {y57 : Int32} {lx106 : Int32} {p136 : ((Nat → Int32) × (Nat → Int32) × (Nat → Int32))} {f128 : (Nat → Int32)} {f130 : (Nat → Int32)} {f132 : (Nat → Int32)} {lx149 : Int32} (hx4 : 1 ≤ x4.toInt ∧ x4.toInt ≤ 800)(hw : flW f132) (hl : 20 ≤ lx149.toInt ∧ lx149.toInt ≤ 1389) : (S_FR_scientific_J107 x2 x3 x4 x5 t0_0 t0_1 t0_2 t0_3 t0_4 t0_5 t0_6 t0_7 t0_8 t0_9 t0_10 t1_0 t2_0 t3_0 t4_0 t5_0 lx29 p81 y47 y48 y49 y50 y51 y52 y53 y54 y55 y56 y57 lx106 p136 f128 f130 f132 lx149) ∧ Q_FR_scientific (F_FR_scientific_J107 x2 x3 x4 x5 t0_0 t0_1 t0_2 t0_3 t0_4 t0_5 t0_6 t0_7 t0_8 t0_9 t0_10 t1_0 t2_0 t3_0 t4_0 t5_0 lx29 p81 y47 y48 y49 y50 y51 y52 y53 y54 y55 y56 y57 lx106 p136 f128 f130 f132 lx149) := by
  have e0 : (0 : Int32).toInt = 0 := rfl
  have e1 : (1 : Int32).toInt = 1 := rfl
  have eL0 : (0 : Int64).toInt = 0 := rfl
  unfold S_FR_scientific_J107 F_FR_scientific_J107
  by_cases g1 : (0 : Int32) ≤ ((lx149 - x4 : Int32) + 1 : Int32)
  ·
    rw [if_pos g1, if_pos g1]
    have g1i := fl_pl ⟨by omega, by omega⟩ hx4 g1
    obtain ⟨lx168, e2⟩ := q_nm (((lx149 - x4 : Int32) + 1 : Int32) : Int32)
    rw [e2]
    have lx168i : lx168.toInt = lx149.toInt - x4.toInt + 1 := by rw [← e2]; exact fl_plE ⟨by omega, by omega⟩ hx4
    unfold S_FR_scientific_J130 F_FR_scientific_J130
    have h3 := T_FR_isMore (x2 := lx168) (x3 := x5) (t0_0 := lx106) (t0_1 := y48) (t0_2 := y49) (t0_3 := y50) (t0_4 := y51) (t0_5 := y52) (t0_6 := y53) (t0_7 := y54) (t0_8 := y55) (t0_9 := y56) (t0_10 := y57) (t1_0 := f132) ⟨by first | omega | decide, by first | omega | decide⟩
    with_reducible refine v_owe h3 ?_
    have h4 := T_FR_cut (x2 := lx168) (x3 := ((F_FR_isMore lx168 x5 lx106 y48 y49 y50 y51 y52 y53 y54 y55 y56 y57 f132) : Int32)) (t0_0 := lx106) (t0_1 := y48) (t0_2 := y49) (t0_3 := y50) (t0_4 := y51) (t0_5 := y52) (t0_6 := y53) (t0_7 := y54) (t0_8 := y55) (t0_9 := y56) (t0_10 := y57) (t1_0 := f132) (t2_0 := t4_0) (by with_reducible assumption) ⟨by first | omega | decide, by first | omega | decide⟩
    with_reducible refine v_owe h4.1 ?_
    obtain ⟨a5, e6⟩ := q_nm (lx149 + 1 : Int32)
    rw [e6]
    have a5i : a5.toInt = lx149.toInt + 1 := by rw [← e6]; exact q_addI (x := lx149.toInt) (y := 1) rfl (by decide) (by omega) (by omega)
    refine v_cons (by first | omega | decide) ?_
    by_cases g7 : (((F_FR_cut lx168 ((F_FR_isMore lx168 x5 lx106 y48 y49 y50 y51 y52 y53 y54 y55 y56 y57 f132) : Int32) lx106 y48 y49 y50 y51 y52 y53 y54 y55 y56 y57 f132 t4_0) : (Nat → Int32)) a5.toNatClampNeg : Int32) = (1 : Int32)
    ·
      rw [if_pos g7, if_pos g7]
      by_cases g8 : (lg_cmp y54 0 : Int32) = (0 : Int32)
      ·
        rw [if_pos g8, if_pos g8]
        have g8z := fl_lz g8
        unfold S_FR_scientific_J175 F_FR_scientific_J175
        unfold S_FR_scientific_J177 F_FR_scientific_J177
        have h9 := T_FR_begin (t0_0 := lx106) (t0_1 := y48) (t0_2 := y49) (t0_3 := y50) (t0_4 := y51) (t0_5 := y52) (t0_6 := y53) (t0_7 := y54) (t0_8 := y55) (t0_9 := y56) (t0_10 := y57) (t1_0 := t5_0) 
        with_reducible refine v_owe h9.1 ?_
        replace h9 := h9.2
        generalize F_FR_begin lx106 y48 y49 y50 y51 y52 y53 y54 y55 y56 y57 t5_0 = p259 at *
        unfold Q_FR_begin at h9
        obtain ⟨h91, h93, h95, h96, h97, h98, h99, h9x⟩ := h9
        have h99i := congrArg Int64.toInt h99
        have h97i := congrArg Int64.toInt h97
        unfold S_FR_scientific_c180 F_FR_scientific_c180
        exact vf_sc2 hx4 ⟨by omega, by omega⟩ 1000000 _ _ _ _ _ _ _ _ _ _ _ _ _ ⟨by decide, by omega⟩ (by omega) ⟨by omega, by omega, fun _ => by omega⟩
      ·
        rw [if_neg g8, if_neg g8]
        have g8z := fl_lnz g8
        unfold S_FR_scientific_J177 F_FR_scientific_J177
        have h10 := T_FR_begin (t0_0 := lx106) (t0_1 := y48) (t0_2 := y49) (t0_3 := y50) (t0_4 := y51) (t0_5 := y52) (t0_6 := y53) (t0_7 := y54) (t0_8 := y55) (t0_9 := y56) (t0_10 := y57) (t1_0 := t5_0) 
        with_reducible refine v_owe h10.1 ?_
        replace h10 := h10.2
        generalize F_FR_begin lx106 y48 y49 y50 y51 y52 y53 y54 y55 y56 y57 t5_0 = p259 at *
        unfold Q_FR_begin at h10
        obtain ⟨h101, h103, h105, h106, h107, h108, h109, h10x⟩ := h10
        have h109i := congrArg Int64.toInt h109
        have h107i := congrArg Int64.toInt h107
        unfold S_FR_scientific_c180 F_FR_scientific_c180
        exact vf_sc2 hx4 ⟨by omega, by omega⟩ 1000000 _ _ _ _ _ _ _ _ _ _ _ _ _ ⟨by decide, by omega⟩ (by omega) ⟨by omega, by omega, fun _ => by omega⟩
    ·
      rw [if_neg g7, if_neg g7]
      unfold S_FR_scientific_J175 F_FR_scientific_J175
      unfold S_FR_scientific_J177 F_FR_scientific_J177
      have h11 := T_FR_begin (t0_0 := lx106) (t0_1 := y48) (t0_2 := y49) (t0_3 := y50) (t0_4 := y51) (t0_5 := y52) (t0_6 := y53) (t0_7 := y54) (t0_8 := y55) (t0_9 := y56) (t0_10 := y57) (t1_0 := t5_0) 
      with_reducible refine v_owe h11.1 ?_
      replace h11 := h11.2
      generalize F_FR_begin lx106 y48 y49 y50 y51 y52 y53 y54 y55 y56 y57 t5_0 = p259 at *
      unfold Q_FR_begin at h11
      obtain ⟨h111, h113, h115, h116, h117, h118, h119, h11x⟩ := h11
      have h119i := congrArg Int64.toInt h119
      have h117i := congrArg Int64.toInt h117
      unfold S_FR_scientific_c180 F_FR_scientific_c180
      exact vf_sc2 hx4 ⟨by omega, by omega⟩ 1000000 _ _ _ _ _ _ _ _ _ _ _ _ _ ⟨by decide, by omega⟩ (by omega) ⟨by omega, by omega, fun _ => by omega⟩
  ·
    rw [if_neg g1, if_neg g1]
    unfold S_FR_scientific_J130 F_FR_scientific_J130
    have h12 := T_FR_isMore (x2 := (0 : Int32)) (x3 := x5) (t0_0 := lx106) (t0_1 := y48) (t0_2 := y49) (t0_3 := y50) (t0_4 := y51) (t0_5 := y52) (t0_6 := y53) (t0_7 := y54) (t0_8 := y55) (t0_9 := y56) (t0_10 := y57) (t1_0 := f132) ⟨by first | omega | decide, by first | omega | decide⟩
    with_reducible refine v_owe h12 ?_
    have h13 := T_FR_cut (x2 := (0 : Int32)) (x3 := ((F_FR_isMore (0 : Int32) x5 lx106 y48 y49 y50 y51 y52 y53 y54 y55 y56 y57 f132) : Int32)) (t0_0 := lx106) (t0_1 := y48) (t0_2 := y49) (t0_3 := y50) (t0_4 := y51) (t0_5 := y52) (t0_6 := y53) (t0_7 := y54) (t0_8 := y55) (t0_9 := y56) (t0_10 := y57) (t1_0 := f132) (t2_0 := t4_0) (by with_reducible assumption) ⟨by first | omega | decide, by first | omega | decide⟩
    with_reducible refine v_owe h13.1 ?_
    obtain ⟨a14, e15⟩ := q_nm (lx149 + 1 : Int32)
    rw [e15]
    have a14i : a14.toInt = lx149.toInt + 1 := by rw [← e15]; exact q_addI (x := lx149.toInt) (y := 1) rfl (by decide) (by omega) (by omega)
    refine v_cons (by first | omega | decide) ?_
    by_cases g16 : (((F_FR_cut (0 : Int32) ((F_FR_isMore (0 : Int32) x5 lx106 y48 y49 y50 y51 y52 y53 y54 y55 y56 y57 f132) : Int32) lx106 y48 y49 y50 y51 y52 y53 y54 y55 y56 y57 f132 t4_0) : (Nat → Int32)) a14.toNatClampNeg : Int32) = (1 : Int32)
    ·
      rw [if_pos g16, if_pos g16]
      by_cases g17 : (lg_cmp y54 0 : Int32) = (0 : Int32)
      ·
        rw [if_pos g17, if_pos g17]
        have g17z := fl_lz g17
        unfold S_FR_scientific_J175 F_FR_scientific_J175
        unfold S_FR_scientific_J177 F_FR_scientific_J177
        have h18 := T_FR_begin (t0_0 := lx106) (t0_1 := y48) (t0_2 := y49) (t0_3 := y50) (t0_4 := y51) (t0_5 := y52) (t0_6 := y53) (t0_7 := y54) (t0_8 := y55) (t0_9 := y56) (t0_10 := y57) (t1_0 := t5_0) 
        with_reducible refine v_owe h18.1 ?_
        replace h18 := h18.2
        generalize F_FR_begin lx106 y48 y49 y50 y51 y52 y53 y54 y55 y56 y57 t5_0 = p259 at *
        unfold Q_FR_begin at h18
        obtain ⟨h181, h183, h185, h186, h187, h188, h189, h18x⟩ := h18
        have h189i := congrArg Int64.toInt h189
        have h187i := congrArg Int64.toInt h187
        unfold S_FR_scientific_c180 F_FR_scientific_c180
        exact vf_sc2 hx4 ⟨by omega, by omega⟩ 1000000 _ _ _ _ _ _ _ _ _ _ _ _ _ ⟨by decide, by omega⟩ (by omega) ⟨by omega, by omega, fun _ => by omega⟩
      ·
        rw [if_neg g17, if_neg g17]
        have g17z := fl_lnz g17
        unfold S_FR_scientific_J177 F_FR_scientific_J177
        have h19 := T_FR_begin (t0_0 := lx106) (t0_1 := y48) (t0_2 := y49) (t0_3 := y50) (t0_4 := y51) (t0_5 := y52) (t0_6 := y53) (t0_7 := y54) (t0_8 := y55) (t0_9 := y56) (t0_10 := y57) (t1_0 := t5_0) 
        with_reducible refine v_owe h19.1 ?_
        replace h19 := h19.2
        generalize F_FR_begin lx106 y48 y49 y50 y51 y52 y53 y54 y55 y56 y57 t5_0 = p259 at *
        unfold Q_FR_begin at h19
        obtain ⟨h191, h193, h195, h196, h197, h198, h199, h19x⟩ := h19
        have h199i := congrArg Int64.toInt h199
        have h197i := congrArg Int64.toInt h197
        unfold S_FR_scientific_c180 F_FR_scientific_c180
        exact vf_sc2 hx4 ⟨by omega, by omega⟩ 1000000 _ _ _ _ _ _ _ _ _ _ _ _ _ ⟨by decide, by omega⟩ (by omega) ⟨by omega, by omega, fun _ => by omega⟩
    ·
      rw [if_neg g16, if_neg g16]
      unfold S_FR_scientific_J175 F_FR_scientific_J175
      unfold S_FR_scientific_J177 F_FR_scientific_J177
      have h20 := T_FR_begin (t0_0 := lx106) (t0_1 := y48) (t0_2 := y49) (t0_3 := y50) (t0_4 := y51) (t0_5 := y52) (t0_6 := y53) (t0_7 := y54) (t0_8 := y55) (t0_9 := y56) (t0_10 := y57) (t1_0 := t5_0) 
      with_reducible refine v_owe h20.1 ?_
      replace h20 := h20.2
      generalize F_FR_begin lx106 y48 y49 y50 y51 y52 y53 y54 y55 y56 y57 t5_0 = p259 at *
      unfold Q_FR_begin at h20
      obtain ⟨h201, h203, h205, h206, h207, h208, h209, h20x⟩ := h20
      have h209i := congrArg Int64.toInt h209
      have h207i := congrArg Int64.toInt h207
      unfold S_FR_scientific_c180 F_FR_scientific_c180
      exact vf_sc2 hx4 ⟨by omega, by omega⟩ 1000000 _ _ _ _ _ _ _ _ _ _ _ _ _ ⟨by decide, by omega⟩ (by omega) ⟨by omega, by omega, fun _ => by omega⟩
theorem T_FR_scientific {x2 : Int64} {x3 : Int32} {x4 : Int32} {x5 : Int32} {t0_0 : Int32} {t0_1 : Int32} {t0_2 : Int32} {t0_3 : Int32} {t0_4 : Int64} {t0_5 : Int32} {t0_6 : Int32} {t0_7 : Int64} {t0_8 : Int32} {t0_9 : Int64} {t0_10 : Int32} {t1_0 : (Nat → Int32)} {t2_0 : (Nat → Int32)} {t3_0 : (Nat → Int32)} {t4_0 : (Nat → Int32)} {t5_0 : (Nat → Int32)}  : (S_FR_scientific x2 x3 x4 x5 t0_0 t0_1 t0_2 t0_3 t0_4 t0_5 t0_6 t0_7 t0_8 t0_9 t0_10 t1_0 t2_0 t3_0 t4_0 t5_0) ∧ Q_FR_scientific (F_FR_scientific x2 x3 x4 x5 t0_0 t0_1 t0_2 t0_3 t0_4 t0_5 t0_6 t0_7 t0_8 t0_9 t0_10 t1_0 t2_0 t3_0 t4_0 t5_0) := by
  have e0 : (0 : Int32).toInt = 0 := rfl
  have e1 : (1 : Int32).toInt = 1 := rfl
  have eL0 : (0 : Int64).toInt = 0 := rfl
  unfold S_FR_scientific F_FR_scientific
  by_cases g1 : x3 = (0 : Int32)
  ·
    rw [if_pos g1, if_pos g1]
    have g1i : x3.toInt = 0 := q_eqI g1
    unfold S_FR_scientific_J18 F_FR_scientific_J18
    unfold S_FR_scientific_J19 F_FR_scientific_J19
    have h2 := T_FR_open (x2 := x2) (x3 := (0 : Int32)) (t0_0 := t0_0) (t0_1 := t0_1) (t0_2 := t0_2) (t0_3 := t0_3) (t0_4 := t0_4) (t0_5 := t0_5) (t0_6 := t0_6) (t0_7 := t0_7) (t0_8 := t0_8) (t0_9 := t0_9) (t0_10 := t0_10) 
    generalize F_FR_open x2 (0 : Int32) t0_0 t0_1 t0_2 t0_3 t0_4 t0_5 t0_6 t0_7 t0_8 t0_9 t0_10 = p81 at *
    unfold Q_FR_open at h2
    obtain ⟨h2a, h2b, h27, h28, h2f, h25⟩ := h2
    have op7 := h27
    have op8 := h28
    have opf := h2f
    unfold S_FR_scientific_c19 F_FR_scientific_c19
    by_cases g3 : ((F_FR_isWrong x2 x3) : Int32) = (0 : Int32)
    ·
      rw [if_pos g3, if_pos g3]
      by_cases g4 : x4 < (1 : Int32)
      ·
        rw [if_pos g4, if_pos g4]
        have g4i : x4.toInt < 1 := q_ltI g4
        unfold S_FR_scientific_J56 F_FR_scientific_J56
        unfold S_FR_scientific_J72 F_FR_scientific_J72
        have g5 : ¬ ((1 : Int32) ≤ (0 : Int32)) := (by decide)
        rw [if_neg g5, if_neg g5]
        refine ⟨trivial, ?_⟩
        (unfold Q_FR_scientific; dsimp only; first | exact ⟨by omega, by omega⟩ | exact ⟨by decide, by decide⟩)
      ·
        rw [if_neg g4, if_neg g4]
        have g4i : 1 ≤ x4.toInt := q_nltI g4
        by_cases g6 : (800 : Int32) < x4
        ·
          rw [if_pos g6, if_pos g6]
          have g6i : 800 < x4.toInt := q_ltI g6
          unfold S_FR_scientific_J56 F_FR_scientific_J56
          unfold S_FR_scientific_J72 F_FR_scientific_J72
          have g7 : ¬ ((1 : Int32) ≤ (0 : Int32)) := (by decide)
          rw [if_neg g7, if_neg g7]
          refine ⟨trivial, ?_⟩
          (unfold Q_FR_scientific; dsimp only; first | exact ⟨by omega, by omega⟩ | exact ⟨by decide, by decide⟩)
        ·
          rw [if_neg g6, if_neg g6]
          have g6i : x4.toInt ≤ 800 := q_nltI g6
          by_cases g8 : x5 < (0 : Int32)
          ·
            rw [if_pos g8, if_pos g8]
            have g8i : x5.toInt < 0 := q_ltI g8
            unfold S_FR_scientific_J56 F_FR_scientific_J56
            unfold S_FR_scientific_J72 F_FR_scientific_J72
            have g9 : ¬ ((1 : Int32) ≤ (0 : Int32)) := (by decide)
            rw [if_neg g9, if_neg g9]
            refine ⟨trivial, ?_⟩
            (unfold Q_FR_scientific; dsimp only; first | exact ⟨by omega, by omega⟩ | exact ⟨by decide, by decide⟩)
          ·
            rw [if_neg g8, if_neg g8]
            have g8i : 0 ≤ x5.toInt := q_nltI g8
            by_cases g10 : x5 ≤ (3 : Int32)
            ·
              rw [if_pos g10, if_pos g10]
              have g10i : x5.toInt ≤ 3 := q_leI g10
              by_cases g11 : ((F_FR_isFinite (p81.1 : Int32) (p81.2.1 : Int32) (p81.2.2.1 : Int32) (p81.2.2.2.1 : Int32) (p81.2.2.2.2.1 : Int64) (p81.2.2.2.2.2.1 : Int32) (p81.2.2.2.2.2.2.1 : Int32) (p81.2.2.2.2.2.2.2.1 : Int64) (p81.2.2.2.2.2.2.2.2.1 : Int32) (p81.2.2.2.2.2.2.2.2.2.1 : Int64) (p81.2.2.2.2.2.2.2.2.2.2 : Int32)) : Int32) = (0 : Int32)
              ·
                rw [if_pos g11, if_pos g11]
                unfold S_FR_scientific_J72 F_FR_scientific_J72
                have g12 : ¬ ((2 : Int32) ≤ (0 : Int32)) := (by decide)
                rw [if_neg g12, if_neg g12]
                refine ⟨trivial, ?_⟩
                (unfold Q_FR_scientific; dsimp only; first | exact ⟨by omega, by omega⟩ | exact ⟨by decide, by decide⟩)
              ·
                rw [if_neg g11, if_neg g11]
                have fin := fl_fin g11
                unfold S_FR_scientific_J72 F_FR_scientific_J72
                have g13 : ((0 : Int32) ≤ (0 : Int32)) := (by decide)
                rw [if_pos g13, if_pos g13]
                have h14 := T_FR_setValue (t0_0 := (0 : Int32)) (t0_1 := (p81.2.1 : Int32)) (t0_2 := (p81.2.2.1 : Int32)) (t0_3 := (p81.2.2.2.1 : Int32)) (t0_4 := (p81.2.2.2.2.1 : Int64)) (t0_5 := (p81.2.2.2.2.2.1 : Int32)) (t0_6 := (p81.2.2.2.2.2.2.1 : Int32)) (t0_7 := (p81.2.2.2.2.2.2.2.1 : Int64)) (t0_8 := (p81.2.2.2.2.2.2.2.2.1 : Int32)) (t0_9 := (p81.2.2.2.2.2.2.2.2.2.1 : Int64)) (t0_10 := (p81.2.2.2.2.2.2.2.2.2.2 : Int32)) (t1_0 := t1_0) (t2_0 := t2_0) (t3_0 := t3_0) ⟨by omega, by omega⟩ ⟨by omega, by omega⟩
                with_reducible refine v_owe h14.1 ?_
                replace h14 := h14.2
                generalize F_FR_setValue (0 : Int32) (p81.2.1 : Int32) (p81.2.2.1 : Int32) (p81.2.2.2.1 : Int32) (p81.2.2.2.2.1 : Int64) (p81.2.2.2.2.2.1 : Int32) (p81.2.2.2.2.2.2.1 : Int32) (p81.2.2.2.2.2.2.2.1 : Int64) (p81.2.2.2.2.2.2.2.2.1 : Int32) (p81.2.2.2.2.2.2.2.2.2.1 : Int64) (p81.2.2.2.2.2.2.2.2.2.2 : Int32) t1_0 t2_0 t3_0 = p136 at *
                unfold Q_FR_setValue at h14
                obtain ⟨hw, hnz⟩ := h14
                unfold S_FR_scientific_c85 F_FR_scientific_c85
                by_cases g15 : (lg_cmp (p81.2.2.2.2.2.2.2.1 : Int64) 0 : Int32) = (0 : Int32)
                ·
                  rw [if_pos g15, if_pos g15]
                  have g15z := fl_lz g15
                  exact T_FR_sciJ ⟨by omega, by omega⟩ hw (by decide)
                ·
                  rw [if_neg g15, if_neg g15]
                  have g15z := fl_lnz g15
                  have h16 := T_FR_top (t0_0 := (0 : Int32)) (t0_1 := (p81.2.1 : Int32)) (t0_2 := (p81.2.2.1 : Int32)) (t0_3 := (p81.2.2.2.1 : Int32)) (t0_4 := (p81.2.2.2.2.1 : Int64)) (t0_5 := (p81.2.2.2.2.2.1 : Int32)) (t0_6 := (p81.2.2.2.2.2.2.1 : Int32)) (t0_7 := (p81.2.2.2.2.2.2.2.1 : Int64)) (t0_8 := (p81.2.2.2.2.2.2.2.2.1 : Int32)) (t0_9 := (p81.2.2.2.2.2.2.2.2.2.1 : Int64)) (t0_10 := (p81.2.2.2.2.2.2.2.2.2.2 : Int32)) (t1_0 := (p136.2.2 : (Nat → Int32))) (by with_reducible assumption) (hnz (by omega))
                  have h16q := h16.2
                  with_reducible refine v_owe h16.1 ?_
                  exact T_FR_sciJ ⟨by omega, by omega⟩ hw (T_FR_top hw (hnz (by omega))).2.1
            ·
              rw [if_neg g10, if_neg g10]
              have g10i : 3 < x5.toInt := q_nleI g10
              unfold S_FR_scientific_J56 F_FR_scientific_J56
              unfold S_FR_scientific_J72 F_FR_scientific_J72
              have g17 : ¬ ((1 : Int32) ≤ (0 : Int32)) := (by decide)
              rw [if_neg g17, if_neg g17]
              refine ⟨trivial, ?_⟩
              (unfold Q_FR_scientific; dsimp only; first | exact ⟨by omega, by omega⟩ | exact ⟨by decide, by decide⟩)
    ·
      rw [if_neg g3, if_neg g3]
      unfold S_FR_scientific_J56 F_FR_scientific_J56
      unfold S_FR_scientific_J72 F_FR_scientific_J72
      have g18 : ¬ ((1 : Int32) ≤ (0 : Int32)) := (by decide)
      rw [if_neg g18, if_neg g18]
      refine ⟨trivial, ?_⟩
      (unfold Q_FR_scientific; dsimp only; first | exact ⟨by omega, by omega⟩ | exact ⟨by decide, by decide⟩)
  ·
    rw [if_neg g1, if_neg g1]
    have g1i : x3.toInt ≠ 0 := q_neI g1
    by_cases g19 : ((F_FR_isWrong x2 x3) : Int32) = (0 : Int32)
    ·
      rw [if_pos g19, if_pos g19]
      unfold S_FR_scientific_J19 F_FR_scientific_J19
      have h20 := T_FR_open (x2 := x2) (x3 := (1 : Int32)) (t0_0 := t0_0) (t0_1 := t0_1) (t0_2 := t0_2) (t0_3 := t0_3) (t0_4 := t0_4) (t0_5 := t0_5) (t0_6 := t0_6) (t0_7 := t0_7) (t0_8 := t0_8) (t0_9 := t0_9) (t0_10 := t0_10) 
      generalize F_FR_open x2 (1 : Int32) t0_0 t0_1 t0_2 t0_3 t0_4 t0_5 t0_6 t0_7 t0_8 t0_9 t0_10 = p81 at *
      unfold Q_FR_open at h20
      obtain ⟨h20a, h20b, h207, h208, h20f, h205⟩ := h20
      have op7 := h207
      have op8 := h208
      have opf := h20f
      unfold S_FR_scientific_c19 F_FR_scientific_c19
      rw [if_pos g19, if_pos g19]
      by_cases g21 : x4 < (1 : Int32)
      ·
        rw [if_pos g21, if_pos g21]
        have g21i : x4.toInt < 1 := q_ltI g21
        unfold S_FR_scientific_J56 F_FR_scientific_J56
        unfold S_FR_scientific_J72 F_FR_scientific_J72
        have g22 : ¬ ((1 : Int32) ≤ (0 : Int32)) := (by decide)
        rw [if_neg g22, if_neg g22]
        refine ⟨trivial, ?_⟩
        (unfold Q_FR_scientific; dsimp only; first | exact ⟨by omega, by omega⟩ | exact ⟨by decide, by decide⟩)
      ·
        rw [if_neg g21, if_neg g21]
        have g21i : 1 ≤ x4.toInt := q_nltI g21
        by_cases g23 : (800 : Int32) < x4
        ·
          rw [if_pos g23, if_pos g23]
          have g23i : 800 < x4.toInt := q_ltI g23
          unfold S_FR_scientific_J56 F_FR_scientific_J56
          unfold S_FR_scientific_J72 F_FR_scientific_J72
          have g24 : ¬ ((1 : Int32) ≤ (0 : Int32)) := (by decide)
          rw [if_neg g24, if_neg g24]
          refine ⟨trivial, ?_⟩
          (unfold Q_FR_scientific; dsimp only; first | exact ⟨by omega, by omega⟩ | exact ⟨by decide, by decide⟩)
        ·
          rw [if_neg g23, if_neg g23]
          have g23i : x4.toInt ≤ 800 := q_nltI g23
          by_cases g25 : x5 < (0 : Int32)
          ·
            rw [if_pos g25, if_pos g25]
            have g25i : x5.toInt < 0 := q_ltI g25
            unfold S_FR_scientific_J56 F_FR_scientific_J56
            unfold S_FR_scientific_J72 F_FR_scientific_J72
            have g26 : ¬ ((1 : Int32) ≤ (0 : Int32)) := (by decide)
            rw [if_neg g26, if_neg g26]
            refine ⟨trivial, ?_⟩
            (unfold Q_FR_scientific; dsimp only; first | exact ⟨by omega, by omega⟩ | exact ⟨by decide, by decide⟩)
          ·
            rw [if_neg g25, if_neg g25]
            have g25i : 0 ≤ x5.toInt := q_nltI g25
            by_cases g27 : x5 ≤ (3 : Int32)
            ·
              rw [if_pos g27, if_pos g27]
              have g27i : x5.toInt ≤ 3 := q_leI g27
              by_cases g28 : ((F_FR_isFinite (p81.1 : Int32) (p81.2.1 : Int32) (p81.2.2.1 : Int32) (p81.2.2.2.1 : Int32) (p81.2.2.2.2.1 : Int64) (p81.2.2.2.2.2.1 : Int32) (p81.2.2.2.2.2.2.1 : Int32) (p81.2.2.2.2.2.2.2.1 : Int64) (p81.2.2.2.2.2.2.2.2.1 : Int32) (p81.2.2.2.2.2.2.2.2.2.1 : Int64) (p81.2.2.2.2.2.2.2.2.2.2 : Int32)) : Int32) = (0 : Int32)
              ·
                rw [if_pos g28, if_pos g28]
                unfold S_FR_scientific_J72 F_FR_scientific_J72
                have g29 : ¬ ((2 : Int32) ≤ (0 : Int32)) := (by decide)
                rw [if_neg g29, if_neg g29]
                refine ⟨trivial, ?_⟩
                (unfold Q_FR_scientific; dsimp only; first | exact ⟨by omega, by omega⟩ | exact ⟨by decide, by decide⟩)
              ·
                rw [if_neg g28, if_neg g28]
                have fin := fl_fin g28
                unfold S_FR_scientific_J72 F_FR_scientific_J72
                have g30 : ((0 : Int32) ≤ (0 : Int32)) := (by decide)
                rw [if_pos g30, if_pos g30]
                have h31 := T_FR_setValue (t0_0 := (0 : Int32)) (t0_1 := (p81.2.1 : Int32)) (t0_2 := (p81.2.2.1 : Int32)) (t0_3 := (p81.2.2.2.1 : Int32)) (t0_4 := (p81.2.2.2.2.1 : Int64)) (t0_5 := (p81.2.2.2.2.2.1 : Int32)) (t0_6 := (p81.2.2.2.2.2.2.1 : Int32)) (t0_7 := (p81.2.2.2.2.2.2.2.1 : Int64)) (t0_8 := (p81.2.2.2.2.2.2.2.2.1 : Int32)) (t0_9 := (p81.2.2.2.2.2.2.2.2.2.1 : Int64)) (t0_10 := (p81.2.2.2.2.2.2.2.2.2.2 : Int32)) (t1_0 := t1_0) (t2_0 := t2_0) (t3_0 := t3_0) ⟨by omega, by omega⟩ ⟨by omega, by omega⟩
                with_reducible refine v_owe h31.1 ?_
                replace h31 := h31.2
                generalize F_FR_setValue (0 : Int32) (p81.2.1 : Int32) (p81.2.2.1 : Int32) (p81.2.2.2.1 : Int32) (p81.2.2.2.2.1 : Int64) (p81.2.2.2.2.2.1 : Int32) (p81.2.2.2.2.2.2.1 : Int32) (p81.2.2.2.2.2.2.2.1 : Int64) (p81.2.2.2.2.2.2.2.2.1 : Int32) (p81.2.2.2.2.2.2.2.2.2.1 : Int64) (p81.2.2.2.2.2.2.2.2.2.2 : Int32) t1_0 t2_0 t3_0 = p136 at *
                unfold Q_FR_setValue at h31
                obtain ⟨hw, hnz⟩ := h31
                unfold S_FR_scientific_c85 F_FR_scientific_c85
                by_cases g32 : (lg_cmp (p81.2.2.2.2.2.2.2.1 : Int64) 0 : Int32) = (0 : Int32)
                ·
                  rw [if_pos g32, if_pos g32]
                  have g32z := fl_lz g32
                  exact T_FR_sciJ ⟨by omega, by omega⟩ hw (by decide)
                ·
                  rw [if_neg g32, if_neg g32]
                  have g32z := fl_lnz g32
                  have h33 := T_FR_top (t0_0 := (0 : Int32)) (t0_1 := (p81.2.1 : Int32)) (t0_2 := (p81.2.2.1 : Int32)) (t0_3 := (p81.2.2.2.1 : Int32)) (t0_4 := (p81.2.2.2.2.1 : Int64)) (t0_5 := (p81.2.2.2.2.2.1 : Int32)) (t0_6 := (p81.2.2.2.2.2.2.1 : Int32)) (t0_7 := (p81.2.2.2.2.2.2.2.1 : Int64)) (t0_8 := (p81.2.2.2.2.2.2.2.2.1 : Int32)) (t0_9 := (p81.2.2.2.2.2.2.2.2.2.1 : Int64)) (t0_10 := (p81.2.2.2.2.2.2.2.2.2.2 : Int32)) (t1_0 := (p136.2.2 : (Nat → Int32))) (by with_reducible assumption) (hnz (by omega))
                  have h33q := h33.2
                  with_reducible refine v_owe h33.1 ?_
                  exact T_FR_sciJ ⟨by omega, by omega⟩ hw (T_FR_top hw (hnz (by omega))).2.1
            ·
              rw [if_neg g27, if_neg g27]
              have g27i : 3 < x5.toInt := q_nleI g27
              unfold S_FR_scientific_J56 F_FR_scientific_J56
              unfold S_FR_scientific_J72 F_FR_scientific_J72
              have g34 : ¬ ((1 : Int32) ≤ (0 : Int32)) := (by decide)
              rw [if_neg g34, if_neg g34]
              refine ⟨trivial, ?_⟩
              (unfold Q_FR_scientific; dsimp only; first | exact ⟨by omega, by omega⟩ | exact ⟨by decide, by decide⟩)
    ·
      rw [if_neg g19, if_neg g19]
      unfold S_FR_scientific_J18 F_FR_scientific_J18
      unfold S_FR_scientific_J19 F_FR_scientific_J19
      have h35 := T_FR_open (x2 := x2) (x3 := (0 : Int32)) (t0_0 := t0_0) (t0_1 := t0_1) (t0_2 := t0_2) (t0_3 := t0_3) (t0_4 := t0_4) (t0_5 := t0_5) (t0_6 := t0_6) (t0_7 := t0_7) (t0_8 := t0_8) (t0_9 := t0_9) (t0_10 := t0_10) 
      generalize F_FR_open x2 (0 : Int32) t0_0 t0_1 t0_2 t0_3 t0_4 t0_5 t0_6 t0_7 t0_8 t0_9 t0_10 = p81 at *
      unfold Q_FR_open at h35
      obtain ⟨h35a, h35b, h357, h358, h35f, h355⟩ := h35
      have op7 := h357
      have op8 := h358
      have opf := h35f
      unfold S_FR_scientific_c19 F_FR_scientific_c19
      rw [if_neg g19, if_neg g19]
      unfold S_FR_scientific_J56 F_FR_scientific_J56
      unfold S_FR_scientific_J72 F_FR_scientific_J72
      have g36 : ¬ ((1 : Int32) ≤ (0 : Int32)) := (by decide)
      rw [if_neg g36, if_neg g36]
      refine ⟨trivial, ?_⟩
      (unfold Q_FR_scientific; dsimp only; first | exact ⟨by omega, by omega⟩ | exact ⟨by decide, by decide⟩)
