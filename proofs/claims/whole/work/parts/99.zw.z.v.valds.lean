/-! values, for whole: the reference's floats written to places: figures -/
theorem y_dnI {x : Int32} {e : Int} (h : x.toInt = e) (hb : -1000000 ≤ e ∧ e ≤ 1000000) : (x + -1).toInt = e - 1 := by
  have eM : (-1 : Int32).toInt = -1 := rfl
  rw [q_addI h eM (by omega) (by omega)]
  omega
theorem y_topN {Y t : Nat} (h : yDt Y (t + 1)) : yLo Y t ≠ 0 := by
  have h1 := h.1
  have h2 := h.2 (by omega)
  unfold yLt10 at h1 h2
  rw [show t + 1 - 1 = t from rfl] at h2
  have p : 0 < 10 ^ t := Nat.pow_pos (by decide)
  have a := Nat.div_pos (Nat.not_lt.mp h2) p
  have b : Y / 10 ^ t < 10 := by
    rw [Nat.div_lt_iff_lt_mul p, Nat.mul_comm, ← Nat.pow_succ]
    exact h1
  unfold yLo
  rw [Nat.mod_eq_of_lt b]
  omega
theorem V_fx2 {K_F_FR_fixed_L130 : Int32 → (Int32 × Int32 × Int32 × Int32 × Int32 × Int64 × Int32 × Int32 × Int64 × Int32 × Int64 × Int32 × (Nat → Int32) × (Nat → Int32) × (Nat → Int32) × (Nat → Int32) × (Nat → Int32))} {K_F_FR_fixed_L162 : Int32 → Int32 → Int32 → Int32 → Int32 → Int64 → Int32 → Int32 → Int64 → Int32 → Int64 → Int32 → (Nat → Int32) → (Int32 × Int32 × Int32 × Int32 × Int32 × Int64 × Int32 × Int32 × Int64 × Int32 × Int64 × Int32 × (Nat → Int32) × (Nat → Int32) × (Nat → Int32) × (Nat → Int32) × (Nat → Int32))} {x2 : Int64} {x3 : Int32} {x4 : Int32} {x5 : Int32} {t0_0 : Int32} {t0_1 : Int32} {t0_2 : Int32} {t0_3 : Int32} {t0_4 : Int64} {t0_5 : Int32} {t0_6 : Int32} {t0_7 : Int64} {t0_8 : Int32} {t0_9 : Int64} {t0_10 : Int32} {t1_0 : (Nat → Int32)} {t2_0 : (Nat → Int32)} {t3_0 : (Nat → Int32)} {t4_0 : (Nat → Int32)} {t5_0 : (Nat → Int32)} {lx29 : Int32} {p81 : (Int32 × Int32 × Int32 × Int32 × Int64 × Int32 × Int32 × Int64 × Int32 × Int64 × Int32)} {y47 : Int32} {y48 : Int32} {y49 : Int32} {y50 : Int32} {y51 : Int64} {y52 : Int32} {y53 : Int32} {y54 : Int64} {y55 : Int32} {y56 : Int64} {y57 : Int32} {lx106 : Int32} {p136 : ((Nat → Int32) × (Nat → Int32) × (Nat → Int32))} {f128 : (Nat → Int32)} {f130 : (Nat → Int32)} {f132 : (Nat → Int32)} {lx146 : Int32} {f170 : (Nat → Int32)} {p216 : (Int32 × Int32 × Int32 × Int32 × Int64 × Int32 × Int32 × Int64 × Int32 × Int64 × Int32 × (Nat → Int32))} {y179 : Int32} {y180 : Int32} {y181 : Int32} {y182 : Int32} {y183 : Int64} {y184 : Int32} {y185 : Int32} {y186 : Int64} {y187 : Int32} {y188 : Int64} {y189 : Int32} {f190 : (Nat → Int32)} {lx236 : Int32} {lx261 : Int32} {lx262 : Int32} {lx263 : Int32} {lx264 : Int32} {lx265 : Int32} {lx266 : Int64} {lx267 : Int32} {lx268 : Int32} {lx269 : Int64} {lx270 : Int32} {lx271 : Int64} {lx272 : Int32} {lx273 : (Nat → Int32)} {lx316 : Int32} {lx317 : Int32} {lx318 : Int32} {lx319 : Int32} {lx320 : Int64} {lx321 : Int32} {lx322 : Int32} {lx323 : Int64} {lx324 : Int32} {lx325 : Int64} {lx326 : Int32} {lx327 : (Nat → Int32)} {Y pl : Nat} (hv : yRw f170 Y) (h4 : x4.toInt = (pl : Int)) (hpl : pl ≤ 1100) : ∀ (n : Nat) (lx364 : Int32) (lx365 : Int32) (lx366 : Int32) (lx367 : Int32) (lx368 : Int32) (lx369 : Int64) (lx370 : Int32) (lx371 : Int32) (lx372 : Int64) (lx373 : Int32) (lx374 : Int64) (lx375 : Int32) (lx376 : (Nat → Int32)), ∀ (i : Nat) (l : List Nat), lx364.toInt = -1 - (i : Int) → i ≤ pl → pl - i < n → yRt lx366 lx376 l → l.length + (pl - i) ≤ 1800 → (F_FR_fixed_L200 K_F_FR_fixed_L130 K_F_FR_fixed_L162 x2 x3 x4 x5 t0_0 t0_1 t0_2 t0_3 t0_4 t0_5 t0_6 t0_7 t0_8 t0_9 t0_10 t1_0 t2_0 t3_0 t4_0 t5_0 lx29 p81 y47 y48 y49 y50 y51 y52 y53 y54 y55 y56 y57 lx106 p136 f128 f130 f132 lx146 f170 p216 y179 y180 y181 y182 y183 y184 y185 y186 y187 y188 y189 f190 lx236 lx261 lx262 lx263 lx264 lx265 lx266 lx267 lx268 lx269 lx270 lx271 lx272 lx273 lx316 lx317 lx318 lx319 lx320 lx321 lx322 lx323 lx324 lx325 lx326 lx327 n lx364 lx365 lx366 lx367 lx368 lx369 lx370 lx371 lx372 lx373 lx374 lx375 lx376).2.1 = lx365 ∧ yRt (F_FR_fixed_L200 K_F_FR_fixed_L130 K_F_FR_fixed_L162 x2 x3 x4 x5 t0_0 t0_1 t0_2 t0_3 t0_4 t0_5 t0_6 t0_7 t0_8 t0_9 t0_10 t1_0 t2_0 t3_0 t4_0 t5_0 lx29 p81 y47 y48 y49 y50 y51 y52 y53 y54 y55 y56 y57 lx106 p136 f128 f130 f132 lx146 f170 p216 y179 y180 y181 y182 y183 y184 y185 y186 y187 y188 y189 f190 lx236 lx261 lx262 lx263 lx264 lx265 lx266 lx267 lx268 lx269 lx270 lx271 lx272 lx273 lx316 lx317 lx318 lx319 lx320 lx321 lx322 lx323 lx324 lx325 lx326 lx327 n lx364 lx365 lx366 lx367 lx368 lx369 lx370 lx371 lx372 lx373 lx374 lx375 lx376).1 (F_FR_fixed_L200 K_F_FR_fixed_L130 K_F_FR_fixed_L162 x2 x3 x4 x5 t0_0 t0_1 t0_2 t0_3 t0_4 t0_5 t0_6 t0_7 t0_8 t0_9 t0_10 t1_0 t2_0 t3_0 t4_0 t5_0 lx29 p81 y47 y48 y49 y50 y51 y52 y53 y54 y55 y56 y57 lx106 p136 f128 f130 f132 lx146 f170 p216 y179 y180 y181 y182 y183 y184 y185 y186 y187 y188 y189 f190 lx236 lx261 lx262 lx263 lx264 lx265 lx266 lx267 lx268 lx269 lx270 lx271 lx272 lx273 lx316 lx317 lx318 lx319 lx320 lx321 lx322 lx323 lx324 lx325 lx326 lx327 n lx364 lx365 lx366 lx367 lx368 lx369 lx370 lx371 lx372 lx373 lx374 lx375 lx376).2.2.2.2.2.2.2.2.2.2.2.2.2.2.2.2 (l ++ yDz Y (1079 - (i : Int)) (pl - i)) := by
  have e48 : (48 : Int32).toInt = 48 := rfl
  have ng := q_negI h4 (by omega)
  intro n
  induction n with
  | zero =>
    intro lx364 lx365 lx366 lx367 lx368 lx369 lx370 lx371 lx372 lx373 lx374 lx375 lx376 i l g1 g2 g3
    omega
  | succ n ih =>
    intro lx364 lx365 lx366 lx367 lx368 lx369 lx370 lx371 lx372 lx373 lx374 lx375 lx376 i l g1 g2 g3 g4 g5
    rw [F_FR_fixed_L200.eq_2]
    by_cases c : lx364 < -x4
    · rw [if_pos c]
      have c := q_ltI c
      rw [show pl - i = 0 from by omega]
      show lx365 = lx365 ∧ yRt lx366 lx376 (l ++ [])
      rw [List.append_nil]
      exact ⟨rfl, g4⟩
    · rw [if_neg c]
      have c := q_nltI c
      obtain ⟨k, hk⟩ : ∃ k, pl - i = k + 1 := ⟨pl - i - 1, by omega⟩
      have fg := V_figA (x2 := lx364) (t0_0 := lx365) (t0_1 := lx366) (t0_2 := lx367) (t0_3 := lx368) (t0_4 := lx369) (t0_5 := lx370) (t0_6 := lx371) (t0_7 := lx372) (t0_8 := lx373) (t0_9 := lx374) (t0_10 := lx375) hv g1 (by omega)
      rw [show -1 - (i : Int) + 1080 = 1079 - (i : Int) from by omega] at fg
      have f9 := yFz_9 Y (1079 - (i : Int))
      have ch : (48 + F_FR_figureAt lx364 lx365 lx366 lx367 lx368 lx369 lx370 lx371 lx372 lx373 lx374 lx375 f170).toInt = ((48 + yFz Y (1079 - (i : Int)) : Nat) : Int) := by
        rw [q_addI e48 fg (by omega) (by omega)]
        omega
      have w := V_rt g4 (by omega) ch
      unfold F_FR_add F_FR_fixed_c218
      have r := ih (lx364 + -1) lx365 (lx366 + 1) lx367 lx368 lx369 lx370 lx371 lx372 lx373 lx374 lx375 _ (i + 1) _ ((y_dnI g1 (by omega)).trans (by omega)) (by omega) (by omega) w (by rw [List.length_append, List.length_singleton]; omega)
      rw [hk]
      show _ = _ ∧ yRt _ _ (l ++ ((48 + yFz Y (1079 - (i : Int))) :: yDz Y (1079 - (i : Int) - 1) k))
      rw [List.append_assoc, show pl - (i + 1) = k from by omega, show (1079 : Int) - ((i + 1 : Nat) : Int) = 1079 - (i : Int) - 1 from by omega] at r
      exact r
theorem V_fxJ {K_F_FR_fixed_L130 : Int32 → (Int32 × Int32 × Int32 × Int32 × Int32 × Int64 × Int32 × Int32 × Int64 × Int32 × Int64 × Int32 × (Nat → Int32) × (Nat → Int32) × (Nat → Int32) × (Nat → Int32) × (Nat → Int32))} {K_F_FR_fixed_L162 : Int32 → Int32 → Int32 → Int32 → Int32 → Int64 → Int32 → Int32 → Int64 → Int32 → Int64 → Int32 → (Nat → Int32) → (Int32 × Int32 × Int32 × Int32 × Int32 × Int64 × Int32 × Int32 × Int64 × Int32 × Int64 × Int32 × (Nat → Int32) × (Nat → Int32) × (Nat → Int32) × (Nat → Int32) × (Nat → Int32))} {x2 : Int64} {x3 : Int32} {x4 : Int32} {x5 : Int32} {t0_0 : Int32} {t0_1 : Int32} {t0_2 : Int32} {t0_3 : Int32} {t0_4 : Int64} {t0_5 : Int32} {t0_6 : Int32} {t0_7 : Int64} {t0_8 : Int32} {t0_9 : Int64} {t0_10 : Int32} {t1_0 : (Nat → Int32)} {t2_0 : (Nat → Int32)} {t3_0 : (Nat → Int32)} {t4_0 : (Nat → Int32)} {t5_0 : (Nat → Int32)} {lx29 : Int32} {p81 : (Int32 × Int32 × Int32 × Int32 × Int64 × Int32 × Int32 × Int64 × Int32 × Int64 × Int32)} {y47 : Int32} {y48 : Int32} {y49 : Int32} {y50 : Int32} {y51 : Int64} {y52 : Int32} {y53 : Int32} {y54 : Int64} {y55 : Int32} {y56 : Int64} {y57 : Int32} {lx106 : Int32} {p136 : ((Nat → Int32) × (Nat → Int32) × (Nat → Int32))} {f128 : (Nat → Int32)} {f130 : (Nat → Int32)} {f132 : (Nat → Int32)} {lx146 : Int32} {f170 : (Nat → Int32)} {p216 : (Int32 × Int32 × Int32 × Int32 × Int64 × Int32 × Int32 × Int64 × Int32 × Int64 × Int32 × (Nat → Int32))} {y179 : Int32} {y180 : Int32} {y181 : Int32} {y182 : Int32} {y183 : Int64} {y184 : Int32} {y185 : Int32} {y186 : Int64} {y187 : Int32} {y188 : Int64} {y189 : Int32} {f190 : (Nat → Int32)} {lx236 : Int32} {lx261 : Int32} {lx262 : Int32} {lx263 : Int32} {lx264 : Int32} {lx265 : Int32} {lx266 : Int64} {lx267 : Int32} {lx268 : Int32} {lx269 : Int64} {lx270 : Int32} {lx271 : Int64} {lx272 : Int32} {lx273 : (Nat → Int32)} {lx316 : Int32} {lx317 : Int32} {lx318 : Int32} {lx319 : Int32} {lx320 : Int64} {lx321 : Int32} {lx322 : Int32} {lx323 : Int64} {lx324 : Int32} {lx325 : Int64} {lx326 : Int32} {lx327 : (Nat → Int32)} {Y pl : Nat} {l : List Nat} (hv : yRw f170 Y) (h4 : x4.toInt = (pl : Int)) (hpl : pl ≤ 1100) (hr : yRt lx317 lx327 l) (hl : l.length ≤ 700) : (F_FR_fixed_J197 K_F_FR_fixed_L130 K_F_FR_fixed_L162 x2 x3 x4 x5 t0_0 t0_1 t0_2 t0_3 t0_4 t0_5 t0_6 t0_7 t0_8 t0_9 t0_10 t1_0 t2_0 t3_0 t4_0 t5_0 lx29 p81 y47 y48 y49 y50 y51 y52 y53 y54 y55 y56 y57 lx106 p136 f128 f130 f132 lx146 f170 p216 y179 y180 y181 y182 y183 y184 y185 y186 y187 y188 y189 f190 lx236 lx261 lx262 lx263 lx264 lx265 lx266 lx267 lx268 lx269 lx270 lx271 lx272 lx273 lx316 lx317 lx318 lx319 lx320 lx321 lx322 lx323 lx324 lx325 lx326 lx327).2.1 = lx316 ∧ yRt (F_FR_fixed_J197 K_F_FR_fixed_L130 K_F_FR_fixed_L162 x2 x3 x4 x5 t0_0 t0_1 t0_2 t0_3 t0_4 t0_5 t0_6 t0_7 t0_8 t0_9 t0_10 t1_0 t2_0 t3_0 t4_0 t5_0 lx29 p81 y47 y48 y49 y50 y51 y52 y53 y54 y55 y56 y57 lx106 p136 f128 f130 f132 lx146 f170 p216 y179 y180 y181 y182 y183 y184 y185 y186 y187 y188 y189 f190 lx236 lx261 lx262 lx263 lx264 lx265 lx266 lx267 lx268 lx269 lx270 lx271 lx272 lx273 lx316 lx317 lx318 lx319 lx320 lx321 lx322 lx323 lx324 lx325 lx326 lx327).1 (F_FR_fixed_J197 K_F_FR_fixed_L130 K_F_FR_fixed_L162 x2 x3 x4 x5 t0_0 t0_1 t0_2 t0_3 t0_4 t0_5 t0_6 t0_7 t0_8 t0_9 t0_10 t1_0 t2_0 t3_0 t4_0 t5_0 lx29 p81 y47 y48 y49 y50 y51 y52 y53 y54 y55 y56 y57 lx106 p136 f128 f130 f132 lx146 f170 p216 y179 y180 y181 y182 y183 y184 y185 y186 y187 y188 y189 f190 lx236 lx261 lx262 lx263 lx264 lx265 lx266 lx267 lx268 lx269 lx270 lx271 lx272 lx273 lx316 lx317 lx318 lx319 lx320 lx321 lx322 lx323 lx324 lx325 lx326 lx327).2.2.2.2.2.2.2.2.2.2.2.2.2.2.2.2 (l ++ yDz Y 1079 pl) := by
  have h0 := hr.1
  unfold F_FR_fixed_J197
  exact V_fx2 hv h4 hpl ((1897 - lx317.toInt).toNat + 1) (-1) lx316 lx317 lx318 lx319 lx320 lx321 lx322 lx323 lx324 lx325 lx326 lx327 0 l rfl (by omega) (by omega) hr (by omega)
theorem V_fx1 {K_F_FR_fixed_L130 : Int32 → (Int32 × Int32 × Int32 × Int32 × Int32 × Int64 × Int32 × Int32 × Int64 × Int32 × Int64 × Int32 × (Nat → Int32) × (Nat → Int32) × (Nat → Int32) × (Nat → Int32) × (Nat → Int32))} {x2 : Int64} {x3 : Int32} {x4 : Int32} {x5 : Int32} {t0_0 : Int32} {t0_1 : Int32} {t0_2 : Int32} {t0_3 : Int32} {t0_4 : Int64} {t0_5 : Int32} {t0_6 : Int32} {t0_7 : Int64} {t0_8 : Int32} {t0_9 : Int64} {t0_10 : Int32} {t1_0 : (Nat → Int32)} {t2_0 : (Nat → Int32)} {t3_0 : (Nat → Int32)} {t4_0 : (Nat → Int32)} {t5_0 : (Nat → Int32)} {lx29 : Int32} {p81 : (Int32 × Int32 × Int32 × Int32 × Int64 × Int32 × Int32 × Int64 × Int32 × Int64 × Int32)} {y47 : Int32} {y48 : Int32} {y49 : Int32} {y50 : Int32} {y51 : Int64} {y52 : Int32} {y53 : Int32} {y54 : Int64} {y55 : Int32} {y56 : Int64} {y57 : Int32} {lx106 : Int32} {p136 : ((Nat → Int32) × (Nat → Int32) × (Nat → Int32))} {f128 : (Nat → Int32)} {f130 : (Nat → Int32)} {f132 : (Nat → Int32)} {lx146 : Int32} {f170 : (Nat → Int32)} {p216 : (Int32 × Int32 × Int32 × Int32 × Int64 × Int32 × Int32 × Int64 × Int32 × Int64 × Int32 × (Nat → Int32))} {y179 : Int32} {y180 : Int32} {y181 : Int32} {y182 : Int32} {y183 : Int64} {y184 : Int32} {y185 : Int32} {y186 : Int64} {y187 : Int32} {y188 : Int64} {y189 : Int32} {f190 : (Nat → Int32)} {lx236 : Int32} {Y pl : Nat} (hv : yRw f170 Y) (h4 : x4.toInt = (pl : Int)) (hpl : pl ≤ 1100) : ∀ (n : Nat) (lx261 : Int32) (lx262 : Int32) (lx263 : Int32) (lx264 : Int32) (lx265 : Int32) (lx266 : Int64) (lx267 : Int32) (lx268 : Int32) (lx269 : Int64) (lx270 : Int32) (lx271 : Int64) (lx272 : Int32) (lx273 : (Nat → Int32)), ∀ (A : Nat) (l : List Nat), lx261.toInt + 1 = (A : Int) → A ≤ 324 → A < n → yRt lx263 lx273 l → l.length + A ≤ 400 → (F_FR_fixed_L162 K_F_FR_fixed_L130 x2 x3 x4 x5 t0_0 t0_1 t0_2 t0_3 t0_4 t0_5 t0_6 t0_7 t0_8 t0_9 t0_10 t1_0 t2_0 t3_0 t4_0 t5_0 lx29 p81 y47 y48 y49 y50 y51 y52 y53 y54 y55 y56 y57 lx106 p136 f128 f130 f132 lx146 f170 p216 y179 y180 y181 y182 y183 y184 y185 y186 y187 y188 y189 f190 lx236 n lx261 lx262 lx263 lx264 lx265 lx266 lx267 lx268 lx269 lx270 lx271 lx272 lx273).2.1 = lx262 ∧ yRt (F_FR_fixed_L162 K_F_FR_fixed_L130 x2 x3 x4 x5 t0_0 t0_1 t0_2 t0_3 t0_4 t0_5 t0_6 t0_7 t0_8 t0_9 t0_10 t1_0 t2_0 t3_0 t4_0 t5_0 lx29 p81 y47 y48 y49 y50 y51 y52 y53 y54 y55 y56 y57 lx106 p136 f128 f130 f132 lx146 f170 p216 y179 y180 y181 y182 y183 y184 y185 y186 y187 y188 y189 f190 lx236 n lx261 lx262 lx263 lx264 lx265 lx266 lx267 lx268 lx269 lx270 lx271 lx272 lx273).1 (F_FR_fixed_L162 K_F_FR_fixed_L130 x2 x3 x4 x5 t0_0 t0_1 t0_2 t0_3 t0_4 t0_5 t0_6 t0_7 t0_8 t0_9 t0_10 t1_0 t2_0 t3_0 t4_0 t5_0 lx29 p81 y47 y48 y49 y50 y51 y52 y53 y54 y55 y56 y57 lx106 p136 f128 f130 f132 lx146 f170 p216 y179 y180 y181 y182 y183 y184 y185 y186 y187 y188 y189 f190 lx236 n lx261 lx262 lx263 lx264 lx265 lx266 lx267 lx268 lx269 lx270 lx271 lx272 lx273).2.2.2.2.2.2.2.2.2.2.2.2.2.2.2.2 (l ++ (yPlA Y 1080 0 A ++ yTail Y 1080 pl 0)) := by
  have e48 : (48 : Int32).toInt = 48 := rfl
  have e0 : (0 : Int32).toInt = 0 := rfl
  intro n
  induction n with
  | zero =>
    intro lx261 lx262 lx263 lx264 lx265 lx266 lx267 lx268 lx269 lx270 lx271 lx272 lx273 A l g1 g2 g3
    omega
  | succ n ih =>
    intro lx261 lx262 lx263 lx264 lx265 lx266 lx267 lx268 lx269 lx270 lx271 lx272 lx273 A l g1 g2 g3 g4 g5
    rw [F_FR_fixed_L162.eq_2]
    by_cases c : lx261 < 0
    · rw [if_pos c]
      have c := q_ltI c
      obtain rfl : A = 0 := by omega
      show _ = _ ∧ yRt _ _ (l ++ ([] ++ ((if 0 < pl ∨ (0 : Int32) ≠ 0 then [46] else []) ++ yDz Y (1080 - 1) pl)))
      rw [List.nil_append]
      by_cases d : x4 ≤ 0
      · rw [if_pos d]
        have d := q_leI d
        rw [if_neg (fun q => by rcases q with q | q
                                · omega
                                · exact q rfl), List.nil_append]
        exact V_fxJ hv h4 hpl g4 (by omega)
      · rw [if_neg d]
        have d := q_nleI d
        rw [if_pos (Or.inl (by omega)), ← List.append_assoc]
        have w := V_rt (x := 46) (v := 46) g4 (by omega) rfl
        unfold F_FR_add F_FR_fixed_c194
        exact V_fxJ hv h4 hpl w (by rw [List.length_append, List.length_singleton]; omega)
    · rw [if_neg c]
      have c := q_nltI c
      obtain ⟨B, rfl⟩ : ∃ B, A = B + 1 := ⟨A - 1, by omega⟩
      have hB : lx261.toInt = (B : Int) := by omega
      have fg := V_figA (x2 := lx261) (t0_0 := lx262) (t0_1 := lx263) (t0_2 := lx264) (t0_3 := lx265) (t0_4 := lx266) (t0_5 := lx267) (t0_6 := lx268) (t0_7 := lx269) (t0_8 := lx270) (t0_9 := lx271) (t0_10 := lx272) hv hB (by omega)
      have f9 := yFz_9 Y ((B : Int) + 1080)
      have ch : (48 + F_FR_figureAt lx261 lx262 lx263 lx264 lx265 lx266 lx267 lx268 lx269 lx270 lx271 lx272 f170).toInt = ((48 + yFz Y ((B : Int) + 1080) : Nat) : Int) := by
        rw [q_addI e48 fg (by omega) (by omega)]
        omega
      have w := V_rt g4 (by omega) ch
      unfold F_FR_add F_FR_fixed_c177
      have r := ih (lx261 + -1) lx262 (lx263 + 1) lx264 lx265 lx266 lx267 lx268 lx269 lx270 lx271 lx272 _ B _ (y_dn1 hB) (by omega) (by omega) w (by rw [List.length_append, List.length_singleton]; omega)
      have pe : yPlA Y 1080 0 (B + 1) = (48 + yFz Y ((B : Int) + 1080)) :: yPlA Y 1080 0 B := by
        show (48 + yFz Y ((B : Int) + 1080)) :: ((if (0 : Int32) ≠ 0 ∧ 0 < B ∧ B % 3 = 0 then [44] else []) ++ yPlA Y 1080 0 B) = _
        rw [if_neg (fun q => q.1 rfl), List.nil_append]
      rw [pe]
      rw [List.append_assoc] at r
      exact r
theorem V_fx0 {x2 : Int64} {x3 : Int32} {x4 : Int32} {x5 : Int32} {t0_0 : Int32} {t0_1 : Int32} {t0_2 : Int32} {t0_3 : Int32} {t0_4 : Int64} {t0_5 : Int32} {t0_6 : Int32} {t0_7 : Int64} {t0_8 : Int32} {t0_9 : Int64} {t0_10 : Int32} {t1_0 : (Nat → Int32)} {t2_0 : (Nat → Int32)} {t3_0 : (Nat → Int32)} {t4_0 : (Nat → Int32)} {t5_0 : (Nat → Int32)} {lx29 : Int32} {p81 : (Int32 × Int32 × Int32 × Int32 × Int64 × Int32 × Int32 × Int64 × Int32 × Int64 × Int32)} {y47 : Int32} {y48 : Int32} {y49 : Int32} {y50 : Int32} {y51 : Int64} {y52 : Int32} {y53 : Int32} {y54 : Int64} {y55 : Int32} {y56 : Int64} {y57 : Int32} {lx106 : Int32} {p136 : ((Nat → Int32) × (Nat → Int32) × (Nat → Int32))} {f128 : (Nat → Int32)} {f130 : (Nat → Int32)} {f132 : (Nat → Int32)} {lx146 : Int32} {f170 : (Nat → Int32)} {p216 : (Int32 × Int32 × Int32 × Int32 × Int64 × Int32 × Int32 × Int64 × Int32 × Int64 × Int32 × (Nat → Int32))} {y179 : Int32} {y180 : Int32} {y181 : Int32} {y182 : Int32} {y183 : Int64} {y184 : Int32} {y185 : Int32} {y186 : Int64} {y187 : Int32} {y188 : Int64} {y189 : Int32} {f190 : (Nat → Int32)} {Y pl d : Nat} {l : List Nat} (hv : yRw f170 Y) (hd : yDt Y d) (h4 : x4.toInt = (pl : Int)) (hpl : pl ≤ 1100) (hr : yRt y180 f190 l) (hl : l.length ≤ 1) : ∀ (n : Nat) (lx236 : Int32), ∀ (t : Nat), lx236.toInt = (t : Int) → 1080 ≤ t → t ≤ 1403 → t < n + 1080 → d ≤ t + 1 → (F_FR_fixed_L130 x2 x3 x4 x5 t0_0 t0_1 t0_2 t0_3 t0_4 t0_5 t0_6 t0_7 t0_8 t0_9 t0_10 t1_0 t2_0 t3_0 t4_0 t5_0 lx29 p81 y47 y48 y49 y50 y51 y52 y53 y54 y55 y56 y57 lx106 p136 f128 f130 f132 lx146 f170 p216 y179 y180 y181 y182 y183 y184 y185 y186 y187 y188 y189 f190 n lx236).2.1 = y179 ∧ yRt (F_FR_fixed_L130 x2 x3 x4 x5 t0_0 t0_1 t0_2 t0_3 t0_4 t0_5 t0_6 t0_7 t0_8 t0_9 t0_10 t1_0 t2_0 t3_0 t4_0 t5_0 lx29 p81 y47 y48 y49 y50 y51 y52 y53 y54 y55 y56 y57 lx106 p136 f128 f130 f132 lx146 f170 p216 y179 y180 y181 y182 y183 y184 y185 y186 y187 y188 y189 f190 n lx236).1 (F_FR_fixed_L130 x2 x3 x4 x5 t0_0 t0_1 t0_2 t0_3 t0_4 t0_5 t0_6 t0_7 t0_8 t0_9 t0_10 t1_0 t2_0 t3_0 t4_0 t5_0 lx29 p81 y47 y48 y49 y50 y51 y52 y53 y54 y55 y56 y57 lx106 p136 f128 f130 f132 lx146 f170 p216 y179 y180 y181 y182 y183 y184 y185 y186 y187 y188 y189 f190 n lx236).2.2.2.2.2.2.2.2.2.2.2.2.2.2.2.2 (l ++ (yPlA Y 1080 0 (max (d - 1080) 1) ++ yTail Y 1080 pl 0)) := by
  have eB : (1080 : Int32).toInt = 1080 := rfl
  have e0 : (0 : Int32).toInt = 0 := rfl
  intro n
  induction n with
  | zero =>
    intro lx236 t g1 g2 g3 g4
    omega
  | succ n ih =>
    intro lx236 t g1 g2 g3 g4 g5
    rw [F_FR_fixed_L130.eq_2]
    have s := q_subI g1 eB (by omega) (by omega)
    by_cases c : lx236 ≤ 1080
    · rw [if_pos c]
      have c := q_leI c
      rw [show max (d - 1080) 1 = 1 from by omega]
      unfold F_FR_fixed_J154
      exact V_fx1 hv h4 hpl _ (lx236 - 1080) y179 y180 y181 y182 y183 y184 y185 y186 y187 y188 y189 f190 1 l (by rw [s]; omega) (by omega) (by rw [s]; omega) hr (by omega)
    · rw [if_neg c]
      have c := q_nleI c
      have ix : lx236.toNatClampNeg = t := by
        show lx236.toInt.toNat = t
        omega
      have dg := hv.d (j := t) (by omega)
      rw [ix]
      by_cases z : yLo Y t = 0
      · rw [if_pos (Int32.toInt_inj.mp (by rw [dg, z]; rfl))]
        have dt : d ≠ t + 1 := fun q => by
          rw [q] at hd
          exact y_topN hd z
        refine ih (lx236 + -1) (t - 1) ((y_dnI g1 (by omega)).trans (by omega)) (by omega) (by omega) (by omega) (by omega)
      · rw [if_neg (fun q => z (by rw [q, e0] at dg; omega))]
        have dt : d = t + 1 := by
          have : t < d := (y_ge10 hd).mp (by
            rcases Nat.lt_or_ge Y (10 ^ t) with k | k
            · exact absurd (y_lo0 k) z
            · exact k)
          omega
        rw [show max (d - 1080) 1 = t - 1079 from by omega]
        unfold F_FR_fixed_J154
        exact V_fx1 hv h4 hpl _ (lx236 - 1080) y179 y180 y181 y182 y183 y184 y185 y186 y187 y188 y189 f190 (t - 1079) l (by rw [s]; omega) (by omega) (by rw [s]; omega) hr (by omega)
