/-! values, for whole: the reference's floats written to figures: figures and power -/
theorem V_sc279 {K_F_FR_scientific_L186 : Int32 → Int32 → Int32 → Int32 → Int32 → Int64 → Int32 → Int32 → Int64 → Int32 → Int64 → Int32 → (Nat → Int32) → (Int32 × Int32 × Int32 × Int32 × Int32 × Int64 × Int32 × Int32 × Int64 × Int32 × Int64 × Int32 × (Nat → Int32) × (Nat → Int32) × (Nat → Int32) × (Nat → Int32) × (Nat → Int32))} {x2 : Int64} {x3 : Int32} {x4 : Int32} {x5 : Int32} {t0_0 : Int32} {t0_1 : Int32} {t0_2 : Int32} {t0_3 : Int32} {t0_4 : Int64} {t0_5 : Int32} {t0_6 : Int32} {t0_7 : Int64} {t0_8 : Int32} {t0_9 : Int64} {t0_10 : Int32} {t1_0 : (Nat → Int32)} {t2_0 : (Nat → Int32)} {t3_0 : (Nat → Int32)} {t4_0 : (Nat → Int32)} {t5_0 : (Nat → Int32)} {lx29 : Int32} {p81 : (Int32 × Int32 × Int32 × Int32 × Int64 × Int32 × Int32 × Int64 × Int32 × Int64 × Int32)} {y47 : Int32} {y48 : Int32} {y49 : Int32} {y50 : Int32} {y51 : Int64} {y52 : Int32} {y53 : Int32} {y54 : Int64} {y55 : Int32} {y56 : Int64} {y57 : Int32} {lx106 : Int32} {p136 : ((Nat → Int32) × (Nat → Int32) × (Nat → Int32))} {f128 : (Nat → Int32)} {f130 : (Nat → Int32)} {f132 : (Nat → Int32)} {lx149 : Int32} {lx168 : Int32} {f192 : (Nat → Int32)} {lx203 : Int32} {p259 : (Int32 × Int32 × Int32 × Int32 × Int64 × Int32 × Int32 × Int64 × Int32 × Int64 × Int32 × (Nat → Int32))} {lx279 : Int32} {lx280 : Int32} {lx281 : Int32} {lx282 : Int32} {lx283 : Int32} {lx284 : Int64} {lx285 : Int32} {lx286 : Int32} {lx287 : Int64} {lx288 : Int32} {lx289 : Int64} {lx290 : Int32} {lx291 : (Nat → Int32)} {a332 : Int32} {p378 : (Int32 × Int32 × Int32 × Int32 × Int64 × Int32 × Int32 × Int64 × Int32 × Int64 × Int32 × (Nat → Int32))} {y339 : Int32} {y340 : Int32} {y341 : Int32} {y342 : Int32} {y343 : Int64} {y344 : Int32} {y345 : Int32} {y346 : Int64} {y347 : Int32} {y348 : Int64} {y349 : Int32} {f350 : (Nat → Int32)} {lx397 : Int32} {p455 : (Int32 × Int32 × Int32 × Int32 × Int64 × Int32 × Int32 × Int64 × Int32 × Int64 × Int32 × (Nat → Int32))} {y416 : Int32} {y417 : Int32} {y418 : Int32} {y419 : Int32} {y420 : Int64} {y421 : Int32} {y422 : Int32} {y423 : Int64} {y424 : Int32} {y425 : Int64} {y426 : Int32} {f427 : (Nat → Int32)} {lx474 : Int32} {v : Nat} {l : List Nat} (hv : lx474.toInt = (v : Int)) (hv2 : v ≤ 2000) (hr : yRt y417 f427 l) (hl : l.length ≤ 1500) : (F_FR_scientific_J279 K_F_FR_scientific_L186 x2 x3 x4 x5 t0_0 t0_1 t0_2 t0_3 t0_4 t0_5 t0_6 t0_7 t0_8 t0_9 t0_10 t1_0 t2_0 t3_0 t4_0 t5_0 lx29 p81 y47 y48 y49 y50 y51 y52 y53 y54 y55 y56 y57 lx106 p136 f128 f130 f132 lx149 lx168 f192 lx203 p259 lx279 lx280 lx281 lx282 lx283 lx284 lx285 lx286 lx287 lx288 lx289 lx290 lx291 a332 p378 y339 y340 y341 y342 y343 y344 y345 y346 y347 y348 y349 f350 lx397 p455 y416 y417 y418 y419 y420 y421 y422 y423 y424 y425 y426 f427 lx474).2.1 = y416 ∧ yRt (F_FR_scientific_J279 K_F_FR_scientific_L186 x2 x3 x4 x5 t0_0 t0_1 t0_2 t0_3 t0_4 t0_5 t0_6 t0_7 t0_8 t0_9 t0_10 t1_0 t2_0 t3_0 t4_0 t5_0 lx29 p81 y47 y48 y49 y50 y51 y52 y53 y54 y55 y56 y57 lx106 p136 f128 f130 f132 lx149 lx168 f192 lx203 p259 lx279 lx280 lx281 lx282 lx283 lx284 lx285 lx286 lx287 lx288 lx289 lx290 lx291 a332 p378 y339 y340 y341 y342 y343 y344 y345 y346 y347 y348 y349 f350 lx397 p455 y416 y417 y418 y419 y420 y421 y422 y423 y424 y425 y426 f427 lx474).1 (F_FR_scientific_J279 K_F_FR_scientific_L186 x2 x3 x4 x5 t0_0 t0_1 t0_2 t0_3 t0_4 t0_5 t0_6 t0_7 t0_8 t0_9 t0_10 t1_0 t2_0 t3_0 t4_0 t5_0 lx29 p81 y47 y48 y49 y50 y51 y52 y53 y54 y55 y56 y57 lx106 p136 f128 f130 f132 lx149 lx168 f192 lx203 p259 lx279 lx280 lx281 lx282 lx283 lx284 lx285 lx286 lx287 lx288 lx289 lx290 lx291 a332 p378 y339 y340 y341 y342 y343 y344 y345 y346 y347 y348 y349 f350 lx397 p455 y416 y417 y418 y419 y420 y421 y422 y423 y424 y425 y426 f427 lx474).2.2.2.2.2.2.2.2.2.2.2.2.2.2.2.2 (l ++ yDs (max (yCt5 v) 2) v) := by
  have eT : (10 : Int32).toInt = 10 := rfl
  unfold F_FR_scientific_J279
  by_cases g : 10 ≤ lx474
  · rw [if_pos g]
    have g := q_leI g
    have c2 : max (yCt5 v) 2 = max (yCt5 v) 1 := by
      have : 2 ≤ yCt5 v := by
        unfold yCt5
        rw [if_neg (by omega), if_neg (by omega)]
        repeat' split
        all_goals omega
      omega
    rw [c2]
    have w := V_FRnuC (x2 := lx474) (t0_0 := y416) (t0_1 := y417) (t0_2 := y418) (t0_3 := y419) (t0_4 := y420) (t0_5 := y421) (t0_6 := y422) (t0_7 := y423) (t0_8 := y424) (t0_9 := y425) (t0_10 := y426) hv (by omega) hr (by omega)
    revert w
    generalize F_FR_number lx474 y416 y417 y418 y419 y420 y421 y422 y423 y424 y425 y426 f427 = p
    intro w
    unfold F_FR_scientific_c297
    exact w
  · rw [if_neg g]
    have g := q_nleI g
    have c2 : max (yCt5 v) 2 = 1 + 1 ∧ max (yCt5 v) 1 = 1 := by
      have : yCt5 v ≤ 1 := by
        unfold yCt5
        split
        · omega
        · rw [if_pos (by omega)]
          omega
      omega
    have l0 : yLo v 1 = 0 := y_lo0 (by unfold yLt10; rw [Nat.pow_one]; omega)
    have w1 := V_rt (x := 48) (v := 48) hr (by omega) rfl
    have w := V_FRnuC (x2 := lx474) (t0_0 := y416) (t0_1 := y417 + 1) (t0_2 := y418) (t0_3 := y419) (t0_4 := y420) (t0_5 := y421) (t0_6 := y422) (t0_7 := y423) (t0_8 := y424) (t0_9 := y425) (t0_10 := y426) hv (by omega) w1 (by rw [List.length_append, List.length_singleton]; omega)
    rw [c2.2, List.append_assoc] at w
    rw [c2.1]
    have e : yDs (1 + 1) v = [48] ++ yDs 1 v := by
      show (48 + yLo v 1) :: yDs 1 v = _
      rw [l0]
      rfl
    rw [e]
    unfold F_FR_add F_FR_scientific_c291
    revert w
    generalize F_FR_number lx474 y416 (y417 + 1) y418 y419 y420 y421 y422 y423 y424 y425 y426 (upd f427 y417.toNatClampNeg 48) = p
    intro w
    unfold F_FR_scientific_c297_16
    exact w
theorem V_sc247 {K_F_FR_scientific_L186 : Int32 → Int32 → Int32 → Int32 → Int32 → Int64 → Int32 → Int32 → Int64 → Int32 → Int64 → Int32 → (Nat → Int32) → (Int32 × Int32 × Int32 × Int32 × Int32 × Int64 × Int32 × Int32 × Int64 × Int32 × Int64 × Int32 × (Nat → Int32) × (Nat → Int32) × (Nat → Int32) × (Nat → Int32) × (Nat → Int32))} {x2 : Int64} {x3 : Int32} {x4 : Int32} {x5 : Int32} {t0_0 : Int32} {t0_1 : Int32} {t0_2 : Int32} {t0_3 : Int32} {t0_4 : Int64} {t0_5 : Int32} {t0_6 : Int32} {t0_7 : Int64} {t0_8 : Int32} {t0_9 : Int64} {t0_10 : Int32} {t1_0 : (Nat → Int32)} {t2_0 : (Nat → Int32)} {t3_0 : (Nat → Int32)} {t4_0 : (Nat → Int32)} {t5_0 : (Nat → Int32)} {lx29 : Int32} {p81 : (Int32 × Int32 × Int32 × Int32 × Int64 × Int32 × Int32 × Int64 × Int32 × Int64 × Int32)} {y47 : Int32} {y48 : Int32} {y49 : Int32} {y50 : Int32} {y51 : Int64} {y52 : Int32} {y53 : Int32} {y54 : Int64} {y55 : Int32} {y56 : Int64} {y57 : Int32} {lx106 : Int32} {p136 : ((Nat → Int32) × (Nat → Int32) × (Nat → Int32))} {f128 : (Nat → Int32)} {f130 : (Nat → Int32)} {f132 : (Nat → Int32)} {lx149 : Int32} {lx168 : Int32} {f192 : (Nat → Int32)} {lx203 : Int32} {p259 : (Int32 × Int32 × Int32 × Int32 × Int64 × Int32 × Int32 × Int64 × Int32 × Int64 × Int32 × (Nat → Int32))} {lx279 : Int32} {lx280 : Int32} {lx281 : Int32} {lx282 : Int32} {lx283 : Int32} {lx284 : Int64} {lx285 : Int32} {lx286 : Int32} {lx287 : Int64} {lx288 : Int32} {lx289 : Int64} {lx290 : Int32} {lx291 : (Nat → Int32)} {a332 : Int32} {p378 : (Int32 × Int32 × Int32 × Int32 × Int64 × Int32 × Int32 × Int64 × Int32 × Int64 × Int32 × (Nat → Int32))} {e : Int} {l : List Nat} (ha : a332.toInt = e) (hb : -1100 ≤ e ∧ e ≤ 1000) (hr : yRt p378.2.1 p378.2.2.2.2.2.2.2.2.2.2.2 l) (hl : l.length ≤ 1400) : (F_FR_scientific_c247 K_F_FR_scientific_L186 x2 x3 x4 x5 t0_0 t0_1 t0_2 t0_3 t0_4 t0_5 t0_6 t0_7 t0_8 t0_9 t0_10 t1_0 t2_0 t3_0 t4_0 t5_0 lx29 p81 y47 y48 y49 y50 y51 y52 y53 y54 y55 y56 y57 lx106 p136 f128 f130 f132 lx149 lx168 f192 lx203 p259 lx279 lx280 lx281 lx282 lx283 lx284 lx285 lx286 lx287 lx288 lx289 lx290 lx291 a332 p378).2.1 = p378.1 ∧ yRt (F_FR_scientific_c247 K_F_FR_scientific_L186 x2 x3 x4 x5 t0_0 t0_1 t0_2 t0_3 t0_4 t0_5 t0_6 t0_7 t0_8 t0_9 t0_10 t1_0 t2_0 t3_0 t4_0 t5_0 lx29 p81 y47 y48 y49 y50 y51 y52 y53 y54 y55 y56 y57 lx106 p136 f128 f130 f132 lx149 lx168 f192 lx203 p259 lx279 lx280 lx281 lx282 lx283 lx284 lx285 lx286 lx287 lx288 lx289 lx290 lx291 a332 p378).1 (F_FR_scientific_c247 K_F_FR_scientific_L186 x2 x3 x4 x5 t0_0 t0_1 t0_2 t0_3 t0_4 t0_5 t0_6 t0_7 t0_8 t0_9 t0_10 t1_0 t2_0 t3_0 t4_0 t5_0 lx29 p81 y47 y48 y49 y50 y51 y52 y53 y54 y55 y56 y57 lx106 p136 f128 f130 f132 lx149 lx168 f192 lx203 p259 lx279 lx280 lx281 lx282 lx283 lx284 lx285 lx286 lx287 lx288 lx289 lx290 lx291 a332 p378).2.2.2.2.2.2.2.2.2.2.2.2.2.2.2.2 (l ++ ([if 0 ≤ e then 43 else 45] ++ yDs (max (yCt5 e.natAbs) 2) e.natAbs)) := by
  have e0 : (0 : Int32).toInt = 0 := rfl
  rw [← List.append_assoc]
  unfold F_FR_scientific_c247
  by_cases g : 0 ≤ a332
  · rw [if_pos g]
    have gi := q_leI g
    rw [if_pos (by omega : 0 ≤ e)]
    have w := V_rt (x := 43) (v := 43) hr (by omega) rfl
    unfold F_FR_scientific_J263 F_FR_add F_FR_scientific_c263
    rw [if_pos g]
    exact V_sc279 (by omega) (by omega) w (by rw [List.length_append, List.length_singleton]; omega)
  · rw [if_neg g]
    have gi := q_nleI g
    rw [if_neg (by omega : ¬ 0 ≤ e)]
    have w := V_rt (x := 45) (v := 45) hr (by omega) rfl
    unfold F_FR_scientific_J263 F_FR_add F_FR_scientific_c263
    rw [if_neg g]
    exact V_sc279 (by rw [q_negI ha (by omega)]; omega) (by omega) w (by rw [List.length_append, List.length_singleton]; omega)
theorem y_scF {x i : Int32} {t j : Nat} (hx : x.toInt = (t : Int)) (ht : t ≤ 1403) (hi : i.toInt = (j : Int)) (hj : j ≤ 800) : (x - 1080 - i).toInt = (t : Int) - 1080 - j := by
  have eB : (1080 : Int32).toInt = 1080 := rfl
  rw [q_subI (q_subI hx eB (by omega) (by omega)) hi (by omega) (by omega)]
theorem V_scM {x2 : Int64} {x3 : Int32} {x4 : Int32} {x5 : Int32} {t0_0 : Int32} {t0_1 : Int32} {t0_2 : Int32} {t0_3 : Int32} {t0_4 : Int64} {t0_5 : Int32} {t0_6 : Int32} {t0_7 : Int64} {t0_8 : Int32} {t0_9 : Int64} {t0_10 : Int32} {t1_0 : (Nat → Int32)} {t2_0 : (Nat → Int32)} {t3_0 : (Nat → Int32)} {t4_0 : (Nat → Int32)} {t5_0 : (Nat → Int32)} {lx29 : Int32} {p81 : (Int32 × Int32 × Int32 × Int32 × Int64 × Int32 × Int32 × Int64 × Int32 × Int64 × Int32)} {y47 : Int32} {y48 : Int32} {y49 : Int32} {y50 : Int32} {y51 : Int64} {y52 : Int32} {y53 : Int32} {y54 : Int64} {y55 : Int32} {y56 : Int64} {y57 : Int32} {lx106 : Int32} {p136 : ((Nat → Int32) × (Nat → Int32) × (Nat → Int32))} {f128 : (Nat → Int32)} {f130 : (Nat → Int32)} {f132 : (Nat → Int32)} {lx149 : Int32} {lx168 : Int32} {f192 : (Nat → Int32)} {lx203 : Int32} {p259 : (Int32 × Int32 × Int32 × Int32 × Int64 × Int32 × Int32 × Int64 × Int32 × Int64 × Int32 × (Nat → Int32))} {Y t al : Nat} (hv : yRw f192 Y) (h2 : lx203.toInt = (t : Int)) (ht : t ≤ 1403) (h4 : x4.toInt = (al : Int)) (hal : al ≤ 800) : ∀ (n : Nat) (lx279 : Int32) (lx280 : Int32) (lx281 : Int32) (lx282 : Int32) (lx283 : Int32) (lx284 : Int64) (lx285 : Int32) (lx286 : Int32) (lx287 : Int64) (lx288 : Int32) (lx289 : Int64) (lx290 : Int32) (lx291 : (Nat → Int32)), ∀ (i : Nat) (l : List Nat), lx279.toInt = (i : Int) → 1 ≤ i → i ≤ al → al - i < n → yRt lx281 lx291 l → l.length + (al - i) ≤ 1200 → (F_FR_scientific_L186 x2 x3 x4 x5 t0_0 t0_1 t0_2 t0_3 t0_4 t0_5 t0_6 t0_7 t0_8 t0_9 t0_10 t1_0 t2_0 t3_0 t4_0 t5_0 lx29 p81 y47 y48 y49 y50 y51 y52 y53 y54 y55 y56 y57 lx106 p136 f128 f130 f132 lx149 lx168 f192 lx203 p259 n lx279 lx280 lx281 lx282 lx283 lx284 lx285 lx286 lx287 lx288 lx289 lx290 lx291).2.1 = lx280 ∧ yRt (F_FR_scientific_L186 x2 x3 x4 x5 t0_0 t0_1 t0_2 t0_3 t0_4 t0_5 t0_6 t0_7 t0_8 t0_9 t0_10 t1_0 t2_0 t3_0 t4_0 t5_0 lx29 p81 y47 y48 y49 y50 y51 y52 y53 y54 y55 y56 y57 lx106 p136 f128 f130 f132 lx149 lx168 f192 lx203 p259 n lx279 lx280 lx281 lx282 lx283 lx284 lx285 lx286 lx287 lx288 lx289 lx290 lx291).1 (F_FR_scientific_L186 x2 x3 x4 x5 t0_0 t0_1 t0_2 t0_3 t0_4 t0_5 t0_6 t0_7 t0_8 t0_9 t0_10 t1_0 t2_0 t3_0 t4_0 t5_0 lx29 p81 y47 y48 y49 y50 y51 y52 y53 y54 y55 y56 y57 lx106 p136 f128 f130 f132 lx149 lx168 f192 lx203 p259 n lx279 lx280 lx281 lx282 lx283 lx284 lx285 lx286 lx287 lx288 lx289 lx290 lx291).2.2.2.2.2.2.2.2.2.2.2.2.2.2.2.2 (l ++ (yDz Y ((t : Int) - i) (al - i) ++ yE2 ((t : Int) - 1080))) := by
  have e48 : (48 : Int32).toInt = 48 := rfl
  have e1 : (1 : Int32).toInt = 1 := rfl
  have e0 : (0 : Int32).toInt = 0 := rfl
  have eB : (1080 : Int32).toInt = 1080 := rfl
  intro n
  induction n with
  | zero =>
    intro lx279 lx280 lx281 lx282 lx283 lx284 lx285 lx286 lx287 lx288 lx289 lx290 lx291 i l g1 g2 g3 g4
    omega
  | succ n ih =>
    intro lx279 lx280 lx281 lx282 lx283 lx284 lx285 lx286 lx287 lx288 lx289 lx290 lx291 i l g1 g2 g3 g4 g5 g6
    rw [F_FR_scientific_L186.eq_2]
    by_cases c : x4 ≤ lx279
    · rw [if_pos c]
      have c := q_leI c
      rw [show al - i = 0 from by omega]
      have w := V_rt (x := 101) (v := 101) g5 (by omega) rfl
      unfold F_FR_add
      show _ = _ ∧ yRt _ _ (l ++ ([] ++ ([101] ++ [if 0 ≤ (t : Int) - 1080 then 43 else 45] ++ yDs (max (yCt5 ((t : Int) - 1080).natAbs) 2) ((t : Int) - 1080).natAbs)))
      rw [List.nil_append, List.append_assoc, ← List.append_assoc]
      exact V_sc247 (q_subI h2 eB (by omega) (by omega)) (by omega) w (by rw [List.length_append, List.length_singleton]; omega)
    · rw [if_neg c]
      have c := q_nleI c
      obtain ⟨k, hk⟩ : ∃ k, al - i = k + 1 := ⟨al - i - 1, by omega⟩
      have fg := V_figA (t0_0 := lx280) (t0_1 := lx281) (t0_2 := lx282) (t0_3 := lx283) (t0_4 := lx284) (t0_5 := lx285) (t0_6 := lx286) (t0_7 := lx287) (t0_8 := lx288) (t0_9 := lx289) (t0_10 := lx290) hv (y_scF h2 ht g1 (by omega)) (by omega)
      rw [show (t : Int) - 1080 - i + 1080 = (t : Int) - i from by omega] at fg
      have f9 := yFz_9 Y ((t : Int) - i)
      have ch : (48 + F_FR_figureAt (lx203 - 1080 - lx279) lx280 lx281 lx282 lx283 lx284 lx285 lx286 lx287 lx288 lx289 lx290 f192).toInt = ((48 + yFz Y ((t : Int) - i) : Nat) : Int) := by
        rw [q_addI e48 fg (by omega) (by omega)]
        omega
      have w := V_rt g5 (by omega) ch
      unfold F_FR_add F_FR_scientific_c210
      rw [if_neg (fun q => by rw [q, e0] at g1; omega)]
      have r := ih (lx279 + 1) lx280 (lx281 + 1) lx282 lx283 lx284 lx285 lx286 lx287 lx288 lx289 lx290 _ (i + 1) _ (q_addI g1 e1 (by omega) (by omega)) (by omega) (by omega) (by omega) w (by rw [List.length_append, List.length_singleton]; omega)
      rw [hk]
      show _ = _ ∧ yRt _ _ (l ++ (((48 + yFz Y ((t : Int) - i)) :: yDz Y ((t : Int) - i - 1) k) ++ yE2 ((t : Int) - 1080)))
      rw [List.append_assoc, show al - (i + 1) = k from by omega, show (t : Int) - ((i + 1 : Nat) : Int) = (t : Int) - i - 1 from by omega] at r
      exact r
