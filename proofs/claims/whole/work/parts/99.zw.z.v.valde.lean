/-! values, for whole: the reference's floats written: the shortest figures -/
theorem V_p275 {K_F_FR_print_L169 : Int32 → Int32 → Int32 → Int32 → Int32 → Int64 → Int32 → Int32 → Int64 → Int32 → Int64 → Int32 → (Nat → Int32) → (Int32 × Int32 × Int32 × Int32 × Int32 × Int64 × Int32 × Int32 × Int64 × Int32 × Int64 × Int32 × (Nat → Int32) × (Nat → Int32) × (Nat → Int32) × (Nat → Int32) × (Nat → Int32) × (Nat → Int32) × (Nat → Int32))} {K_F_FR_print_L227 : Int32 → Int32 → Int32 → Int32 → Int32 → Int64 → Int32 → Int32 → Int64 → Int32 → Int64 → Int32 → (Nat → Int32) → (Int32 × Int32 × Int32 × Int32 × Int32 × Int64 × Int32 × Int32 × Int64 × Int32 × Int64 × Int32 × (Nat → Int32) × (Nat → Int32) × (Nat → Int32) × (Nat → Int32) × (Nat → Int32) × (Nat → Int32) × (Nat → Int32))} {x2 : Int64} {x3 : Int32} {t0_0 : Int32} {t0_1 : Int32} {t0_2 : Int32} {t0_3 : Int32} {t0_4 : Int64} {t0_5 : Int32} {t0_6 : Int32} {t0_7 : Int64} {t0_8 : Int32} {t0_9 : Int64} {t0_10 : Int32} {t1_0 : (Nat → Int32)} {t2_0 : (Nat → Int32)} {t3_0 : (Nat → Int32)} {t4_0 : (Nat → Int32)} {t5_0 : (Nat → Int32)} {t6_0 : (Nat → Int32)} {t7_0 : (Nat → Int32)} {lx42 : Int32} {p100 : (Int32 × Int32 × Int32 × Int32 × Int64 × Int32 × Int32 × Int64 × Int32 × Int64 × Int32)} {p168 : (Int32 × Int32 × Int32 × Int32 × Int64 × Int32 × Int32 × Int64 × Int32 × Int64 × Int32 × (Nat → Int32))} {f142 : (Nat → Int32)} {p239 : (Int32 × Int32 × Int32 × Int32 × Int64 × Int32 × Int32 × Int64 × Int32 × Int64 × Int32 × (Nat → Int32) × (Nat → Int32) × (Nat → Int32) × (Nat → Int32) × (Nat → Int32) × (Nat → Int32))} {a269 : Int32} {a266 : Int32} {y196 : Int32} {y197 : Int32} {y198 : Int32} {y199 : Int32} {y200 : Int64} {y201 : Int32} {y202 : Int32} {y203 : Int64} {y204 : Int32} {y205 : Int64} {y206 : Int32} {f207 : (Nat → Int32)} {f209 : (Nat → Int32)} {f211 : (Nat → Int32)} {f213 : (Nat → Int32)} {f215 : (Nat → Int32)} {f217 : (Nat → Int32)} {lx279 : Int32} {lx296 : Int32} {lx312 : Int32} {lx328 : Int32} {lx329 : Int32} {lx330 : Int32} {lx331 : Int32} {lx332 : Int32} {lx333 : Int64} {lx334 : Int32} {lx335 : Int32} {lx336 : Int64} {lx337 : Int32} {lx338 : Int64} {lx339 : Int32} {lx340 : (Nat → Int32)} {p429 : (Int32 × Int32 × Int32 × Int32 × Int64 × Int32 × Int32 × Int64 × Int32 × Int64 × Int32 × (Nat → Int32))} {y390 : Int32} {y391 : Int32} {y392 : Int32} {y393 : Int32} {y394 : Int64} {y395 : Int32} {y396 : Int32} {y397 : Int64} {y398 : Int32} {y399 : Int64} {y400 : Int32} {f401 : (Nat → Int32)} {lx451 : Int32} {lx472 : Int32} {lx473 : Int32} {lx474 : Int32} {lx475 : Int32} {lx476 : Int32} {lx477 : Int64} {lx478 : Int32} {lx479 : Int32} {lx480 : Int64} {lx481 : Int32} {lx482 : Int64} {lx483 : Int32} {lx484 : (Nat → Int32)} {p570 : (Int32 × Int32 × Int32 × Int32 × Int64 × Int32 × Int32 × Int64 × Int32 × Int64 × Int32 × (Nat → Int32))} {lx589 : Int32} {lx590 : Int32} {lx591 : Int32} {lx592 : Int32} {lx593 : Int64} {lx594 : Int32} {lx595 : Int32} {lx596 : Int64} {lx597 : Int32} {lx598 : Int64} {lx599 : Int32} {lx600 : (Nat → Int32)} {f : Int} {l : List Nat} (ha : a266.toInt = f) (hf : -99999 ≤ f ∧ f ≤ 99999) (hr : yRt lx590 lx600 l) (hl : l.length < 900000000) : yRt (F_FR_print_J275 K_F_FR_print_L169 K_F_FR_print_L227 x2 x3 t0_0 t0_1 t0_2 t0_3 t0_4 t0_5 t0_6 t0_7 t0_8 t0_9 t0_10 t1_0 t2_0 t3_0 t4_0 t5_0 t6_0 t7_0 lx42 p100 p168 f142 p239 a269 a266 y196 y197 y198 y199 y200 y201 y202 y203 y204 y205 y206 f207 f209 f211 f213 f215 f217 lx279 lx296 lx312 lx328 lx329 lx330 lx331 lx332 lx333 lx334 lx335 lx336 lx337 lx338 lx339 lx340 p429 y390 y391 y392 y393 y394 y395 y396 y397 y398 y399 y400 f401 lx451 lx472 lx473 lx474 lx475 lx476 lx477 lx478 lx479 lx480 lx481 lx482 lx483 lx484 p570 lx589 lx590 lx591 lx592 lx593 lx594 lx595 lx596 lx597 lx598 lx599 lx600).1 (F_FR_print_J275 K_F_FR_print_L169 K_F_FR_print_L227 x2 x3 t0_0 t0_1 t0_2 t0_3 t0_4 t0_5 t0_6 t0_7 t0_8 t0_9 t0_10 t1_0 t2_0 t3_0 t4_0 t5_0 t6_0 t7_0 lx42 p100 p168 f142 p239 a269 a266 y196 y197 y198 y199 y200 y201 y202 y203 y204 y205 y206 f207 f209 f211 f213 f215 f217 lx279 lx296 lx312 lx328 lx329 lx330 lx331 lx332 lx333 lx334 lx335 lx336 lx337 lx338 lx339 lx340 p429 y390 y391 y392 y393 y394 y395 y396 y397 y398 y399 y400 f401 lx451 lx472 lx473 lx474 lx475 lx476 lx477 lx478 lx479 lx480 lx481 lx482 lx483 lx484 p570 lx589 lx590 lx591 lx592 lx593 lx594 lx595 lx596 lx597 lx598 lx599 lx600).2.2.2.2.2.2.2.2.2.2.2.2.2.2.2.2.2.2 (l ++ yDs (max (yCt5 f.natAbs) 1) f.natAbs) := by
  have e0 : (0 : Int32).toInt = 0 := rfl
  unfold F_FR_print_J275
  by_cases g : (0 : Int32) ≤ a266
  · rw [if_pos g]
    have g := q_leI g
    have w := V_FRnum (x2 := a266) (v := f.natAbs) (t0_0 := lx589) (t0_2 := lx591) (t0_3 := lx592) (t0_4 := lx593) (t0_5 := lx594) (t0_6 := lx595) (t0_7 := lx596) (t0_8 := lx597) (t0_9 := lx598) (t0_10 := lx599) (by omega) (by omega) hr (by omega)
    revert w
    generalize F_FR_number a266 lx589 lx590 lx591 lx592 lx593 lx594 lx595 lx596 lx597 lx598 lx599 lx600 = p
    intro w
    unfold F_FR_print_c289
    exact w
  · rw [if_neg g]
    have g := q_nleI g
    have w := V_FRnum (x2 := -a266) (v := f.natAbs) (t0_0 := lx589) (t0_2 := lx591) (t0_3 := lx592) (t0_4 := lx593) (t0_5 := lx594) (t0_6 := lx595) (t0_7 := lx596) (t0_8 := lx597) (t0_9 := lx598) (t0_10 := lx599) (by rw [q_negI ha (by omega)]; omega) (by omega) hr (by omega)
    revert w
    generalize F_FR_number (-a266) lx589 lx590 lx591 lx592 lx593 lx594 lx595 lx596 lx597 lx598 lx599 lx600 = p
    intro w
    unfold F_FR_print_c289_15
    exact w
theorem V_p227 {K_F_FR_print_L169 : Int32 → Int32 → Int32 → Int32 → Int32 → Int64 → Int32 → Int32 → Int64 → Int32 → Int64 → Int32 → (Nat → Int32) → (Int32 × Int32 × Int32 × Int32 × Int32 × Int64 × Int32 × Int32 × Int64 × Int32 × Int64 × Int32 × (Nat → Int32) × (Nat → Int32) × (Nat → Int32) × (Nat → Int32) × (Nat → Int32) × (Nat → Int32) × (Nat → Int32))} {x2 : Int64} {x3 : Int32} {t0_0 : Int32} {t0_1 : Int32} {t0_2 : Int32} {t0_3 : Int32} {t0_4 : Int64} {t0_5 : Int32} {t0_6 : Int32} {t0_7 : Int64} {t0_8 : Int32} {t0_9 : Int64} {t0_10 : Int32} {t1_0 : (Nat → Int32)} {t2_0 : (Nat → Int32)} {t3_0 : (Nat → Int32)} {t4_0 : (Nat → Int32)} {t5_0 : (Nat → Int32)} {t6_0 : (Nat → Int32)} {t7_0 : (Nat → Int32)} {lx42 : Int32} {p100 : (Int32 × Int32 × Int32 × Int32 × Int64 × Int32 × Int32 × Int64 × Int32 × Int64 × Int32)} {p168 : (Int32 × Int32 × Int32 × Int32 × Int64 × Int32 × Int32 × Int64 × Int32 × Int64 × Int32 × (Nat → Int32))} {f142 : (Nat → Int32)} {p239 : (Int32 × Int32 × Int32 × Int32 × Int64 × Int32 × Int32 × Int64 × Int32 × Int64 × Int32 × (Nat → Int32) × (Nat → Int32) × (Nat → Int32) × (Nat → Int32) × (Nat → Int32) × (Nat → Int32))} {a269 : Int32} {a266 : Int32} {y196 : Int32} {y197 : Int32} {y198 : Int32} {y199 : Int32} {y200 : Int64} {y201 : Int32} {y202 : Int32} {y203 : Int64} {y204 : Int32} {y205 : Int64} {y206 : Int32} {f207 : (Nat → Int32)} {f209 : (Nat → Int32)} {f211 : (Nat → Int32)} {f213 : (Nat → Int32)} {f215 : (Nat → Int32)} {f217 : (Nat → Int32)} {lx279 : Int32} {lx296 : Int32} {lx312 : Int32} {lx328 : Int32} {lx329 : Int32} {lx330 : Int32} {lx331 : Int32} {lx332 : Int32} {lx333 : Int64} {lx334 : Int32} {lx335 : Int32} {lx336 : Int64} {lx337 : Int32} {lx338 : Int64} {lx339 : Int32} {lx340 : (Nat → Int32)} {p429 : (Int32 × Int32 × Int32 × Int32 × Int64 × Int32 × Int32 × Int64 × Int32 × Int64 × Int32 × (Nat → Int32))} {y390 : Int32} {y391 : Int32} {y392 : Int32} {y393 : Int32} {y394 : Int64} {y395 : Int32} {y396 : Int32} {y397 : Int64} {y398 : Int32} {y399 : Int64} {y400 : Int32} {f401 : (Nat → Int32)} {lx451 : Int32} {S q : Nat} {f en : Int} (ha : a266.toInt = f) (hf : -99999 ≤ f ∧ f ≤ 99999) (he : lx451.toInt = en) (heb : -1100 ≤ en ∧ en ≤ 2000) (hS : S < 1000000000000000000) (hq2 : q ≤ 3000) : ∀ (n : Nat) (lx472 : Int32) (lx473 : Int32) (lx474 : Int32) (lx475 : Int32) (lx476 : Int32) (lx477 : Int64) (lx478 : Int32) (lx479 : Int32) (lx480 : Int64) (lx481 : Int32) (lx482 : Int64) (lx483 : Int32) (lx484 : (Nat → Int32)), ∀ (p : Int) (r : Nat) (l : List Nat), lx472.toInt = p → (r : Int) = p - en + 1 → -1101 ≤ p ∧ p ≤ 2000 → r < n → lx482.toInt = (S : Int) → lx483.toInt = (q : Int) → yRt lx474 lx484 l → l.length + r < 800000000 → (0 < r → -1080 ≤ en) → yRt (F_FR_print_L227 K_F_FR_print_L169 x2 x3 t0_0 t0_1 t0_2 t0_3 t0_4 t0_5 t0_6 t0_7 t0_8 t0_9 t0_10 t1_0 t2_0 t3_0 t4_0 t5_0 t6_0 t7_0 lx42 p100 p168 f142 p239 a269 a266 y196 y197 y198 y199 y200 y201 y202 y203 y204 y205 y206 f207 f209 f211 f213 f215 f217 lx279 lx296 lx312 lx328 lx329 lx330 lx331 lx332 lx333 lx334 lx335 lx336 lx337 lx338 lx339 lx340 p429 y390 y391 y392 y393 y394 y395 y396 y397 y398 y399 y400 f401 lx451 n lx472 lx473 lx474 lx475 lx476 lx477 lx478 lx479 lx480 lx481 lx482 lx483 lx484).1 (F_FR_print_L227 K_F_FR_print_L169 x2 x3 t0_0 t0_1 t0_2 t0_3 t0_4 t0_5 t0_6 t0_7 t0_8 t0_9 t0_10 t1_0 t2_0 t3_0 t4_0 t5_0 t6_0 t7_0 lx42 p100 p168 f142 p239 a269 a266 y196 y197 y198 y199 y200 y201 y202 y203 y204 y205 y206 f207 f209 f211 f213 f215 f217 lx279 lx296 lx312 lx328 lx329 lx330 lx331 lx332 lx333 lx334 lx335 lx336 lx337 lx338 lx339 lx340 p429 y390 y391 y392 y393 y394 y395 y396 y397 y398 y399 y400 f401 lx451 n lx472 lx473 lx474 lx475 lx476 lx477 lx478 lx479 lx480 lx481 lx482 lx483 lx484).2.2.2.2.2.2.2.2.2.2.2.2.2.2.2.2.2.2 (l ++ yDz S (p - ((q : Int) - 1080)) r ++ (if lx279 = 0 then [69] ++ yPs f else [])) := by
  have e0 : (0 : Int32).toInt = 0 := rfl
  intro n
  induction n with
  | zero =>
    intro lx472 lx473 lx474 lx475 lx476 lx477 lx478 lx479 lx480 lx481 lx482 lx483 lx484 p r l g1 g2 g3 g4
    omega
  | succ n ih =>
    intro lx472 lx473 lx474 lx475 lx476 lx477 lx478 lx479 lx480 lx481 lx482 lx483 lx484 p r l g1 g2 g3 g4 g5 g6 g7 g8 g9
    rw [F_FR_print_L227.eq_2]
    by_cases c : lx472 < lx451
    · rw [if_pos c]
      have c := q_ltI c
      obtain rfl : r = 0 := by omega
      show yRt _ _ (l ++ [] ++ (if lx279 = 0 then [69] ++ yPs f else []))
      rw [List.append_nil]
      by_cases d : lx279 = 0
      · rw [if_pos d, if_pos d]
        have w := V_rt (x := 69) (v := 69) g7 (by omega) rfl
        unfold F_FR_add F_FR_print_c261 yPs
        by_cases g : (0 : Int32) ≤ a266
        · rw [if_pos g]
          have g := q_leI g
          rw [if_neg (show ¬ f < 0 by omega), List.nil_append, ← List.append_assoc]
          exact V_p275 ha hf w (by rw [List.length_append, List.length_singleton]; omega)
        · rw [if_neg g]
          have g := q_nleI g
          rw [if_pos (show f < 0 by omega)]
          have w2 := V_rt (x := 45) (v := 45) w (by rw [List.length_append, List.length_singleton]; omega) rfl
          unfold F_FR_add F_FR_print_c272
          rw [show l ++ ([69] ++ ([45] ++ yDs (max (yCt5 f.natAbs) 1) f.natAbs)) = l ++ [69] ++ [45] ++ yDs (max (yCt5 f.natAbs) 1) f.natAbs from by rw [List.append_assoc, List.append_assoc]]
          exact V_p275 ha hf w2 (by rw [List.length_append, List.length_append, List.length_singleton, List.length_singleton]; omega)
      · rw [if_neg d, if_neg d, List.append_nil]
        exact g7
    · rw [if_neg c]
      have c := q_nltI c
      obtain ⟨k, rfl⟩ : ∃ k, r = k + 1 := ⟨r - 1, by omega⟩
      have fg := V_FRfig (x2 := lx472) (t0_0 := lx473) (t0_1 := lx474) (t0_2 := lx475) (t0_3 := lx476) (t0_4 := lx477) (t0_5 := lx478) (t0_6 := lx479) (t0_7 := lx480) (t0_8 := lx481) (t0_9 := lx482) (t0_10 := lx483) g1 (by have := g9 (by omega); omega) g5 g6 hq2 hS
      have w := V_rt g7 (by omega) fg
      unfold F_FR_add F_FR_print_c244
      rw [yDz_app]
      have eM : (-1 : Int32).toInt = -1 := rfl
      have nx : (lx472 + -1).toInt = p - 1 := by
        rw [q_addI g1 eM (by omega) (by omega)]
        omega
      have r := ih (lx472 + -1) lx473 (lx474 + 1) lx475 lx476 lx477 lx478 lx479 lx480 lx481 lx482 lx483 _ (p - 1) k _ nx (by clear nx; omega) (by clear nx; omega) (by clear nx; omega) g5 g6 w (by clear nx; rw [List.length_append, List.length_singleton]; omega) (fun _ => by clear nx; exact g9 (by omega))
      rw [show p - 1 - ((q : Int) - 1080) = p - ((q : Int) - 1080) - 1 from by clear nx; omega] at r
      exact r
theorem V_p219 {K_F_FR_print_L169 : Int32 → Int32 → Int32 → Int32 → Int32 → Int64 → Int32 → Int32 → Int64 → Int32 → Int64 → Int32 → (Nat → Int32) → (Int32 × Int32 × Int32 × Int32 × Int32 × Int64 × Int32 × Int32 × Int64 × Int32 × Int64 × Int32 × (Nat → Int32) × (Nat → Int32) × (Nat → Int32) × (Nat → Int32) × (Nat → Int32) × (Nat → Int32) × (Nat → Int32))} {x2 : Int64} {x3 : Int32} {t0_0 : Int32} {t0_1 : Int32} {t0_2 : Int32} {t0_3 : Int32} {t0_4 : Int64} {t0_5 : Int32} {t0_6 : Int32} {t0_7 : Int64} {t0_8 : Int32} {t0_9 : Int64} {t0_10 : Int32} {t1_0 : (Nat → Int32)} {t2_0 : (Nat → Int32)} {t3_0 : (Nat → Int32)} {t4_0 : (Nat → Int32)} {t5_0 : (Nat → Int32)} {t6_0 : (Nat → Int32)} {t7_0 : (Nat → Int32)} {lx42 : Int32} {p100 : (Int32 × Int32 × Int32 × Int32 × Int64 × Int32 × Int32 × Int64 × Int32 × Int64 × Int32)} {p168 : (Int32 × Int32 × Int32 × Int32 × Int64 × Int32 × Int32 × Int64 × Int32 × Int64 × Int32 × (Nat → Int32))} {f142 : (Nat → Int32)} {p239 : (Int32 × Int32 × Int32 × Int32 × Int64 × Int32 × Int32 × Int64 × Int32 × Int64 × Int32 × (Nat → Int32) × (Nat → Int32) × (Nat → Int32) × (Nat → Int32) × (Nat → Int32) × (Nat → Int32))} {a269 : Int32} {a266 : Int32} {y196 : Int32} {y197 : Int32} {y198 : Int32} {y199 : Int32} {y200 : Int64} {y201 : Int32} {y202 : Int32} {y203 : Int64} {y204 : Int32} {y205 : Int64} {y206 : Int32} {f207 : (Nat → Int32)} {f209 : (Nat → Int32)} {f211 : (Nat → Int32)} {f213 : (Nat → Int32)} {f215 : (Nat → Int32)} {f217 : (Nat → Int32)} {lx279 : Int32} {lx296 : Int32} {lx312 : Int32} {lx328 : Int32} {lx329 : Int32} {lx330 : Int32} {lx331 : Int32} {lx332 : Int32} {lx333 : Int64} {lx334 : Int32} {lx335 : Int32} {lx336 : Int64} {lx337 : Int32} {lx338 : Int64} {lx339 : Int32} {lx340 : (Nat → Int32)} {p429 : (Int32 × Int32 × Int32 × Int32 × Int64 × Int32 × Int32 × Int64 × Int32 × Int64 × Int32 × (Nat → Int32))} {y390 : Int32} {y391 : Int32} {y392 : Int32} {y393 : Int32} {y394 : Int64} {y395 : Int32} {y396 : Int32} {y397 : Int64} {y398 : Int32} {y399 : Int64} {y400 : Int32} {f401 : (Nat → Int32)} {lx451 : Int32} {S q : Nat} {f en on : Int} (ha : a266.toInt = f) (hf : -99999 ≤ f ∧ f ≤ 99999) (he : lx451.toInt = en) (heb : -1080 ≤ en ∧ en ≤ 2000) (hS : S < 1000000000000000000) (hq2 : q ≤ 3000) (ho : lx312.toInt = on) (hob : en ≤ on - 1 ∧ on ≤ 2000) {l : List Nat} (h9 : y399.toInt = (S : Int)) (h10 : y400.toInt = (q : Int)) (hr : yRt y391 f401 l) (hl : l.length < 300) (hoe : on - en < 1200) : yRt (F_FR_print_J219 K_F_FR_print_L169 x2 x3 t0_0 t0_1 t0_2 t0_3 t0_4 t0_5 t0_6 t0_7 t0_8 t0_9 t0_10 t1_0 t2_0 t3_0 t4_0 t5_0 t6_0 t7_0 lx42 p100 p168 f142 p239 a269 a266 y196 y197 y198 y199 y200 y201 y202 y203 y204 y205 y206 f207 f209 f211 f213 f215 f217 lx279 lx296 lx312 lx328 lx329 lx330 lx331 lx332 lx333 lx334 lx335 lx336 lx337 lx338 lx339 lx340 p429 y390 y391 y392 y393 y394 y395 y396 y397 y398 y399 y400 f401 lx451).1 (F_FR_print_J219 K_F_FR_print_L169 x2 x3 t0_0 t0_1 t0_2 t0_3 t0_4 t0_5 t0_6 t0_7 t0_8 t0_9 t0_10 t1_0 t2_0 t3_0 t4_0 t5_0 t6_0 t7_0 lx42 p100 p168 f142 p239 a269 a266 y196 y197 y198 y199 y200 y201 y202 y203 y204 y205 y206 f207 f209 f211 f213 f215 f217 lx279 lx296 lx312 lx328 lx329 lx330 lx331 lx332 lx333 lx334 lx335 lx336 lx337 lx338 lx339 lx340 p429 y390 y391 y392 y393 y394 y395 y396 y397 y398 y399 y400 f401 lx451).2.2.2.2.2.2.2.2.2.2.2.2.2.2.2.2.2.2 (l ++ yDz S (on - 1 - ((q : Int) - 1080)) (on - en).toNat ++ (if lx279 = 0 then [69] ++ yPs f else [])) := by
  have e1 : (1 : Int32).toInt = 1 := rfl
  unfold F_FR_print_J219
  have s := q_subI ho e1 (by omega) (by omega)
  have h0 := hr.1
  exact V_p227 ha hf he (by omega) hS hq2 ((1600 - y391.toInt).toNat + 1) (lx312 - 1) y390 y391 y392 y393 y394 y395 y396 y397 y398 y399 y400 f401 (on - 1) (on - en).toNat l s (by omega) (by omega) (by omega) h9 h10 hr (by omega) (fun _ => by omega)
theorem V_p169 {x2 : Int64} {x3 : Int32} {t0_0 : Int32} {t0_1 : Int32} {t0_2 : Int32} {t0_3 : Int32} {t0_4 : Int64} {t0_5 : Int32} {t0_6 : Int32} {t0_7 : Int64} {t0_8 : Int32} {t0_9 : Int64} {t0_10 : Int32} {t1_0 : (Nat → Int32)} {t2_0 : (Nat → Int32)} {t3_0 : (Nat → Int32)} {t4_0 : (Nat → Int32)} {t5_0 : (Nat → Int32)} {t6_0 : (Nat → Int32)} {t7_0 : (Nat → Int32)} {lx42 : Int32} {p100 : (Int32 × Int32 × Int32 × Int32 × Int64 × Int32 × Int32 × Int64 × Int32 × Int64 × Int32)} {p168 : (Int32 × Int32 × Int32 × Int32 × Int64 × Int32 × Int32 × Int64 × Int32 × Int64 × Int32 × (Nat → Int32))} {f142 : (Nat → Int32)} {p239 : (Int32 × Int32 × Int32 × Int32 × Int64 × Int32 × Int32 × Int64 × Int32 × Int64 × Int32 × (Nat → Int32) × (Nat → Int32) × (Nat → Int32) × (Nat → Int32) × (Nat → Int32) × (Nat → Int32))} {a269 : Int32} {a266 : Int32} {y196 : Int32} {y197 : Int32} {y198 : Int32} {y199 : Int32} {y200 : Int64} {y201 : Int32} {y202 : Int32} {y203 : Int64} {y204 : Int32} {y205 : Int64} {y206 : Int32} {f207 : (Nat → Int32)} {f209 : (Nat → Int32)} {f211 : (Nat → Int32)} {f213 : (Nat → Int32)} {f215 : (Nat → Int32)} {f217 : (Nat → Int32)} {lx279 : Int32} {lx296 : Int32} {lx312 : Int32} {S q : Nat} {f la on : Int} (ha : a266.toInt = f) (hf : -1100 ≤ f ∧ f ≤ 2000) (hla : a269.toInt = la) (hlab : -1080 ≤ la ∧ la ≤ f) (hS : S < 1000000000000000000) (hq2 : q ≤ 3000) (ho : lx312.toInt = on) (hob : -1079 ≤ on ∧ on ≤ 2000) (hfl : on - la < 1100) : ∀ (n : Nat) (lx328 : Int32) (lx329 : Int32) (lx330 : Int32) (lx331 : Int32) (lx332 : Int32) (lx333 : Int64) (lx334 : Int32) (lx335 : Int32) (lx336 : Int64) (lx337 : Int32) (lx338 : Int64) (lx339 : Int32) (lx340 : (Nat → Int32)), ∀ (p : Int) (r : Nat) (l : List Nat), lx328.toInt = p → (r : Int) = p - on + 1 → p ≤ 2000 → -1080 ≤ p → r < n → lx338.toInt = (S : Int) → lx339.toInt = (q : Int) → yRt lx330 lx340 l → l.length + r < 290 → yRt (F_FR_print_L169 x2 x3 t0_0 t0_1 t0_2 t0_3 t0_4 t0_5 t0_6 t0_7 t0_8 t0_9 t0_10 t1_0 t2_0 t3_0 t4_0 t5_0 t6_0 t7_0 lx42 p100 p168 f142 p239 a269 a266 y196 y197 y198 y199 y200 y201 y202 y203 y204 y205 y206 f207 f209 f211 f213 f215 f217 lx279 lx296 lx312 n lx328 lx329 lx330 lx331 lx332 lx333 lx334 lx335 lx336 lx337 lx338 lx339 lx340).1 (F_FR_print_L169 x2 x3 t0_0 t0_1 t0_2 t0_3 t0_4 t0_5 t0_6 t0_7 t0_8 t0_9 t0_10 t1_0 t2_0 t3_0 t4_0 t5_0 t6_0 t7_0 lx42 p100 p168 f142 p239 a269 a266 y196 y197 y198 y199 y200 y201 y202 y203 y204 y205 y206 f207 f209 f211 f213 f215 f217 lx279 lx296 lx312 n lx328 lx329 lx330 lx331 lx332 lx333 lx334 lx335 lx336 lx337 lx338 lx339 lx340).2.2.2.2.2.2.2.2.2.2.2.2.2.2.2.2.2.2 (l ++ yDz S (p - ((q : Int) - 1080)) r ++ [46] ++ yDz S (on - 1 - ((q : Int) - 1080)) (on - min la (on - 1)).toNat ++ (if lx279 = 0 then [69] ++ yPs f else [])) := by
  have e1 : (1 : Int32).toInt = 1 := rfl
  intro n
  induction n with
  | zero =>
    intro lx328 lx329 lx330 lx331 lx332 lx333 lx334 lx335 lx336 lx337 lx338 lx339 lx340 p r l g1 g2 g3 g3b g4
    omega
  | succ n ih =>
    intro lx328 lx329 lx330 lx331 lx332 lx333 lx334 lx335 lx336 lx337 lx338 lx339 lx340 p r l g1 g2 g3 g3b g4 g5 g6 g7 g8
    rw [F_FR_print_L169.eq_2]
    by_cases c : lx328 < lx312
    · rw [if_pos c]
      have c := q_ltI c
      obtain rfl : r = 0 := by omega
      show yRt _ _ (l ++ [] ++ [46] ++ _ ++ _)
      rw [List.append_nil]
      have w := V_rt (x := 46) (v := 46) g7 (by omega) rfl
      have s := q_subI ho e1 (by omega) (by omega)
      unfold F_FR_add F_FR_print_c198
      by_cases d : (lx312 - 1) ≤ a269
      · rw [if_pos d]
        have d := q_leI d
        rw [show min la (on - 1) = on - 1 from by omega]
        exact V_p219 ha (by omega) s (by omega) hS hq2 ho (by omega) g5 g6 w (by rw [List.length_append, List.length_singleton]; omega) (by omega)
      · rw [if_neg d]
        have d := q_nleI d
        rw [show min la (on - 1) = la from by omega]
        exact V_p219 ha (by omega) hla (by omega) hS hq2 ho (by omega) g5 g6 w (by rw [List.length_append, List.length_singleton]; omega) (by omega)
    · rw [if_neg c]
      have c := q_nltI c
      obtain ⟨k, rfl⟩ : ∃ k, r = k + 1 := ⟨r - 1, by omega⟩
      have fg := V_FRfig (x2 := lx328) (t0_0 := lx329) (t0_1 := lx330) (t0_2 := lx331) (t0_3 := lx332) (t0_4 := lx333) (t0_5 := lx334) (t0_6 := lx335) (t0_7 := lx336) (t0_8 := lx337) (t0_9 := lx338) (t0_10 := lx339) g1 (by omega) g5 g6 hq2 hS
      have w := V_rt g7 (by omega) fg
      unfold F_FR_add F_FR_print_c186
      rw [yDz_app]
      have eM : (-1 : Int32).toInt = -1 := rfl
      have nx : (lx328 + -1).toInt = p - 1 := by
        rw [q_addI g1 eM (by omega) (by omega)]
        omega
      have r := ih (lx328 + -1) lx329 (lx330 + 1) lx331 lx332 lx333 lx334 lx335 lx336 lx337 lx338 lx339 _ (p - 1) k _ nx (by clear nx; omega) (by clear nx; omega) (by clear nx; omega) (by clear nx; omega) g5 g6 w (by clear nx; rw [List.length_append, List.length_singleton]; omega)
      rw [show p - 1 - ((q : Int) - 1080) = p - ((q : Int) - 1080) - 1 from by clear nx; omega] at r
      exact r
