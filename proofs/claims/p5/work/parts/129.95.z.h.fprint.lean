/-! FloatRows: print -/
def Q_FR_print (p : Int32 × Int32 × Int32 × Int32 × Int32 × Int64 × Int32 × Int32 × Int64 × Int32 × Int64 × Int32 × (Nat → Int32) × (Nat → Int32) × (Nat → Int32) × (Nat → Int32) × (Nat → Int32) × (Nat → Int32) × (Nat → Int32)) : Prop := 0 ≤ p.1.toInt ∧ p.1.toInt ≤ 1600
theorem vf_pr2 {K_F_FR_print_L169 : Int32 → Int32 → Int32 → Int32 → Int32 → Int64 → Int32 → Int32 → Int64 → Int32 → Int64 → Int32 → (Nat → Int32) → (Int32 × Int32 × Int32 × Int32 × Int32 × Int64 × Int32 × Int32 × Int64 × Int32 × Int64 × Int32 × (Nat → Int32) × (Nat → Int32) × (Nat → Int32) × (Nat → Int32) × (Nat → Int32) × (Nat → Int32) × (Nat → Int32))} {x2 : Int64} {x3 : Int32} {t0_0 : Int32} {t0_1 : Int32} {t0_2 : Int32} {t0_3 : Int32} {t0_4 : Int64} {t0_5 : Int32} {t0_6 : Int32} {t0_7 : Int64} {t0_8 : Int32} {t0_9 : Int64} {t0_10 : Int32} {t1_0 : (Nat → Int32)} {t2_0 : (Nat → Int32)} {t3_0 : (Nat → Int32)} {t4_0 : (Nat → Int32)} {t5_0 : (Nat → Int32)} {t6_0 : (Nat → Int32)} {t7_0 : (Nat → Int32)} {lx42 : Int32} {p100 : (Int32 × Int32 × Int32 × Int32 × Int64 × Int32 × Int32 × Int64 × Int32 × Int64 × Int32)} {p168 : (Int32 × Int32 × Int32 × Int32 × Int64 × Int32 × Int32 × Int64 × Int32 × Int64 × Int32 × (Nat → Int32))} {f142 : (Nat → Int32)} {p239 : (Int32 × Int32 × Int32 × Int32 × Int64 × Int32 × Int32 × Int64 × Int32 × Int64 × Int32 × (Nat → Int32) × (Nat → Int32) × (Nat → Int32) × (Nat → Int32) × (Nat → Int32) × (Nat → Int32))} {a269 : Int32} {a266 : Int32} {y196 : Int32} {y197 : Int32} {y198 : Int32} {y199 : Int32} {y200 : Int64} {y201 : Int32} {y202 : Int32} {y203 : Int64} {y204 : Int32} {y205 : Int64} {y206 : Int32} {f207 : (Nat → Int32)} {f209 : (Nat → Int32)} {f211 : (Nat → Int32)} {f213 : (Nat → Int32)} {f215 : (Nat → Int32)} {f217 : (Nat → Int32)} {lx279 : Int32} {lx296 : Int32} {lx312 : Int32} {lx328 : Int32} {lx329 : Int32} {lx330 : Int32} {lx331 : Int32} {lx332 : Int32} {lx333 : Int64} {lx334 : Int32} {lx335 : Int32} {lx336 : Int64} {lx337 : Int32} {lx338 : Int64} {lx339 : Int32} {lx340 : (Nat → Int32)} {p429 : (Int32 × Int32 × Int32 × Int32 × Int64 × Int32 × Int32 × Int64 × Int32 × Int64 × Int32 × (Nat → Int32))} {y390 : Int32} {y391 : Int32} {y392 : Int32} {y393 : Int32} {y394 : Int64} {y395 : Int32} {y396 : Int32} {y397 : Int64} {y398 : Int32} {y399 : Int64} {y400 : Int32} {f401 : (Nat → Int32)} {lx451 : Int32} {K_S_FR_print_L169 : Int32 → Int32 → Int32 → Int32 → Int32 → Int64 → Int32 → Int32 → Int64 → Int32 → Int64 → Int32 → (Nat → Int32) → Prop} (hA : -1080 ≤ a269.toInt ∧ a269.toInt ≤ 420) (hB : a269.toInt ≤ a266.toInt ∧ a266.toInt ≤ a269.toInt + 18)(h4 : lx312.toInt - 1 - lx451.toInt ≤ 1080 ∧ lx451.toInt ≤ lx312.toInt - 1) (h3 : -1080 ≤ lx312.toInt ∧ lx312.toInt ≤ 438) : ∀ (n : Nat) (lx472 : Int32) (lx473 : Int32) (lx474 : Int32) (lx475 : Int32) (lx476 : Int32) (lx477 : Int64) (lx478 : Int32) (lx479 : Int32) (lx480 : Int64) (lx481 : Int32) (lx482 : Int64) (lx483 : Int32) (lx484 : (Nat → Int32)), (lx451.toInt - 1 ≤ lx472.toInt ∧ lx472.toInt ≤ lx312.toInt - 1) → (1600 - lx474.toInt < (n : Int)) → (0 ≤ lx474.toInt ∧ lx474.toInt + lx472.toInt ≤ 443 + lx312.toInt - 1) → (S_FR_print_L227 K_S_FR_print_L169 x2 x3 t0_0 t0_1 t0_2 t0_3 t0_4 t0_5 t0_6 t0_7 t0_8 t0_9 t0_10 t1_0 t2_0 t3_0 t4_0 t5_0 t6_0 t7_0 lx42 p100 p168 f142 p239 a269 a266 y196 y197 y198 y199 y200 y201 y202 y203 y204 y205 y206 f207 f209 f211 f213 f215 f217 lx279 lx296 lx312 lx328 lx329 lx330 lx331 lx332 lx333 lx334 lx335 lx336 lx337 lx338 lx339 lx340 p429 y390 y391 y392 y393 y394 y395 y396 y397 y398 y399 y400 f401 lx451 n lx472 lx473 lx474 lx475 lx476 lx477 lx478 lx479 lx480 lx481 lx482 lx483 lx484) ∧ Q_FR_print (F_FR_print_L227 K_F_FR_print_L169 x2 x3 t0_0 t0_1 t0_2 t0_3 t0_4 t0_5 t0_6 t0_7 t0_8 t0_9 t0_10 t1_0 t2_0 t3_0 t4_0 t5_0 t6_0 t7_0 lx42 p100 p168 f142 p239 a269 a266 y196 y197 y198 y199 y200 y201 y202 y203 y204 y205 y206 f207 f209 f211 f213 f215 f217 lx279 lx296 lx312 lx328 lx329 lx330 lx331 lx332 lx333 lx334 lx335 lx336 lx337 lx338 lx339 lx340 p429 y390 y391 y392 y393 y394 y395 y396 y397 y398 y399 y400 f401 lx451 n lx472 lx473 lx474 lx475 lx476 lx477 lx478 lx479 lx480 lx481 lx482 lx483 lx484) := by
  intro n
  induction n with
  | zero => intro lx472 lx473 lx474 lx475 lx476 lx477 lx478 lx479 lx480 lx481 lx482 lx483 lx484 h0 hm h1; exact absurd (show False by omega) id
  | succ n ih =>
    intro lx472 lx473 lx474 lx475 lx476 lx477 lx478 lx479 lx480 lx481 lx482 lx483 lx484 h0 hm h1
    have e0 : (0 : Int32).toInt = 0 := rfl
    have e1 : (1 : Int32).toInt = 1 := rfl
    have eL0 : (0 : Int64).toInt = 0 := rfl
    have n266 : (-a266 : Int32).toInt = -a266.toInt := v_negI (by omega) (by omega)
    rw [S_FR_print_L227.eq_2, F_FR_print_L227.eq_2]
    by_cases g1 : lx472 < lx451
    ·
      rw [if_pos g1, if_pos g1]
      have g1i : lx472.toInt < lx451.toInt := q_ltI g1
      by_cases g2 : lx279 = (0 : Int32)
      ·
        rw [if_pos g2, if_pos g2]
        have h3 := T_FR_add (x2 := (69 : Int32)) (t0_0 := lx473) (t0_1 := lx474) (t0_2 := lx475) (t0_3 := lx476) (t0_4 := lx477) (t0_5 := lx478) (t0_6 := lx479) (t0_7 := lx480) (t0_8 := lx481) (t0_9 := lx482) (t0_10 := lx483) (t1_0 := lx484) ⟨by first | omega | decide, by first | omega | decide⟩
        with_reducible refine v_owe h3.1 ?_
        replace h3 := h3.2
        generalize F_FR_add (69 : Int32) lx473 lx474 lx475 lx476 lx477 lx478 lx479 lx480 lx481 lx482 lx483 lx484 = p570 at *
        unfold Q_FR_add at h3
        obtain ⟨h31, h33, h35, h36, h37, h38, h39, h3x⟩ := h3
        have h39i := congrArg Int64.toInt h39
        have h37i := congrArg Int64.toInt h37
        unfold S_FR_print_c261 F_FR_print_c261
        by_cases g4 : (0 : Int32) ≤ a266
        ·
          rw [if_pos g4, if_pos g4]
          have g4i : 0 ≤ a266.toInt := q_leI g4
          unfold S_FR_print_J275 F_FR_print_J275
          rw [if_pos g4, if_pos g4]
          have h5 := T_FR_number (x2 := a266) (t0_0 := (p570.1 : Int32)) (t0_1 := (p570.2.1 : Int32)) (t0_2 := (p570.2.2.1 : Int32)) (t0_3 := (p570.2.2.2.1 : Int32)) (t0_4 := (p570.2.2.2.2.1 : Int64)) (t0_5 := (p570.2.2.2.2.2.1 : Int32)) (t0_6 := (p570.2.2.2.2.2.2.1 : Int32)) (t0_7 := (p570.2.2.2.2.2.2.2.1 : Int64)) (t0_8 := (p570.2.2.2.2.2.2.2.2.1 : Int32)) (t0_9 := (p570.2.2.2.2.2.2.2.2.2.1 : Int64)) (t0_10 := (p570.2.2.2.2.2.2.2.2.2.2.1 : Int32)) (t1_0 := (p570.2.2.2.2.2.2.2.2.2.2.2 : (Nat → Int32))) ⟨by omega, by omega⟩ ⟨by omega, by omega⟩
          with_reducible refine v_owe h5.1 ?_
          replace h5 := h5.2
          generalize F_FR_number a266 (p570.1 : Int32) (p570.2.1 : Int32) (p570.2.2.1 : Int32) (p570.2.2.2.1 : Int32) (p570.2.2.2.2.1 : Int64) (p570.2.2.2.2.2.1 : Int32) (p570.2.2.2.2.2.2.1 : Int32) (p570.2.2.2.2.2.2.2.1 : Int64) (p570.2.2.2.2.2.2.2.2.1 : Int32) (p570.2.2.2.2.2.2.2.2.2.1 : Int64) (p570.2.2.2.2.2.2.2.2.2.2.1 : Int32) (p570.2.2.2.2.2.2.2.2.2.2.2 : (Nat → Int32)) = p682 at *
          unfold Q_FR_number at h5
          unfold S_FR_print_c289 F_FR_print_c289
          refine ⟨trivial, ?_⟩
          (unfold Q_FR_print; dsimp only; first | exact ⟨by omega, by omega⟩ | exact ⟨by decide, by decide⟩)
        ·
          rw [if_neg g4, if_neg g4]
          have g4i : a266.toInt < 0 := q_nleI g4
          have h6 := T_FR_add (x2 := (45 : Int32)) (t0_0 := (p570.1 : Int32)) (t0_1 := (p570.2.1 : Int32)) (t0_2 := (p570.2.2.1 : Int32)) (t0_3 := (p570.2.2.2.1 : Int32)) (t0_4 := (p570.2.2.2.2.1 : Int64)) (t0_5 := (p570.2.2.2.2.2.1 : Int32)) (t0_6 := (p570.2.2.2.2.2.2.1 : Int32)) (t0_7 := (p570.2.2.2.2.2.2.2.1 : Int64)) (t0_8 := (p570.2.2.2.2.2.2.2.2.1 : Int32)) (t0_9 := (p570.2.2.2.2.2.2.2.2.2.1 : Int64)) (t0_10 := (p570.2.2.2.2.2.2.2.2.2.2.1 : Int32)) (t1_0 := (p570.2.2.2.2.2.2.2.2.2.2.2 : (Nat → Int32))) ⟨by first | omega | decide, by first | omega | decide⟩
          with_reducible refine v_owe h6.1 ?_
          replace h6 := h6.2
          generalize F_FR_add (45 : Int32) (p570.1 : Int32) (p570.2.1 : Int32) (p570.2.2.1 : Int32) (p570.2.2.2.1 : Int32) (p570.2.2.2.2.1 : Int64) (p570.2.2.2.2.2.1 : Int32) (p570.2.2.2.2.2.2.1 : Int32) (p570.2.2.2.2.2.2.2.1 : Int64) (p570.2.2.2.2.2.2.2.2.1 : Int32) (p570.2.2.2.2.2.2.2.2.2.1 : Int64) (p570.2.2.2.2.2.2.2.2.2.2.1 : Int32) (p570.2.2.2.2.2.2.2.2.2.2.2 : (Nat → Int32)) = p809 at *
          unfold Q_FR_add at h6
          obtain ⟨h61, h63, h65, h66, h67, h68, h69, h6x⟩ := h6
          have h69i := congrArg Int64.toInt h69
          have h67i := congrArg Int64.toInt h67
          unfold S_FR_print_c272 F_FR_print_c272
          unfold S_FR_print_J275 F_FR_print_J275
          rw [if_neg g4, if_neg g4]
          have h7 := T_FR_number (x2 := (-a266 : Int32)) (t0_0 := (p809.1 : Int32)) (t0_1 := (p809.2.1 : Int32)) (t0_2 := (p809.2.2.1 : Int32)) (t0_3 := (p809.2.2.2.1 : Int32)) (t0_4 := (p809.2.2.2.2.1 : Int64)) (t0_5 := (p809.2.2.2.2.2.1 : Int32)) (t0_6 := (p809.2.2.2.2.2.2.1 : Int32)) (t0_7 := (p809.2.2.2.2.2.2.2.1 : Int64)) (t0_8 := (p809.2.2.2.2.2.2.2.2.1 : Int32)) (t0_9 := (p809.2.2.2.2.2.2.2.2.2.1 : Int64)) (t0_10 := (p809.2.2.2.2.2.2.2.2.2.2.1 : Int32)) (t1_0 := (p809.2.2.2.2.2.2.2.2.2.2.2 : (Nat → Int32))) ⟨by omega, by omega⟩ ⟨by omega, by omega⟩
          with_reducible refine v_owe h7.1 ?_
          replace h7 := h7.2
          generalize F_FR_number (-a266 : Int32) (p809.1 : Int32) (p809.2.1 : Int32) (p809.2.2.1 : Int32) (p809.2.2.2.1 : Int32) (p809.2.2.2.2.1 : Int64) (p809.2.2.2.2.2.1 : Int32) (p809.2.2.2.2.2.2.1 : Int32) (p809.2.2.2.2.2.2.2.1 : Int64) (p809.2.2.2.2.2.2.2.2.1 : Int32) (p809.2.2.2.2.2.2.2.2.2.1 : Int64) (p809.2.2.2.2.2.2.2.2.2.2.1 : Int32) (p809.2.2.2.2.2.2.2.2.2.2.2 : (Nat → Int32)) = p744 at *
          unfold Q_FR_number at h7
          unfold S_FR_print_c289_15 F_FR_print_c289_15
          refine ⟨trivial, ?_⟩
          (unfold Q_FR_print; dsimp only; first | exact ⟨by omega, by omega⟩ | exact ⟨by decide, by decide⟩)
      ·
        rw [if_neg g2, if_neg g2]
        refine ⟨trivial, ?_⟩
        (unfold Q_FR_print; dsimp only; first | exact ⟨by omega, by omega⟩ | exact ⟨by decide, by decide⟩)
    ·
      rw [if_neg g1, if_neg g1]
      have g1i : lx451.toInt ≤ lx472.toInt := q_nltI g1
      have h8 := T_FR_add (x2 := (48 + ((F_FR_figure lx472 lx473 lx474 lx475 lx476 lx477 lx478 lx479 lx480 lx481 lx482 lx483) : Int32) : Int32)) (t0_0 := lx473) (t0_1 := lx474) (t0_2 := lx475) (t0_3 := lx476) (t0_4 := lx477) (t0_5 := lx478) (t0_6 := lx479) (t0_7 := lx480) (t0_8 := lx481) (t0_9 := lx482) (t0_10 := lx483) (t1_0 := lx484) ⟨by first | omega | decide, by first | omega | decide⟩
      with_reducible refine v_owe h8.1 ?_
      replace h8 := h8.2
      generalize F_FR_add (48 + ((F_FR_figure lx472 lx473 lx474 lx475 lx476 lx477 lx478 lx479 lx480 lx481 lx482 lx483) : Int32) : Int32) lx473 lx474 lx475 lx476 lx477 lx478 lx479 lx480 lx481 lx482 lx483 lx484 = p879 at *
      unfold Q_FR_add at h8
      obtain ⟨h81, h83, h85, h86, h87, h88, h89, h8x⟩ := h8
      have h89i := congrArg Int64.toInt h89
      have h87i := congrArg Int64.toInt h87
      unfold S_FR_print_c244 F_FR_print_c244
      obtain ⟨a9, e10⟩ := q_nm (lx472 + (-1) : Int32)
      rw [e10]
      have a9i : a9.toInt = lx472.toInt + (-1) := by rw [← e10]; exact q_addI (x := lx472.toInt) (y := (-1)) rfl (by decide) (by omega) (by omega)
      exact ih _ _ _ _ _ _ _ _ _ _ _ _ _ ⟨by omega, by omega⟩ (by omega) ⟨by omega, by omega⟩
theorem vf_pr1 {x2 : Int64} {x3 : Int32} {t0_0 : Int32} {t0_1 : Int32} {t0_2 : Int32} {t0_3 : Int32} {t0_4 : Int64} {t0_5 : Int32} {t0_6 : Int32} {t0_7 : Int64} {t0_8 : Int32} {t0_9 : Int64} {t0_10 : Int32} {t1_0 : (Nat → Int32)} {t2_0 : (Nat → Int32)} {t3_0 : (Nat → Int32)} {t4_0 : (Nat → Int32)} {t5_0 : (Nat → Int32)} {t6_0 : (Nat → Int32)} {t7_0 : (Nat → Int32)} {lx42 : Int32} {p100 : (Int32 × Int32 × Int32 × Int32 × Int64 × Int32 × Int32 × Int64 × Int32 × Int64 × Int32)} {p168 : (Int32 × Int32 × Int32 × Int32 × Int64 × Int32 × Int32 × Int64 × Int32 × Int64 × Int32 × (Nat → Int32))} {f142 : (Nat → Int32)} {p239 : (Int32 × Int32 × Int32 × Int32 × Int64 × Int32 × Int32 × Int64 × Int32 × Int64 × Int32 × (Nat → Int32) × (Nat → Int32) × (Nat → Int32) × (Nat → Int32) × (Nat → Int32) × (Nat → Int32))} {a269 : Int32} {a266 : Int32} {y196 : Int32} {y197 : Int32} {y198 : Int32} {y199 : Int32} {y200 : Int64} {y201 : Int32} {y202 : Int32} {y203 : Int64} {y204 : Int32} {y205 : Int64} {y206 : Int32} {f207 : (Nat → Int32)} {f209 : (Nat → Int32)} {f211 : (Nat → Int32)} {f213 : (Nat → Int32)} {f215 : (Nat → Int32)} {f217 : (Nat → Int32)} {lx279 : Int32} {lx296 : Int32} {lx312 : Int32} (hA : -1080 ≤ a269.toInt ∧ a269.toInt ≤ 420) (hB : a269.toInt ≤ a266.toInt ∧ a266.toInt ≤ a269.toInt + 18)(h9 : lx312.toInt ≤ lx296.toInt ∧ lx296.toInt ≤ lx312.toInt + 440) (h3 : -1080 ≤ lx312.toInt ∧ lx312.toInt ≤ 438) (h5 : lx312.toInt = 0 ∨ lx312.toInt = a266.toInt) : ∀ (n : Nat) (lx328 : Int32) (lx329 : Int32) (lx330 : Int32) (lx331 : Int32) (lx332 : Int32) (lx333 : Int64) (lx334 : Int32) (lx335 : Int32) (lx336 : Int64) (lx337 : Int32) (lx338 : Int64) (lx339 : Int32) (lx340 : (Nat → Int32)), (lx312.toInt - 1 ≤ lx328.toInt ∧ lx328.toInt ≤ lx296.toInt) → (2047 - lx330.toInt < (n : Int)) → (0 ≤ lx330.toInt ∧ lx330.toInt + lx328.toInt ≤ 1 + lx296.toInt) → (S_FR_print_L169 x2 x3 t0_0 t0_1 t0_2 t0_3 t0_4 t0_5 t0_6 t0_7 t0_8 t0_9 t0_10 t1_0 t2_0 t3_0 t4_0 t5_0 t6_0 t7_0 lx42 p100 p168 f142 p239 a269 a266 y196 y197 y198 y199 y200 y201 y202 y203 y204 y205 y206 f207 f209 f211 f213 f215 f217 lx279 lx296 lx312 n lx328 lx329 lx330 lx331 lx332 lx333 lx334 lx335 lx336 lx337 lx338 lx339 lx340) ∧ Q_FR_print (F_FR_print_L169 x2 x3 t0_0 t0_1 t0_2 t0_3 t0_4 t0_5 t0_6 t0_7 t0_8 t0_9 t0_10 t1_0 t2_0 t3_0 t4_0 t5_0 t6_0 t7_0 lx42 p100 p168 f142 p239 a269 a266 y196 y197 y198 y199 y200 y201 y202 y203 y204 y205 y206 f207 f209 f211 f213 f215 f217 lx279 lx296 lx312 n lx328 lx329 lx330 lx331 lx332 lx333 lx334 lx335 lx336 lx337 lx338 lx339 lx340) := by
  intro n
  induction n with
  | zero => intro lx328 lx329 lx330 lx331 lx332 lx333 lx334 lx335 lx336 lx337 lx338 lx339 lx340 h0 hm h1; exact absurd (show False by omega) id
  | succ n ih =>
    intro lx328 lx329 lx330 lx331 lx332 lx333 lx334 lx335 lx336 lx337 lx338 lx339 lx340 h0 hm h1
    have e0 : (0 : Int32).toInt = 0 := rfl
    have e1 : (1 : Int32).toInt = 1 := rfl
    have eL0 : (0 : Int64).toInt = 0 := rfl
    have e12 : (lx312 - 1 : Int32).toInt = lx312.toInt - 1 := q_subI (y := 1) rfl (by decide) (by omega) (by omega)
    rw [S_FR_print_L169.eq_2, F_FR_print_L169.eq_2]
    by_cases g1 : lx328 < lx312
    ·
      rw [if_pos g1, if_pos g1]
      have g1i : lx328.toInt < lx312.toInt := q_ltI g1
      have h2 := T_FR_add (x2 := (46 : Int32)) (t0_0 := lx329) (t0_1 := lx330) (t0_2 := lx331) (t0_3 := lx332) (t0_4 := lx333) (t0_5 := lx334) (t0_6 := lx335) (t0_7 := lx336) (t0_8 := lx337) (t0_9 := lx338) (t0_10 := lx339) (t1_0 := lx340) ⟨by first | omega | decide, by first | omega | decide⟩
      with_reducible refine v_owe h2.1 ?_
      replace h2 := h2.2
      generalize F_FR_add (46 : Int32) lx329 lx330 lx331 lx332 lx333 lx334 lx335 lx336 lx337 lx338 lx339 lx340 = p429 at *
      unfold Q_FR_add at h2
      obtain ⟨h21, h23, h25, h26, h27, h28, h29, h2x⟩ := h2
      have h29i := congrArg Int64.toInt h29
      have h27i := congrArg Int64.toInt h27
      unfold S_FR_print_c198 F_FR_print_c198
      by_cases g3 : (lx312 - 1 : Int32) ≤ a269
      ·
        rw [if_pos g3, if_pos g3]
        have g3i := q_leI g3
        unfold S_FR_print_J219 F_FR_print_J219
        exact vf_pr2 hA hB ⟨by omega, by omega⟩ ⟨by omega, by omega⟩ _ _ _ _ _ _ _ _ _ _ _ _ _ _ ⟨by omega, by omega⟩ (by omega) ⟨by omega, by omega⟩
      ·
        rw [if_neg g3, if_neg g3]
        have g3i := q_nleI g3
        unfold S_FR_print_J219 F_FR_print_J219
        exact vf_pr2 hA hB ⟨by omega, by omega⟩ ⟨by omega, by omega⟩ _ _ _ _ _ _ _ _ _ _ _ _ _ _ ⟨by omega, by omega⟩ (by omega) ⟨by omega, by omega⟩
    ·
      rw [if_neg g1, if_neg g1]
      have g1i : lx312.toInt ≤ lx328.toInt := q_nltI g1
      have h4 := T_FR_add (x2 := (48 + ((F_FR_figure lx328 lx329 lx330 lx331 lx332 lx333 lx334 lx335 lx336 lx337 lx338 lx339) : Int32) : Int32)) (t0_0 := lx329) (t0_1 := lx330) (t0_2 := lx331) (t0_3 := lx332) (t0_4 := lx333) (t0_5 := lx334) (t0_6 := lx335) (t0_7 := lx336) (t0_8 := lx337) (t0_9 := lx338) (t0_10 := lx339) (t1_0 := lx340) ⟨by first | omega | decide, by first | omega | decide⟩
      with_reducible refine v_owe h4.1 ?_
      replace h4 := h4.2
      generalize F_FR_add (48 + ((F_FR_figure lx328 lx329 lx330 lx331 lx332 lx333 lx334 lx335 lx336 lx337 lx338 lx339) : Int32) : Int32) lx329 lx330 lx331 lx332 lx333 lx334 lx335 lx336 lx337 lx338 lx339 lx340 = p957 at *
      unfold Q_FR_add at h4
      obtain ⟨h41, h43, h45, h46, h47, h48, h49, h4x⟩ := h4
      have h49i := congrArg Int64.toInt h49
      have h47i := congrArg Int64.toInt h47
      unfold S_FR_print_c186 F_FR_print_c186
      obtain ⟨a5, e6⟩ := q_nm (lx328 + (-1) : Int32)
      rw [e6]
      have a5i : a5.toInt = lx328.toInt + (-1) := by rw [← e6]; exact q_addI (x := lx328.toInt) (y := (-1)) rfl (by decide) (by omega) (by omega)
      exact ih _ _ _ _ _ _ _ _ _ _ _ _ _ ⟨by omega, by omega⟩ (by omega) ⟨by omega, by omega⟩
theorem T_FR_prJ {x2 : Int64} {x3 : Int32} {t0_0 : Int32} {t0_1 : Int32} {t0_2 : Int32} {t0_3 : Int32} {t0_4 : Int64} {t0_5 : Int32} {t0_6 : Int32} {t0_7 : Int64} {t0_8 : Int32} {t0_9 : Int64} {t0_10 : Int32} {t1_0 : (Nat → Int32)} {t2_0 : (Nat → Int32)} {t3_0 : (Nat → Int32)} {t4_0 : (Nat → Int32)} {t5_0 : (Nat → Int32)} {t6_0 : (Nat → Int32)} {t7_0 : (Nat → Int32)} {lx42 : Int32} {p100 : (Int32 × Int32 × Int32 × Int32 × Int64 × Int32 × Int32 × Int64 × Int32 × Int64 × Int32)} {p168 : (Int32 × Int32 × Int32 × Int32 × Int64 × Int32 × Int32 × Int64 × Int32 × Int64 × Int32 × (Nat → Int32))} {f142 : (Nat → Int32)} {p239 : (Int32 × Int32 × Int32 × Int32 × Int64 × Int32 × Int32 × Int64 × Int32 × Int64 × Int32 × (Nat → Int32) × (Nat → Int32) × (Nat → Int32) × (Nat → Int32) × (Nat → Int32) × (Nat → Int32))} {a269 : Int32} {a266 : Int32} {y196 : Int32} {y197 : Int32} {y198 : Int32} {y199 : Int32} {y200 : Int64} {y201 : Int32} {y202 : Int32} {y203 : Int64} {y204 : Int32} {y205 : Int64} {y206 : Int32} {f207 : (Nat → Int32)} {f209 : (Nat → Int32)} {f211 : (Nat → Int32)} {f213 : (Nat → Int32)} {f215 : (Nat → Int32)} {f217 : (Nat → Int32)} {lx279 : Int32} (hA : -1080 ≤ a269.toInt ∧ a269.toInt ≤ 420) (hB : a269.toInt ≤ a266.toInt ∧ a266.toInt ≤ a269.toInt + 18)(hy : 0 ≤ y197.toInt ∧ y197.toInt ≤ 1) : (S_FR_print_J127 x2 x3 t0_0 t0_1 t0_2 t0_3 t0_4 t0_5 t0_6 t0_7 t0_8 t0_9 t0_10 t1_0 t2_0 t3_0 t4_0 t5_0 t6_0 t7_0 lx42 p100 p168 f142 p239 a269 a266 y196 y197 y198 y199 y200 y201 y202 y203 y204 y205 y206 f207 f209 f211 f213 f215 f217 lx279) ∧ Q_FR_print (F_FR_print_J127 x2 x3 t0_0 t0_1 t0_2 t0_3 t0_4 t0_5 t0_6 t0_7 t0_8 t0_9 t0_10 t1_0 t2_0 t3_0 t4_0 t5_0 t6_0 t7_0 lx42 p100 p168 f142 p239 a269 a266 y196 y197 y198 y199 y200 y201 y202 y203 y204 y205 y206 f207 f209 f211 f213 f215 f217 lx279) := by
  have e0 : (0 : Int32).toInt = 0 := rfl
  have e1 : (1 : Int32).toInt = 1 := rfl
  have eL0 : (0 : Int64).toInt = 0 := rfl
  unfold S_FR_print_J127 F_FR_print_J127
  by_cases g1 : lx279 = (0 : Int32)
  ·
    rw [if_pos g1, if_pos g1]
    have g1i : lx279.toInt = 0 := q_eqI g1
    unfold S_FR_print_J150 F_FR_print_J150
    rw [if_pos g1, if_pos g1]
    unfold S_FR_print_J163 F_FR_print_J163
    exact vf_pr1 hA hB ⟨by omega, by omega⟩ ⟨by omega, by omega⟩ (by first | exact Or.inr rfl | exact Or.inl rfl) _ _ _ _ _ _ _ _ _ _ _ _ _ _ ⟨by omega, by omega⟩ (by omega) ⟨by omega, by omega⟩
  ·
    rw [if_neg g1, if_neg g1]
    have g1i : lx279.toInt ≠ 0 := q_neI g1
    by_cases g2 : a266 ≤ (0 : Int32)
    ·
      rw [if_pos g2, if_pos g2]
      have g2i : a266.toInt ≤ 0 := q_leI g2
      unfold S_FR_print_J150 F_FR_print_J150
      rw [if_neg g1, if_neg g1]
      unfold S_FR_print_J163 F_FR_print_J163
      exact vf_pr1 hA hB ⟨by omega, by omega⟩ ⟨by omega, by omega⟩ (by first | exact Or.inr rfl | exact Or.inl rfl) _ _ _ _ _ _ _ _ _ _ _ _ _ _ ⟨by omega, by omega⟩ (by omega) ⟨by omega, by omega⟩
    ·
      rw [if_neg g2, if_neg g2]
      have g2i : 0 < a266.toInt := q_nleI g2
      unfold S_FR_print_J150 F_FR_print_J150
      rw [if_neg g1, if_neg g1]
      unfold S_FR_print_J163 F_FR_print_J163
      exact vf_pr1 hA hB ⟨by omega, by omega⟩ ⟨by omega, by omega⟩ (by first | exact Or.inr rfl | exact Or.inl rfl) _ _ _ _ _ _ _ _ _ _ _ _ _ _ ⟨by omega, by omega⟩ (by omega) ⟨by omega, by omega⟩
theorem fl_pA {a : Int32} (h : 0 ≤ a.toInt ∧ a.toInt ≤ 1500) : (a - 1080 : Int32).toInt = a.toInt - 1080 := q_subI (y := 1080) rfl (by decide) (by omega) (by omega)
theorem fl_pB {a b : Int32} (h : 0 ≤ a.toInt ∧ a.toInt ≤ 1500) (q : Q_FR_shortestTop a b) : (a - 1080 : Int32).toInt ≤ b.toInt ∧ b.toInt ≤ (a - 1080 : Int32).toInt + 18 := by
  have e := fl_pA h
  have q1 : a.toInt - 1080 ≤ b.toInt ∧ b.toInt ≤ a.toInt - 1062 := q
  omega
theorem T_FR_print {x2 : Int64} {x3 : Int32} {t0_0 : Int32} {t0_1 : Int32} {t0_2 : Int32} {t0_3 : Int32} {t0_4 : Int64} {t0_5 : Int32} {t0_6 : Int32} {t0_7 : Int64} {t0_8 : Int32} {t0_9 : Int64} {t0_10 : Int32} {t1_0 : (Nat → Int32)} {t2_0 : (Nat → Int32)} {t3_0 : (Nat → Int32)} {t4_0 : (Nat → Int32)} {t5_0 : (Nat → Int32)} {t6_0 : (Nat → Int32)} {t7_0 : (Nat → Int32)}  : (S_FR_print x2 x3 t0_0 t0_1 t0_2 t0_3 t0_4 t0_5 t0_6 t0_7 t0_8 t0_9 t0_10 t1_0 t2_0 t3_0 t4_0 t5_0 t6_0 t7_0) ∧ Q_FR_print (F_FR_print x2 x3 t0_0 t0_1 t0_2 t0_3 t0_4 t0_5 t0_6 t0_7 t0_8 t0_9 t0_10 t1_0 t2_0 t3_0 t4_0 t5_0 t6_0 t7_0) := by
  have e0 : (0 : Int32).toInt = 0 := rfl
  have e1 : (1 : Int32).toInt = 1 := rfl
  have eL0 : (0 : Int64).toInt = 0 := rfl
  unfold S_FR_print F_FR_print
  by_cases g1 : ((F_FR_isWrong x2 x3) : Int32) = (0 : Int32)
  ·
    rw [if_pos g1, if_pos g1]
    unfold S_FR_print_J14 F_FR_print_J14
    have g2 : ((0 : Int32) ≤ (0 : Int32)) := (by decide)
    rw [if_pos g2, if_pos g2]
    have h3 := T_FR_open (x2 := x2) (x3 := x3) (t0_0 := (0 : Int32)) (t0_1 := t0_1) (t0_2 := t0_2) (t0_3 := t0_3) (t0_4 := t0_4) (t0_5 := t0_5) (t0_6 := t0_6) (t0_7 := t0_7) (t0_8 := t0_8) (t0_9 := t0_9) (t0_10 := t0_10) 
    generalize F_FR_open x2 x3 (0 : Int32) t0_1 t0_2 t0_3 t0_4 t0_5 t0_6 t0_7 t0_8 t0_9 t0_10 = p100 at *
    unfold Q_FR_open at h3
    obtain ⟨h3a, h3b, h37, h38, h3f, h35⟩ := h3
    have op7 := h37
    have op8 := h38
    have opf := h3f
    unfold S_FR_print_c29 F_FR_print_c29
    by_cases g4 : ((F_FR_isFinite (p100.1 : Int32) (p100.2.1 : Int32) (p100.2.2.1 : Int32) (p100.2.2.2.1 : Int32) (p100.2.2.2.2.1 : Int64) (p100.2.2.2.2.2.1 : Int32) (p100.2.2.2.2.2.2.1 : Int32) (p100.2.2.2.2.2.2.2.1 : Int64) (p100.2.2.2.2.2.2.2.2.1 : Int32) (p100.2.2.2.2.2.2.2.2.2.1 : Int64) (p100.2.2.2.2.2.2.2.2.2.2 : Int32)) : Int32) = (0 : Int32)
    ·
      rw [if_pos g4, if_pos g4]
      have h5 := T_FR_name (t0_0 := (p100.1 : Int32)) (t0_1 := (p100.2.1 : Int32)) (t0_2 := (p100.2.2.1 : Int32)) (t0_3 := (p100.2.2.2.1 : Int32)) (t0_4 := (p100.2.2.2.2.1 : Int64)) (t0_5 := (p100.2.2.2.2.2.1 : Int32)) (t0_6 := (p100.2.2.2.2.2.2.1 : Int32)) (t0_7 := (p100.2.2.2.2.2.2.2.1 : Int64)) (t0_8 := (p100.2.2.2.2.2.2.2.2.1 : Int32)) (t0_9 := (p100.2.2.2.2.2.2.2.2.2.1 : Int64)) (t0_10 := (p100.2.2.2.2.2.2.2.2.2.2 : Int32)) (t1_0 := t7_0) 
      with_reducible refine v_owe h5.1 ?_
      replace h5 := h5.2
      generalize F_FR_name (p100.1 : Int32) (p100.2.1 : Int32) (p100.2.2.1 : Int32) (p100.2.2.2.1 : Int32) (p100.2.2.2.2.1 : Int64) (p100.2.2.2.2.2.1 : Int32) (p100.2.2.2.2.2.2.1 : Int32) (p100.2.2.2.2.2.2.2.1 : Int64) (p100.2.2.2.2.2.2.2.2.1 : Int32) (p100.2.2.2.2.2.2.2.2.2.1 : Int64) (p100.2.2.2.2.2.2.2.2.2.2 : Int32) t7_0 = p1244 at *
      unfold Q_FR_name at h5
      unfold S_FR_print_c40 F_FR_print_c40
      refine ⟨trivial, ?_⟩
      (unfold Q_FR_print; dsimp only; first | exact ⟨by omega, by omega⟩ | exact ⟨by decide, by decide⟩)
    ·
      rw [if_neg g4, if_neg g4]
      have fin := fl_fin g4
      have h6 := T_FR_begin (t0_0 := (p100.1 : Int32)) (t0_1 := (p100.2.1 : Int32)) (t0_2 := (p100.2.2.1 : Int32)) (t0_3 := (p100.2.2.2.1 : Int32)) (t0_4 := (p100.2.2.2.2.1 : Int64)) (t0_5 := (p100.2.2.2.2.2.1 : Int32)) (t0_6 := (p100.2.2.2.2.2.2.1 : Int32)) (t0_7 := (p100.2.2.2.2.2.2.2.1 : Int64)) (t0_8 := (p100.2.2.2.2.2.2.2.2.1 : Int32)) (t0_9 := (p100.2.2.2.2.2.2.2.2.2.1 : Int64)) (t0_10 := (p100.2.2.2.2.2.2.2.2.2.2 : Int32)) (t1_0 := t7_0) 
      with_reducible refine v_owe h6.1 ?_
      replace h6 := h6.2
      generalize F_FR_begin (p100.1 : Int32) (p100.2.1 : Int32) (p100.2.2.1 : Int32) (p100.2.2.2.1 : Int32) (p100.2.2.2.2.1 : Int64) (p100.2.2.2.2.2.1 : Int32) (p100.2.2.2.2.2.2.1 : Int32) (p100.2.2.2.2.2.2.2.1 : Int64) (p100.2.2.2.2.2.2.2.2.1 : Int32) (p100.2.2.2.2.2.2.2.2.2.1 : Int64) (p100.2.2.2.2.2.2.2.2.2.2 : Int32) t7_0 = p168 at *
      unfold Q_FR_begin at h6
      obtain ⟨h61, h63, h65, h66, h67, h68, h69, h6x⟩ := h6
      have h69i := congrArg Int64.toInt h69
      have h67i := congrArg Int64.toInt h67
      unfold S_FR_print_c49 F_FR_print_c49
      by_cases g7 : (lg_cmp (p168.2.2.2.2.2.2.2.1 : Int64) 0 : Int32) = (0 : Int32)
      ·
        rw [if_pos g7, if_pos g7]
        have g7z := fl_lz g7
        have h8 := T_FR_add (x2 := (48 : Int32)) (t0_0 := (p168.1 : Int32)) (t0_1 := (p168.2.1 : Int32)) (t0_2 := (p168.2.2.1 : Int32)) (t0_3 := (p168.2.2.2.1 : Int32)) (t0_4 := (p168.2.2.2.2.1 : Int64)) (t0_5 := (p168.2.2.2.2.2.1 : Int32)) (t0_6 := (p168.2.2.2.2.2.2.1 : Int32)) (t0_7 := (p168.2.2.2.2.2.2.2.1 : Int64)) (t0_8 := (p168.2.2.2.2.2.2.2.2.1 : Int32)) (t0_9 := (p168.2.2.2.2.2.2.2.2.2.1 : Int64)) (t0_10 := (p168.2.2.2.2.2.2.2.2.2.2.1 : Int32)) (t1_0 := (p168.2.2.2.2.2.2.2.2.2.2.2 : (Nat → Int32))) ⟨by first | omega | decide, by first | omega | decide⟩
        with_reducible refine v_owe h8.1 ?_
        replace h8 := h8.2
        generalize F_FR_add (48 : Int32) (p168.1 : Int32) (p168.2.1 : Int32) (p168.2.2.1 : Int32) (p168.2.2.2.1 : Int32) (p168.2.2.2.2.1 : Int64) (p168.2.2.2.2.2.1 : Int32) (p168.2.2.2.2.2.2.1 : Int32) (p168.2.2.2.2.2.2.2.1 : Int64) (p168.2.2.2.2.2.2.2.2.1 : Int32) (p168.2.2.2.2.2.2.2.2.2.1 : Int64) (p168.2.2.2.2.2.2.2.2.2.2.1 : Int32) (p168.2.2.2.2.2.2.2.2.2.2.2 : (Nat → Int32)) = p1059 at *
        unfold Q_FR_add at h8
        obtain ⟨h81, h83, h85, h86, h87, h88, h89, h8x⟩ := h8
        have h89i := congrArg Int64.toInt h89
        have h87i := congrArg Int64.toInt h87
        unfold S_FR_print_c64 F_FR_print_c64
        have h9 := T_FR_add (x2 := (46 : Int32)) (t0_0 := (p1059.1 : Int32)) (t0_1 := (p1059.2.1 : Int32)) (t0_2 := (p1059.2.2.1 : Int32)) (t0_3 := (p1059.2.2.2.1 : Int32)) (t0_4 := (p1059.2.2.2.2.1 : Int64)) (t0_5 := (p1059.2.2.2.2.2.1 : Int32)) (t0_6 := (p1059.2.2.2.2.2.2.1 : Int32)) (t0_7 := (p1059.2.2.2.2.2.2.2.1 : Int64)) (t0_8 := (p1059.2.2.2.2.2.2.2.2.1 : Int32)) (t0_9 := (p1059.2.2.2.2.2.2.2.2.2.1 : Int64)) (t0_10 := (p1059.2.2.2.2.2.2.2.2.2.2.1 : Int32)) (t1_0 := (p1059.2.2.2.2.2.2.2.2.2.2.2 : (Nat → Int32))) ⟨by first | omega | decide, by first | omega | decide⟩
        with_reducible refine v_owe h9.1 ?_
        replace h9 := h9.2
        generalize F_FR_add (46 : Int32) (p1059.1 : Int32) (p1059.2.1 : Int32) (p1059.2.2.1 : Int32) (p1059.2.2.2.1 : Int32) (p1059.2.2.2.2.1 : Int64) (p1059.2.2.2.2.2.1 : Int32) (p1059.2.2.2.2.2.2.1 : Int32) (p1059.2.2.2.2.2.2.2.1 : Int64) (p1059.2.2.2.2.2.2.2.2.1 : Int32) (p1059.2.2.2.2.2.2.2.2.2.1 : Int64) (p1059.2.2.2.2.2.2.2.2.2.2.1 : Int32) (p1059.2.2.2.2.2.2.2.2.2.2.2 : (Nat → Int32)) = p1121 at *
        unfold Q_FR_add at h9
        obtain ⟨h91, h93, h95, h96, h97, h98, h99, h9x⟩ := h9
        have h99i := congrArg Int64.toInt h99
        have h97i := congrArg Int64.toInt h97
        unfold S_FR_print_c70 F_FR_print_c70
        have h10 := T_FR_add (x2 := (48 : Int32)) (t0_0 := (p1121.1 : Int32)) (t0_1 := (p1121.2.1 : Int32)) (t0_2 := (p1121.2.2.1 : Int32)) (t0_3 := (p1121.2.2.2.1 : Int32)) (t0_4 := (p1121.2.2.2.2.1 : Int64)) (t0_5 := (p1121.2.2.2.2.2.1 : Int32)) (t0_6 := (p1121.2.2.2.2.2.2.1 : Int32)) (t0_7 := (p1121.2.2.2.2.2.2.2.1 : Int64)) (t0_8 := (p1121.2.2.2.2.2.2.2.2.1 : Int32)) (t0_9 := (p1121.2.2.2.2.2.2.2.2.2.1 : Int64)) (t0_10 := (p1121.2.2.2.2.2.2.2.2.2.2.1 : Int32)) (t1_0 := (p1121.2.2.2.2.2.2.2.2.2.2.2 : (Nat → Int32))) ⟨by first | omega | decide, by first | omega | decide⟩
        with_reducible refine v_owe h10.1 ?_
        replace h10 := h10.2
        generalize F_FR_add (48 : Int32) (p1121.1 : Int32) (p1121.2.1 : Int32) (p1121.2.2.1 : Int32) (p1121.2.2.2.1 : Int32) (p1121.2.2.2.2.1 : Int64) (p1121.2.2.2.2.2.1 : Int32) (p1121.2.2.2.2.2.2.1 : Int32) (p1121.2.2.2.2.2.2.2.1 : Int64) (p1121.2.2.2.2.2.2.2.2.1 : Int32) (p1121.2.2.2.2.2.2.2.2.2.1 : Int64) (p1121.2.2.2.2.2.2.2.2.2.2.1 : Int32) (p1121.2.2.2.2.2.2.2.2.2.2.2 : (Nat → Int32)) = p1183 at *
        unfold Q_FR_add at h10
        obtain ⟨h101, h103, h105, h106, h107, h108, h109, h10x⟩ := h10
        have h109i := congrArg Int64.toInt h109
        have h107i := congrArg Int64.toInt h107
        unfold S_FR_print_c76 F_FR_print_c76
        refine ⟨trivial, ?_⟩
        (unfold Q_FR_print; dsimp only; first | exact ⟨by omega, by omega⟩ | exact ⟨by decide, by decide⟩)
      ·
        rw [if_neg g7, if_neg g7]
        have g7z := fl_lnz g7
        have h11 := T_FR_findShortest (t0_0 := (p168.1 : Int32)) (t0_1 := (p168.2.1 : Int32)) (t0_2 := (p168.2.2.1 : Int32)) (t0_3 := (p168.2.2.2.1 : Int32)) (t0_4 := (p168.2.2.2.2.1 : Int64)) (t0_5 := (p168.2.2.2.2.2.1 : Int32)) (t0_6 := (p168.2.2.2.2.2.2.1 : Int32)) (t0_7 := (p168.2.2.2.2.2.2.2.1 : Int64)) (t0_8 := (p168.2.2.2.2.2.2.2.2.1 : Int32)) (t0_9 := (p168.2.2.2.2.2.2.2.2.2.1 : Int64)) (t0_10 := (p168.2.2.2.2.2.2.2.2.2.2.1 : Int32)) (t1_0 := t1_0) (t2_0 := t2_0) (t3_0 := t3_0) (t4_0 := t4_0) (t5_0 := t5_0) (t6_0 := t6_0) ⟨by omega, by omega⟩ ⟨by omega, by omega⟩
        with_reducible refine v_owe h11.1 ?_
        replace h11 := h11.2
        generalize F_FR_findShortest (p168.1 : Int32) (p168.2.1 : Int32) (p168.2.2.1 : Int32) (p168.2.2.2.1 : Int32) (p168.2.2.2.2.1 : Int64) (p168.2.2.2.2.2.1 : Int32) (p168.2.2.2.2.2.2.1 : Int32) (p168.2.2.2.2.2.2.2.1 : Int64) (p168.2.2.2.2.2.2.2.2.1 : Int32) (p168.2.2.2.2.2.2.2.2.2.1 : Int64) (p168.2.2.2.2.2.2.2.2.2.2.1 : Int32) t1_0 t2_0 t3_0 t4_0 t5_0 t6_0 = p239 at *
        unfold Q_FR_findShortest at h11
        obtain ⟨h11a, h11b, h11c, h11d, h11e, h11f, h11g, h11h, h11i, h119, h1110, h11w, h11n⟩ := h11
        have h11bi := congrArg Int32.toInt h11b
        have hw := h11w
        have hn := h11n
        have s9 := h119
        have s10 := h1110
        unfold S_FR_print_c85 F_FR_print_c85
        have h12 := T_FR_shortestTop (t0_0 := (p239.1 : Int32)) (t0_1 := (p239.2.1 : Int32)) (t0_2 := (p239.2.2.1 : Int32)) (t0_3 := (p239.2.2.2.1 : Int32)) (t0_4 := (p239.2.2.2.2.1 : Int64)) (t0_5 := (p239.2.2.2.2.2.1 : Int32)) (t0_6 := (p239.2.2.2.2.2.2.1 : Int32)) (t0_7 := (p239.2.2.2.2.2.2.2.1 : Int64)) (t0_8 := (p239.2.2.2.2.2.2.2.2.1 : Int32)) (t0_9 := (p239.2.2.2.2.2.2.2.2.2.1 : Int64)) (t0_10 := (p239.2.2.2.2.2.2.2.2.2.2.1 : Int32)) ⟨by omega, by omega⟩ ⟨by omega, by omega⟩
        have h12q := h12.2
        with_reducible refine v_owe h12.1 ?_
        have h13 := T_FR_isBelow (x2 := (7 : Int32)) (t0_0 := (p239.1 : Int32)) (t0_1 := (p239.2.1 : Int32)) (t0_2 := (p239.2.2.1 : Int32)) (t0_3 := (p239.2.2.2.1 : Int32)) (t0_4 := (p239.2.2.2.2.1 : Int64)) (t0_5 := (p239.2.2.2.2.2.1 : Int32)) (t0_6 := (p239.2.2.2.2.2.2.1 : Int32)) (t0_7 := (p239.2.2.2.2.2.2.2.1 : Int64)) (t0_8 := (p239.2.2.2.2.2.2.2.2.1 : Int32)) (t0_9 := (p239.2.2.2.2.2.2.2.2.2.1 : Int64)) (t0_10 := (p239.2.2.2.2.2.2.2.2.2.2.1 : Int32)) (t1_0 := (p239.2.2.2.2.2.2.2.2.2.2.2.2.2.1 : (Nat → Int32))) (by with_reducible assumption) (by with_reducible assumption)
        with_reducible refine v_owe h13 ?_
        by_cases g14 : ((F_FR_isBelow (7 : Int32) (p239.1 : Int32) (p239.2.1 : Int32) (p239.2.2.1 : Int32) (p239.2.2.2.1 : Int32) (p239.2.2.2.2.1 : Int64) (p239.2.2.2.2.2.1 : Int32) (p239.2.2.2.2.2.2.1 : Int32) (p239.2.2.2.2.2.2.2.1 : Int64) (p239.2.2.2.2.2.2.2.2.1 : Int32) (p239.2.2.2.2.2.2.2.2.2.1 : Int64) (p239.2.2.2.2.2.2.2.2.2.2.1 : Int32) (p239.2.2.2.2.2.2.2.2.2.2.2.2.2.1 : (Nat → Int32))) : Int32) = (0 : Int32)
        ·
          rw [if_pos g14, if_pos g14]
          unfold S_FR_print_J126 F_FR_print_J126
          exact T_FR_prJ (fl_pw8 s10) (fl_pB s10 (T_FR_shortestTop s9 s10).2) ⟨by omega, by omega⟩
        ·
          rw [if_neg g14, if_neg g14]
          have h15 := T_FR_isBelow (x2 := (-3 : Int32)) (t0_0 := (p239.1 : Int32)) (t0_1 := (p239.2.1 : Int32)) (t0_2 := (p239.2.2.1 : Int32)) (t0_3 := (p239.2.2.2.1 : Int32)) (t0_4 := (p239.2.2.2.2.1 : Int64)) (t0_5 := (p239.2.2.2.2.2.1 : Int32)) (t0_6 := (p239.2.2.2.2.2.2.1 : Int32)) (t0_7 := (p239.2.2.2.2.2.2.2.1 : Int64)) (t0_8 := (p239.2.2.2.2.2.2.2.2.1 : Int32)) (t0_9 := (p239.2.2.2.2.2.2.2.2.2.1 : Int64)) (t0_10 := (p239.2.2.2.2.2.2.2.2.2.2.1 : Int32)) (t1_0 := (p239.2.2.2.2.2.2.2.2.2.2.2.2.2.1 : (Nat → Int32))) (by with_reducible assumption) (by with_reducible assumption)
          with_reducible refine v_owe h15 ?_
          by_cases g16 : ((F_FR_isBelow (-3 : Int32) (p239.1 : Int32) (p239.2.1 : Int32) (p239.2.2.1 : Int32) (p239.2.2.2.1 : Int32) (p239.2.2.2.2.1 : Int64) (p239.2.2.2.2.2.1 : Int32) (p239.2.2.2.2.2.2.1 : Int32) (p239.2.2.2.2.2.2.2.1 : Int64) (p239.2.2.2.2.2.2.2.2.1 : Int32) (p239.2.2.2.2.2.2.2.2.2.1 : Int64) (p239.2.2.2.2.2.2.2.2.2.2.1 : Int32) (p239.2.2.2.2.2.2.2.2.2.2.2.2.2.1 : (Nat → Int32))) : Int32) = (0 : Int32)
          ·
            rw [if_pos g16, if_pos g16]
            exact T_FR_prJ (fl_pw8 s10) (fl_pB s10 (T_FR_shortestTop s9 s10).2) ⟨by omega, by omega⟩
          ·
            rw [if_neg g16, if_neg g16]
            unfold S_FR_print_J126 F_FR_print_J126
            exact T_FR_prJ (fl_pw8 s10) (fl_pB s10 (T_FR_shortestTop s9 s10).2) ⟨by omega, by omega⟩
  ·
    rw [if_neg g1, if_neg g1]
    unfold S_FR_print_J14 F_FR_print_J14
    have g17 : ¬ ((1 : Int32) ≤ (0 : Int32)) := (by decide)
    rw [if_neg g17, if_neg g17]
    refine ⟨trivial, ?_⟩
    (unfold Q_FR_print; dsimp only; first | exact ⟨by omega, by omega⟩ | exact ⟨by decide, by decide⟩)

/-! FloatRows: hexadecimal, narrowed, widened -/
theorem fl_hx {f : Int64} {l : Int32} (g : ¬ lg_cmp (f &&& (((1 : Int64) <<< (l.toInt64 &&& 63)) - 1)) 0 = 0) : l.toInt ≠ 0 := fun h => g (by
  have e : l = 0 := Int32.toInt_inj.mp (by rw [h]; rfl)
  rw [e, show ((1 : Int64) <<< ((0 : Int32).toInt64 &&& 63)) - 1 = 0 by decide, Int64.and_zero]
  rfl)
theorem fl_shr1 {x : Int64} (h : 0 ≤ x.toInt) : (x >>> ((1 : Int32).toInt64 &&& 63)).toInt = x.toInt / 2 := by
  have hc : ((1 : Int32).toInt64 &&& 63).toBitVec.smod 64 = BitVec.ofNat 64 1 := by decide
  show (x >>> ((1 : Int32).toInt64 &&& 63)).toBitVec.toInt = _
  rw [Int64.toBitVec_shiftRight, hc, BitVec.sshiftRight_eq', BitVec.toInt_sshiftRight, Int.shiftRight_eq_div_pow]
  rfl
theorem fl_shl1 {x : Int64} (h : 0 ≤ x.toInt) (h2 : x.toInt < 4611686018427387904) : (x <<< ((1 : Int32).toInt64 &&& 63)).toInt = x.toInt * 2 := by
  obtain ⟨h1, h3, -⟩ := s_nnL h
  have hc : ((1 : Int32).toInt64 &&& 63).toBitVec.smod 64 = BitVec.ofNat 64 1 := by decide
  have e : (x <<< ((1 : Int32).toInt64 &&& 63)).toBitVec.toNat = x.toBitVec.toNat * 2 := by
    rw [Int64.toBitVec_shiftLeft, hc, BitVec.shiftLeft_eq', BitVec.toNat_shiftLeft, Nat.shiftLeft_eq]
    show x.toBitVec.toNat * 2 % 18446744073709551616 = _
    omega
  have h5 := s_ofL e (by omega)
  rw [h5, h1]
  omega
theorem fl_hv {m : Int64} {j : Nat} (h0 : 0 ≤ m.toInt) (h : m.toInt < 2 ^ j) : 0 ≤ (m >>> ((1 : Int32).toInt64 &&& 63)).toInt ∧ (m >>> ((1 : Int32).toInt64 &&& 63)).toInt < 2 ^ (j - 1) := by
  rw [fl_shr1 h0]
  refine ⟨by omega, ?_⟩
  by_cases c : j = 0
  · subst c
    rw [Int.pow_zero] at h
    show m.toInt / 2 < 2 ^ 0
    rw [Int.pow_zero]; omega
  · have p : (2 : Int) ^ j = 2 ^ (j - 1) * 2 := by rw [← fl_pw, show j - 1 + 1 = j by omega]
    rw [p] at h
    generalize (2 : Int) ^ (j - 1) = P at *
    omega
theorem fl_j24 {m : Int64} {j : Nat} (h : m.toInt < 2 ^ j) (g : 16777216 ≤ m.toInt) : 25 ≤ j := by
  by_cases c : 25 ≤ j
  · exact c
  · have a := fl_mono (B := 2) (by decide) (show j ≤ 24 by omega)
    have e : (2 : Int) ^ 24 = 16777216 := by decide
    rw [e] at a
    omega
def Q_FR_hexadecimal (p : Int32 × Int32 × Int32 × Int32 × Int32 × Int64 × Int32 × Int32 × Int64 × Int32 × Int64 × Int32 × (Nat → Int32)) : Prop := 0 ≤ p.1.toInt ∧ p.1.toInt ≤ 1600
theorem vf_hx {x2 : Int64} {x3 : Int32} {t0_0 : Int32} {t0_1 : Int32} {t0_2 : Int32} {t0_3 : Int32} {t0_4 : Int64} {t0_5 : Int32} {t0_6 : Int32} {t0_7 : Int64} {t0_8 : Int32} {t0_9 : Int64} {t0_10 : Int32} {t1_0 : (Nat → Int32)} {lx24 : Int32} {p76 : (Int32 × Int32 × Int32 × Int32 × Int64 × Int32 × Int32 × Int64 × Int32 × Int64 × Int32)} {p144 : (Int32 × Int32 × Int32 × Int32 × Int64 × Int32 × Int32 × Int64 × Int32 × Int64 × Int32 × (Nat → Int32))} {p206 : (Int32 × Int32 × Int32 × Int32 × Int64 × Int32 × Int32 × Int64 × Int32 × Int64 × Int32 × (Nat → Int32))} {p268 : (Int32 × Int32 × Int32 × Int32 × Int64 × Int32 × Int32 × Int64 × Int32 × Int64 × Int32 × (Nat → Int32))} {y229 : Int32} {y230 : Int32} {y231 : Int32} {y232 : Int32} {y233 : Int64} {y234 : Int32} {y235 : Int32} {y236 : Int64} {y237 : Int32} {y238 : Int64} {y239 : Int32} {f240 : (Nat → Int32)} {lx287 : Int32} {p341 : (Int32 × Int32 × Int32 × Int32 × Int64 × Int32 × Int32 × Int64 × Int32 × Int64 × Int32 × (Nat → Int32))} {p403 : (Int32 × Int32 × Int32 × Int32 × Int64 × Int32 × Int32 × Int64 × Int32 × Int64 × Int32 × (Nat → Int32))} {y364 : Int32} {y365 : Int32} {y366 : Int32} {y367 : Int32} {y368 : Int64} {y369 : Int32} {y370 : Int32} {y371 : Int64} {y372 : Int32} {y373 : Int64} {y374 : Int32} {f375 : (Nat → Int32)} {lx422 : Int64} {lx431 : Int32} {p490 : (Int32 × Int32 × Int32 × Int32 × Int64 × Int32 × Int32 × Int64 × Int32 × Int64 × Int32 × (Nat → Int32))}  : ∀ (n : Nat) (lx510 : Int32) (lx511 : Int32) (lx512 : Int32) (lx513 : Int32) (lx514 : Int32) (lx515 : Int64) (lx516 : Int32) (lx517 : Int32) (lx518 : Int64) (lx519 : Int32) (lx520 : Int64) (lx521 : Int32) (lx522 : (Nat → Int32)), ((0 ≤ lx510.toInt ∧ lx510.toInt ≤ 48) ∧ lx510.toInt % 4 = 0) → (1600 - lx512.toInt < (n : Int)) → (0 ≤ lx512.toInt ∧ 4 * lx512.toInt + lx510.toInt ≤ 80) → ((-1074 ≤ lx519.toInt ∧ lx519.toInt ≤ 972) ∧ (0 ≤ lx516.toInt ∧ lx516.toInt ≤ 52)) → (S_FR_hexadecimal_L135 x2 x3 t0_0 t0_1 t0_2 t0_3 t0_4 t0_5 t0_6 t0_7 t0_8 t0_9 t0_10 t1_0 lx24 p76 p144 p206 p268 y229 y230 y231 y232 y233 y234 y235 y236 y237 y238 y239 f240 lx287 p341 p403 y364 y365 y366 y367 y368 y369 y370 y371 y372 y373 y374 f375 lx422 lx431 p490 n lx510 lx511 lx512 lx513 lx514 lx515 lx516 lx517 lx518 lx519 lx520 lx521 lx522) ∧ Q_FR_hexadecimal (F_FR_hexadecimal_L135 x2 x3 t0_0 t0_1 t0_2 t0_3 t0_4 t0_5 t0_6 t0_7 t0_8 t0_9 t0_10 t1_0 lx24 p76 p144 p206 p268 y229 y230 y231 y232 y233 y234 y235 y236 y237 y238 y239 f240 lx287 p341 p403 y364 y365 y366 y367 y368 y369 y370 y371 y372 y373 y374 f375 lx422 lx431 p490 n lx510 lx511 lx512 lx513 lx514 lx515 lx516 lx517 lx518 lx519 lx520 lx521 lx522) := by
  intro n
  induction n with
  | zero => intro lx510 lx511 lx512 lx513 lx514 lx515 lx516 lx517 lx518 lx519 lx520 lx521 lx522 h0 hm h1 h2; exact absurd (show False by omega) id
  | succ n ih =>
    intro lx510 lx511 lx512 lx513 lx514 lx515 lx516 lx517 lx518 lx519 lx520 lx521 lx522 h0 hm h1 h2
    have e0 : (0 : Int32).toInt = 0 := rfl
    have e1 : (1 : Int32).toInt = 1 := rfl
    have eL0 : (0 : Int64).toInt = 0 := rfl
    rw [S_FR_hexadecimal_L135.eq_2, F_FR_hexadecimal_L135.eq_2]
    obtain ⟨l4, el4⟩ := q_nm (lx510 - 4 : Int32)
    rw [el4]
    have l4i : l4.toInt = lx510.toInt - 4 := by rw [← el4]; exact q_subI (y := 4) rfl (by decide) (by omega) (by omega)
    by_cases g1 : (lg_cmp (lx422 &&& (((1 : Int64) <<< (lx510.toInt64 &&& 63) : Int64) - 1 : Int64) : Int64) 0 : Int32) = (0 : Int32)
    ·
      rw [if_pos g1, if_pos g1]
      have h2 := T_FR_add (x2 := (112 : Int32)) (t0_0 := lx511) (t0_1 := lx512) (t0_2 := lx513) (t0_3 := lx514) (t0_4 := lx515) (t0_5 := lx516) (t0_6 := lx517) (t0_7 := lx518) (t0_8 := lx519) (t0_9 := lx520) (t0_10 := lx521) (t1_0 := lx522) ⟨by first | omega | decide, by first | omega | decide⟩
      with_reducible refine v_owe h2.1 ?_
      replace h2 := h2.2
      generalize F_FR_add (112 : Int32) lx511 lx512 lx513 lx514 lx515 lx516 lx517 lx518 lx519 lx520 lx521 lx522 = p608 at *
      unfold Q_FR_add at h2
      obtain ⟨h21, h23, h25, h26, h27, h28, h29, h2x⟩ := h2
      have h29i := congrArg Int64.toInt h29
      have h27i := congrArg Int64.toInt h27
      unfold S_FR_hexadecimal_c174 F_FR_hexadecimal_c174
      by_cases g3 : (lg_cmp (p608.2.2.2.2.2.2.2.1 : Int64) 0 : Int32) = (0 : Int32)
      ·
        rw [if_pos g3, if_pos g3]
        have g3z := fl_lz g3
        unfold S_FR_hexadecimal_J199 F_FR_hexadecimal_J199
        have g4 : ((0 : Int32) ≤ (0 : Int32)) := (by decide)
        rw [if_pos g4, if_pos g4]
        unfold S_FR_hexadecimal_J212 F_FR_hexadecimal_J212
        have g5 : ((0 : Int32) ≤ (0 : Int32)) := (by decide)
        rw [if_pos g5, if_pos g5]
        have h6 := T_FR_number (x2 := (0 : Int32)) (t0_0 := (p608.1 : Int32)) (t0_1 := (p608.2.1 : Int32)) (t0_2 := (p608.2.2.1 : Int32)) (t0_3 := (p608.2.2.2.1 : Int32)) (t0_4 := (p608.2.2.2.2.1 : Int64)) (t0_5 := (p608.2.2.2.2.2.1 : Int32)) (t0_6 := (p608.2.2.2.2.2.2.1 : Int32)) (t0_7 := (p608.2.2.2.2.2.2.2.1 : Int64)) (t0_8 := (p608.2.2.2.2.2.2.2.2.1 : Int32)) (t0_9 := (p608.2.2.2.2.2.2.2.2.2.1 : Int64)) (t0_10 := (p608.2.2.2.2.2.2.2.2.2.2.1 : Int32)) (t1_0 := (p608.2.2.2.2.2.2.2.2.2.2.2 : (Nat → Int32))) ⟨by omega, by omega⟩ ⟨by omega, by omega⟩
        with_reducible refine v_owe h6.1 ?_
        replace h6 := h6.2
        generalize F_FR_number (0 : Int32) (p608.1 : Int32) (p608.2.1 : Int32) (p608.2.2.1 : Int32) (p608.2.2.2.1 : Int32) (p608.2.2.2.2.1 : Int64) (p608.2.2.2.2.2.1 : Int32) (p608.2.2.2.2.2.2.1 : Int32) (p608.2.2.2.2.2.2.2.1 : Int64) (p608.2.2.2.2.2.2.2.2.1 : Int32) (p608.2.2.2.2.2.2.2.2.2.1 : Int64) (p608.2.2.2.2.2.2.2.2.2.2.1 : Int32) (p608.2.2.2.2.2.2.2.2.2.2.2 : (Nat → Int32)) = p725 at *
        unfold Q_FR_number at h6
        unfold S_FR_hexadecimal_c226 F_FR_hexadecimal_c226
        refine ⟨trivial, ?_⟩
        (unfold Q_FR_hexadecimal; dsimp only; first | exact ⟨by omega, by omega⟩ | exact ⟨by decide, by decide⟩)
      ·
        rw [if_neg g3, if_neg g3]
        have g3z := fl_lnz g3
        obtain ⟨lx630, e7⟩ := q_nm (((p608.2.2.2.2.2.2.2.2.1 : Int32) + (p608.2.2.2.2.2.1 : Int32) : Int32) : Int32)
        rw [e7]
        have lx630i : lx630.toInt = p608.2.2.2.2.2.2.2.2.1.toInt + p608.2.2.2.2.2.1.toInt := by rw [← e7]; exact q_addI rfl rfl (by omega) (by omega)
        have lx630n : (-lx630 : Int32).toInt = -lx630.toInt := v_negI (by omega) (by omega)
        unfold S_FR_hexadecimal_J199 F_FR_hexadecimal_J199
        by_cases g8 : (0 : Int32) ≤ lx630
        ·
          rw [if_pos g8, if_pos g8]
          have g8i : 0 ≤ lx630.toInt := q_leI g8
          unfold S_FR_hexadecimal_J212 F_FR_hexadecimal_J212
          rw [if_pos g8, if_pos g8]
          have h9 := T_FR_number (x2 := lx630) (t0_0 := (p608.1 : Int32)) (t0_1 := (p608.2.1 : Int32)) (t0_2 := (p608.2.2.1 : Int32)) (t0_3 := (p608.2.2.2.1 : Int32)) (t0_4 := (p608.2.2.2.2.1 : Int64)) (t0_5 := (p608.2.2.2.2.2.1 : Int32)) (t0_6 := (p608.2.2.2.2.2.2.1 : Int32)) (t0_7 := (p608.2.2.2.2.2.2.2.1 : Int64)) (t0_8 := (p608.2.2.2.2.2.2.2.2.1 : Int32)) (t0_9 := (p608.2.2.2.2.2.2.2.2.2.1 : Int64)) (t0_10 := (p608.2.2.2.2.2.2.2.2.2.2.1 : Int32)) (t1_0 := (p608.2.2.2.2.2.2.2.2.2.2.2 : (Nat → Int32))) ⟨by omega, by omega⟩ ⟨by omega, by omega⟩
          with_reducible refine v_owe h9.1 ?_
          replace h9 := h9.2
          generalize F_FR_number lx630 (p608.1 : Int32) (p608.2.1 : Int32) (p608.2.2.1 : Int32) (p608.2.2.2.1 : Int32) (p608.2.2.2.2.1 : Int64) (p608.2.2.2.2.2.1 : Int32) (p608.2.2.2.2.2.2.1 : Int32) (p608.2.2.2.2.2.2.2.1 : Int64) (p608.2.2.2.2.2.2.2.2.1 : Int32) (p608.2.2.2.2.2.2.2.2.2.1 : Int64) (p608.2.2.2.2.2.2.2.2.2.2.1 : Int32) (p608.2.2.2.2.2.2.2.2.2.2.2 : (Nat → Int32)) = p725 at *
          unfold Q_FR_number at h9
          unfold S_FR_hexadecimal_c226 F_FR_hexadecimal_c226
          refine ⟨trivial, ?_⟩
          (unfold Q_FR_hexadecimal; dsimp only; first | exact ⟨by omega, by omega⟩ | exact ⟨by decide, by decide⟩)
        ·
          rw [if_neg g8, if_neg g8]
          have g8i : lx630.toInt < 0 := q_nleI g8
          have h10 := T_FR_add (x2 := (45 : Int32)) (t0_0 := (p608.1 : Int32)) (t0_1 := (p608.2.1 : Int32)) (t0_2 := (p608.2.2.1 : Int32)) (t0_3 := (p608.2.2.2.1 : Int32)) (t0_4 := (p608.2.2.2.2.1 : Int64)) (t0_5 := (p608.2.2.2.2.2.1 : Int32)) (t0_6 := (p608.2.2.2.2.2.2.1 : Int32)) (t0_7 := (p608.2.2.2.2.2.2.2.1 : Int64)) (t0_8 := (p608.2.2.2.2.2.2.2.2.1 : Int32)) (t0_9 := (p608.2.2.2.2.2.2.2.2.2.1 : Int64)) (t0_10 := (p608.2.2.2.2.2.2.2.2.2.2.1 : Int32)) (t1_0 := (p608.2.2.2.2.2.2.2.2.2.2.2 : (Nat → Int32))) ⟨by first | omega | decide, by first | omega | decide⟩
          with_reducible refine v_owe h10.1 ?_
          replace h10 := h10.2
          generalize F_FR_add (45 : Int32) (p608.1 : Int32) (p608.2.1 : Int32) (p608.2.2.1 : Int32) (p608.2.2.2.1 : Int32) (p608.2.2.2.2.1 : Int64) (p608.2.2.2.2.2.1 : Int32) (p608.2.2.2.2.2.2.1 : Int32) (p608.2.2.2.2.2.2.2.1 : Int64) (p608.2.2.2.2.2.2.2.2.1 : Int32) (p608.2.2.2.2.2.2.2.2.2.1 : Int64) (p608.2.2.2.2.2.2.2.2.2.2.1 : Int32) (p608.2.2.2.2.2.2.2.2.2.2.2 : (Nat → Int32)) = p852 at *
          unfold Q_FR_add at h10
          obtain ⟨h101, h103, h105, h106, h107, h108, h109, h10x⟩ := h10
          have h109i := congrArg Int64.toInt h109
          have h107i := congrArg Int64.toInt h107
          unfold S_FR_hexadecimal_c209 F_FR_hexadecimal_c209
          unfold S_FR_hexadecimal_J212 F_FR_hexadecimal_J212
          rw [if_neg g8, if_neg g8]
          have h11 := T_FR_number (x2 := (-lx630 : Int32)) (t0_0 := (p852.1 : Int32)) (t0_1 := (p852.2.1 : Int32)) (t0_2 := (p852.2.2.1 : Int32)) (t0_3 := (p852.2.2.2.1 : Int32)) (t0_4 := (p852.2.2.2.2.1 : Int64)) (t0_5 := (p852.2.2.2.2.2.1 : Int32)) (t0_6 := (p852.2.2.2.2.2.2.1 : Int32)) (t0_7 := (p852.2.2.2.2.2.2.2.1 : Int64)) (t0_8 := (p852.2.2.2.2.2.2.2.2.1 : Int32)) (t0_9 := (p852.2.2.2.2.2.2.2.2.2.1 : Int64)) (t0_10 := (p852.2.2.2.2.2.2.2.2.2.2.1 : Int32)) (t1_0 := (p852.2.2.2.2.2.2.2.2.2.2.2 : (Nat → Int32))) ⟨by omega, by omega⟩ ⟨by omega, by omega⟩
          with_reducible refine v_owe h11.1 ?_
          replace h11 := h11.2
          generalize F_FR_number (-lx630 : Int32) (p852.1 : Int32) (p852.2.1 : Int32) (p852.2.2.1 : Int32) (p852.2.2.2.1 : Int32) (p852.2.2.2.2.1 : Int64) (p852.2.2.2.2.2.1 : Int32) (p852.2.2.2.2.2.2.1 : Int32) (p852.2.2.2.2.2.2.2.1 : Int64) (p852.2.2.2.2.2.2.2.2.1 : Int32) (p852.2.2.2.2.2.2.2.2.2.1 : Int64) (p852.2.2.2.2.2.2.2.2.2.2.1 : Int32) (p852.2.2.2.2.2.2.2.2.2.2.2 : (Nat → Int32)) = p787 at *
          unfold Q_FR_number at h11
          unfold S_FR_hexadecimal_c226_17 F_FR_hexadecimal_c226_17
          refine ⟨trivial, ?_⟩
          (unfold Q_FR_hexadecimal; dsimp only; first | exact ⟨by omega, by omega⟩ | exact ⟨by decide, by decide⟩)
    ·
      rw [if_neg g1, if_neg g1]
      have n0 := fl_hx g1
      have h12 := T_FR_hexadecimalFigure (x2 := ((lx422 >>> (l4.toInt64 &&& 63) : Int64) &&& 15 : Int64)) (t0_0 := lx511) (t0_1 := lx512) (t0_2 := lx513) (t0_3 := lx514) (t0_4 := lx515) (t0_5 := lx516) (t0_6 := lx517) (t0_7 := lx518) (t0_8 := lx519) (t0_9 := lx520) (t0_10 := lx521) (t1_0 := lx522) ⟨by first | omega | decide, by first | omega | decide⟩
      with_reducible refine v_owe h12.1 ?_
      replace h12 := h12.2
      generalize F_FR_hexadecimalFigure ((lx422 >>> (l4.toInt64 &&& 63) : Int64) &&& 15 : Int64) lx511 lx512 lx513 lx514 lx515 lx516 lx517 lx518 lx519 lx520 lx521 lx522 = p927 at *
      unfold Q_FR_add at h12
      obtain ⟨h121, h123, h125, h126, h127, h128, h129, h12x⟩ := h12
      have h129i := congrArg Int64.toInt h129
      have h127i := congrArg Int64.toInt h127
      unfold S_FR_hexadecimal_c165 F_FR_hexadecimal_c165
      exact ih _ _ _ _ _ _ _ _ _ _ _ _ _ ⟨⟨by omega, by omega⟩, by omega⟩ (by omega) ⟨by omega, by omega⟩ ⟨⟨by omega, by omega⟩, ⟨by omega, by omega⟩⟩
theorem T_FR_hexadecimal {x2 : Int64} {x3 : Int32} {t0_0 : Int32} {t0_1 : Int32} {t0_2 : Int32} {t0_3 : Int32} {t0_4 : Int64} {t0_5 : Int32} {t0_6 : Int32} {t0_7 : Int64} {t0_8 : Int32} {t0_9 : Int64} {t0_10 : Int32} {t1_0 : (Nat → Int32)}  : (S_FR_hexadecimal x2 x3 t0_0 t0_1 t0_2 t0_3 t0_4 t0_5 t0_6 t0_7 t0_8 t0_9 t0_10 t1_0) ∧ Q_FR_hexadecimal (F_FR_hexadecimal x2 x3 t0_0 t0_1 t0_2 t0_3 t0_4 t0_5 t0_6 t0_7 t0_8 t0_9 t0_10 t1_0) := by
  have e0 : (0 : Int32).toInt = 0 := rfl
  have e1 : (1 : Int32).toInt = 1 := rfl
  have eL0 : (0 : Int64).toInt = 0 := rfl
  unfold S_FR_hexadecimal F_FR_hexadecimal
  by_cases g1 : ((F_FR_isWrong x2 x3) : Int32) = (0 : Int32)
  ·
    rw [if_pos g1, if_pos g1]
    unfold S_FR_hexadecimal_J14 F_FR_hexadecimal_J14
    have g2 : ((0 : Int32) ≤ (0 : Int32)) := (by decide)
    rw [if_pos g2, if_pos g2]
    have h3 := T_FR_open (x2 := x2) (x3 := x3) (t0_0 := (0 : Int32)) (t0_1 := t0_1) (t0_2 := t0_2) (t0_3 := t0_3) (t0_4 := t0_4) (t0_5 := t0_5) (t0_6 := t0_6) (t0_7 := t0_7) (t0_8 := t0_8) (t0_9 := t0_9) (t0_10 := t0_10) 
    generalize F_FR_open x2 x3 (0 : Int32) t0_1 t0_2 t0_3 t0_4 t0_5 t0_6 t0_7 t0_8 t0_9 t0_10 = p76 at *
    unfold Q_FR_open at h3
    obtain ⟨h3a, h3b, h37, h38, h3f, h35⟩ := h3
    have op7 := h37
    have op8 := h38
    have opf := h3f
    have op5 := h35
    have opa := congrArg Int32.toInt h3b
    unfold S_FR_hexadecimal_c29 F_FR_hexadecimal_c29
    by_cases g4 : ((F_FR_isFinite (p76.1 : Int32) (p76.2.1 : Int32) (p76.2.2.1 : Int32) (p76.2.2.2.1 : Int32) (p76.2.2.2.2.1 : Int64) (p76.2.2.2.2.2.1 : Int32) (p76.2.2.2.2.2.2.1 : Int32) (p76.2.2.2.2.2.2.2.1 : Int64) (p76.2.2.2.2.2.2.2.2.1 : Int32) (p76.2.2.2.2.2.2.2.2.2.1 : Int64) (p76.2.2.2.2.2.2.2.2.2.2 : Int32)) : Int32) = (0 : Int32)
    ·
      rw [if_pos g4, if_pos g4]
      have h5 := T_FR_name (t0_0 := (p76.1 : Int32)) (t0_1 := (p76.2.1 : Int32)) (t0_2 := (p76.2.2.1 : Int32)) (t0_3 := (p76.2.2.2.1 : Int32)) (t0_4 := (p76.2.2.2.2.1 : Int64)) (t0_5 := (p76.2.2.2.2.2.1 : Int32)) (t0_6 := (p76.2.2.2.2.2.2.1 : Int32)) (t0_7 := (p76.2.2.2.2.2.2.2.1 : Int64)) (t0_8 := (p76.2.2.2.2.2.2.2.2.1 : Int32)) (t0_9 := (p76.2.2.2.2.2.2.2.2.2.1 : Int64)) (t0_10 := (p76.2.2.2.2.2.2.2.2.2.2 : Int32)) (t1_0 := t1_0) 
      with_reducible refine v_owe h5.1 ?_
      replace h5 := h5.2
      generalize F_FR_name (p76.1 : Int32) (p76.2.1 : Int32) (p76.2.2.1 : Int32) (p76.2.2.2.1 : Int32) (p76.2.2.2.2.1 : Int64) (p76.2.2.2.2.2.1 : Int32) (p76.2.2.2.2.2.2.1 : Int32) (p76.2.2.2.2.2.2.2.1 : Int64) (p76.2.2.2.2.2.2.2.2.1 : Int32) (p76.2.2.2.2.2.2.2.2.2.1 : Int64) (p76.2.2.2.2.2.2.2.2.2.2 : Int32) t1_0 = p999 at *
      unfold Q_FR_name at h5
      unfold S_FR_hexadecimal_c40 F_FR_hexadecimal_c40
      refine ⟨trivial, ?_⟩
      (unfold Q_FR_hexadecimal; dsimp only; first | exact ⟨by omega, by omega⟩ | exact ⟨by decide, by decide⟩)
    ·
      rw [if_neg g4, if_neg g4]
      have fin := fl_fin g4
      have h6 := T_FR_begin (t0_0 := (p76.1 : Int32)) (t0_1 := (p76.2.1 : Int32)) (t0_2 := (p76.2.2.1 : Int32)) (t0_3 := (p76.2.2.2.1 : Int32)) (t0_4 := (p76.2.2.2.2.1 : Int64)) (t0_5 := (p76.2.2.2.2.2.1 : Int32)) (t0_6 := (p76.2.2.2.2.2.2.1 : Int32)) (t0_7 := (p76.2.2.2.2.2.2.2.1 : Int64)) (t0_8 := (p76.2.2.2.2.2.2.2.2.1 : Int32)) (t0_9 := (p76.2.2.2.2.2.2.2.2.2.1 : Int64)) (t0_10 := (p76.2.2.2.2.2.2.2.2.2.2 : Int32)) (t1_0 := t1_0) 
      with_reducible refine v_owe h6.1 ?_
      replace h6 := h6.2
      generalize F_FR_begin (p76.1 : Int32) (p76.2.1 : Int32) (p76.2.2.1 : Int32) (p76.2.2.2.1 : Int32) (p76.2.2.2.2.1 : Int64) (p76.2.2.2.2.2.1 : Int32) (p76.2.2.2.2.2.2.1 : Int32) (p76.2.2.2.2.2.2.2.1 : Int64) (p76.2.2.2.2.2.2.2.2.1 : Int32) (p76.2.2.2.2.2.2.2.2.2.1 : Int64) (p76.2.2.2.2.2.2.2.2.2.2 : Int32) t1_0 = p144 at *
      unfold Q_FR_begin at h6
      obtain ⟨h61, h63, h65, h66, h67, h68, h69, h6x⟩ := h6
      have h69i := congrArg Int64.toInt h69
      have h67i := congrArg Int64.toInt h67
      unfold S_FR_hexadecimal_c49 F_FR_hexadecimal_c49
      have h7 := T_FR_add (x2 := (48 : Int32)) (t0_0 := (p144.1 : Int32)) (t0_1 := (p144.2.1 : Int32)) (t0_2 := (p144.2.2.1 : Int32)) (t0_3 := (p144.2.2.2.1 : Int32)) (t0_4 := (p144.2.2.2.2.1 : Int64)) (t0_5 := (p144.2.2.2.2.2.1 : Int32)) (t0_6 := (p144.2.2.2.2.2.2.1 : Int32)) (t0_7 := (p144.2.2.2.2.2.2.2.1 : Int64)) (t0_8 := (p144.2.2.2.2.2.2.2.2.1 : Int32)) (t0_9 := (p144.2.2.2.2.2.2.2.2.2.1 : Int64)) (t0_10 := (p144.2.2.2.2.2.2.2.2.2.2.1 : Int32)) (t1_0 := (p144.2.2.2.2.2.2.2.2.2.2.2 : (Nat → Int32))) ⟨by first | omega | decide, by first | omega | decide⟩
      with_reducible refine v_owe h7.1 ?_
      replace h7 := h7.2
      generalize F_FR_add (48 : Int32) (p144.1 : Int32) (p144.2.1 : Int32) (p144.2.2.1 : Int32) (p144.2.2.2.1 : Int32) (p144.2.2.2.2.1 : Int64) (p144.2.2.2.2.2.1 : Int32) (p144.2.2.2.2.2.2.1 : Int32) (p144.2.2.2.2.2.2.2.1 : Int64) (p144.2.2.2.2.2.2.2.2.1 : Int32) (p144.2.2.2.2.2.2.2.2.2.1 : Int64) (p144.2.2.2.2.2.2.2.2.2.2.1 : Int32) (p144.2.2.2.2.2.2.2.2.2.2.2 : (Nat → Int32)) = p206 at *
      unfold Q_FR_add at h7
      obtain ⟨h71, h73, h75, h76, h77, h78, h79, h7x⟩ := h7
      have h79i := congrArg Int64.toInt h79
      have h77i := congrArg Int64.toInt h77
      unfold S_FR_hexadecimal_c55 F_FR_hexadecimal_c55
      have h8 := T_FR_add (x2 := (120 : Int32)) (t0_0 := (p206.1 : Int32)) (t0_1 := (p206.2.1 : Int32)) (t0_2 := (p206.2.2.1 : Int32)) (t0_3 := (p206.2.2.2.1 : Int32)) (t0_4 := (p206.2.2.2.2.1 : Int64)) (t0_5 := (p206.2.2.2.2.2.1 : Int32)) (t0_6 := (p206.2.2.2.2.2.2.1 : Int32)) (t0_7 := (p206.2.2.2.2.2.2.2.1 : Int64)) (t0_8 := (p206.2.2.2.2.2.2.2.2.1 : Int32)) (t0_9 := (p206.2.2.2.2.2.2.2.2.2.1 : Int64)) (t0_10 := (p206.2.2.2.2.2.2.2.2.2.2.1 : Int32)) (t1_0 := (p206.2.2.2.2.2.2.2.2.2.2.2 : (Nat → Int32))) ⟨by first | omega | decide, by first | omega | decide⟩
      with_reducible refine v_owe h8.1 ?_
      replace h8 := h8.2
      generalize F_FR_add (120 : Int32) (p206.1 : Int32) (p206.2.1 : Int32) (p206.2.2.1 : Int32) (p206.2.2.2.1 : Int32) (p206.2.2.2.2.1 : Int64) (p206.2.2.2.2.2.1 : Int32) (p206.2.2.2.2.2.2.1 : Int32) (p206.2.2.2.2.2.2.2.1 : Int64) (p206.2.2.2.2.2.2.2.2.1 : Int32) (p206.2.2.2.2.2.2.2.2.2.1 : Int64) (p206.2.2.2.2.2.2.2.2.2.2.1 : Int32) (p206.2.2.2.2.2.2.2.2.2.2.2 : (Nat → Int32)) = p268 at *
      unfold Q_FR_add at h8
      obtain ⟨h81, h83, h85, h86, h87, h88, h89, h8x⟩ := h8
      have h89i := congrArg Int64.toInt h89
      have h87i := congrArg Int64.toInt h87
      unfold S_FR_hexadecimal_c61 F_FR_hexadecimal_c61
      by_cases g9 : (p268.2.2.2.1 : Int32) ≤ (0 : Int32)
      ·
        rw [if_pos g9, if_pos g9]
        have g9i : p268.2.2.2.1.toInt ≤ 0 := q_leI g9
        unfold S_FR_hexadecimal_J79 F_FR_hexadecimal_J79
        have h10 := T_FR_add (x2 := (48 : Int32)) (t0_0 := (p268.1 : Int32)) (t0_1 := (p268.2.1 : Int32)) (t0_2 := (p268.2.2.1 : Int32)) (t0_3 := (p268.2.2.2.1 : Int32)) (t0_4 := (p268.2.2.2.2.1 : Int64)) (t0_5 := (p268.2.2.2.2.2.1 : Int32)) (t0_6 := (p268.2.2.2.2.2.2.1 : Int32)) (t0_7 := (p268.2.2.2.2.2.2.2.1 : Int64)) (t0_8 := (p268.2.2.2.2.2.2.2.2.1 : Int32)) (t0_9 := (p268.2.2.2.2.2.2.2.2.2.1 : Int64)) (t0_10 := (p268.2.2.2.2.2.2.2.2.2.2.1 : Int32)) (t1_0 := (p268.2.2.2.2.2.2.2.2.2.2.2 : (Nat → Int32))) ⟨by first | omega | decide, by first | omega | decide⟩
        with_reducible refine v_owe h10.1 ?_
        replace h10 := h10.2
        generalize F_FR_add (48 : Int32) (p268.1 : Int32) (p268.2.1 : Int32) (p268.2.2.1 : Int32) (p268.2.2.2.1 : Int32) (p268.2.2.2.2.1 : Int64) (p268.2.2.2.2.2.1 : Int32) (p268.2.2.2.2.2.2.1 : Int32) (p268.2.2.2.2.2.2.2.1 : Int64) (p268.2.2.2.2.2.2.2.2.1 : Int32) (p268.2.2.2.2.2.2.2.2.2.1 : Int64) (p268.2.2.2.2.2.2.2.2.2.2.1 : Int32) (p268.2.2.2.2.2.2.2.2.2.2.2 : (Nat → Int32)) = p341 at *
        unfold Q_FR_add at h10
        obtain ⟨h101, h103, h105, h106, h107, h108, h109, h10x⟩ := h10
        have h109i := congrArg Int64.toInt h109
        have h107i := congrArg Int64.toInt h107
        unfold S_FR_hexadecimal_c79 F_FR_hexadecimal_c79
        have h11 := T_FR_add (x2 := (46 : Int32)) (t0_0 := (p341.1 : Int32)) (t0_1 := (p341.2.1 : Int32)) (t0_2 := (p341.2.2.1 : Int32)) (t0_3 := (p341.2.2.2.1 : Int32)) (t0_4 := (p341.2.2.2.2.1 : Int64)) (t0_5 := (p341.2.2.2.2.2.1 : Int32)) (t0_6 := (p341.2.2.2.2.2.2.1 : Int32)) (t0_7 := (p341.2.2.2.2.2.2.2.1 : Int64)) (t0_8 := (p341.2.2.2.2.2.2.2.2.1 : Int32)) (t0_9 := (p341.2.2.2.2.2.2.2.2.2.1 : Int64)) (t0_10 := (p341.2.2.2.2.2.2.2.2.2.2.1 : Int32)) (t1_0 := (p341.2.2.2.2.2.2.2.2.2.2.2 : (Nat → Int32))) ⟨by first | omega | decide, by first | omega | decide⟩
        with_reducible refine v_owe h11.1 ?_
        replace h11 := h11.2
        generalize F_FR_add (46 : Int32) (p341.1 : Int32) (p341.2.1 : Int32) (p341.2.2.1 : Int32) (p341.2.2.2.1 : Int32) (p341.2.2.2.2.1 : Int64) (p341.2.2.2.2.2.1 : Int32) (p341.2.2.2.2.2.2.1 : Int32) (p341.2.2.2.2.2.2.2.1 : Int64) (p341.2.2.2.2.2.2.2.2.1 : Int32) (p341.2.2.2.2.2.2.2.2.2.1 : Int64) (p341.2.2.2.2.2.2.2.2.2.2.1 : Int32) (p341.2.2.2.2.2.2.2.2.2.2.2 : (Nat → Int32)) = p403 at *
        unfold Q_FR_add at h11
        obtain ⟨h111, h113, h115, h116, h117, h118, h119, h11x⟩ := h11
        have h119i := congrArg Int64.toInt h119
        have h117i := congrArg Int64.toInt h117
        unfold S_FR_hexadecimal_c85 F_FR_hexadecimal_c85
        by_cases g12 : x3 = (0 : Int32)
        ·
          rw [if_pos g12, if_pos g12]
          unfold S_FR_hexadecimal_J107 F_FR_hexadecimal_J107
          rw [if_pos g12, if_pos g12]
          unfold S_FR_hexadecimal_J120 F_FR_hexadecimal_J120
          have h13 := T_FR_hexadecimalFigure (x2 := (((p403.2.2.2.2.1 : Int64) >>> ((48 : Int32).toInt64 &&& 63) : Int64) &&& 15 : Int64)) (t0_0 := (p403.1 : Int32)) (t0_1 := (p403.2.1 : Int32)) (t0_2 := (p403.2.2.1 : Int32)) (t0_3 := (p403.2.2.2.1 : Int32)) (t0_4 := (p403.2.2.2.2.1 : Int64)) (t0_5 := (p403.2.2.2.2.2.1 : Int32)) (t0_6 := (p403.2.2.2.2.2.2.1 : Int32)) (t0_7 := (p403.2.2.2.2.2.2.2.1 : Int64)) (t0_8 := (p403.2.2.2.2.2.2.2.2.1 : Int32)) (t0_9 := (p403.2.2.2.2.2.2.2.2.2.1 : Int64)) (t0_10 := (p403.2.2.2.2.2.2.2.2.2.2.1 : Int32)) (t1_0 := (p403.2.2.2.2.2.2.2.2.2.2.2 : (Nat → Int32))) ⟨by first | omega | decide, by first | omega | decide⟩
          with_reducible refine v_owe h13.1 ?_
          replace h13 := h13.2
          generalize F_FR_hexadecimalFigure (((p403.2.2.2.2.1 : Int64) >>> ((48 : Int32).toInt64 &&& 63) : Int64) &&& 15 : Int64) (p403.1 : Int32) (p403.2.1 : Int32) (p403.2.2.1 : Int32) (p403.2.2.2.1 : Int32) (p403.2.2.2.2.1 : Int64) (p403.2.2.2.2.2.1 : Int32) (p403.2.2.2.2.2.2.1 : Int32) (p403.2.2.2.2.2.2.2.1 : Int64) (p403.2.2.2.2.2.2.2.2.1 : Int32) (p403.2.2.2.2.2.2.2.2.2.1 : Int64) (p403.2.2.2.2.2.2.2.2.2.2.1 : Int32) (p403.2.2.2.2.2.2.2.2.2.2.2 : (Nat → Int32)) = p490 at *
          unfold Q_FR_add at h13
          obtain ⟨h131, h133, h135, h136, h137, h138, h139, h13x⟩ := h13
          have h139i := congrArg Int64.toInt h139
          have h137i := congrArg Int64.toInt h137
          unfold S_FR_hexadecimal_c132 F_FR_hexadecimal_c132
          exact vf_hx _ _ _ _ _ _ _ _ _ _ _ _ _ _ (by decide) (by omega) ⟨by omega, by first | omega | (have ez : (48 : Int32).toInt = 48 := rfl; have ey : (20 : Int32).toInt = 20 := rfl; omega)⟩ ⟨⟨by omega, by omega⟩, ⟨by omega, by omega⟩⟩
        ·
          rw [if_neg g12, if_neg g12]
          unfold S_FR_hexadecimal_J107 F_FR_hexadecimal_J107
          rw [if_neg g12, if_neg g12]
          unfold S_FR_hexadecimal_J120 F_FR_hexadecimal_J120
          have h14 := T_FR_hexadecimalFigure (x2 := (((2 * (p403.2.2.2.2.1 : Int64) : Int64) >>> ((20 : Int32).toInt64 &&& 63) : Int64) &&& 15 : Int64)) (t0_0 := (p403.1 : Int32)) (t0_1 := (p403.2.1 : Int32)) (t0_2 := (p403.2.2.1 : Int32)) (t0_3 := (p403.2.2.2.1 : Int32)) (t0_4 := (p403.2.2.2.2.1 : Int64)) (t0_5 := (p403.2.2.2.2.2.1 : Int32)) (t0_6 := (p403.2.2.2.2.2.2.1 : Int32)) (t0_7 := (p403.2.2.2.2.2.2.2.1 : Int64)) (t0_8 := (p403.2.2.2.2.2.2.2.2.1 : Int32)) (t0_9 := (p403.2.2.2.2.2.2.2.2.2.1 : Int64)) (t0_10 := (p403.2.2.2.2.2.2.2.2.2.2.1 : Int32)) (t1_0 := (p403.2.2.2.2.2.2.2.2.2.2.2 : (Nat → Int32))) ⟨by first | omega | decide, by first | omega | decide⟩
          with_reducible refine v_owe h14.1 ?_
          replace h14 := h14.2
          generalize F_FR_hexadecimalFigure (((2 * (p403.2.2.2.2.1 : Int64) : Int64) >>> ((20 : Int32).toInt64 &&& 63) : Int64) &&& 15 : Int64) (p403.1 : Int32) (p403.2.1 : Int32) (p403.2.2.1 : Int32) (p403.2.2.2.1 : Int32) (p403.2.2.2.2.1 : Int64) (p403.2.2.2.2.2.1 : Int32) (p403.2.2.2.2.2.2.1 : Int32) (p403.2.2.2.2.2.2.2.1 : Int64) (p403.2.2.2.2.2.2.2.2.1 : Int32) (p403.2.2.2.2.2.2.2.2.2.1 : Int64) (p403.2.2.2.2.2.2.2.2.2.2.1 : Int32) (p403.2.2.2.2.2.2.2.2.2.2.2 : (Nat → Int32)) = p490 at *
          unfold Q_FR_add at h14
          obtain ⟨h141, h143, h145, h146, h147, h148, h149, h14x⟩ := h14
          have h149i := congrArg Int64.toInt h149
          have h147i := congrArg Int64.toInt h147
          unfold S_FR_hexadecimal_c132 F_FR_hexadecimal_c132
          exact vf_hx _ _ _ _ _ _ _ _ _ _ _ _ _ _ (by decide) (by omega) ⟨by omega, by first | omega | (have ez : (48 : Int32).toInt = 48 := rfl; have ey : (20 : Int32).toInt = 20 := rfl; omega)⟩ ⟨⟨by omega, by omega⟩, ⟨by omega, by omega⟩⟩
      ·
        rw [if_neg g9, if_neg g9]
        have g9i : 0 < p268.2.2.2.1.toInt := q_nleI g9
        unfold S_FR_hexadecimal_J79 F_FR_hexadecimal_J79
        have h15 := T_FR_add (x2 := (49 : Int32)) (t0_0 := (p268.1 : Int32)) (t0_1 := (p268.2.1 : Int32)) (t0_2 := (p268.2.2.1 : Int32)) (t0_3 := (p268.2.2.2.1 : Int32)) (t0_4 := (p268.2.2.2.2.1 : Int64)) (t0_5 := (p268.2.2.2.2.2.1 : Int32)) (t0_6 := (p268.2.2.2.2.2.2.1 : Int32)) (t0_7 := (p268.2.2.2.2.2.2.2.1 : Int64)) (t0_8 := (p268.2.2.2.2.2.2.2.2.1 : Int32)) (t0_9 := (p268.2.2.2.2.2.2.2.2.2.1 : Int64)) (t0_10 := (p268.2.2.2.2.2.2.2.2.2.2.1 : Int32)) (t1_0 := (p268.2.2.2.2.2.2.2.2.2.2.2 : (Nat → Int32))) ⟨by first | omega | decide, by first | omega | decide⟩
        with_reducible refine v_owe h15.1 ?_
        replace h15 := h15.2
        generalize F_FR_add (49 : Int32) (p268.1 : Int32) (p268.2.1 : Int32) (p268.2.2.1 : Int32) (p268.2.2.2.1 : Int32) (p268.2.2.2.2.1 : Int64) (p268.2.2.2.2.2.1 : Int32) (p268.2.2.2.2.2.2.1 : Int32) (p268.2.2.2.2.2.2.2.1 : Int64) (p268.2.2.2.2.2.2.2.2.1 : Int32) (p268.2.2.2.2.2.2.2.2.2.1 : Int64) (p268.2.2.2.2.2.2.2.2.2.2.1 : Int32) (p268.2.2.2.2.2.2.2.2.2.2.2 : (Nat → Int32)) = p341 at *
        unfold Q_FR_add at h15
        obtain ⟨h151, h153, h155, h156, h157, h158, h159, h15x⟩ := h15
        have h159i := congrArg Int64.toInt h159
        have h157i := congrArg Int64.toInt h157
        unfold S_FR_hexadecimal_c79 F_FR_hexadecimal_c79
        have h16 := T_FR_add (x2 := (46 : Int32)) (t0_0 := (p341.1 : Int32)) (t0_1 := (p341.2.1 : Int32)) (t0_2 := (p341.2.2.1 : Int32)) (t0_3 := (p341.2.2.2.1 : Int32)) (t0_4 := (p341.2.2.2.2.1 : Int64)) (t0_5 := (p341.2.2.2.2.2.1 : Int32)) (t0_6 := (p341.2.2.2.2.2.2.1 : Int32)) (t0_7 := (p341.2.2.2.2.2.2.2.1 : Int64)) (t0_8 := (p341.2.2.2.2.2.2.2.2.1 : Int32)) (t0_9 := (p341.2.2.2.2.2.2.2.2.2.1 : Int64)) (t0_10 := (p341.2.2.2.2.2.2.2.2.2.2.1 : Int32)) (t1_0 := (p341.2.2.2.2.2.2.2.2.2.2.2 : (Nat → Int32))) ⟨by first | omega | decide, by first | omega | decide⟩
        with_reducible refine v_owe h16.1 ?_
        replace h16 := h16.2
        generalize F_FR_add (46 : Int32) (p341.1 : Int32) (p341.2.1 : Int32) (p341.2.2.1 : Int32) (p341.2.2.2.1 : Int32) (p341.2.2.2.2.1 : Int64) (p341.2.2.2.2.2.1 : Int32) (p341.2.2.2.2.2.2.1 : Int32) (p341.2.2.2.2.2.2.2.1 : Int64) (p341.2.2.2.2.2.2.2.2.1 : Int32) (p341.2.2.2.2.2.2.2.2.2.1 : Int64) (p341.2.2.2.2.2.2.2.2.2.2.1 : Int32) (p341.2.2.2.2.2.2.2.2.2.2.2 : (Nat → Int32)) = p403 at *
        unfold Q_FR_add at h16
        obtain ⟨h161, h163, h165, h166, h167, h168, h169, h16x⟩ := h16
        have h169i := congrArg Int64.toInt h169
        have h167i := congrArg Int64.toInt h167
        unfold S_FR_hexadecimal_c85 F_FR_hexadecimal_c85
        by_cases g17 : x3 = (0 : Int32)
        ·
          rw [if_pos g17, if_pos g17]
          unfold S_FR_hexadecimal_J107 F_FR_hexadecimal_J107
          rw [if_pos g17, if_pos g17]
          unfold S_FR_hexadecimal_J120 F_FR_hexadecimal_J120
          have h18 := T_FR_hexadecimalFigure (x2 := (((p403.2.2.2.2.1 : Int64) >>> ((48 : Int32).toInt64 &&& 63) : Int64) &&& 15 : Int64)) (t0_0 := (p403.1 : Int32)) (t0_1 := (p403.2.1 : Int32)) (t0_2 := (p403.2.2.1 : Int32)) (t0_3 := (p403.2.2.2.1 : Int32)) (t0_4 := (p403.2.2.2.2.1 : Int64)) (t0_5 := (p403.2.2.2.2.2.1 : Int32)) (t0_6 := (p403.2.2.2.2.2.2.1 : Int32)) (t0_7 := (p403.2.2.2.2.2.2.2.1 : Int64)) (t0_8 := (p403.2.2.2.2.2.2.2.2.1 : Int32)) (t0_9 := (p403.2.2.2.2.2.2.2.2.2.1 : Int64)) (t0_10 := (p403.2.2.2.2.2.2.2.2.2.2.1 : Int32)) (t1_0 := (p403.2.2.2.2.2.2.2.2.2.2.2 : (Nat → Int32))) ⟨by first | omega | decide, by first | omega | decide⟩
          with_reducible refine v_owe h18.1 ?_
          replace h18 := h18.2
          generalize F_FR_hexadecimalFigure (((p403.2.2.2.2.1 : Int64) >>> ((48 : Int32).toInt64 &&& 63) : Int64) &&& 15 : Int64) (p403.1 : Int32) (p403.2.1 : Int32) (p403.2.2.1 : Int32) (p403.2.2.2.1 : Int32) (p403.2.2.2.2.1 : Int64) (p403.2.2.2.2.2.1 : Int32) (p403.2.2.2.2.2.2.1 : Int32) (p403.2.2.2.2.2.2.2.1 : Int64) (p403.2.2.2.2.2.2.2.2.1 : Int32) (p403.2.2.2.2.2.2.2.2.2.1 : Int64) (p403.2.2.2.2.2.2.2.2.2.2.1 : Int32) (p403.2.2.2.2.2.2.2.2.2.2.2 : (Nat → Int32)) = p490 at *
          unfold Q_FR_add at h18
          obtain ⟨h181, h183, h185, h186, h187, h188, h189, h18x⟩ := h18
          have h189i := congrArg Int64.toInt h189
          have h187i := congrArg Int64.toInt h187
          unfold S_FR_hexadecimal_c132 F_FR_hexadecimal_c132
          exact vf_hx _ _ _ _ _ _ _ _ _ _ _ _ _ _ (by decide) (by omega) ⟨by omega, by first | omega | (have ez : (48 : Int32).toInt = 48 := rfl; have ey : (20 : Int32).toInt = 20 := rfl; omega)⟩ ⟨⟨by omega, by omega⟩, ⟨by omega, by omega⟩⟩
        ·
          rw [if_neg g17, if_neg g17]
          unfold S_FR_hexadecimal_J107 F_FR_hexadecimal_J107
          rw [if_neg g17, if_neg g17]
          unfold S_FR_hexadecimal_J120 F_FR_hexadecimal_J120
          have h19 := T_FR_hexadecimalFigure (x2 := (((2 * (p403.2.2.2.2.1 : Int64) : Int64) >>> ((20 : Int32).toInt64 &&& 63) : Int64) &&& 15 : Int64)) (t0_0 := (p403.1 : Int32)) (t0_1 := (p403.2.1 : Int32)) (t0_2 := (p403.2.2.1 : Int32)) (t0_3 := (p403.2.2.2.1 : Int32)) (t0_4 := (p403.2.2.2.2.1 : Int64)) (t0_5 := (p403.2.2.2.2.2.1 : Int32)) (t0_6 := (p403.2.2.2.2.2.2.1 : Int32)) (t0_7 := (p403.2.2.2.2.2.2.2.1 : Int64)) (t0_8 := (p403.2.2.2.2.2.2.2.2.1 : Int32)) (t0_9 := (p403.2.2.2.2.2.2.2.2.2.1 : Int64)) (t0_10 := (p403.2.2.2.2.2.2.2.2.2.2.1 : Int32)) (t1_0 := (p403.2.2.2.2.2.2.2.2.2.2.2 : (Nat → Int32))) ⟨by first | omega | decide, by first | omega | decide⟩
          with_reducible refine v_owe h19.1 ?_
          replace h19 := h19.2
          generalize F_FR_hexadecimalFigure (((2 * (p403.2.2.2.2.1 : Int64) : Int64) >>> ((20 : Int32).toInt64 &&& 63) : Int64) &&& 15 : Int64) (p403.1 : Int32) (p403.2.1 : Int32) (p403.2.2.1 : Int32) (p403.2.2.2.1 : Int32) (p403.2.2.2.2.1 : Int64) (p403.2.2.2.2.2.1 : Int32) (p403.2.2.2.2.2.2.1 : Int32) (p403.2.2.2.2.2.2.2.1 : Int64) (p403.2.2.2.2.2.2.2.2.1 : Int32) (p403.2.2.2.2.2.2.2.2.2.1 : Int64) (p403.2.2.2.2.2.2.2.2.2.2.1 : Int32) (p403.2.2.2.2.2.2.2.2.2.2.2 : (Nat → Int32)) = p490 at *
          unfold Q_FR_add at h19
          obtain ⟨h191, h193, h195, h196, h197, h198, h199, h19x⟩ := h19
          have h199i := congrArg Int64.toInt h199
          have h197i := congrArg Int64.toInt h197
          unfold S_FR_hexadecimal_c132 F_FR_hexadecimal_c132
          exact vf_hx _ _ _ _ _ _ _ _ _ _ _ _ _ _ (by decide) (by omega) ⟨by omega, by first | omega | (have ez : (48 : Int32).toInt = 48 := rfl; have ey : (20 : Int32).toInt = 20 := rfl; omega)⟩ ⟨⟨by omega, by omega⟩, ⟨by omega, by omega⟩⟩
  ·
    rw [if_neg g1, if_neg g1]
    unfold S_FR_hexadecimal_J14 F_FR_hexadecimal_J14
    have g20 : ¬ ((1 : Int32) ≤ (0 : Int32)) := (by decide)
    rw [if_neg g20, if_neg g20]
    refine ⟨trivial, ?_⟩
    (unfold Q_FR_hexadecimal; dsimp only; first | exact ⟨by omega, by omega⟩ | exact ⟨by decide, by decide⟩)
theorem vf_na2 {K_F_FR_narrowed_L72 : Int32 → Int32 → Int32 → Int64 → (Int64 × Int32 × Int32 × Int32 × Int32 × Int64 × Int32 × Int32 × Int64 × Int32 × Int64 × Int32)} {x2 : Int64} {t0_0 : Int32} {t0_1 : Int32} {t0_2 : Int32} {t0_3 : Int32} {t0_4 : Int64} {t0_5 : Int32} {t0_6 : Int32} {t0_7 : Int64} {t0_8 : Int32} {t0_9 : Int64} {t0_10 : Int32} {p53 : (Int32 × Int32 × Int32 × Int32 × Int64 × Int32 × Int32 × Int64 × Int32 × Int64 × Int32)} {y19 : Int32} {y20 : Int32} {y21 : Int32} {y22 : Int32} {y23 : Int64} {y24 : Int32} {y25 : Int32} {y26 : Int64} {y27 : Int32} {y28 : Int64} {y29 : Int32} {lx71 : Int64} {lx94 : Int32} {lx95 : Int32} {lx96 : Int32} {lx97 : Int64} {lx156 : Int64} {K_S_FR_narrowed_L72 : Int32 → Int32 → Int32 → Int64 → Prop}  : ∀ (n : Nat) (lx169 : Int64) (lx170 : Int32), (lx170.toInt ≤ 1030 ∧ -149 ≤ lx170.toInt) → (lx170.toInt + 1074 < (n : Int)) → (S_FR_narrowed_L157 K_S_FR_narrowed_L72 x2 t0_0 t0_1 t0_2 t0_3 t0_4 t0_5 t0_6 t0_7 t0_8 t0_9 t0_10 p53 y19 y20 y21 y22 y23 y24 y25 y26 y27 y28 y29 lx71 lx94 lx95 lx96 lx97 lx156 n lx169 lx170) := by
  intro n
  induction n with
  | zero => intro lx169 lx170 hk hm; exact absurd (show False by omega) id
  | succ n ih =>
    intro lx169 lx170 hk hm
    have e0 : (0 : Int32).toInt = 0 := rfl
    have e1 : (1 : Int32).toInt = 1 := rfl
    have eL0 : (0 : Int64).toInt = 0 := rfl
    have em : (-149 : Int32).toInt = -149 := rfl
    rw [S_FR_narrowed_L157.eq_2]
    by_cases g1 : (lg_cmp lx169 0 : Int32) = (0 : Int32)
    ·
      rw [if_pos g1]
      unfold S_FR_narrowed_J193
      by_cases g2 : (lg_cmp lx169 16777216 : Int32) = (0 : Int32)
      ·
        rw [if_pos g2]
        unfold S_FR_narrowed_J211
        by_cases g3 : (lx170 + 1 : Int32) ≤ (104 : Int32)
        ·
          rw [if_pos g3]
          by_cases g4 : (0 : Int32) ≤ (lg_cmp (lx169 >>> ((1 : Int32).toInt64 &&& 63) : Int64) 8388608 : Int32)
          ·
            rw [if_pos g4]
            have g4l := g_lc5 g4
            exact trivial
          ·
            rw [if_neg g4]
            have g4l := g_lc6 g4
            exact trivial
        ·
          rw [if_neg g3]
          exact trivial
      ·
        rw [if_neg g2]
        unfold S_FR_narrowed_J211
        by_cases g5 : lx170 ≤ (104 : Int32)
        ·
          rw [if_pos g5]
          have g5i : lx170.toInt ≤ 104 := q_leI g5
          by_cases g6 : (0 : Int32) ≤ (lg_cmp lx169 8388608 : Int32)
          ·
            rw [if_pos g6]
            have g6l := g_lc5 g6
            exact trivial
          ·
            rw [if_neg g6]
            have g6l := g_lc6 g6
            exact trivial
        ·
          rw [if_neg g5]
          have g5i : 104 < lx170.toInt := q_nleI g5
          exact trivial
    ·
      rw [if_neg g1]
      by_cases g7 : (0 : Int32) ≤ (lg_cmp lx169 8388608 : Int32)
      ·
        rw [if_pos g7]
        have g7l := g_lc5 g7
        unfold S_FR_narrowed_J193
        by_cases g8 : (lg_cmp lx169 16777216 : Int32) = (0 : Int32)
        ·
          rw [if_pos g8]
          unfold S_FR_narrowed_J211
          by_cases g9 : (lx170 + 1 : Int32) ≤ (104 : Int32)
          ·
            rw [if_pos g9]
            by_cases g10 : (0 : Int32) ≤ (lg_cmp (lx169 >>> ((1 : Int32).toInt64 &&& 63) : Int64) 8388608 : Int32)
            ·
              rw [if_pos g10]
              have g10l := g_lc5 g10
              exact trivial
            ·
              rw [if_neg g10]
              have g10l := g_lc6 g10
              exact trivial
          ·
            rw [if_neg g9]
            exact trivial
        ·
          rw [if_neg g8]
          unfold S_FR_narrowed_J211
          by_cases g11 : lx170 ≤ (104 : Int32)
          ·
            rw [if_pos g11]
            have g11i : lx170.toInt ≤ 104 := q_leI g11
            rw [if_pos g7]
            exact trivial
          ·
            rw [if_neg g11]
            have g11i : 104 < lx170.toInt := q_nleI g11
            exact trivial
      ·
        rw [if_neg g7]
        have g7l := g_lc6 g7
        by_cases g12 : lx170 ≤ (-149 : Int32)
        ·
          rw [if_pos g12]
          have g12i : lx170.toInt ≤ -149 := q_leI g12
          unfold S_FR_narrowed_J193
          by_cases g13 : (lg_cmp lx169 16777216 : Int32) = (0 : Int32)
          ·
            rw [if_pos g13]
            unfold S_FR_narrowed_J211
            by_cases g14 : (lx170 + 1 : Int32) ≤ (104 : Int32)
            ·
              rw [if_pos g14]
              by_cases g15 : (0 : Int32) ≤ (lg_cmp (lx169 >>> ((1 : Int32).toInt64 &&& 63) : Int64) 8388608 : Int32)
              ·
                rw [if_pos g15]
                have g15l := g_lc5 g15
                exact trivial
              ·
                rw [if_neg g15]
                have g15l := g_lc6 g15
                exact trivial
            ·
              rw [if_neg g14]
              exact trivial
          ·
            rw [if_neg g13]
            unfold S_FR_narrowed_J211
            by_cases g16 : lx170 ≤ (104 : Int32)
            ·
              rw [if_pos g16]
              have g16i : lx170.toInt ≤ 104 := q_leI g16
              rw [if_neg g7]
              exact trivial
            ·
              rw [if_neg g16]
              have g16i : 104 < lx170.toInt := q_nleI g16
              exact trivial
        ·
          rw [if_neg g12]
          have g12i : -149 < lx170.toInt := q_nleI g12
          obtain ⟨a17, e18⟩ := q_nm (lx170 + (-1) : Int32)
          rw [e18]
          have a17i : a17.toInt = lx170.toInt + (-1) := by rw [← e18]; exact q_addI (x := lx170.toInt) (y := (-1)) rfl (by decide) (by omega) (by omega)
          exact ih _ _ (by first | with_reducible assumption | omega | decide) (by first | with_reducible assumption | omega | decide)
theorem vf_na1 {x2 : Int64} {t0_0 : Int32} {t0_1 : Int32} {t0_2 : Int32} {t0_3 : Int32} {t0_4 : Int64} {t0_5 : Int32} {t0_6 : Int32} {t0_7 : Int64} {t0_8 : Int32} {t0_9 : Int64} {t0_10 : Int32} {p53 : (Int32 × Int32 × Int32 × Int32 × Int64 × Int32 × Int32 × Int64 × Int32 × Int64 × Int32)} {y19 : Int32} {y20 : Int32} {y21 : Int32} {y22 : Int32} {y23 : Int64} {y24 : Int32} {y25 : Int32} {y26 : Int64} {y27 : Int32} {y28 : Int64} {y29 : Int32} {lx71 : Int64}  : ∀ (n : Nat) (lx94 : Int32) (lx95 : Int32) (lx96 : Int32) (lx97 : Int64), (0 ≤ lx97.toInt) → (∃ j : Nat, j ≤ 53 ∧ lx97.toInt < 2 ^ j ∧ lx96.toInt + (j : Int) ≤ 1030 ∧ (j : Int) ≤ (n : Int) + 23 ∧ -148 - lx96.toInt ≤ (n : Int)) → (1 ≤ (n : Int) ∧ -1100 ≤ lx96.toInt) → (S_FR_narrowed_L72 x2 t0_0 t0_1 t0_2 t0_3 t0_4 t0_5 t0_6 t0_7 t0_8 t0_9 t0_10 p53 y19 y20 y21 y22 y23 y24 y25 y26 y27 y28 y29 lx71 n lx94 lx95 lx96 lx97) := by
  intro n
  induction n with
  | zero => intro lx94 lx95 lx96 lx97 hm0 hj hn; omega
  | succ n ih =>
    intro lx94 lx95 lx96 lx97 hm0 hj hn
    have e0 : (0 : Int32).toInt = 0 := rfl
    have e1 : (1 : Int32).toInt = 1 := rfl
    have eL0 : (0 : Int64).toInt = 0 := rfl
    have em : (-149 : Int32).toInt = -149 := rfl
    have e24 : (16777216 : Int64).toInt = 16777216 := rfl
    obtain ⟨j, j1, j2, j3, j4, j5⟩ := hj
    have e25 : 16777216 ≤ lx97.toInt → 25 ≤ j := fl_j24 j2
    rw [S_FR_narrowed_L72.eq_2]
    by_cases g1 : (0 : Int32) ≤ (lg_cmp lx97 16777216 : Int32)
    ·
      rw [if_pos g1]
      have g1l := g_lc5 g1
      unfold S_FR_narrowed_J89
      by_cases g2 : lx95 = (0 : Int32)
      ·
        rw [if_pos g2]
        by_cases g3 : lx94 = (1 : Int32)
        ·
          rw [if_pos g3]
          unfold S_FR_narrowed_J100
          obtain ⟨a4, e5⟩ := q_nm (lx96 + 1 : Int32)
          rw [e5]
          have a4i : a4.toInt = lx96.toInt + 1 := by rw [← e5]; exact q_addI (x := lx96.toInt) (y := 1) rfl (by decide) (by omega) (by omega)
          have hv := fl_hv hm0 j2; exact ih _ _ _ _ hv.1 ⟨j - 1, by omega, hv.2, by omega, by omega, by omega⟩ ⟨by omega, by omega⟩
        ·
          rw [if_neg g3]
          obtain ⟨a6, e7⟩ := q_nm (lx96 + 1 : Int32)
          rw [e7]
          have a6i : a6.toInt = lx96.toInt + 1 := by rw [← e7]; exact q_addI (x := lx96.toInt) (y := 1) rfl (by decide) (by omega) (by omega)
          have hv := fl_hv hm0 j2; exact ih _ _ _ _ hv.1 ⟨j - 1, by omega, hv.2, by omega, by omega, by omega⟩ ⟨by omega, by omega⟩
      ·
        rw [if_neg g2]
        unfold S_FR_narrowed_J100
        obtain ⟨a8, e9⟩ := q_nm (lx96 + 1 : Int32)
        rw [e9]
        have a8i : a8.toInt = lx96.toInt + 1 := by rw [← e9]; exact q_addI (x := lx96.toInt) (y := 1) rfl (by decide) (by omega) (by omega)
        have hv := fl_hv hm0 j2; exact ih _ _ _ _ hv.1 ⟨j - 1, by omega, hv.2, by omega, by omega, by omega⟩ ⟨by omega, by omega⟩
    ·
      rw [if_neg g1]
      have g1l := g_lc6 g1
      by_cases g10 : (-149 : Int32) ≤ lx96
      ·
        rw [if_pos g10]
        have g10i := q_leI g10
        by_cases g11 : lx94 = (1 : Int32)
        ·
          rw [if_pos g11]
          by_cases g12 : lx95 = (0 : Int32)
          ·
            rw [if_pos g12]
            by_cases g13 : (lg_cmp (lx97 &&& 1 : Int64) 1 : Int32) = (0 : Int32)
            ·
              rw [if_pos g13]
              unfold S_FR_narrowed_J146
              unfold S_FR_narrowed_J155
              exact vf_na2 (K_F_FR_narrowed_L72 := fun _ _ _ _ => default) _ _ _ ⟨by omega, by omega⟩ (by omega)
            ·
              rw [if_neg g13]
              unfold S_FR_narrowed_J153
              unfold S_FR_narrowed_J155
              exact vf_na2 (K_F_FR_narrowed_L72 := fun _ _ _ _ => default) _ _ _ ⟨by omega, by omega⟩ (by omega)
          ·
            rw [if_neg g12]
            unfold S_FR_narrowed_J146
            unfold S_FR_narrowed_J155
            exact vf_na2 (K_F_FR_narrowed_L72 := fun _ _ _ _ => default) _ _ _ ⟨by omega, by omega⟩ (by omega)
        ·
          rw [if_neg g11]
          unfold S_FR_narrowed_J153
          unfold S_FR_narrowed_J155
          exact vf_na2 (K_F_FR_narrowed_L72 := fun _ _ _ _ => default) _ _ _ ⟨by omega, by omega⟩ (by omega)
      ·
        rw [if_neg g10]
        have g10i := q_nleI g10
        unfold S_FR_narrowed_J89
        by_cases g14 : lx95 = (0 : Int32)
        ·
          rw [if_pos g14]
          by_cases g15 : lx94 = (1 : Int32)
          ·
            rw [if_pos g15]
            unfold S_FR_narrowed_J100
            obtain ⟨a16, e17⟩ := q_nm (lx96 + 1 : Int32)
            rw [e17]
            have a16i : a16.toInt = lx96.toInt + 1 := by rw [← e17]; exact q_addI (x := lx96.toInt) (y := 1) rfl (by decide) (by omega) (by omega)
            have hv := fl_hv hm0 j2; exact ih _ _ _ _ hv.1 ⟨j - 1, by omega, hv.2, by omega, by omega, by omega⟩ ⟨by omega, by omega⟩
          ·
            rw [if_neg g15]
            obtain ⟨a18, e19⟩ := q_nm (lx96 + 1 : Int32)
            rw [e19]
            have a18i : a18.toInt = lx96.toInt + 1 := by rw [← e19]; exact q_addI (x := lx96.toInt) (y := 1) rfl (by decide) (by omega) (by omega)
            have hv := fl_hv hm0 j2; exact ih _ _ _ _ hv.1 ⟨j - 1, by omega, hv.2, by omega, by omega, by omega⟩ ⟨by omega, by omega⟩
        ·
          rw [if_neg g14]
          unfold S_FR_narrowed_J100
          obtain ⟨a20, e21⟩ := q_nm (lx96 + 1 : Int32)
          rw [e21]
          have a20i : a20.toInt = lx96.toInt + 1 := by rw [← e21]; exact q_addI (x := lx96.toInt) (y := 1) rfl (by decide) (by omega) (by omega)
          have hv := fl_hv hm0 j2; exact ih _ _ _ _ hv.1 ⟨j - 1, by omega, hv.2, by omega, by omega, by omega⟩ ⟨by omega, by omega⟩
theorem T_FR_narrowed {x2 : Int64} {t0_0 : Int32} {t0_1 : Int32} {t0_2 : Int32} {t0_3 : Int32} {t0_4 : Int64} {t0_5 : Int32} {t0_6 : Int32} {t0_7 : Int64} {t0_8 : Int32} {t0_9 : Int64} {t0_10 : Int32}  : (S_FR_narrowed x2 t0_0 t0_1 t0_2 t0_3 t0_4 t0_5 t0_6 t0_7 t0_8 t0_9 t0_10) := by
  have e0 : (0 : Int32).toInt = 0 := rfl
  have e1 : (1 : Int32).toInt = 1 := rfl
  have eL0 : (0 : Int64).toInt = 0 := rfl
  unfold S_FR_narrowed
  have h1 := T_FR_open (x2 := x2) (x3 := (0 : Int32)) (t0_0 := (0 : Int32)) (t0_1 := t0_1) (t0_2 := t0_2) (t0_3 := t0_3) (t0_4 := t0_4) (t0_5 := t0_5) (t0_6 := t0_6) (t0_7 := t0_7) (t0_8 := t0_8) (t0_9 := t0_9) (t0_10 := t0_10) 
  generalize F_FR_open x2 (0 : Int32) (0 : Int32) t0_1 t0_2 t0_3 t0_4 t0_5 t0_6 t0_7 t0_8 t0_9 t0_10 = p53 at *
  unfold Q_FR_open at h1
  obtain ⟨h1a, h1b, h17, h18, h1f, h15⟩ := h1
  have op7 := h17
  have op8 := h18
  have opf := h1f
  have op5 := h15
  have opa := congrArg Int32.toInt h1b
  unfold S_FR_narrowed_c8
  by_cases g2 : (p53.2.2.1 : Int32) = (0 : Int32)
  ·
    rw [if_pos g2]
    have g2i : p53.2.2.1.toInt = 0 := q_eqI g2
    unfold S_FR_narrowed_J25
    by_cases g3 : ((F_FR_isFinite (p53.1 : Int32) (p53.2.1 : Int32) (p53.2.2.1 : Int32) (p53.2.2.2.1 : Int32) (p53.2.2.2.2.1 : Int64) (p53.2.2.2.2.2.1 : Int32) (p53.2.2.2.2.2.2.1 : Int32) (p53.2.2.2.2.2.2.2.1 : Int64) (p53.2.2.2.2.2.2.2.2.1 : Int32) (p53.2.2.2.2.2.2.2.2.2.1 : Int64) (p53.2.2.2.2.2.2.2.2.2.2 : Int32)) : Int32) = (0 : Int32)
    ·
      rw [if_pos g3]
      by_cases g4 : (lg_cmp (p53.2.2.2.2.1 : Int64) 0 : Int32) = (0 : Int32)
      ·
        rw [if_pos g4]
        have g4z := fl_lz g4
        exact trivial
      ·
        rw [if_neg g4]
        have g4z := fl_lnz g4
        exact trivial
    ·
      rw [if_neg g3]
      have fin := fl_fin g3
      exact vf_na1 _ _ _ _ _ (by omega) ⟨53, by decide, Int.lt_of_lt_of_le op7.2 (by decide), by omega, by decide, by omega⟩ ⟨by decide, by omega⟩
  ·
    rw [if_neg g2]
    have g2i : p53.2.2.1.toInt ≠ 0 := q_neI g2
    unfold S_FR_narrowed_J25
    by_cases g5 : ((F_FR_isFinite (p53.1 : Int32) (p53.2.1 : Int32) (p53.2.2.1 : Int32) (p53.2.2.2.1 : Int32) (p53.2.2.2.2.1 : Int64) (p53.2.2.2.2.2.1 : Int32) (p53.2.2.2.2.2.2.1 : Int32) (p53.2.2.2.2.2.2.2.1 : Int64) (p53.2.2.2.2.2.2.2.2.1 : Int32) (p53.2.2.2.2.2.2.2.2.2.1 : Int64) (p53.2.2.2.2.2.2.2.2.2.2 : Int32)) : Int32) = (0 : Int32)
    ·
      rw [if_pos g5]
      by_cases g6 : (lg_cmp (p53.2.2.2.2.1 : Int64) 0 : Int32) = (0 : Int32)
      ·
        rw [if_pos g6]
        have g6z := fl_lz g6
        exact trivial
      ·
        rw [if_neg g6]
        have g6z := fl_lnz g6
        exact trivial
    ·
      rw [if_neg g5]
      have fin := fl_fin g5
      exact vf_na1 _ _ _ _ _ (by omega) ⟨53, by decide, Int.lt_of_lt_of_le op7.2 (by decide), by omega, by decide, by omega⟩ ⟨by decide, by omega⟩
theorem fl_dv {m : Int64} {j : Nat} (h1 : 1 ≤ m.toInt) (h2 : m.toInt < 4503599627370496) (h : 4503599627370496 ≤ m.toInt * 2 ^ j) : 1 ≤ (m <<< ((1 : Int32).toInt64 &&& 63)).toInt ∧ 1 ≤ j ∧ 4503599627370496 ≤ (m <<< ((1 : Int32).toInt64 &&& 63)).toInt * 2 ^ (j - 1) := by
  rw [fl_shl1 (by omega) (by omega)]
  have j1 : 1 ≤ j := by
    by_cases c : j = 0
    · subst c; rw [Int.pow_zero] at h; omega
    · omega
  refine ⟨by omega, j1, ?_⟩
  have p : (2 : Int) ^ j = 2 ^ (j - 1) * 2 := by rw [← fl_pw, show j - 1 + 1 = j by omega]
  rw [p, ← Int.mul_assoc, Int.mul_right_comm] at h
  exact h
theorem vf_wi {x2 : Int64} {t0_0 : Int32} {t0_1 : Int32} {t0_2 : Int32} {t0_3 : Int32} {t0_4 : Int64} {t0_5 : Int32} {t0_6 : Int32} {t0_7 : Int64} {t0_8 : Int32} {t0_9 : Int64} {t0_10 : Int32} {lx21 : Int32} {p72 : (Int32 × Int32 × Int32 × Int32 × Int64 × Int32 × Int32 × Int64 × Int32 × Int64 × Int32)} {y38 : Int32} {y39 : Int32} {y40 : Int32} {y41 : Int32} {y42 : Int64} {y43 : Int32} {y44 : Int32} {y45 : Int64} {y46 : Int32} {y47 : Int64} {y48 : Int32} {lx90 : Int64}  : ∀ (n : Nat) (lx115 : Int32) (lx116 : Int64), (1 ≤ lx116.toInt) → (∃ j : Nat, j + 1 ≤ n ∧ 4503599627370496 ≤ lx116.toInt * 2 ^ j ∧ -2000 + (j : Int) ≤ lx115.toInt) → (lx115.toInt ≤ 1000) → (S_FR_widened_L98 x2 t0_0 t0_1 t0_2 t0_3 t0_4 t0_5 t0_6 t0_7 t0_8 t0_9 t0_10 lx21 p72 y38 y39 y40 y41 y42 y43 y44 y45 y46 y47 y48 lx90 n lx115 lx116) := by
  intro n
  induction n with
  | zero => intro lx115 lx116 h1 hj hk; obtain ⟨j, a, -⟩ := hj; omega
  | succ n ih =>
    intro lx115 lx116 h1 hj hk
    have e0 : (0 : Int32).toInt = 0 := rfl
    have e1 : (1 : Int32).toInt = 1 := rfl
    have eL0 : (0 : Int64).toInt = 0 := rfl
    have e52 : (4503599627370496 : Int64).toInt = 4503599627370496 := rfl
    have hk2 : -2000 ≤ lx115.toInt := by obtain ⟨j, a, b, c⟩ := hj; omega
    rw [S_FR_widened_L98.eq_2]
    by_cases g1 : (0 : Int32) ≤ (lg_cmp lx116 4503599627370496 : Int32)
    ·
      rw [if_pos g1]
      have g1l := g_lc5 g1
      exact trivial
    ·
      rw [if_neg g1]
      have g1l := g_lc6 g1
      obtain ⟨a2, e3⟩ := q_nm (lx115 + (-1) : Int32)
      rw [e3]
      have a2i : a2.toInt = lx115.toInt + (-1) := by rw [← e3]; exact q_addI (x := lx115.toInt) (y := (-1)) rfl (by decide) (by omega) (by omega)
      obtain ⟨j, a, b, c⟩ := hj; have dv := fl_dv h1 (by omega) b; exact ih _ _ dv.1 ⟨j - 1, by omega, dv.2.2, by omega⟩ (by omega)
theorem fl_wi {v : Int} (h : 1 ≤ v) : 4503599627370496 ≤ v * 2 ^ 52 := by
  have e : (2 : Int) ^ 52 = 4503599627370496 := by decide
  rw [e]; omega
theorem T_FR_widened {x2 : Int64} {t0_0 : Int32} {t0_1 : Int32} {t0_2 : Int32} {t0_3 : Int32} {t0_4 : Int64} {t0_5 : Int32} {t0_6 : Int32} {t0_7 : Int64} {t0_8 : Int32} {t0_9 : Int64} {t0_10 : Int32}  : (S_FR_widened x2 t0_0 t0_1 t0_2 t0_3 t0_4 t0_5 t0_6 t0_7 t0_8 t0_9 t0_10) := by
  have e0 : (0 : Int32).toInt = 0 := rfl
  have e1 : (1 : Int32).toInt = 1 := rfl
  have eL0 : (0 : Int64).toInt = 0 := rfl
  unfold S_FR_widened
  by_cases g1 : ((F_FR_isWrong x2 (1 : Int32)) : Int32) = (0 : Int32)
  ·
    rw [if_pos g1]
    unfold S_FR_widened_J14
    have g2 : ((0 : Int32) ≤ (0 : Int32)) := (by decide)
    rw [if_pos g2]
    have h3 := T_FR_open (x2 := x2) (x3 := (1 : Int32)) (t0_0 := (0 : Int32)) (t0_1 := t0_1) (t0_2 := t0_2) (t0_3 := t0_3) (t0_4 := t0_4) (t0_5 := t0_5) (t0_6 := t0_6) (t0_7 := t0_7) (t0_8 := t0_8) (t0_9 := t0_9) (t0_10 := t0_10) 
    generalize F_FR_open x2 (1 : Int32) (0 : Int32) t0_1 t0_2 t0_3 t0_4 t0_5 t0_6 t0_7 t0_8 t0_9 t0_10 = p72 at *
    unfold Q_FR_open at h3
    obtain ⟨h3a, h3b, h37, h38, h3f, h35⟩ := h3
    have op7 := h37
    have op8 := h38
    have opf := h3f
    have op5 := h35
    have opa := congrArg Int32.toInt h3b
    unfold S_FR_widened_c29
    by_cases g4 : (p72.2.2.1 : Int32) = (0 : Int32)
    ·
      rw [if_pos g4]
      have g4i : p72.2.2.1.toInt = 0 := q_eqI g4
      unfold S_FR_widened_J46
      by_cases g5 : ((F_FR_isFinite (p72.1 : Int32) (p72.2.1 : Int32) (p72.2.2.1 : Int32) (p72.2.2.2.1 : Int32) (p72.2.2.2.2.1 : Int64) (p72.2.2.2.2.2.1 : Int32) (p72.2.2.2.2.2.2.1 : Int32) (p72.2.2.2.2.2.2.2.1 : Int64) (p72.2.2.2.2.2.2.2.2.1 : Int32) (p72.2.2.2.2.2.2.2.2.2.1 : Int64) (p72.2.2.2.2.2.2.2.2.2.2 : Int32)) : Int32) = (0 : Int32)
      ·
        rw [if_pos g5]
        by_cases g6 : (lg_cmp (p72.2.2.2.2.1 : Int64) 0 : Int32) = (0 : Int32)
        ·
          rw [if_pos g6]
          have g6z := fl_lz g6
          exact trivial
        ·
          rw [if_neg g6]
          have g6z := fl_lnz g6
          exact trivial
      ·
        rw [if_neg g5]
        have fin := fl_fin g5
        by_cases g7 : (lg_cmp (p72.2.2.2.2.2.2.2.1 : Int64) 0 : Int32) = (0 : Int32)
        ·
          rw [if_pos g7]
          have g7z := fl_lz g7
          exact trivial
        ·
          rw [if_neg g7]
          have g7z := fl_lnz g7
          exact vf_wi _ _ _ (by omega) ⟨52, by decide, fl_wi (by omega), by omega⟩ (by omega)
    ·
      rw [if_neg g4]
      have g4i : p72.2.2.1.toInt ≠ 0 := q_neI g4
      unfold S_FR_widened_J46
      by_cases g8 : ((F_FR_isFinite (p72.1 : Int32) (p72.2.1 : Int32) (p72.2.2.1 : Int32) (p72.2.2.2.1 : Int32) (p72.2.2.2.2.1 : Int64) (p72.2.2.2.2.2.1 : Int32) (p72.2.2.2.2.2.2.1 : Int32) (p72.2.2.2.2.2.2.2.1 : Int64) (p72.2.2.2.2.2.2.2.2.1 : Int32) (p72.2.2.2.2.2.2.2.2.2.1 : Int64) (p72.2.2.2.2.2.2.2.2.2.2 : Int32)) : Int32) = (0 : Int32)
      ·
        rw [if_pos g8]
        by_cases g9 : (lg_cmp (p72.2.2.2.2.1 : Int64) 0 : Int32) = (0 : Int32)
        ·
          rw [if_pos g9]
          have g9z := fl_lz g9
          exact trivial
        ·
          rw [if_neg g9]
          have g9z := fl_lnz g9
          exact trivial
      ·
        rw [if_neg g8]
        have fin := fl_fin g8
        by_cases g10 : (lg_cmp (p72.2.2.2.2.2.2.2.1 : Int64) 0 : Int32) = (0 : Int32)
        ·
          rw [if_pos g10]
          have g10z := fl_lz g10
          exact trivial
        ·
          rw [if_neg g10]
          have g10z := fl_lnz g10
          exact vf_wi _ _ _ (by omega) ⟨52, by decide, fl_wi (by omega), by omega⟩ (by omega)
  ·
    rw [if_neg g1]
    unfold S_FR_widened_J14
    have g11 : ¬ ((1 : Int32) ≤ (0 : Int32)) := (by decide)
    rw [if_neg g11]
    exact trivial

/-! FloatRows: the point in what fixed writes; where narrowed lies -/
def fxK (f : Nat → Int32) (n : Int32) : Prop := ∃ k : Nat, (k : Int) < n.toInt ∧ f k = 46
theorem fxK.put {f : Nat → Int32} {n m x : Int32} (h : fxK f n) (h0 : 0 ≤ n.toInt) (e : m.toInt = n.toInt + 1) : fxK (upd f n.toNatClampNeg x) m := by
  obtain ⟨k, a, b⟩ := h
  have c := q_clI (i := n) rfl h0
  exact ⟨k, by omega, by rw [v_ne (by omega)]; exact b⟩
theorem fxK.new {f : Nat → Int32} {n m : Int32} (h0 : 0 ≤ n.toInt) (e : m.toInt = n.toInt + 1) : fxK (upd f n.toNatClampNeg 46) m := by
  have c := q_clI (i := n) rfl h0
  exact ⟨n.toNatClampNeg, by omega, v_eq⟩
def fxE (b : Int64) (nar : Int32) : Int := if nar = 0 then ((b.toBitVec.toNat / 4503599627370496 % 2048 : Nat) : Int) else ((b.toBitVec.toNat / 8388608 % 256 : Nat) : Int)
def fxM (nar : Int32) : Int := if nar = 0 then 2047 else 255
theorem fx_ush {x : Int64} {c : Int32} {k : Nat} (hc : ((c.toInt64.toUInt64 &&& Int64.toUInt64 63).toBitVec % 64).toNat = k) : ((x.toUInt64 >>> (c.toInt64.toUInt64 &&& Int64.toUInt64 63)).toInt64).toBitVec.toNat = x.toBitVec.toNat / 2 ^ k := by
  show (x.toUInt64 >>> (c.toInt64.toUInt64 &&& Int64.toUInt64 63)).toBitVec.toNat = _
  rw [UInt64.toBitVec_shiftRight, BitVec.ushiftRight_eq', BitVec.toNat_ushiftRight, hc, Nat.shiftRight_eq_div_pow]
  rfl
theorem fx_and {y : Int64} {n k : Nat} {m : Int32} (hy : y.toBitVec.toNat = n) (hk : k ≤ 16) (hm : m.toBitVec.toNat = 2 ^ k - 1) : ((y.toInt32) &&& m : Int32).toInt = ((n % 2 ^ k : Nat) : Int) := by
  have hp : 2 ^ k ≤ 2 ^ 16 := Nat.pow_le_pow_right (by decide) hk
  have hlt : n % 2 ^ k < 2 ^ k := Nat.mod_lt _ (Nat.two_pow_pos k)
  refine s_of ?_ (by omega)
  rw [Int32.toBitVec_and, BitVec.toNat_and, hm, Nat.and_two_pow_sub_one_eq_mod]
  have e : (y.toInt32).toBitVec.toNat = n % 2 ^ 32 := by
    rw [Int64.toBitVec_toInt32, BitVec.signExtend_eq_setWidth_of_le _ (by decide), BitVec.toNat_setWidth, hy]
  rw [e]
  exact Nat.mod_mod_of_dvd n (Nat.pow_dvd_pow 2 (by omega))
theorem fx_e52 {x : Int64} : ((((x.toUInt64 >>> ((52 : Int32).toInt64.toUInt64 &&& Int64.toUInt64 63)).toInt64).toInt32) &&& 2047 : Int32).toInt = ((x.toBitVec.toNat / 4503599627370496 % 2048 : Nat) : Int) := fx_and (k := 11) (fx_ush (k := 52) (by decide)) (by decide) (by decide)
theorem fx_e23 {x : Int64} : ((((x.toUInt64 >>> ((23 : Int32).toInt64.toUInt64 &&& Int64.toUInt64 63)).toInt64).toInt32) &&& 255 : Int32).toInt = ((x.toBitVec.toNat / 8388608 % 256 : Nat) : Int) := fx_and (k := 8) (fx_ush (k := 23) (by decide)) (by decide) (by decide)
theorem fx_openA {c0 c1 c2 c3 : Int32} {c4 : Int64} {c5 c6 : Int32} {c7 : Int64} {c8 : Int32} {c9 : Int64} {c10 : Int32} {b : Int64} {nar t0 t1 : Int32} (h0 : c3.toInt = fxE b nar) (h1 : c6.toInt = fxM nar) (h2 : c1 = t1) (h3 : c0 = t0) : (fun (p : Int32 × Int32 × Int32 × Int32 × Int64 × Int32 × Int32 × Int64 × Int32 × Int64 × Int32) => p.2.2.2.1.toInt = fxE b nar ∧ p.2.2.2.2.2.2.1.toInt = fxM nar ∧ p.2.1 = t1 ∧ p.1 = t0) (c0, c1, c2, c3, c4, c5, c6, c7, c8, c9, c10) := ⟨h0, h1, h2, h3⟩
def Q_FX_open (b : Int64) (nar t0 t1 : Int32) (p : Int32 × Int32 × Int32 × Int32 × Int64 × Int32 × Int32 × Int64 × Int32 × Int64 × Int32) : Prop := p.2.2.2.1.toInt = fxE b nar ∧ p.2.2.2.2.2.2.1.toInt = fxM nar ∧ p.2.1 = t1 ∧ p.1 = t0
theorem T_FX_open {x2 : Int64} {x3 : Int32} {t0_0 : Int32} {t0_1 : Int32} {t0_2 : Int32} {t0_3 : Int32} {t0_4 : Int64} {t0_5 : Int32} {t0_6 : Int32} {t0_7 : Int64} {t0_8 : Int32} {t0_9 : Int64} {t0_10 : Int32}  : Q_FX_open x2 x3 t0_0 t0_1 (F_FR_open x2 x3 t0_0 t0_1 t0_2 t0_3 t0_4 t0_5 t0_6 t0_7 t0_8 t0_9 t0_10) := by
  have e0 : (0 : Int32).toInt = 0 := rfl
  have e1 : (1 : Int32).toInt = 1 := rfl
  have eL0 : (0 : Int64).toInt = 0 := rfl
  unfold F_FR_open
  by_cases g1 : x3 = (0 : Int32)
  ·
    rw [if_pos g1]
    have gx := g1
    unfold F_FR_open_J12
    rw [if_pos g1]
    unfold F_FR_open_J29
    rw [if_pos g1]
    unfold F_FR_open_J45
    by_cases g2 : (lg_cmp (((x2.toUInt64 >>> ((63 : Int32).toInt64.toUInt64 &&& Int64.toUInt64 63)).toInt64 : Int64) &&& 1 : Int64) 1 : Int32) = (0 : Int32)
    ·
      rw [if_pos g2]
      unfold F_FR_open_J58
      by_cases g3 : ((((x2.toUInt64 >>> ((52 : Int32).toInt64.toUInt64 &&& Int64.toUInt64 63)).toInt64 : Int64).toInt32 : Int32) &&& (2047 : Int32) : Int32) = (0 : Int32)
      ·
        rw [if_pos g3]
        obtain ⟨a72, e4⟩ := q_nm (((((x2.toUInt64 >>> ((52 : Int32).toInt64.toUInt64 &&& Int64.toUInt64 63)).toInt64 : Int64).toInt32 : Int32) &&& (2047 : Int32) : Int32) : Int32)
        rw [e4]
        have a72E : a72.toInt = fxE x2 x3 := by rw [← e4]; unfold fxE; rw [if_pos gx]; exact fx_e52
        unfold F_FR_open_J117
        by_cases g5 : a72 = (0 : Int32)
        ·
          rw [if_pos g5]
          rw [if_pos g1]
          exact fx_openA a72E (by unfold fxM; rw [if_pos gx]; rfl) rfl rfl
        ·
          rw [if_neg g5]
          rw [if_pos g1]
          exact fx_openA a72E (by unfold fxM; rw [if_pos gx]; rfl) rfl rfl
      ·
        rw [if_neg g3]
        obtain ⟨a72, e6⟩ := q_nm (((((x2.toUInt64 >>> ((52 : Int32).toInt64.toUInt64 &&& Int64.toUInt64 63)).toInt64 : Int64).toInt32 : Int32) &&& (2047 : Int32) : Int32) : Int32)
        rw [e6]
        have a72E : a72.toInt = fxE x2 x3 := by rw [← e6]; unfold fxE; rw [if_pos gx]; exact fx_e52
        unfold F_FR_open_J117
        by_cases g7 : a72 = (0 : Int32)
        ·
          rw [if_pos g7]
          rw [if_pos g1]
          exact fx_openA a72E (by unfold fxM; rw [if_pos gx]; rfl) rfl rfl
        ·
          rw [if_neg g7]
          rw [if_pos g1]
          exact fx_openA a72E (by unfold fxM; rw [if_pos gx]; rfl) rfl rfl
    ·
      rw [if_neg g2]
      unfold F_FR_open_J58
      by_cases g8 : ((((x2.toUInt64 >>> ((52 : Int32).toInt64.toUInt64 &&& Int64.toUInt64 63)).toInt64 : Int64).toInt32 : Int32) &&& (2047 : Int32) : Int32) = (0 : Int32)
      ·
        rw [if_pos g8]
        obtain ⟨a72, e9⟩ := q_nm (((((x2.toUInt64 >>> ((52 : Int32).toInt64.toUInt64 &&& Int64.toUInt64 63)).toInt64 : Int64).toInt32 : Int32) &&& (2047 : Int32) : Int32) : Int32)
        rw [e9]
        have a72E : a72.toInt = fxE x2 x3 := by rw [← e9]; unfold fxE; rw [if_pos gx]; exact fx_e52
        unfold F_FR_open_J117
        by_cases g10 : a72 = (0 : Int32)
        ·
          rw [if_pos g10]
          rw [if_pos g1]
          exact fx_openA a72E (by unfold fxM; rw [if_pos gx]; rfl) rfl rfl
        ·
          rw [if_neg g10]
          rw [if_pos g1]
          exact fx_openA a72E (by unfold fxM; rw [if_pos gx]; rfl) rfl rfl
      ·
        rw [if_neg g8]
        obtain ⟨a72, e11⟩ := q_nm (((((x2.toUInt64 >>> ((52 : Int32).toInt64.toUInt64 &&& Int64.toUInt64 63)).toInt64 : Int64).toInt32 : Int32) &&& (2047 : Int32) : Int32) : Int32)
        rw [e11]
        have a72E : a72.toInt = fxE x2 x3 := by rw [← e11]; unfold fxE; rw [if_pos gx]; exact fx_e52
        unfold F_FR_open_J117
        by_cases g12 : a72 = (0 : Int32)
        ·
          rw [if_pos g12]
          rw [if_pos g1]
          exact fx_openA a72E (by unfold fxM; rw [if_pos gx]; rfl) rfl rfl
        ·
          rw [if_neg g12]
          rw [if_pos g1]
          exact fx_openA a72E (by unfold fxM; rw [if_pos gx]; rfl) rfl rfl
  ·
    rw [if_neg g1]
    have gx := g1
    unfold F_FR_open_J12
    rw [if_neg g1]
    unfold F_FR_open_J29
    rw [if_neg g1]
    unfold F_FR_open_J45
    by_cases g13 : (lg_cmp (((x2.toUInt64 >>> ((31 : Int32).toInt64.toUInt64 &&& Int64.toUInt64 63)).toInt64 : Int64) &&& 1 : Int64) 1 : Int32) = (0 : Int32)
    ·
      rw [if_pos g13]
      unfold F_FR_open_J58
      by_cases g14 : ((((x2.toUInt64 >>> ((23 : Int32).toInt64.toUInt64 &&& Int64.toUInt64 63)).toInt64 : Int64).toInt32 : Int32) &&& (255 : Int32) : Int32) = (0 : Int32)
      ·
        rw [if_pos g14]
        obtain ⟨a72, e15⟩ := q_nm (((((x2.toUInt64 >>> ((23 : Int32).toInt64.toUInt64 &&& Int64.toUInt64 63)).toInt64 : Int64).toInt32 : Int32) &&& (255 : Int32) : Int32) : Int32)
        rw [e15]
        have a72E : a72.toInt = fxE x2 x3 := by rw [← e15]; unfold fxE; rw [if_neg gx]; exact fx_e23
        unfold F_FR_open_J117
        by_cases g16 : a72 = (0 : Int32)
        ·
          rw [if_pos g16]
          rw [if_neg g1]
          exact fx_openA a72E (by unfold fxM; rw [if_neg gx]; rfl) rfl rfl
        ·
          rw [if_neg g16]
          rw [if_neg g1]
          exact fx_openA a72E (by unfold fxM; rw [if_neg gx]; rfl) rfl rfl
      ·
        rw [if_neg g14]
        obtain ⟨a72, e17⟩ := q_nm (((((x2.toUInt64 >>> ((23 : Int32).toInt64.toUInt64 &&& Int64.toUInt64 63)).toInt64 : Int64).toInt32 : Int32) &&& (255 : Int32) : Int32) : Int32)
        rw [e17]
        have a72E : a72.toInt = fxE x2 x3 := by rw [← e17]; unfold fxE; rw [if_neg gx]; exact fx_e23
        unfold F_FR_open_J117
        by_cases g18 : a72 = (0 : Int32)
        ·
          rw [if_pos g18]
          rw [if_neg g1]
          exact fx_openA a72E (by unfold fxM; rw [if_neg gx]; rfl) rfl rfl
        ·
          rw [if_neg g18]
          rw [if_neg g1]
          exact fx_openA a72E (by unfold fxM; rw [if_neg gx]; rfl) rfl rfl
    ·
      rw [if_neg g13]
      unfold F_FR_open_J58
      by_cases g19 : ((((x2.toUInt64 >>> ((23 : Int32).toInt64.toUInt64 &&& Int64.toUInt64 63)).toInt64 : Int64).toInt32 : Int32) &&& (255 : Int32) : Int32) = (0 : Int32)
      ·
        rw [if_pos g19]
        obtain ⟨a72, e20⟩ := q_nm (((((x2.toUInt64 >>> ((23 : Int32).toInt64.toUInt64 &&& Int64.toUInt64 63)).toInt64 : Int64).toInt32 : Int32) &&& (255 : Int32) : Int32) : Int32)
        rw [e20]
        have a72E : a72.toInt = fxE x2 x3 := by rw [← e20]; unfold fxE; rw [if_neg gx]; exact fx_e23
        unfold F_FR_open_J117
        by_cases g21 : a72 = (0 : Int32)
        ·
          rw [if_pos g21]
          rw [if_neg g1]
          exact fx_openA a72E (by unfold fxM; rw [if_neg gx]; rfl) rfl rfl
        ·
          rw [if_neg g21]
          rw [if_neg g1]
          exact fx_openA a72E (by unfold fxM; rw [if_neg gx]; rfl) rfl rfl
      ·
        rw [if_neg g19]
        obtain ⟨a72, e22⟩ := q_nm (((((x2.toUInt64 >>> ((23 : Int32).toInt64.toUInt64 &&& Int64.toUInt64 63)).toInt64 : Int64).toInt32 : Int32) &&& (255 : Int32) : Int32) : Int32)
        rw [e22]
        have a72E : a72.toInt = fxE x2 x3 := by rw [← e22]; unfold fxE; rw [if_neg gx]; exact fx_e23
        unfold F_FR_open_J117
        by_cases g23 : a72 = (0 : Int32)
        ·
          rw [if_pos g23]
          rw [if_neg g1]
          exact fx_openA a72E (by unfold fxM; rw [if_neg gx]; rfl) rfl rfl
        ·
          rw [if_neg g23]
          rw [if_neg g1]
          exact fx_openA a72E (by unfold fxM; rw [if_neg gx]; rfl) rfl rfl
def Q_FX_add (x2 t0_1 : Int32) (t1_0 : Nat → Int32) (p : Int32 × Int32 × Int32 × Int32 × Int64 × Int32 × Int32 × Int64 × Int32 × Int64 × Int32 × (Nat → Int32)) : Prop := p.2.1.toInt = t0_1.toInt + 1 ∧ p.2.2.2.2.2.2.2.2.2.2.2 = upd t1_0 t0_1.toNatClampNeg x2
theorem T_FX_add {x2 : Int32} {t0_0 : Int32} {t0_1 : Int32} {t0_2 : Int32} {t0_3 : Int32} {t0_4 : Int64} {t0_5 : Int32} {t0_6 : Int32} {t0_7 : Int64} {t0_8 : Int32} {t0_9 : Int64} {t0_10 : Int32} {t1_0 : (Nat → Int32)} (hL : 0 ≤ t0_1.toInt ∧ t0_1.toInt ≤ 100000) : Q_FX_add x2 t0_1 t1_0 (F_FR_add x2 t0_0 t0_1 t0_2 t0_3 t0_4 t0_5 t0_6 t0_7 t0_8 t0_9 t0_10 t1_0) := by
  have e0 : (0 : Int32).toInt = 0 := rfl
  have e1 : (1 : Int32).toInt = 1 := rfl
  have eL0 : (0 : Int64).toInt = 0 := rfl
  unfold F_FR_add
  exact ⟨q_addI (y := 1) rfl (by decide) (by omega) (by omega), rfl⟩
def Q_FX_begin (p : Int32 × Int32 × Int32 × Int32 × Int64 × Int32 × Int32 × Int64 × Int32 × Int64 × Int32 × (Nat → Int32)) : Prop := 0 ≤ p.2.1.toInt ∧ p.2.1.toInt ≤ 1
theorem T_FX_begin {t0_0 : Int32} {t0_1 : Int32} {t0_2 : Int32} {t0_3 : Int32} {t0_4 : Int64} {t0_5 : Int32} {t0_6 : Int32} {t0_7 : Int64} {t0_8 : Int32} {t0_9 : Int64} {t0_10 : Int32} {t1_0 : (Nat → Int32)}  : Q_FX_begin (F_FR_begin t0_0 t0_1 t0_2 t0_3 t0_4 t0_5 t0_6 t0_7 t0_8 t0_9 t0_10 t1_0) := by
  have e0 : (0 : Int32).toInt = 0 := rfl
  have e1 : (1 : Int32).toInt = 1 := rfl
  have eL0 : (0 : Int64).toInt = 0 := rfl
  unfold F_FR_begin
  by_cases g1 : t0_2 = (0 : Int32)
  ·
    rw [if_pos g1]
    have g1i : t0_2.toInt = 0 := q_eqI g1
    exact ⟨by first | decide | (dsimp only; omega), by first | decide | (dsimp only; omega)⟩
  ·
    rw [if_neg g1]
    have g1i : t0_2.toInt ≠ 0 := q_neI g1
    have h2 := T_FX_add (x2 := (45 : Int32)) (t0_0 := t0_0) (t0_1 := (0 : Int32)) (t0_2 := t0_2) (t0_3 := t0_3) (t0_4 := t0_4) (t0_5 := t0_5) (t0_6 := t0_6) (t0_7 := t0_7) (t0_8 := t0_8) (t0_9 := t0_9) (t0_10 := t0_10) (t1_0 := t1_0) ⟨by first | omega | decide, by first | omega | decide⟩
    generalize F_FR_add (45 : Int32) t0_0 (0 : Int32) t0_2 t0_3 t0_4 t0_5 t0_6 t0_7 t0_8 t0_9 t0_10 t1_0 = p65 at *
    unfold Q_FX_add at h2
    have ap65 := h2.2
    unfold F_FR_begin_c15
    exact ⟨by first | decide | (dsimp only; omega), by first | decide | (dsimp only; omega)⟩
def Q_FX_fixed (p : Int32 × Int32 × Int32 × Int32 × Int32 × Int64 × Int32 × Int32 × Int64 × Int32 × Int64 × Int32 × (Nat → Int32) × (Nat → Int32) × (Nat → Int32) × (Nat → Int32) × (Nat → Int32)) : Prop := fxK p.2.2.2.2.2.2.2.2.2.2.2.2.2.2.2.2 p.1
theorem vx_fx3 {K_F_FR_fixed_L130 : Int32 → (Int32 × Int32 × Int32 × Int32 × Int32 × Int64 × Int32 × Int32 × Int64 × Int32 × Int64 × Int32 × (Nat → Int32) × (Nat → Int32) × (Nat → Int32) × (Nat → Int32) × (Nat → Int32))} {K_F_FR_fixed_L162 : Int32 → Int32 → Int32 → Int32 → Int32 → Int64 → Int32 → Int32 → Int64 → Int32 → Int64 → Int32 → (Nat → Int32) → (Int32 × Int32 × Int32 × Int32 × Int32 × Int64 × Int32 × Int32 × Int64 × Int32 × Int64 × Int32 × (Nat → Int32) × (Nat → Int32) × (Nat → Int32) × (Nat → Int32) × (Nat → Int32))} {x2 : Int64} {x3 : Int32} {x4 : Int32} {x5 : Int32} {t0_0 : Int32} {t0_1 : Int32} {t0_2 : Int32} {t0_3 : Int32} {t0_4 : Int64} {t0_5 : Int32} {t0_6 : Int32} {t0_7 : Int64} {t0_8 : Int32} {t0_9 : Int64} {t0_10 : Int32} {t1_0 : (Nat → Int32)} {t2_0 : (Nat → Int32)} {t3_0 : (Nat → Int32)} {t4_0 : (Nat → Int32)} {t5_0 : (Nat → Int32)} {lx29 : Int32} {p81 : (Int32 × Int32 × Int32 × Int32 × Int64 × Int32 × Int32 × Int64 × Int32 × Int64 × Int32)} {y47 : Int32} {y48 : Int32} {y49 : Int32} {y50 : Int32} {y51 : Int64} {y52 : Int32} {y53 : Int32} {y54 : Int64} {y55 : Int32} {y56 : Int64} {y57 : Int32} {lx106 : Int32} {p136 : ((Nat → Int32) × (Nat → Int32) × (Nat → Int32))} {f128 : (Nat → Int32)} {f130 : (Nat → Int32)} {f132 : (Nat → Int32)} {lx146 : Int32} {f170 : (Nat → Int32)} {p216 : (Int32 × Int32 × Int32 × Int32 × Int64 × Int32 × Int32 × Int64 × Int32 × Int64 × Int32 × (Nat → Int32))} {y179 : Int32} {y180 : Int32} {y181 : Int32} {y182 : Int32} {y183 : Int64} {y184 : Int32} {y185 : Int32} {y186 : Int64} {y187 : Int32} {y188 : Int64} {y189 : Int32} {f190 : (Nat → Int32)} {lx236 : Int32} {lx261 : Int32} {lx262 : Int32} {lx263 : Int32} {lx264 : Int32} {lx265 : Int32} {lx266 : Int64} {lx267 : Int32} {lx268 : Int32} {lx269 : Int64} {lx270 : Int32} {lx271 : Int64} {lx272 : Int32} {lx273 : (Nat → Int32)} {lx316 : Int32} {lx317 : Int32} {lx318 : Int32} {lx319 : Int32} {lx320 : Int64} {lx321 : Int32} {lx322 : Int32} {lx323 : Int64} {lx324 : Int32} {lx325 : Int64} {lx326 : Int32} {lx327 : (Nat → Int32)} (hx4 : 1 ≤ x4.toInt ∧ x4.toInt ≤ 1100)  : ∀ (n : Nat) (lx364 : Int32) (lx365 : Int32) (lx366 : Int32) (lx367 : Int32) (lx368 : Int32) (lx369 : Int64) (lx370 : Int32) (lx371 : Int32) (lx372 : Int64) (lx373 : Int32) (lx374 : Int64) (lx375 : Int32) (lx376 : (Nat → Int32)), (-x4.toInt - 1 ≤ lx364.toInt ∧ lx364.toInt ≤ -1) → (1897 - lx366.toInt < (n : Int)) → (0 ≤ lx366.toInt ∧ lx366.toInt + lx364.toInt ≤ 329) → (fxK lx376 lx366) → Q_FX_fixed (F_FR_fixed_L200 K_F_FR_fixed_L130 K_F_FR_fixed_L162 x2 x3 x4 x5 t0_0 t0_1 t0_2 t0_3 t0_4 t0_5 t0_6 t0_7 t0_8 t0_9 t0_10 t1_0 t2_0 t3_0 t4_0 t5_0 lx29 p81 y47 y48 y49 y50 y51 y52 y53 y54 y55 y56 y57 lx106 p136 f128 f130 f132 lx146 f170 p216 y179 y180 y181 y182 y183 y184 y185 y186 y187 y188 y189 f190 lx236 lx261 lx262 lx263 lx264 lx265 lx266 lx267 lx268 lx269 lx270 lx271 lx272 lx273 lx316 lx317 lx318 lx319 lx320 lx321 lx322 lx323 lx324 lx325 lx326 lx327 n lx364 lx365 lx366 lx367 lx368 lx369 lx370 lx371 lx372 lx373 lx374 lx375 lx376) := by
  intro n
  induction n with
  | zero => intro lx364 lx365 lx366 lx367 lx368 lx369 lx370 lx371 lx372 lx373 lx374 lx375 lx376 h0 hm hs hk; exact absurd (show False by omega) id
  | succ n ih =>
    intro lx364 lx365 lx366 lx367 lx368 lx369 lx370 lx371 lx372 lx373 lx374 lx375 lx376 h0 hm hs hk
    have e0 : (0 : Int32).toInt = 0 := rfl
    have e1 : (1 : Int32).toInt = 1 := rfl
    have eL0 : (0 : Int64).toInt = 0 := rfl
    rw [F_FR_fixed_L200.eq_2]
    by_cases g1 : lx364 < (-x4 : Int32)
    ·
      rw [if_pos g1]
      exact hk
    ·
      rw [if_neg g1]
      have g1i := fl_ng2 ⟨by omega, by omega⟩ g1
      have h2 := T_FX_add (x2 := (48 + ((F_FR_figureAt lx364 lx365 lx366 lx367 lx368 lx369 lx370 lx371 lx372 lx373 lx374 lx375 f170) : Int32) : Int32)) (t0_0 := lx365) (t0_1 := lx366) (t0_2 := lx367) (t0_3 := lx368) (t0_4 := lx369) (t0_5 := lx370) (t0_6 := lx371) (t0_7 := lx372) (t0_8 := lx373) (t0_9 := lx374) (t0_10 := lx375) (t1_0 := lx376) ⟨by first | omega | decide, by first | omega | decide⟩
      generalize F_FR_add (48 + ((F_FR_figureAt lx364 lx365 lx366 lx367 lx368 lx369 lx370 lx371 lx372 lx373 lx374 lx375 f170) : Int32) : Int32) lx365 lx366 lx367 lx368 lx369 lx370 lx371 lx372 lx373 lx374 lx375 lx376 = p467 at *
      unfold Q_FX_add at h2
      have ap467 := h2.2
      unfold F_FR_fixed_c218
      obtain ⟨a3, e4⟩ := q_nm (lx364 + (-1) : Int32)
      rw [e4]
      have a3i : a3.toInt = lx364.toInt + (-1) := by rw [← e4]; exact q_addI (x := lx364.toInt) (y := (-1)) rfl (by decide) (by omega) (by omega)
      exact ih _ _ _ _ _ _ _ _ _ _ _ _ _ ⟨by omega, by omega⟩ (by omega) ⟨by omega, by omega⟩ (by rw [ap467]; exact hk.put hs.1 (by omega))
theorem vx_fx2 {K_F_FR_fixed_L130 : Int32 → (Int32 × Int32 × Int32 × Int32 × Int32 × Int64 × Int32 × Int32 × Int64 × Int32 × Int64 × Int32 × (Nat → Int32) × (Nat → Int32) × (Nat → Int32) × (Nat → Int32) × (Nat → Int32))} {x2 : Int64} {x3 : Int32} {x4 : Int32} {x5 : Int32} {t0_0 : Int32} {t0_1 : Int32} {t0_2 : Int32} {t0_3 : Int32} {t0_4 : Int64} {t0_5 : Int32} {t0_6 : Int32} {t0_7 : Int64} {t0_8 : Int32} {t0_9 : Int64} {t0_10 : Int32} {t1_0 : (Nat → Int32)} {t2_0 : (Nat → Int32)} {t3_0 : (Nat → Int32)} {t4_0 : (Nat → Int32)} {t5_0 : (Nat → Int32)} {lx29 : Int32} {p81 : (Int32 × Int32 × Int32 × Int32 × Int64 × Int32 × Int32 × Int64 × Int32 × Int64 × Int32)} {y47 : Int32} {y48 : Int32} {y49 : Int32} {y50 : Int32} {y51 : Int64} {y52 : Int32} {y53 : Int32} {y54 : Int64} {y55 : Int32} {y56 : Int64} {y57 : Int32} {lx106 : Int32} {p136 : ((Nat → Int32) × (Nat → Int32) × (Nat → Int32))} {f128 : (Nat → Int32)} {f130 : (Nat → Int32)} {f132 : (Nat → Int32)} {lx146 : Int32} {f170 : (Nat → Int32)} {p216 : (Int32 × Int32 × Int32 × Int32 × Int64 × Int32 × Int32 × Int64 × Int32 × Int64 × Int32 × (Nat → Int32))} {y179 : Int32} {y180 : Int32} {y181 : Int32} {y182 : Int32} {y183 : Int64} {y184 : Int32} {y185 : Int32} {y186 : Int64} {y187 : Int32} {y188 : Int64} {y189 : Int32} {f190 : (Nat → Int32)} {lx236 : Int32} (hx4 : 1 ≤ x4.toInt ∧ x4.toInt ≤ 1100)  : ∀ (n : Nat) (lx261 : Int32) (lx262 : Int32) (lx263 : Int32) (lx264 : Int32) (lx265 : Int32) (lx266 : Int64) (lx267 : Int32) (lx268 : Int32) (lx269 : Int64) (lx270 : Int32) (lx271 : Int64) (lx272 : Int32) (lx273 : (Nat → Int32)), (-1 ≤ lx261.toInt ∧ lx261.toInt ≤ 323) → (lx261.toInt + 1074 < (n : Int)) → (0 ≤ lx263.toInt ∧ lx263.toInt + lx261.toInt ≤ 325) → Q_FX_fixed (F_FR_fixed_L162 K_F_FR_fixed_L130 x2 x3 x4 x5 t0_0 t0_1 t0_2 t0_3 t0_4 t0_5 t0_6 t0_7 t0_8 t0_9 t0_10 t1_0 t2_0 t3_0 t4_0 t5_0 lx29 p81 y47 y48 y49 y50 y51 y52 y53 y54 y55 y56 y57 lx106 p136 f128 f130 f132 lx146 f170 p216 y179 y180 y181 y182 y183 y184 y185 y186 y187 y188 y189 f190 lx236 n lx261 lx262 lx263 lx264 lx265 lx266 lx267 lx268 lx269 lx270 lx271 lx272 lx273) := by
  intro n
  induction n with
  | zero => intro lx261 lx262 lx263 lx264 lx265 lx266 lx267 lx268 lx269 lx270 lx271 lx272 lx273 h0 hm hs; exact absurd (show False by omega) id
  | succ n ih =>
    intro lx261 lx262 lx263 lx264 lx265 lx266 lx267 lx268 lx269 lx270 lx271 lx272 lx273 h0 hm hs
    have e0 : (0 : Int32).toInt = 0 := rfl
    have e1 : (1 : Int32).toInt = 1 := rfl
    have eL0 : (0 : Int64).toInt = 0 := rfl
    have em1 : (-1 : Int32).toInt = -1 := rfl
    rw [F_FR_fixed_L162.eq_2]
    by_cases g1 : lx261 < (0 : Int32)
    ·
      rw [if_pos g1]
      have g1i : lx261.toInt < 0 := q_ltI g1
      have g2 : ¬ (x4 ≤ (0 : Int32)) := (fun z => by have := q_leI z; omega)
      rw [if_neg g2]
      have h3 := T_FX_add (x2 := (46 : Int32)) (t0_0 := lx262) (t0_1 := lx263) (t0_2 := lx264) (t0_3 := lx265) (t0_4 := lx266) (t0_5 := lx267) (t0_6 := lx268) (t0_7 := lx269) (t0_8 := lx270) (t0_9 := lx271) (t0_10 := lx272) (t1_0 := lx273) ⟨by first | omega | decide, by first | omega | decide⟩
      generalize F_FR_add (46 : Int32) lx262 lx263 lx264 lx265 lx266 lx267 lx268 lx269 lx270 lx271 lx272 lx273 = p534 at *
      unfold Q_FX_add at h3
      have ap534 := h3.2
      unfold F_FR_fixed_c194
      unfold F_FR_fixed_J197
      exact vx_fx3 hx4 _ _ _ _ _ _ _ _ _ _ _ _ _ _ ⟨by first | omega | decide, by decide⟩ (by omega) ⟨by omega, by omega⟩ (by rw [ap534]; exact fxK.new hs.1 (by omega))
    ·
      rw [if_neg g1]
      have g1i : 0 ≤ lx261.toInt := q_nltI g1
      have h4 := T_FX_add (x2 := (48 + ((F_FR_figureAt lx261 lx262 lx263 lx264 lx265 lx266 lx267 lx268 lx269 lx270 lx271 lx272 f170) : Int32) : Int32)) (t0_0 := lx262) (t0_1 := lx263) (t0_2 := lx264) (t0_3 := lx265) (t0_4 := lx266) (t0_5 := lx267) (t0_6 := lx268) (t0_7 := lx269) (t0_8 := lx270) (t0_9 := lx271) (t0_10 := lx272) (t1_0 := lx273) ⟨by first | omega | decide, by first | omega | decide⟩
      generalize F_FR_add (48 + ((F_FR_figureAt lx261 lx262 lx263 lx264 lx265 lx266 lx267 lx268 lx269 lx270 lx271 lx272 f170) : Int32) : Int32) lx262 lx263 lx264 lx265 lx266 lx267 lx268 lx269 lx270 lx271 lx272 lx273 = p604 at *
      unfold Q_FX_add at h4
      have ap604 := h4.2
      unfold F_FR_fixed_c177
      obtain ⟨a5, e6⟩ := q_nm (lx261 + (-1) : Int32)
      rw [e6]
      have a5i : a5.toInt = lx261.toInt + (-1) := by rw [← e6]; exact q_addI (x := lx261.toInt) (y := (-1)) rfl (by decide) (by omega) (by omega)
      exact ih _ _ _ _ _ _ _ _ _ _ _ _ _ ⟨by omega, by omega⟩ (by omega) ⟨by omega, by omega⟩
theorem vx_fx1 {x2 : Int64} {x3 : Int32} {x4 : Int32} {x5 : Int32} {t0_0 : Int32} {t0_1 : Int32} {t0_2 : Int32} {t0_3 : Int32} {t0_4 : Int64} {t0_5 : Int32} {t0_6 : Int32} {t0_7 : Int64} {t0_8 : Int32} {t0_9 : Int64} {t0_10 : Int32} {t1_0 : (Nat → Int32)} {t2_0 : (Nat → Int32)} {t3_0 : (Nat → Int32)} {t4_0 : (Nat → Int32)} {t5_0 : (Nat → Int32)} {lx29 : Int32} {p81 : (Int32 × Int32 × Int32 × Int32 × Int64 × Int32 × Int32 × Int64 × Int32 × Int64 × Int32)} {y47 : Int32} {y48 : Int32} {y49 : Int32} {y50 : Int32} {y51 : Int64} {y52 : Int32} {y53 : Int32} {y54 : Int64} {y55 : Int32} {y56 : Int64} {y57 : Int32} {lx106 : Int32} {p136 : ((Nat → Int32) × (Nat → Int32) × (Nat → Int32))} {f128 : (Nat → Int32)} {f130 : (Nat → Int32)} {f132 : (Nat → Int32)} {lx146 : Int32} {f170 : (Nat → Int32)} {p216 : (Int32 × Int32 × Int32 × Int32 × Int64 × Int32 × Int32 × Int64 × Int32 × Int64 × Int32 × (Nat → Int32))} {y179 : Int32} {y180 : Int32} {y181 : Int32} {y182 : Int32} {y183 : Int64} {y184 : Int32} {y185 : Int32} {y186 : Int64} {y187 : Int32} {y188 : Int64} {y189 : Int32} {f190 : (Nat → Int32)} (hx4 : 1 ≤ x4.toInt ∧ x4.toInt ≤ 1100) (hy : 0 ≤ y180.toInt ∧ y180.toInt ≤ 1) : ∀ (n : Nat) (lx236 : Int32), (1080 ≤ lx236.toInt ∧ lx236.toInt ≤ 1403) → (lx236.toInt + 1074 < (n : Int)) → Q_FX_fixed (F_FR_fixed_L130 x2 x3 x4 x5 t0_0 t0_1 t0_2 t0_3 t0_4 t0_5 t0_6 t0_7 t0_8 t0_9 t0_10 t1_0 t2_0 t3_0 t4_0 t5_0 lx29 p81 y47 y48 y49 y50 y51 y52 y53 y54 y55 y56 y57 lx106 p136 f128 f130 f132 lx146 f170 p216 y179 y180 y181 y182 y183 y184 y185 y186 y187 y188 y189 f190 n lx236) := by
  intro n
  induction n with
  | zero => intro lx236 h0 hm; exact absurd (show False by omega) id
  | succ n ih =>
    intro lx236 h0 hm
    have e0 : (0 : Int32).toInt = 0 := rfl
    have e1 : (1 : Int32).toInt = 1 := rfl
    have eL0 : (0 : Int64).toInt = 0 := rfl
    rw [F_FR_fixed_L130.eq_2]
    by_cases g1 : lx236 ≤ (1080 : Int32)
    ·
      rw [if_pos g1]
      have g1i : lx236.toInt ≤ 1080 := q_leI g1
      unfold F_FR_fixed_J154
      have e5 : (lx236 - 1080 : Int32).toInt = lx236.toInt - 1080 := q_subI (y := 1080) rfl (by decide) (by omega) (by omega); exact vx_fx2 hx4 _ _ _ _ _ _ _ _ _ _ _ _ _ _ ⟨by omega, by omega⟩ (by omega) ⟨by omega, by omega⟩
    ·
      rw [if_neg g1]
      have g1i : 1080 < lx236.toInt := q_nleI g1
      by_cases g2 : (f170 lx236.toNatClampNeg : Int32) = (0 : Int32)
      ·
        rw [if_pos g2]
        obtain ⟨a3, e4⟩ := q_nm (lx236 + (-1) : Int32)
        rw [e4]
        have a3i : a3.toInt = lx236.toInt + (-1) := by rw [← e4]; exact q_addI (x := lx236.toInt) (y := (-1)) rfl (by decide) (by omega) (by omega)
        exact ih _ (by first | with_reducible assumption | omega | decide) (by first | with_reducible assumption | omega | decide)
      ·
        rw [if_neg g2]
        unfold F_FR_fixed_J154
        have e5 : (lx236 - 1080 : Int32).toInt = lx236.toInt - 1080 := q_subI (y := 1080) rfl (by decide) (by omega) (by omega); exact vx_fx2 hx4 _ _ _ _ _ _ _ _ _ _ _ _ _ _ ⟨by omega, by omega⟩ (by omega) ⟨by omega, by omega⟩
theorem fx_le3 {x : Int32} (h : 0 ≤ x.toInt ∧ x.toInt ≤ 3) : x ≤ 3 := q_Ile (x := x.toInt) (y := 3) rfl (by decide) h.2
theorem fx_fin {nar t0_0 t0_1 t0_2 t0_3 t0_5 t0_6 t0_8 t0_10 : Int32} {t0_4 t0_7 t0_9 : Int64} (h3 : t0_3.toInt < fxM nar) (h6 : t0_6.toInt = fxM nar) : ¬ F_FR_isFinite t0_0 t0_1 t0_2 t0_3 t0_4 t0_5 t0_6 t0_7 t0_8 t0_9 t0_10 = 0 := by
  unfold F_FR_isFinite
  rw [if_neg (fun z => by have := q_leI z; omega)]
  decide
theorem T_FX_fixed {x2 : Int64} {x3 : Int32} {x4 : Int32} {x5 : Int32} {t0_0 : Int32} {t0_1 : Int32} {t0_2 : Int32} {t0_3 : Int32} {t0_4 : Int64} {t0_5 : Int32} {t0_6 : Int32} {t0_7 : Int64} {t0_8 : Int32} {t0_9 : Int64} {t0_10 : Int32} {t1_0 : (Nat → Int32)} {t2_0 : (Nat → Int32)} {t3_0 : (Nat → Int32)} {t4_0 : (Nat → Int32)} {t5_0 : (Nat → Int32)} (hw : F_FR_isWrong x2 x3 = 0) (hx4 : 1 ≤ x4.toInt ∧ x4.toInt ≤ 1100) (hx5 : 0 ≤ x5.toInt ∧ x5.toInt ≤ 3) (hf0 : x3 = 0 → fxE x2 0 < fxM 0) (hf1 : ¬ x3 = 0 → fxE x2 1 < fxM 1)  : Q_FX_fixed (F_FR_fixed x2 x3 x4 x5 t0_0 t0_1 t0_2 t0_3 t0_4 t0_5 t0_6 t0_7 t0_8 t0_9 t0_10 t1_0 t2_0 t3_0 t4_0 t5_0) := by
  have e0 : (0 : Int32).toInt = 0 := rfl
  have e1 : (1 : Int32).toInt = 1 := rfl
  have eL0 : (0 : Int64).toInt = 0 := rfl
  unfold F_FR_fixed
  by_cases g1 : x3 = (0 : Int32)
  ·
    rw [if_pos g1]
    have gx := g1
    unfold F_FR_fixed_J18
    unfold F_FR_fixed_J19
    have h2 := T_FX_open (x2 := x2) (x3 := (0 : Int32)) (t0_0 := t0_0) (t0_1 := t0_1) (t0_2 := t0_2) (t0_3 := t0_3) (t0_4 := t0_4) (t0_5 := t0_5) (t0_6 := t0_6) (t0_7 := t0_7) (t0_8 := t0_8) (t0_9 := t0_9) (t0_10 := t0_10) 
    generalize F_FR_open x2 (0 : Int32) t0_0 t0_1 t0_2 t0_3 t0_4 t0_5 t0_6 t0_7 t0_8 t0_9 t0_10 = p81 at *
    unfold Q_FX_open at h2
    have qo := h2
    unfold F_FR_fixed_c19
    rw [if_pos hw]
    have g3 : ¬ (x4 < (0 : Int32)) := (fun z => by have := q_ltI z; omega)
    rw [if_neg g3]
    have g4 : ¬ ((1100 : Int32) < x4) := (fun z => by have := q_ltI z; have e11 : (1100 : Int32).toInt = 1100 := rfl; omega)
    rw [if_neg g4]
    have g5 : ¬ (x5 < (0 : Int32)) := (fun z => by have := q_ltI z; omega)
    rw [if_neg g5]
    have g6 : (x5 ≤ (3 : Int32)) := (fx_le3 hx5)
    rw [if_pos g6]
    have g7 : ¬ (((F_FR_isFinite (p81.1 : Int32) (p81.2.1 : Int32) (p81.2.2.1 : Int32) (p81.2.2.2.1 : Int32) (p81.2.2.2.2.1 : Int64) (p81.2.2.2.2.2.1 : Int32) (p81.2.2.2.2.2.2.1 : Int32) (p81.2.2.2.2.2.2.2.1 : Int64) (p81.2.2.2.2.2.2.2.2.1 : Int32) (p81.2.2.2.2.2.2.2.2.2.1 : Int64) (p81.2.2.2.2.2.2.2.2.2.2 : Int32)) : Int32) = (0 : Int32)) := (fx_fin (by rw [qo.1]; first | with_reducible exact hf0 gx | with_reducible exact hf1 gx) qo.2.1)
    rw [if_neg g7]
    unfold F_FR_fixed_J71
    have g8 : ((0 : Int32) ≤ (0 : Int32)) := (by decide)
    rw [if_pos g8]
    generalize F_FR_setValue (0 : Int32) (p81.2.1 : Int32) (p81.2.2.1 : Int32) (p81.2.2.2.1 : Int32) (p81.2.2.2.2.1 : Int64) (p81.2.2.2.2.2.1 : Int32) (p81.2.2.2.2.2.2.1 : Int32) (p81.2.2.2.2.2.2.2.1 : Int64) (p81.2.2.2.2.2.2.2.2.1 : Int32) (p81.2.2.2.2.2.2.2.2.2.1 : Int64) (p81.2.2.2.2.2.2.2.2.2.2 : Int32) t1_0 t2_0 t3_0 = p136 at *
    unfold F_FR_fixed_c84
    by_cases g9 : x4 ≤ (1080 : Int32)
    ·
      rw [if_pos g9]
      unfold F_FR_fixed_J105
      have h10 := T_FX_begin (t0_0 := (0 : Int32)) (t0_1 := (p81.2.1 : Int32)) (t0_2 := (p81.2.2.1 : Int32)) (t0_3 := (p81.2.2.2.1 : Int32)) (t0_4 := (p81.2.2.2.2.1 : Int64)) (t0_5 := (p81.2.2.2.2.2.1 : Int32)) (t0_6 := (p81.2.2.2.2.2.2.1 : Int32)) (t0_7 := (p81.2.2.2.2.2.2.2.1 : Int64)) (t0_8 := (p81.2.2.2.2.2.2.2.2.1 : Int32)) (t0_9 := (p81.2.2.2.2.2.2.2.2.2.1 : Int64)) (t0_10 := (p81.2.2.2.2.2.2.2.2.2.2 : Int32)) (t1_0 := t5_0) 
      generalize F_FR_begin (0 : Int32) (p81.2.1 : Int32) (p81.2.2.1 : Int32) (p81.2.2.2.1 : Int32) (p81.2.2.2.2.1 : Int64) (p81.2.2.2.2.2.1 : Int32) (p81.2.2.2.2.2.2.1 : Int32) (p81.2.2.2.2.2.2.2.1 : Int64) (p81.2.2.2.2.2.2.2.2.1 : Int32) (p81.2.2.2.2.2.2.2.2.2.1 : Int64) (p81.2.2.2.2.2.2.2.2.2.2 : Int32) t5_0 = p216 at *
      unfold Q_FX_begin at h10
      generalize F_FR_cut (1080 - x4 : Int32) ((F_FR_isMore (1080 - x4 : Int32) x5 (0 : Int32) (p81.2.1 : Int32) (p81.2.2.1 : Int32) (p81.2.2.2.1 : Int32) (p81.2.2.2.2.1 : Int64) (p81.2.2.2.2.2.1 : Int32) (p81.2.2.2.2.2.2.1 : Int32) (p81.2.2.2.2.2.2.2.1 : Int64) (p81.2.2.2.2.2.2.2.2.1 : Int32) (p81.2.2.2.2.2.2.2.2.2.1 : Int64) (p81.2.2.2.2.2.2.2.2.2.2 : Int32) (p136.2.2 : (Nat → Int32))) : Int32) (0 : Int32) (p81.2.1 : Int32) (p81.2.2.1 : Int32) (p81.2.2.2.1 : Int32) (p81.2.2.2.2.1 : Int64) (p81.2.2.2.2.2.1 : Int32) (p81.2.2.2.2.2.2.1 : Int32) (p81.2.2.2.2.2.2.2.1 : Int64) (p81.2.2.2.2.2.2.2.2.1 : Int32) (p81.2.2.2.2.2.2.2.2.2.1 : Int64) (p81.2.2.2.2.2.2.2.2.2.2 : Int32) (p136.2.2 : (Nat → Int32)) t4_0 = f170 at *
      unfold F_FR_fixed_c122
      exact vx_fx1 hx4 ⟨by omega, by omega⟩ _ _ ⟨by decide, by decide⟩ (by decide)
    ·
      rw [if_neg g9]
      unfold F_FR_fixed_J105
      have h11 := T_FX_begin (t0_0 := (0 : Int32)) (t0_1 := (p81.2.1 : Int32)) (t0_2 := (p81.2.2.1 : Int32)) (t0_3 := (p81.2.2.2.1 : Int32)) (t0_4 := (p81.2.2.2.2.1 : Int64)) (t0_5 := (p81.2.2.2.2.2.1 : Int32)) (t0_6 := (p81.2.2.2.2.2.2.1 : Int32)) (t0_7 := (p81.2.2.2.2.2.2.2.1 : Int64)) (t0_8 := (p81.2.2.2.2.2.2.2.2.1 : Int32)) (t0_9 := (p81.2.2.2.2.2.2.2.2.2.1 : Int64)) (t0_10 := (p81.2.2.2.2.2.2.2.2.2.2 : Int32)) (t1_0 := t5_0) 
      generalize F_FR_begin (0 : Int32) (p81.2.1 : Int32) (p81.2.2.1 : Int32) (p81.2.2.2.1 : Int32) (p81.2.2.2.2.1 : Int64) (p81.2.2.2.2.2.1 : Int32) (p81.2.2.2.2.2.2.1 : Int32) (p81.2.2.2.2.2.2.2.1 : Int64) (p81.2.2.2.2.2.2.2.2.1 : Int32) (p81.2.2.2.2.2.2.2.2.2.1 : Int64) (p81.2.2.2.2.2.2.2.2.2.2 : Int32) t5_0 = p216 at *
      unfold Q_FX_begin at h11
      generalize F_FR_cut (0 : Int32) ((F_FR_isMore (0 : Int32) x5 (0 : Int32) (p81.2.1 : Int32) (p81.2.2.1 : Int32) (p81.2.2.2.1 : Int32) (p81.2.2.2.2.1 : Int64) (p81.2.2.2.2.2.1 : Int32) (p81.2.2.2.2.2.2.1 : Int32) (p81.2.2.2.2.2.2.2.1 : Int64) (p81.2.2.2.2.2.2.2.2.1 : Int32) (p81.2.2.2.2.2.2.2.2.2.1 : Int64) (p81.2.2.2.2.2.2.2.2.2.2 : Int32) (p136.2.2 : (Nat → Int32))) : Int32) (0 : Int32) (p81.2.1 : Int32) (p81.2.2.1 : Int32) (p81.2.2.2.1 : Int32) (p81.2.2.2.2.1 : Int64) (p81.2.2.2.2.2.1 : Int32) (p81.2.2.2.2.2.2.1 : Int32) (p81.2.2.2.2.2.2.2.1 : Int64) (p81.2.2.2.2.2.2.2.2.1 : Int32) (p81.2.2.2.2.2.2.2.2.2.1 : Int64) (p81.2.2.2.2.2.2.2.2.2.2 : Int32) (p136.2.2 : (Nat → Int32)) t4_0 = f170 at *
      unfold F_FR_fixed_c122
      exact vx_fx1 hx4 ⟨by omega, by omega⟩ _ _ ⟨by decide, by decide⟩ (by decide)
  ·
    rw [if_neg g1]
    have gx := g1
    rw [if_pos hw]
    unfold F_FR_fixed_J19
    have h12 := T_FX_open (x2 := x2) (x3 := (1 : Int32)) (t0_0 := t0_0) (t0_1 := t0_1) (t0_2 := t0_2) (t0_3 := t0_3) (t0_4 := t0_4) (t0_5 := t0_5) (t0_6 := t0_6) (t0_7 := t0_7) (t0_8 := t0_8) (t0_9 := t0_9) (t0_10 := t0_10) 
    generalize F_FR_open x2 (1 : Int32) t0_0 t0_1 t0_2 t0_3 t0_4 t0_5 t0_6 t0_7 t0_8 t0_9 t0_10 = p81 at *
    unfold Q_FX_open at h12
    have qo := h12
    unfold F_FR_fixed_c19
    rw [if_pos hw]
    have g13 : ¬ (x4 < (0 : Int32)) := (fun z => by have := q_ltI z; omega)
    rw [if_neg g13]
    have g14 : ¬ ((1100 : Int32) < x4) := (fun z => by have := q_ltI z; have e11 : (1100 : Int32).toInt = 1100 := rfl; omega)
    rw [if_neg g14]
    have g15 : ¬ (x5 < (0 : Int32)) := (fun z => by have := q_ltI z; omega)
    rw [if_neg g15]
    have g16 : (x5 ≤ (3 : Int32)) := (fx_le3 hx5)
    rw [if_pos g16]
    have g17 : ¬ (((F_FR_isFinite (p81.1 : Int32) (p81.2.1 : Int32) (p81.2.2.1 : Int32) (p81.2.2.2.1 : Int32) (p81.2.2.2.2.1 : Int64) (p81.2.2.2.2.2.1 : Int32) (p81.2.2.2.2.2.2.1 : Int32) (p81.2.2.2.2.2.2.2.1 : Int64) (p81.2.2.2.2.2.2.2.2.1 : Int32) (p81.2.2.2.2.2.2.2.2.2.1 : Int64) (p81.2.2.2.2.2.2.2.2.2.2 : Int32)) : Int32) = (0 : Int32)) := (fx_fin (by rw [qo.1]; first | with_reducible exact hf0 gx | with_reducible exact hf1 gx) qo.2.1)
    rw [if_neg g17]
    unfold F_FR_fixed_J71
    have g18 : ((0 : Int32) ≤ (0 : Int32)) := (by decide)
    rw [if_pos g18]
    generalize F_FR_setValue (0 : Int32) (p81.2.1 : Int32) (p81.2.2.1 : Int32) (p81.2.2.2.1 : Int32) (p81.2.2.2.2.1 : Int64) (p81.2.2.2.2.2.1 : Int32) (p81.2.2.2.2.2.2.1 : Int32) (p81.2.2.2.2.2.2.2.1 : Int64) (p81.2.2.2.2.2.2.2.2.1 : Int32) (p81.2.2.2.2.2.2.2.2.2.1 : Int64) (p81.2.2.2.2.2.2.2.2.2.2 : Int32) t1_0 t2_0 t3_0 = p136 at *
    unfold F_FR_fixed_c84
    by_cases g19 : x4 ≤ (1080 : Int32)
    ·
      rw [if_pos g19]
      unfold F_FR_fixed_J105
      have h20 := T_FX_begin (t0_0 := (0 : Int32)) (t0_1 := (p81.2.1 : Int32)) (t0_2 := (p81.2.2.1 : Int32)) (t0_3 := (p81.2.2.2.1 : Int32)) (t0_4 := (p81.2.2.2.2.1 : Int64)) (t0_5 := (p81.2.2.2.2.2.1 : Int32)) (t0_6 := (p81.2.2.2.2.2.2.1 : Int32)) (t0_7 := (p81.2.2.2.2.2.2.2.1 : Int64)) (t0_8 := (p81.2.2.2.2.2.2.2.2.1 : Int32)) (t0_9 := (p81.2.2.2.2.2.2.2.2.2.1 : Int64)) (t0_10 := (p81.2.2.2.2.2.2.2.2.2.2 : Int32)) (t1_0 := t5_0) 
      generalize F_FR_begin (0 : Int32) (p81.2.1 : Int32) (p81.2.2.1 : Int32) (p81.2.2.2.1 : Int32) (p81.2.2.2.2.1 : Int64) (p81.2.2.2.2.2.1 : Int32) (p81.2.2.2.2.2.2.1 : Int32) (p81.2.2.2.2.2.2.2.1 : Int64) (p81.2.2.2.2.2.2.2.2.1 : Int32) (p81.2.2.2.2.2.2.2.2.2.1 : Int64) (p81.2.2.2.2.2.2.2.2.2.2 : Int32) t5_0 = p216 at *
      unfold Q_FX_begin at h20
      generalize F_FR_cut (1080 - x4 : Int32) ((F_FR_isMore (1080 - x4 : Int32) x5 (0 : Int32) (p81.2.1 : Int32) (p81.2.2.1 : Int32) (p81.2.2.2.1 : Int32) (p81.2.2.2.2.1 : Int64) (p81.2.2.2.2.2.1 : Int32) (p81.2.2.2.2.2.2.1 : Int32) (p81.2.2.2.2.2.2.2.1 : Int64) (p81.2.2.2.2.2.2.2.2.1 : Int32) (p81.2.2.2.2.2.2.2.2.2.1 : Int64) (p81.2.2.2.2.2.2.2.2.2.2 : Int32) (p136.2.2 : (Nat → Int32))) : Int32) (0 : Int32) (p81.2.1 : Int32) (p81.2.2.1 : Int32) (p81.2.2.2.1 : Int32) (p81.2.2.2.2.1 : Int64) (p81.2.2.2.2.2.1 : Int32) (p81.2.2.2.2.2.2.1 : Int32) (p81.2.2.2.2.2.2.2.1 : Int64) (p81.2.2.2.2.2.2.2.2.1 : Int32) (p81.2.2.2.2.2.2.2.2.2.1 : Int64) (p81.2.2.2.2.2.2.2.2.2.2 : Int32) (p136.2.2 : (Nat → Int32)) t4_0 = f170 at *
      unfold F_FR_fixed_c122
      exact vx_fx1 hx4 ⟨by omega, by omega⟩ _ _ ⟨by decide, by decide⟩ (by decide)
    ·
      rw [if_neg g19]
      unfold F_FR_fixed_J105
      have h21 := T_FX_begin (t0_0 := (0 : Int32)) (t0_1 := (p81.2.1 : Int32)) (t0_2 := (p81.2.2.1 : Int32)) (t0_3 := (p81.2.2.2.1 : Int32)) (t0_4 := (p81.2.2.2.2.1 : Int64)) (t0_5 := (p81.2.2.2.2.2.1 : Int32)) (t0_6 := (p81.2.2.2.2.2.2.1 : Int32)) (t0_7 := (p81.2.2.2.2.2.2.2.1 : Int64)) (t0_8 := (p81.2.2.2.2.2.2.2.2.1 : Int32)) (t0_9 := (p81.2.2.2.2.2.2.2.2.2.1 : Int64)) (t0_10 := (p81.2.2.2.2.2.2.2.2.2.2 : Int32)) (t1_0 := t5_0) 
      generalize F_FR_begin (0 : Int32) (p81.2.1 : Int32) (p81.2.2.1 : Int32) (p81.2.2.2.1 : Int32) (p81.2.2.2.2.1 : Int64) (p81.2.2.2.2.2.1 : Int32) (p81.2.2.2.2.2.2.1 : Int32) (p81.2.2.2.2.2.2.2.1 : Int64) (p81.2.2.2.2.2.2.2.2.1 : Int32) (p81.2.2.2.2.2.2.2.2.2.1 : Int64) (p81.2.2.2.2.2.2.2.2.2.2 : Int32) t5_0 = p216 at *
      unfold Q_FX_begin at h21
      generalize F_FR_cut (0 : Int32) ((F_FR_isMore (0 : Int32) x5 (0 : Int32) (p81.2.1 : Int32) (p81.2.2.1 : Int32) (p81.2.2.2.1 : Int32) (p81.2.2.2.2.1 : Int64) (p81.2.2.2.2.2.1 : Int32) (p81.2.2.2.2.2.2.1 : Int32) (p81.2.2.2.2.2.2.2.1 : Int64) (p81.2.2.2.2.2.2.2.2.1 : Int32) (p81.2.2.2.2.2.2.2.2.2.1 : Int64) (p81.2.2.2.2.2.2.2.2.2.2 : Int32) (p136.2.2 : (Nat → Int32))) : Int32) (0 : Int32) (p81.2.1 : Int32) (p81.2.2.1 : Int32) (p81.2.2.2.1 : Int32) (p81.2.2.2.2.1 : Int64) (p81.2.2.2.2.2.1 : Int32) (p81.2.2.2.2.2.2.1 : Int32) (p81.2.2.2.2.2.2.2.1 : Int64) (p81.2.2.2.2.2.2.2.2.1 : Int32) (p81.2.2.2.2.2.2.2.2.2.1 : Int64) (p81.2.2.2.2.2.2.2.2.2.2 : Int32) (p136.2.2 : (Nat → Int32)) t4_0 = f170 at *
      unfold F_FR_fixed_c122
      exact vx_fx1 hx4 ⟨by omega, by omega⟩ _ _ ⟨by decide, by decide⟩ (by decide)
def fxN (x : Int64) : Prop := 0 ≤ x.toInt ∧ x.toInt < 4294967296
theorem fxN.or {a b : Int64} (h : fxN a) (g : fxN b) : fxN (a ||| b) := s_orJ 32 (by decide) h g
theorem fx_shl {x : Int64} {n k : Nat} {c : Int32} (hx : x.toInt = (n : Int)) (hc : ((c.toInt64 &&& 63).toBitVec.smod 64) = BitVec.ofNat 64 k) (hk : k < 64) (hn : n * 2 ^ k < 9223372036854775808) : (x <<< (c.toInt64 &&& 63)).toInt = ((n * 2 ^ k : Nat) : Int) := by
  have e := s_nnL (x := x) (by omega)
  have m : (BitVec.ofNat 64 k).toNat = k := by rw [BitVec.toNat_ofNat, Nat.mod_eq_of_lt (by omega)]
  have e2 : (x <<< (c.toInt64 &&& 63)).toBitVec.toNat = x.toBitVec.toNat * 2 ^ k % 2 ^ 64 := by
    rw [Int64.toBitVec_shiftLeft, hc, BitVec.shiftLeft_eq', BitVec.toNat_shiftLeft, m, Nat.shiftLeft_eq]
  have ex : x.toBitVec.toNat = n := by omega
  rw [ex, Nat.mod_eq_of_lt (by omega)] at e2
  exact s_ofL e2 hn
theorem fx_nr {k : Int32} {m : Int64} (hk : -149 ≤ k.toInt ∧ k.toInt ≤ 104) (hm : 0 ≤ m.toInt ∧ m.toInt ≤ 16777216) : fxN (((((k + 150 : Int32).toInt64) <<< ((23 : Int32).toInt64 &&& 63)) + m) - 8388608) := by
  have e1 : (k + 150 : Int32).toInt = k.toInt + 150 := q_addI (y := 150) rfl (by decide) (by omega) (by omega)
  have e2 : (k + 150 : Int32).toInt64.toInt = k.toInt + 150 := by rw [q_i2l rfl]; exact e1
  obtain ⟨n, hn⟩ : ∃ n : Nat, k.toInt + 150 = (n : Int) := ⟨(k.toInt + 150).toNat, by omega⟩
  have e3 : (((k + 150 : Int32).toInt64) <<< ((23 : Int32).toInt64 &&& 63)).toInt = ((n * 2 ^ 23 : Nat) : Int) := fx_shl (n := n) (k := 23) (by omega) (by decide) (by decide) (by omega)
  have e4 := q_addL e3 (rfl : m.toInt = m.toInt) (by omega) (by omega)
  have e5 := q_subL (b := 8388608) (y := 8388608) e4 (by decide) (by omega) (by omega)
  unfold fxN
  rw [e5]; omega
def Q_FX_nar (p : Int64 × Int32 × Int32 × Int32 × Int32 × Int64 × Int32 × Int32 × Int64 × Int32 × Int64 × Int32) : Prop := fxN p.1
theorem g_lcz {a b : Int64} (h : lg_cmp a b = 0) : a.toInt = b.toInt := by
  have h1 : lg_cmp a b ≤ 0 := by rw [h]; decide
  have h2 : 0 ≤ lg_cmp a b := by rw [h]; decide
  have a1 := g_lc3 h1
  have a2 := g_lc5 h2
  omega
theorem T_FX_n211 {K_F_FR_narrowed_L72 : Int32 → Int32 → Int32 → Int64 → (Int64 × Int32 × Int32 × Int32 × Int32 × Int64 × Int32 × Int32 × Int64 × Int32 × Int64 × Int32)} {K_F_FR_narrowed_L157 : Int64 → Int32 → (Int64 × Int32 × Int32 × Int32 × Int32 × Int64 × Int32 × Int32 × Int64 × Int32 × Int64 × Int32)} {x2 : Int64} {t0_0 : Int32} {t0_1 : Int32} {t0_2 : Int32} {t0_3 : Int32} {t0_4 : Int64} {t0_5 : Int32} {t0_6 : Int32} {t0_7 : Int64} {t0_8 : Int32} {t0_9 : Int64} {t0_10 : Int32} {p53 : (Int32 × Int32 × Int32 × Int32 × Int64 × Int32 × Int32 × Int64 × Int32 × Int64 × Int32)} {y19 : Int32} {y20 : Int32} {y21 : Int32} {y22 : Int32} {y23 : Int64} {y24 : Int32} {y25 : Int32} {y26 : Int64} {y27 : Int32} {y28 : Int64} {y29 : Int32} {lx71 : Int64} {lx94 : Int32} {lx95 : Int32} {lx96 : Int32} {lx97 : Int64} {lx156 : Int64} {lx169 : Int64} {lx170 : Int32} {lx192 : Int64} {lx193 : Int32} (h71 : lx71 = 0 ∨ lx71 = 2147483648) (hm2 : 0 ≤ lx192.toInt ∧ lx192.toInt ≤ 16777216) (hk2 : -149 ≤ lx193.toInt)  : Q_FX_nar (F_FR_narrowed_J211 K_F_FR_narrowed_L72 K_F_FR_narrowed_L157 x2 t0_0 t0_1 t0_2 t0_3 t0_4 t0_5 t0_6 t0_7 t0_8 t0_9 t0_10 p53 y19 y20 y21 y22 y23 y24 y25 y26 y27 y28 y29 lx71 lx94 lx95 lx96 lx97 lx156 lx169 lx170 lx192 lx193) := by
  have e0 : (0 : Int32).toInt = 0 := rfl
  have e1 : (1 : Int32).toInt = 1 := rfl
  have eL0 : (0 : Int64).toInt = 0 := rfl
  have em : (-149 : Int32).toInt = -149 := rfl
  have eM : (8388608 : Int64).toInt = 8388608 := rfl
  have eG : (16777216 : Int64).toInt = 16777216 := rfl
  have e104 : (104 : Int32).toInt = 104 := rfl
  have f71 : fxN lx71 := by rcases h71 with h | h <;> (rw [h]; unfold fxN; decide)
  unfold F_FR_narrowed_J211
  by_cases g1 : lx193 ≤ (104 : Int32)
  ·
    rw [if_pos g1]
    have g1i : lx193.toInt ≤ 104 := q_leI g1
    by_cases g2 : (0 : Int32) ≤ (lg_cmp lx192 8388608 : Int32)
    ·
      rw [if_pos g2]
      have g2l := g_lc5 g2
      exact (show fxN _ from f71.or (fx_nr ⟨by omega, by omega⟩ ⟨by omega, by omega⟩))
    ·
      rw [if_neg g2]
      have g2l := g_lc6 g2
      exact (show fxN _ from f71.or ⟨by omega, by omega⟩)
  ·
    rw [if_neg g1]
    have g1i : 104 < lx193.toInt := q_nleI g1
    exact (show fxN _ from f71.or (by unfold fxN; decide))
theorem T_FX_n193 {K_F_FR_narrowed_L72 : Int32 → Int32 → Int32 → Int64 → (Int64 × Int32 × Int32 × Int32 × Int32 × Int64 × Int32 × Int32 × Int64 × Int32 × Int64 × Int32)} {K_F_FR_narrowed_L157 : Int64 → Int32 → (Int64 × Int32 × Int32 × Int32 × Int32 × Int64 × Int32 × Int32 × Int64 × Int32 × Int64 × Int32)} {x2 : Int64} {t0_0 : Int32} {t0_1 : Int32} {t0_2 : Int32} {t0_3 : Int32} {t0_4 : Int64} {t0_5 : Int32} {t0_6 : Int32} {t0_7 : Int64} {t0_8 : Int32} {t0_9 : Int64} {t0_10 : Int32} {p53 : (Int32 × Int32 × Int32 × Int32 × Int64 × Int32 × Int32 × Int64 × Int32 × Int64 × Int32)} {y19 : Int32} {y20 : Int32} {y21 : Int32} {y22 : Int32} {y23 : Int64} {y24 : Int32} {y25 : Int32} {y26 : Int64} {y27 : Int32} {y28 : Int64} {y29 : Int32} {lx71 : Int64} {lx94 : Int32} {lx95 : Int32} {lx96 : Int32} {lx97 : Int64} {lx156 : Int64} {lx169 : Int64} {lx170 : Int32} (h71 : lx71 = 0 ∨ lx71 = 2147483648) (hm2 : 0 ≤ lx169.toInt ∧ lx169.toInt ≤ 16777216) (hk2 : -149 ≤ lx170.toInt ∧ lx170.toInt ≤ 1100)  : Q_FX_nar (F_FR_narrowed_J193 K_F_FR_narrowed_L72 K_F_FR_narrowed_L157 x2 t0_0 t0_1 t0_2 t0_3 t0_4 t0_5 t0_6 t0_7 t0_8 t0_9 t0_10 p53 y19 y20 y21 y22 y23 y24 y25 y26 y27 y28 y29 lx71 lx94 lx95 lx96 lx97 lx156 lx169 lx170) := by
  have e0 : (0 : Int32).toInt = 0 := rfl
  have e1 : (1 : Int32).toInt = 1 := rfl
  have eL0 : (0 : Int64).toInt = 0 := rfl
  have em : (-149 : Int32).toInt = -149 := rfl
  have eM : (8388608 : Int64).toInt = 8388608 := rfl
  have eG : (16777216 : Int64).toInt = 16777216 := rfl
  have e104 : (104 : Int32).toInt = 104 := rfl
  unfold F_FR_narrowed_J193
  by_cases g1 : (lg_cmp lx169 16777216 : Int32) = (0 : Int32)
  ·
    rw [if_pos g1]
    have g1z := g_lcz g1
    have er := fl_shr1 (x := lx169) (by omega); have ek : (lx170 + 1 : Int32).toInt = lx170.toInt + 1 := q_addI (y := 1) rfl (by decide) (by omega) (by omega); exact T_FX_n211 h71 ⟨by omega, by omega⟩ (by omega)
  ·
    rw [if_neg g1]
    have er := fl_shr1 (x := lx169) (by omega); have ek : (lx170 + 1 : Int32).toInt = lx170.toInt + 1 := q_addI (y := 1) rfl (by decide) (by omega) (by omega); exact T_FX_n211 h71 ⟨by omega, by omega⟩ (by omega)
theorem vx_n2 {K_F_FR_narrowed_L72 : Int32 → Int32 → Int32 → Int64 → (Int64 × Int32 × Int32 × Int32 × Int32 × Int64 × Int32 × Int32 × Int64 × Int32 × Int64 × Int32)} {x2 : Int64} {t0_0 : Int32} {t0_1 : Int32} {t0_2 : Int32} {t0_3 : Int32} {t0_4 : Int64} {t0_5 : Int32} {t0_6 : Int32} {t0_7 : Int64} {t0_8 : Int32} {t0_9 : Int64} {t0_10 : Int32} {p53 : (Int32 × Int32 × Int32 × Int32 × Int64 × Int32 × Int32 × Int64 × Int32 × Int64 × Int32)} {y19 : Int32} {y20 : Int32} {y21 : Int32} {y22 : Int32} {y23 : Int64} {y24 : Int32} {y25 : Int32} {y26 : Int64} {y27 : Int32} {y28 : Int64} {y29 : Int32} {lx71 : Int64} {lx94 : Int32} {lx95 : Int32} {lx96 : Int32} {lx97 : Int64} {lx156 : Int64} (h71 : lx71 = 0 ∨ lx71 = 2147483648)  : ∀ (n : Nat) (lx169 : Int64) (lx170 : Int32), (0 ≤ lx169.toInt ∧ lx169.toInt ≤ 16777216) → (-149 ≤ lx170.toInt ∧ lx170.toInt ≤ 1100) → (lx170.toInt + 1074 < (n : Int)) → Q_FX_nar (F_FR_narrowed_L157 K_F_FR_narrowed_L72 x2 t0_0 t0_1 t0_2 t0_3 t0_4 t0_5 t0_6 t0_7 t0_8 t0_9 t0_10 p53 y19 y20 y21 y22 y23 y24 y25 y26 y27 y28 y29 lx71 lx94 lx95 lx96 lx97 lx156 n lx169 lx170) := by
  intro n
  induction n with
  | zero => intro lx169 lx170 hm2 hk2 hm; exact absurd (show False by omega) id
  | succ n ih =>
    intro lx169 lx170 hm2 hk2 hm
    have e0 : (0 : Int32).toInt = 0 := rfl
    have e1 : (1 : Int32).toInt = 1 := rfl
    have eL0 : (0 : Int64).toInt = 0 := rfl
    have em : (-149 : Int32).toInt = -149 := rfl
    have eM : (8388608 : Int64).toInt = 8388608 := rfl
    have eG : (16777216 : Int64).toInt = 16777216 := rfl
    have e104 : (104 : Int32).toInt = 104 := rfl
    rw [F_FR_narrowed_L157.eq_2]
    by_cases g1 : (lg_cmp lx169 0 : Int32) = (0 : Int32)
    ·
      rw [if_pos g1]
      have g1z := g_lcz g1
      exact T_FX_n193 h71 ⟨by omega, by omega⟩ ⟨by omega, by omega⟩
    ·
      rw [if_neg g1]
      by_cases g2 : (0 : Int32) ≤ (lg_cmp lx169 8388608 : Int32)
      ·
        rw [if_pos g2]
        have g2l := g_lc5 g2
        exact T_FX_n193 h71 ⟨by omega, by omega⟩ ⟨by omega, by omega⟩
      ·
        rw [if_neg g2]
        have g2l := g_lc6 g2
        by_cases g3 : lx170 ≤ (-149 : Int32)
        ·
          rw [if_pos g3]
          have g3i : lx170.toInt ≤ -149 := q_leI g3
          exact T_FX_n193 h71 ⟨by omega, by omega⟩ ⟨by omega, by omega⟩
        ·
          rw [if_neg g3]
          have g3i : -149 < lx170.toInt := q_nleI g3
          obtain ⟨a4, e5⟩ := q_nm (lx170 + (-1) : Int32)
          rw [e5]
          have a4i : a4.toInt = lx170.toInt + (-1) := by rw [← e5]; exact q_addI (x := lx170.toInt) (y := (-1)) rfl (by decide) (by omega) (by omega)
          have es := fl_shl1 (x := lx169) (by omega) (by omega); exact ih _ _ ⟨by omega, by omega⟩ ⟨by omega, by omega⟩ (by omega)
theorem vx_n1 {x2 : Int64} {t0_0 : Int32} {t0_1 : Int32} {t0_2 : Int32} {t0_3 : Int32} {t0_4 : Int64} {t0_5 : Int32} {t0_6 : Int32} {t0_7 : Int64} {t0_8 : Int32} {t0_9 : Int64} {t0_10 : Int32} {p53 : (Int32 × Int32 × Int32 × Int32 × Int64 × Int32 × Int32 × Int64 × Int32 × Int64 × Int32)} {y19 : Int32} {y20 : Int32} {y21 : Int32} {y22 : Int32} {y23 : Int64} {y24 : Int32} {y25 : Int32} {y26 : Int64} {y27 : Int32} {y28 : Int64} {y29 : Int32} {lx71 : Int64} (h71 : lx71 = 0 ∨ lx71 = 2147483648)  : ∀ (n : Nat) (lx94 : Int32) (lx95 : Int32) (lx96 : Int32) (lx97 : Int64), (0 ≤ lx97.toInt) → (∃ j : Nat, j ≤ 53 ∧ lx97.toInt < 2 ^ j ∧ lx96.toInt + (j : Int) ≤ 1030 ∧ (j : Int) ≤ (n : Int) + 23 ∧ -148 - lx96.toInt ≤ (n : Int)) → (1 ≤ (n : Int) ∧ -1100 ≤ lx96.toInt) → Q_FX_nar (F_FR_narrowed_L72 x2 t0_0 t0_1 t0_2 t0_3 t0_4 t0_5 t0_6 t0_7 t0_8 t0_9 t0_10 p53 y19 y20 y21 y22 y23 y24 y25 y26 y27 y28 y29 lx71 n lx94 lx95 lx96 lx97) := by
  intro n
  induction n with
  | zero => intro lx94 lx95 lx96 lx97 hm0 hj hn; omega
  | succ n ih =>
    intro lx94 lx95 lx96 lx97 hm0 hj hn
    have e0 : (0 : Int32).toInt = 0 := rfl
    have e1 : (1 : Int32).toInt = 1 := rfl
    have eL0 : (0 : Int64).toInt = 0 := rfl
    have em : (-149 : Int32).toInt = -149 := rfl
    have eM : (8388608 : Int64).toInt = 8388608 := rfl
    have eG : (16777216 : Int64).toInt = 16777216 := rfl
    have e104 : (104 : Int32).toInt = 104 := rfl
    obtain ⟨j, j1, j2, j3, j4, j5⟩ := hj
    have e25 : 16777216 ≤ lx97.toInt → 25 ≤ j := fl_j24 j2
    rw [F_FR_narrowed_L72.eq_2]
    by_cases g1 : (0 : Int32) ≤ (lg_cmp lx97 16777216 : Int32)
    ·
      rw [if_pos g1]
      have g1l := g_lc5 g1
      unfold F_FR_narrowed_J89
      by_cases g2 : lx95 = (0 : Int32)
      ·
        rw [if_pos g2]
        by_cases g3 : lx94 = (1 : Int32)
        ·
          rw [if_pos g3]
          unfold F_FR_narrowed_J100
          obtain ⟨a4, e5⟩ := q_nm (lx96 + 1 : Int32)
          rw [e5]
          have a4i : a4.toInt = lx96.toInt + 1 := by rw [← e5]; exact q_addI (x := lx96.toInt) (y := 1) rfl (by decide) (by omega) (by omega)
          have hv := fl_hv hm0 j2; exact ih _ _ _ _ hv.1 ⟨j - 1, by omega, hv.2, by omega, by omega, by omega⟩ ⟨by omega, by omega⟩
        ·
          rw [if_neg g3]
          obtain ⟨a6, e7⟩ := q_nm (lx96 + 1 : Int32)
          rw [e7]
          have a6i : a6.toInt = lx96.toInt + 1 := by rw [← e7]; exact q_addI (x := lx96.toInt) (y := 1) rfl (by decide) (by omega) (by omega)
          have hv := fl_hv hm0 j2; exact ih _ _ _ _ hv.1 ⟨j - 1, by omega, hv.2, by omega, by omega, by omega⟩ ⟨by omega, by omega⟩
      ·
        rw [if_neg g2]
        unfold F_FR_narrowed_J100
        obtain ⟨a8, e9⟩ := q_nm (lx96 + 1 : Int32)
        rw [e9]
        have a8i : a8.toInt = lx96.toInt + 1 := by rw [← e9]; exact q_addI (x := lx96.toInt) (y := 1) rfl (by decide) (by omega) (by omega)
        have hv := fl_hv hm0 j2; exact ih _ _ _ _ hv.1 ⟨j - 1, by omega, hv.2, by omega, by omega, by omega⟩ ⟨by omega, by omega⟩
    ·
      rw [if_neg g1]
      have g1l := g_lc6 g1
      by_cases g10 : (-149 : Int32) ≤ lx96
      ·
        rw [if_pos g10]
        have g10i := q_leI g10
        by_cases g11 : lx94 = (1 : Int32)
        ·
          rw [if_pos g11]
          by_cases g12 : lx95 = (0 : Int32)
          ·
            rw [if_pos g12]
            by_cases g13 : (lg_cmp (lx97 &&& 1 : Int64) 1 : Int32) = (0 : Int32)
            ·
              rw [if_pos g13]
              unfold F_FR_narrowed_J146
              unfold F_FR_narrowed_J155
              have ep : (lx97 + 1 : Int64).toInt = lx97.toInt + 1 := q_addL (y := 1) rfl (by decide) (by omega) (by omega); exact vx_n2 h71 _ _ _ ⟨by omega, by omega⟩ ⟨by omega, by omega⟩ (by omega)
            ·
              rw [if_neg g13]
              unfold F_FR_narrowed_J153
              unfold F_FR_narrowed_J155
              exact vx_n2 h71 _ _ _ ⟨by omega, by omega⟩ ⟨by omega, by omega⟩ (by omega)
          ·
            rw [if_neg g12]
            unfold F_FR_narrowed_J146
            unfold F_FR_narrowed_J155
            have ep : (lx97 + 1 : Int64).toInt = lx97.toInt + 1 := q_addL (y := 1) rfl (by decide) (by omega) (by omega); exact vx_n2 h71 _ _ _ ⟨by omega, by omega⟩ ⟨by omega, by omega⟩ (by omega)
        ·
          rw [if_neg g11]
          unfold F_FR_narrowed_J153
          unfold F_FR_narrowed_J155
          exact vx_n2 h71 _ _ _ ⟨by omega, by omega⟩ ⟨by omega, by omega⟩ (by omega)
      ·
        rw [if_neg g10]
        have g10i := q_nleI g10
        unfold F_FR_narrowed_J89
        by_cases g14 : lx95 = (0 : Int32)
        ·
          rw [if_pos g14]
          by_cases g15 : lx94 = (1 : Int32)
          ·
            rw [if_pos g15]
            unfold F_FR_narrowed_J100
            obtain ⟨a16, e17⟩ := q_nm (lx96 + 1 : Int32)
            rw [e17]
            have a16i : a16.toInt = lx96.toInt + 1 := by rw [← e17]; exact q_addI (x := lx96.toInt) (y := 1) rfl (by decide) (by omega) (by omega)
            have hv := fl_hv hm0 j2; exact ih _ _ _ _ hv.1 ⟨j - 1, by omega, hv.2, by omega, by omega, by omega⟩ ⟨by omega, by omega⟩
          ·
            rw [if_neg g15]
            obtain ⟨a18, e19⟩ := q_nm (lx96 + 1 : Int32)
            rw [e19]
            have a18i : a18.toInt = lx96.toInt + 1 := by rw [← e19]; exact q_addI (x := lx96.toInt) (y := 1) rfl (by decide) (by omega) (by omega)
            have hv := fl_hv hm0 j2; exact ih _ _ _ _ hv.1 ⟨j - 1, by omega, hv.2, by omega, by omega, by omega⟩ ⟨by omega, by omega⟩
        ·
          rw [if_neg g14]
          unfold F_FR_narrowed_J100
          obtain ⟨a20, e21⟩ := q_nm (lx96 + 1 : Int32)
          rw [e21]
          have a20i : a20.toInt = lx96.toInt + 1 := by rw [← e21]; exact q_addI (x := lx96.toInt) (y := 1) rfl (by decide) (by omega) (by omega)
          have hv := fl_hv hm0 j2; exact ih _ _ _ _ hv.1 ⟨j - 1, by omega, hv.2, by omega, by omega, by omega⟩ ⟨by omega, by omega⟩
theorem fx_fn2 {t0_0 t0_1 t0_2 t0_3 t0_5 t0_6 t0_8 t0_10 : Int32} {t0_4 t0_7 t0_9 : Int64} (h : ¬ F_FR_isFinite t0_0 t0_1 t0_2 t0_3 t0_4 t0_5 t0_6 t0_7 t0_8 t0_9 t0_10 = 0) : t0_3.toInt < t0_6.toInt := by
  unfold F_FR_isFinite at h
  by_cases c : t0_6 ≤ t0_3
  · rw [if_pos c] at h; exact absurd rfl h
  · exact q_nleI c
theorem T_FX_narrowed {x2 : Int64} {t0_0 : Int32} {t0_1 : Int32} {t0_2 : Int32} {t0_3 : Int32} {t0_4 : Int64} {t0_5 : Int32} {t0_6 : Int32} {t0_7 : Int64} {t0_8 : Int32} {t0_9 : Int64} {t0_10 : Int32}  : Q_FX_nar (F_FR_narrowed x2 t0_0 t0_1 t0_2 t0_3 t0_4 t0_5 t0_6 t0_7 t0_8 t0_9 t0_10) := by
  have e0 : (0 : Int32).toInt = 0 := rfl
  have e1 : (1 : Int32).toInt = 1 := rfl
  have eL0 : (0 : Int64).toInt = 0 := rfl
  have em : (-149 : Int32).toInt = -149 := rfl
  have eM : (8388608 : Int64).toInt = 8388608 := rfl
  have eG : (16777216 : Int64).toInt = 16777216 := rfl
  have e104 : (104 : Int32).toInt = 104 := rfl
  unfold F_FR_narrowed
  have h1 := T_FR_open (x2 := x2) (x3 := (0 : Int32)) (t0_0 := (0 : Int32)) (t0_1 := t0_1) (t0_2 := t0_2) (t0_3 := t0_3) (t0_4 := t0_4) (t0_5 := t0_5) (t0_6 := t0_6) (t0_7 := t0_7) (t0_8 := t0_8) (t0_9 := t0_9) (t0_10 := t0_10) 
  generalize F_FR_open x2 (0 : Int32) (0 : Int32) t0_1 t0_2 t0_3 t0_4 t0_5 t0_6 t0_7 t0_8 t0_9 t0_10 = p53 at *
  unfold Q_FR_open at h1
  have op7 := h1.2.2.1
  have op8 := h1.2.2.2.1
  have op9 := h1.2.2.2.2.1
  unfold F_FR_narrowed_c8
  by_cases g2 : (p53.2.2.1 : Int32) = (0 : Int32)
  ·
    rw [if_pos g2]
    unfold F_FR_narrowed_J25
    by_cases g3 : ((F_FR_isFinite (p53.1 : Int32) (p53.2.1 : Int32) (p53.2.2.1 : Int32) (p53.2.2.2.1 : Int32) (p53.2.2.2.2.1 : Int64) (p53.2.2.2.2.2.1 : Int32) (p53.2.2.2.2.2.2.1 : Int32) (p53.2.2.2.2.2.2.2.1 : Int64) (p53.2.2.2.2.2.2.2.2.1 : Int32) (p53.2.2.2.2.2.2.2.2.2.1 : Int64) (p53.2.2.2.2.2.2.2.2.2.2 : Int32)) : Int32) = (0 : Int32)
    ·
      rw [if_pos g3]
      by_cases g4 : (lg_cmp (p53.2.2.2.2.1 : Int64) 0 : Int32) = (0 : Int32)
      ·
        rw [if_pos g4]
        exact (show fxN (0 ||| 2139095040 : Int64) from by unfold fxN; decide)
      ·
        rw [if_neg g4]
        exact (show fxN (2143289344 : Int64) from by unfold fxN; decide)
    ·
      rw [if_neg g3]
      have gf := g3
      have z3 := fx_fn2 gf; have z9 := op9 z3; exact vx_n1 (Or.inl rfl) _ _ _ _ _ (by omega) ⟨53, by decide, Int.lt_of_lt_of_le op7.2 (by decide), by omega, by decide, by omega⟩ ⟨by decide, by omega⟩
  ·
    rw [if_neg g2]
    unfold F_FR_narrowed_J25
    by_cases g5 : ((F_FR_isFinite (p53.1 : Int32) (p53.2.1 : Int32) (p53.2.2.1 : Int32) (p53.2.2.2.1 : Int32) (p53.2.2.2.2.1 : Int64) (p53.2.2.2.2.2.1 : Int32) (p53.2.2.2.2.2.2.1 : Int32) (p53.2.2.2.2.2.2.2.1 : Int64) (p53.2.2.2.2.2.2.2.2.1 : Int32) (p53.2.2.2.2.2.2.2.2.2.1 : Int64) (p53.2.2.2.2.2.2.2.2.2.2 : Int32)) : Int32) = (0 : Int32)
    ·
      rw [if_pos g5]
      by_cases g6 : (lg_cmp (p53.2.2.2.2.1 : Int64) 0 : Int32) = (0 : Int32)
      ·
        rw [if_pos g6]
        exact (show fxN (2147483648 ||| 2139095040 : Int64) from by unfold fxN; decide)
      ·
        rw [if_neg g6]
        exact (show fxN (2143289344 : Int64) from by unfold fxN; decide)
    ·
      rw [if_neg g5]
      have gf := g5
      have z3 := fx_fn2 gf; have z9 := op9 z3; exact vx_n1 (Or.inr rfl) _ _ _ _ _ (by omega) ⟨53, by decide, Int.lt_of_lt_of_le op7.2 (by decide), by omega, by decide, by omega⟩ ⟨by decide, by omega⟩

/-! TextRows, exactly -/
theorem d_18_15_0 : decode prog_18_method_15_code 0 = .ok (.aload_n 0, 1) := by decide +kernel
theorem d_18_15_1 : decode prog_18_method_15_code 1 = .ok (.getfield 28, 3) := by decide +kernel
set_option maxRecDepth 100000 in
theorem w_2144 : (Cond.fieldLink "NumberHouseModel$TextRows" (28 : Nat) "NumberHouseModel$TextRows" "place" "I") ∈ q_tbl := q_of9 224 rfl (by decide +kernel)
theorem d_18_15_4 : decode prog_18_method_15_code 4 = .ok (.aload_n 0, 1) := by decide +kernel
theorem d_18_15_5 : decode prog_18_method_15_code 5 = .ok (.getfield 25, 3) := by decide +kernel
set_option maxRecDepth 100000 in
theorem w_2141 : (Cond.fieldLink "NumberHouseModel$TextRows" (25 : Nat) "NumberHouseModel$TextRows" "length" "I") ∈ q_tbl := q_of9 221 rfl (by decide +kernel)
theorem d_18_15_8 : decode prog_18_method_15_code 8 = .ok (.if_icmp .ge 30, 3) := by decide +kernel
theorem d_18_15_38 : decode prog_18_method_15_code 38 = .ok (.return_, 1) := by decide +kernel
theorem d_18_15_11 : decode prog_18_method_15_code 11 = .ok (.aload_n 0, 1) := by decide +kernel
theorem d_18_15_12 : decode prog_18_method_15_code 12 = .ok (.getfield 7, 3) := by decide +kernel
theorem d_18_15_15 : decode prog_18_method_15_code 15 = .ok (.aload_n 0, 1) := by decide +kernel
theorem d_18_15_16 : decode prog_18_method_15_code 16 = .ok (.getfield 28, 3) := by decide +kernel
theorem d_18_15_19 : decode prog_18_method_15_code 19 = .ok (.iaload, 1) := by decide +kernel
theorem d_18_15_20 : decode prog_18_method_15_code 20 = .ok (.bipush 32, 2) := by decide +kernel
theorem d_18_15_22 : decode prog_18_method_15_code 22 = .ok (.if_icmp .gt 16, 3) := by decide +kernel
theorem d_18_15_25 : decode prog_18_method_15_code 25 = .ok (.aload_n 0, 1) := by decide +kernel
theorem d_18_15_26 : decode prog_18_method_15_code 26 = .ok (.dup, 1) := by decide +kernel
theorem d_18_15_27 : decode prog_18_method_15_code 27 = .ok (.getfield 28, 3) := by decide +kernel
theorem d_18_15_30 : decode prog_18_method_15_code 30 = .ok (.iconst 1, 1) := by decide +kernel
theorem d_18_15_31 : decode prog_18_method_15_code 31 = .ok (.iadd, 1) := by decide +kernel
theorem d_18_15_32 : decode prog_18_method_15_code 32 = .ok (.putfield 28, 3) := by decide +kernel
theorem d_18_15_35 : decode prog_18_method_15_code 35 = .ok (.goto (-35), 3) := by decide +kernel
def y_TR_blanks : MethodName := ⟨"NumberHouseModel$TextRows", "blanks", "()V"⟩
def F_TR_blanks_L0 (t0_0 : Int32) (t0_1 : Int32) (t0_2 : Int32) (t0_3 : Int32) (t0_4 : Int32) (t0_5 : Int32) (t0_6 : Int32) (t0_7 : Int64) (t0_8 : Int32) (t0_9 : Int32) (t0_10 : Int64) (t0_11 : Int64) (t0_12 : Int32) (t0_13 : Int32) (t1_0 : (Nat → Int32)) : Nat → Int32 → (Int32 × Int32 × Int32 × Int32 × Int32 × Int32 × Int32 × Int64 × Int32 × Int32 × Int64 × Int64 × Int32 × Int32)
  | 0, _ => default
  | fm + 1, lx22 => if t0_1 ≤ lx22 then ((t0_0, t0_1, t0_2, lx22, t0_4, t0_5, t0_6, t0_7, t0_8, t0_9, t0_10, t0_11, t0_12, t0_13)) else (if (32 : Int32) < (t1_0 lx22.toNatClampNeg : Int32) then ((t0_0, t0_1, t0_2, lx22, t0_4, t0_5, t0_6, t0_7, t0_8, t0_9, t0_10, t0_11, t0_12, t0_13)) else (F_TR_blanks_L0 t0_0 t0_1 t0_2 t0_3 t0_4 t0_5 t0_6 t0_7 t0_8 t0_9 t0_10 t0_11 t0_12 t0_13 t1_0 fm (lx22 + 1 : Int32)))
def F_TR_blanks (t0_0 : Int32) (t0_1 : Int32) (t0_2 : Int32) (t0_3 : Int32) (t0_4 : Int32) (t0_5 : Int32) (t0_6 : Int32) (t0_7 : Int64) (t0_8 : Int32) (t0_9 : Int32) (t0_10 : Int64) (t0_11 : Int64) (t0_12 : Int32) (t0_13 : Int32) (t1_0 : (Nat → Int32)) : Int32 × Int32 × Int32 × Int32 × Int32 × Int32 × Int32 × Int64 × Int32 × Int32 × Int64 × Int64 × Int32 × Int32 := F_TR_blanks_L0 t0_0 t0_1 t0_2 t0_3 t0_4 t0_5 t0_6 t0_7 t0_8 t0_9 t0_10 t0_11 t0_12 t0_13 t1_0 ((4100 - t0_3.toInt).toNat + 1) t0_3
def S_TR_blanks_L0 (t0_0 : Int32) (t0_1 : Int32) (t0_2 : Int32) (t0_3 : Int32) (t0_4 : Int32) (t0_5 : Int32) (t0_6 : Int32) (t0_7 : Int64) (t0_8 : Int32) (t0_9 : Int32) (t0_10 : Int64) (t0_11 : Int64) (t0_12 : Int32) (t0_13 : Int32) (t1_0 : (Nat → Int32)) : Nat → Int32 → Prop
  | 0, _ => False
  | fm + 1, lx22 => if t0_1 ≤ lx22 then (True) else ((0 ≤ lx22.toInt) ∧ (if (32 : Int32) < (t1_0 lx22.toNatClampNeg : Int32) then (True) else (S_TR_blanks_L0 t0_0 t0_1 t0_2 t0_3 t0_4 t0_5 t0_6 t0_7 t0_8 t0_9 t0_10 t0_11 t0_12 t0_13 t1_0 fm (lx22 + 1 : Int32))))
def S_TR_blanks (t0_0 : Int32) (t0_1 : Int32) (t0_2 : Int32) (t0_3 : Int32) (t0_4 : Int32) (t0_5 : Int32) (t0_6 : Int32) (t0_7 : Int64) (t0_8 : Int32) (t0_9 : Int32) (t0_10 : Int64) (t0_11 : Int64) (t0_12 : Int32) (t0_13 : Int32) (t1_0 : (Nat → Int32)) : Prop := S_TR_blanks_L0 t0_0 t0_1 t0_2 t0_3 t0_4 t0_5 t0_6 t0_7 t0_8 t0_9 t0_10 t0_11 t0_12 t0_13 t1_0 ((4100 - t0_3.toInt).toNat + 1) t0_3
set_option maxRecDepth 100000 in
set_option maxHeartbeats 4000000 in
theorem X_TR_blanks (l : Launch) (D : va_G) (g : Nat → ClassId) (q : Nat → Nat) (ws : va_W) (hI : q_I (msh g q) q ws) (t0_0 : Int32) (t0_1 : Int32) (t0_2 : Int32) (t0_3 : Int32) (t0_4 : Int32) (t0_5 : Int32) (t0_6 : Int32) (t0_7 : Int64) (t0_8 : Int32) (t0_9 : Int32) (t0_10 : Int64) (t0_11 : Int64) (t0_12 : Int32) (t0_13 : Int32) (hT0 : ws[153]? = (some (q 153, .inr (16, [.int t0_0, .ref (q 154), .int t0_1, .int t0_2, .int t0_3, .int t0_4, .ref (q 155), .int t0_5, .int t0_6, .long t0_7, .ref (q 156), .int t0_8, .int t0_9, .long t0_10, .long t0_11, .int t0_12, .int t0_13])) : Option (Nat × va_E))) (t1_0 : (Nat → Int32)) (hT1 : ws[154]? = (some (q 154, .inl (g 0, (4100 : Int32).toNatClampNeg, .inl t1_0)) : Option (Nat × va_E))) (hS : True ∧ S_TR_blanks t0_0 t0_1 t0_2 t0_3 t0_4 t0_5 t0_6 t0_7 t0_8 t0_9 t0_10 t0_11 t0_12 t0_13 t1_0) : q_mV l y_TR_blanks prog_18_method_15_code 1 1 0 0 D g [.ref (q 153)] ws (fun u => q_I (msh g q) q u ∧ q_un ws u [153] ∧ ∃ (u0_0 : Int32) (u0_1 : Int32) (u0_2 : Int32) (u0_3 : Int32) (u0_4 : Int32) (u0_5 : Int32) (u0_6 : Int32) (u0_7 : Int64) (u0_8 : Int32) (u0_9 : Int32) (u0_10 : Int64) (u0_11 : Int64) (u0_12 : Int32) (u0_13 : Int32), u[153]? = (some (q 153, .inr (16, [.int u0_0, .ref (q 154), .int u0_1, .int u0_2, .int u0_3, .int u0_4, .ref (q 155), .int u0_5, .int u0_6, .long u0_7, .ref (q 156), .int u0_8, .int u0_9, .long u0_10, .long u0_11, .int u0_12, .int u0_13])) : Option (Nat × va_E)) ∧ (0 ≤ u0_3.toInt) ∧ (t0_0.toInt ≤ u0_0.toInt) ∧ (u0_0.toInt ≤ t0_0.toInt) ∧ (t0_1.toInt ≤ u0_1.toInt) ∧ (u0_1.toInt ≤ t0_1.toInt) ∧ (t0_2.toInt ≤ u0_2.toInt) ∧ (u0_2.toInt ≤ t0_2.toInt) ∧ (t0_3.toInt ≤ u0_3.toInt) ∧ (t0_4.toInt ≤ u0_4.toInt) ∧ (u0_4.toInt ≤ t0_4.toInt) ∧ (t0_5.toInt ≤ u0_5.toInt) ∧ (u0_5.toInt ≤ t0_5.toInt) ∧ (t0_6.toInt ≤ u0_6.toInt) ∧ (u0_6.toInt ≤ t0_6.toInt) ∧ (t0_7.toInt ≤ u0_7.toInt) ∧ (u0_7.toInt ≤ t0_7.toInt) ∧ (t0_8.toInt ≤ u0_8.toInt) ∧ (u0_8.toInt ≤ t0_8.toInt) ∧ (t0_9.toInt ≤ u0_9.toInt) ∧ (u0_9.toInt ≤ t0_9.toInt) ∧ (t0_10.toInt ≤ u0_10.toInt) ∧ (u0_10.toInt ≤ t0_10.toInt) ∧ (t0_11.toInt ≤ u0_11.toInt) ∧ (u0_11.toInt ≤ t0_11.toInt) ∧ (t0_12.toInt ≤ u0_12.toInt) ∧ (u0_12.toInt ≤ t0_12.toInt) ∧ (t0_13.toInt ≤ u0_13.toInt) ∧ (u0_13.toInt ≤ t0_13.toInt) ∧ (u0_0, u0_1, u0_2, u0_3, u0_4, u0_5, u0_6, u0_7, u0_8, u0_9, u0_10, u0_11, u0_12, u0_13) = (F_TR_blanks t0_0 t0_1 t0_2 t0_3 t0_4 t0_5 t0_6 t0_7 t0_8 t0_9 t0_10 t0_11 t0_12 t0_13 t1_0)) := by
  intro sz
  refine q_into (by decide) (Nat.le_of_ble_eq_true rfl) ?_
  intro p e s m below meth c ls hsz C0 V hl
  have hx := C0.1
  have hb := C0.2.1
  obtain ⟨btt0_1, hZ9⟩ := n_w153 hI hT0
  obtain ⟨btt0_4, btt0_13⟩ := hZ9
  replace btt0_1 : q_F (0 ≤ t0_1.toInt ∧ t0_1.toInt ≤ 4100) := btt0_1
  replace btt0_4 : q_F (0 ≤ t0_4.toInt ∧ t0_4.toInt ≤ 1) := btt0_4
  replace btt0_13 : q_F (0 ≤ t0_13.toInt ∧ t0_13.toInt ≤ 1) := btt0_13
  have hF : q_un ws ws [153] := q_u0
  have hl : lv_has ls 1 [(0, .ref (q 153))] := hl
  refine q_loop (X := Int32) (fun z H locs ls w25 => q_F (t0_3.toInt ≤ z.toInt) ∧ q_Wd D g (va_A ws sz) s w25 H locs ∧ lv_has ls 1 [(0, .ref (q 153))] ∧ q_I (msh g q) q w25 ∧ q_un ws w25 [153] ∧ w25[153]? = (some (q 153, .inr (16, [.int t0_0, .ref (q 154), .int t0_1, .int t0_2, .int z, .int t0_4, .ref (q 155), .int t0_5, .int t0_6, .long t0_7, .ref (q 156), .int t0_8, .int t0_9, .long t0_10, .long t0_11, .int t0_12, .int t0_13])) : Option (Nat × va_E)) ∧ w25[154]? = (some (q 154, .inl (g 0, (4100 : Int32).toNatClampNeg, .inl t1_0)) : Option (Nat × va_E)) ∧ (∃ n, (4100 - z.toInt).toNat < n ∧ F_TR_blanks_L0 t0_0 t0_1 t0_2 t0_3 t0_4 t0_5 t0_6 t0_7 t0_8 t0_9 t0_10 t0_11 t0_12 t0_13 t1_0 n z = (F_TR_blanks t0_0 t0_1 t0_2 t0_3 t0_4 t0_5 t0_6 t0_7 t0_8 t0_9 t0_10 t0_11 t0_12 t0_13 t1_0) ∧ True ∧ S_TR_blanks_L0 t0_0 t0_1 t0_2 t0_3 t0_4 t0_5 t0_6 t0_7 t0_8 t0_9 t0_10 t0_11 t0_12 t0_13 t1_0 n z)) (fun z => (4100 - z.toInt).toNat) ?_ ((t0_3 : Int32)) _ _ _ ws ⟨(show q_F (t0_3.toInt ≤ t0_3.toInt) from (show t0_3.toInt ≤ t0_3.toInt from by omega)), V, q_lw hl (q_lw1 0 rfl q_lw0), hI, hF, hT0, hT1, ⟨((4100 - t0_3.toInt).toNat + 1), Nat.lt_succ_self _, (show F_TR_blanks_L0 t0_0 t0_1 t0_2 t0_3 t0_4 t0_5 t0_6 t0_7 t0_8 t0_9 t0_10 t0_11 t0_12 t0_13 t1_0 ((4100 - t0_3.toInt).toNat + 1) t0_3 = (F_TR_blanks t0_0 t0_1 t0_2 t0_3 t0_4 t0_5 t0_6 t0_7 t0_8 t0_9 t0_10 t0_11 t0_12 t0_13 t1_0) from (by rw [F_TR_blanks.eq_1])), (show True ∧ S_TR_blanks_L0 t0_0 t0_1 t0_2 t0_3 t0_4 t0_5 t0_6 t0_7 t0_8 t0_9 t0_10 t0_11 t0_12 t0_13 t1_0 ((4100 - t0_3.toInt).toNat + 1) t0_3 from (by have h := hS; rw [S_TR_blanks.eq_1] at h; with_reducible exact h))⟩⟩
  rintro lx22 H locs ls w25 ⟨i23, V, hl, hI, hF, hO26, hO27, ⟨fu30, hf31, hR28, hS29⟩⟩ ih24
  obtain ⟨fm32, rfl⟩ : ∃ m, fu30 = m + 1 := ⟨fu30 - 1, by omega⟩
  replace i23 : q_F (t0_3.toInt ≤ lx22.toInt) := i23
  replace hl : lv_has ls 1 [(0, .ref (q 153))] := hl
  replace hO26 : w25[153]? = (some (q 153, .inr (16, [.int t0_0, .ref (q 154), .int t0_1, .int t0_2, .int lx22, .int t0_4, .ref (q 155), .int t0_5, .int t0_6, .long t0_7, .ref (q 156), .int t0_8, .int t0_9, .long t0_10, .long t0_11, .int t0_12, .int t0_13])) : Option (Nat × va_E)) := hO26
  replace hO27 : w25[154]? = (some (q 154, .inl (g 0, (4100 : Int32).toNatClampNeg, .inl t1_0)) : Option (Nat × va_E)) := hO27
  refine lv_aload_n hx hb d_18_15_0 rfl (lv_at hl 0 rfl) ?_
  refine q_get (ci := 16) (j := 4) (v := .int lx22) C0 V i_TR rfl rfl hO26 (by decide) w_2144 rfl d_18_15_1 ?_
  refine lv_aload_n hx hb d_18_15_4 rfl (lv_at hl 0 rfl) ?_
  refine q_get (ci := 16) (j := 2) (v := .int t0_1) C0 V i_TR rfl rfl hO26 (by decide) w_2141 rfl d_18_15_5 ?_
  refine lv_icmp_ge (tgt := 38) hx hb d_18_15_8 (by decide) (fun c33 => ?_) (fun c33 => ?_)
  ·
    have b34 : q_F (t0_1.toInt ≤ lx22.toInt) := (q_leI c33)
    exact q_retv C0 V (⟨hI, hF, t0_0, t0_1, t0_2, lx22, t0_4, t0_5, t0_6, t0_7, t0_8, t0_9, t0_10, t0_11, t0_12, t0_13, hO26, (show 0 ≤ lx22.toInt from (by have t1 : 0 ≤ t0_1.toInt ∧ t0_1.toInt ≤ 4100 := btt0_1; have t2 : t0_1.toInt ≤ lx22.toInt := b34; omega)), (show t0_0.toInt ≤ t0_0.toInt from (by omega)), (show t0_0.toInt ≤ t0_0.toInt from (by omega)), (show t0_1.toInt ≤ t0_1.toInt from (by omega)), (show t0_1.toInt ≤ t0_1.toInt from (by omega)), (show t0_2.toInt ≤ t0_2.toInt from (by omega)), (show t0_2.toInt ≤ t0_2.toInt from (by omega)), (show t0_3.toInt ≤ lx22.toInt from (by first | with_reducible exact q_fe i23 | (have t1 : t0_3.toInt ≤ lx22.toInt := i23; omega))), (show t0_4.toInt ≤ t0_4.toInt from (by omega)), (show t0_4.toInt ≤ t0_4.toInt from (by omega)), (show t0_5.toInt ≤ t0_5.toInt from (by omega)), (show t0_5.toInt ≤ t0_5.toInt from (by omega)), (show t0_6.toInt ≤ t0_6.toInt from (by omega)), (show t0_6.toInt ≤ t0_6.toInt from (by omega)), (show t0_7.toInt ≤ t0_7.toInt from (by omega)), (show t0_7.toInt ≤ t0_7.toInt from (by omega)), (show t0_8.toInt ≤ t0_8.toInt from (by omega)), (show t0_8.toInt ≤ t0_8.toInt from (by omega)), (show t0_9.toInt ≤ t0_9.toInt from (by omega)), (show t0_9.toInt ≤ t0_9.toInt from (by omega)), (show t0_10.toInt ≤ t0_10.toInt from (by omega)), (show t0_10.toInt ≤ t0_10.toInt from (by omega)), (show t0_11.toInt ≤ t0_11.toInt from (by omega)), (show t0_11.toInt ≤ t0_11.toInt from (by omega)), (show t0_12.toInt ≤ t0_12.toInt from (by omega)), (show t0_12.toInt ≤ t0_12.toInt from (by omega)), (show t0_13.toInt ≤ t0_13.toInt from (by omega)), (show t0_13.toInt ≤ t0_13.toInt from (by omega)), (show (t0_0, t0_1, t0_2, lx22, t0_4, t0_5, t0_6, t0_7, t0_8, t0_9, t0_10, t0_11, t0_12, t0_13) = (F_TR_blanks t0_0 t0_1 t0_2 t0_3 t0_4 t0_5 t0_6 t0_7 t0_8 t0_9 t0_10 t0_11 t0_12 t0_13 t1_0) from Eq.trans (by rw [F_TR_blanks_L0.eq_2, if_pos c33]) hR28)⟩) d_18_15_38
  ·
    have b35 : q_F (lx22.toInt < t0_1.toInt) := (q_nleI c33)
    refine lv_aload_n hx hb d_18_15_11 rfl (lv_at hl 0 rfl) ?_
    refine q_get (ci := 16) (j := 1) (v := .ref (q 154)) C0 V i_TR rfl rfl hO26 (by decide) w_2139 rfl d_18_15_12 ?_
    refine lv_aload_n hx hb d_18_15_15 rfl (lv_at hl 0 rfl) ?_
    refine q_get (ci := 16) (j := 4) (v := .int lx22) C0 V i_TR rfl rfl hO26 (by decide) w_2144 rfl d_18_15_16 ?_
    have ob36 : q_F (0 ≤ lx22.toInt) := (by have h := hS29; rw [S_TR_blanks_L0.eq_2] at h; rw [if_neg c33] at h; exact h.2.1)
    refine q_iald C0 V hO27 (q_ix (x := lx22.toInt) rfl (by first | with_reducible exact q_fe ob36 | (have t1 : 0 ≤ lx22.toInt := ob36; omega)) (by have t1 : 0 ≤ lx22.toInt := ob36; have t2 : 0 ≤ t0_1.toInt ∧ t0_1.toInt ≤ 4100 := btt0_1; have t3 : lx22.toInt < t0_1.toInt := b35; have e9 : (((4100 : Int32).toNatClampNeg : Nat) : Int) = 4100 := (by decide); omega)) d_18_15_19 ?_
    obtain ⟨a37, e38⟩ := q_nm (t1_0 lx22.toNatClampNeg : Int32)
    refine q_ti (v := a37) e38 ?_
    refine lv_bipush (v := 32) hx hb d_18_15_20 (by decide) ?_
    refine lv_icmp_gt (tgt := 38) hx hb d_18_15_22 (by decide) (fun c39 => ?_) (fun c39 => ?_)
    ·
      exact q_retv C0 V (⟨hI, hF, t0_0, t0_1, t0_2, lx22, t0_4, t0_5, t0_6, t0_7, t0_8, t0_9, t0_10, t0_11, t0_12, t0_13, hO26, (show 0 ≤ lx22.toInt from (by first | with_reducible exact q_fe ob36 | (have t1 : 0 ≤ lx22.toInt := ob36; omega))), (show t0_0.toInt ≤ t0_0.toInt from (by omega)), (show t0_0.toInt ≤ t0_0.toInt from (by omega)), (show t0_1.toInt ≤ t0_1.toInt from (by omega)), (show t0_1.toInt ≤ t0_1.toInt from (by omega)), (show t0_2.toInt ≤ t0_2.toInt from (by omega)), (show t0_2.toInt ≤ t0_2.toInt from (by omega)), (show t0_3.toInt ≤ lx22.toInt from (by first | with_reducible exact q_fe i23 | (have t1 : t0_3.toInt ≤ lx22.toInt := i23; omega))), (show t0_4.toInt ≤ t0_4.toInt from (by omega)), (show t0_4.toInt ≤ t0_4.toInt from (by omega)), (show t0_5.toInt ≤ t0_5.toInt from (by omega)), (show t0_5.toInt ≤ t0_5.toInt from (by omega)), (show t0_6.toInt ≤ t0_6.toInt from (by omega)), (show t0_6.toInt ≤ t0_6.toInt from (by omega)), (show t0_7.toInt ≤ t0_7.toInt from (by omega)), (show t0_7.toInt ≤ t0_7.toInt from (by omega)), (show t0_8.toInt ≤ t0_8.toInt from (by omega)), (show t0_8.toInt ≤ t0_8.toInt from (by omega)), (show t0_9.toInt ≤ t0_9.toInt from (by omega)), (show t0_9.toInt ≤ t0_9.toInt from (by omega)), (show t0_10.toInt ≤ t0_10.toInt from (by omega)), (show t0_10.toInt ≤ t0_10.toInt from (by omega)), (show t0_11.toInt ≤ t0_11.toInt from (by omega)), (show t0_11.toInt ≤ t0_11.toInt from (by omega)), (show t0_12.toInt ≤ t0_12.toInt from (by omega)), (show t0_12.toInt ≤ t0_12.toInt from (by omega)), (show t0_13.toInt ≤ t0_13.toInt from (by omega)), (show t0_13.toInt ≤ t0_13.toInt from (by omega)), (show (t0_0, t0_1, t0_2, lx22, t0_4, t0_5, t0_6, t0_7, t0_8, t0_9, t0_10, t0_11, t0_12, t0_13) = (F_TR_blanks t0_0 t0_1 t0_2 t0_3 t0_4 t0_5 t0_6 t0_7 t0_8 t0_9 t0_10 t0_11 t0_12 t0_13 t1_0) from Eq.trans (by have c39x := c39; rw [← e38] at c39x; rw [F_TR_blanks_L0.eq_2, if_neg c33, if_pos c39x]) hR28)⟩) d_18_15_38
    ·
      refine lv_aload_n hx hb d_18_15_25 rfl (lv_at hl 0 rfl) ?_
      refine lv_dup hx hb d_18_15_26 rfl ?_
      refine q_get (ci := 16) (j := 4) (v := .int lx22) C0 V i_TR rfl rfl hO26 (by decide) w_2144 rfl d_18_15_27 ?_
      refine lv_iconst (v := 1) hx hb d_18_15_30 (by decide) ?_
      refine lv_iadd hx hb d_18_15_31 ?_
      obtain ⟨a42, e43⟩ := q_nm (lx22 + 1 : Int32)
      refine q_ti (v := a42) e43 ?_
      have b44 : q_F (a42.toInt = lx22.toInt + 1) := (by rw [← e43]; show (lx22 + 1 : Int32).toInt = lx22.toInt + 1; exact q_addI (x := lx22.toInt) (y := 1) rfl (by decide) (by have t1 : 0 ≤ lx22.toInt := ob36; have t2 : lx22.toInt < t0_1.toInt := b35; have _ := q_lo32 (x := t0_1); have _ := q_hi32 (x := t0_1); omega) (by have t1 : 0 ≤ lx22.toInt := ob36; have t2 : lx22.toInt < t0_1.toInt := b35; have _ := q_lo32 (x := t0_1); have _ := q_hi32 (x := t0_1); omega))
      refine q_put (ci := 16) (j := 4) (v := .int a42) (ty := .int) C0 V i_TR o_TR n_TR rfl rfl hO26 (by decide) w_2144 rfl rfl rfl rfl (Nat.le_of_ble_eq_true rfl) d_18_15_32 (fun H locs w45 hu46 hO26 V => ?_)
      replace hO26 : w45[153]? = (some (q 153, .inr (16, [.int t0_0, .ref (q 154), .int t0_1, .int t0_2, .int a42, .int t0_4, .ref (q 155), .int t0_5, .int t0_6, .long t0_7, .ref (q 156), .int t0_8, .int t0_9, .long t0_10, .long t0_11, .int t0_12, .int t0_13])) : Option (Nat × va_E)) := hO26
      replace hI := n_p153 hI hu46 hO26 (by first | with_reducible exact q_fe btt0_1 | exact ⟨(by have t1 : 0 ≤ t0_1.toInt ∧ t0_1.toInt ≤ 4100 := btt0_1; omega), (by have t1 : 0 ≤ t0_1.toInt ∧ t0_1.toInt ≤ 4100 := btt0_1; omega)⟩) (by first | with_reducible exact q_fe btt0_4 | exact ⟨(by have t1 : 0 ≤ t0_4.toInt ∧ t0_4.toInt ≤ 1 := btt0_4; omega), (by have t1 : 0 ≤ t0_4.toInt ∧ t0_4.toInt ≤ 1 := btt0_4; omega)⟩) (by first | with_reducible exact q_fe btt0_13 | exact ⟨(by have t1 : 0 ≤ t0_13.toInt ∧ t0_13.toInt ≤ 1 := btt0_13; omega), (by have t1 : 0 ≤ t0_13.toInt ∧ t0_13.toInt ≤ 1 := btt0_13; omega)⟩)
      replace hO27 := (hu46 _ (by decide)).trans hO27
      replace hF := q_us hF hu46 (by simp)
      refine lv_goto (tgt := 0) hx hb d_18_15_35 (by decide) ?_
      exact ih24 ((a42 : Int32)) _ _ _ _ (show (4100 - a42.toInt).toNat < (4100 - lx22.toInt).toNat from by have t1 : a42.toInt = lx22.toInt + 1 := b44; have t2 : 0 ≤ t0_1.toInt ∧ t0_1.toInt ≤ 4100 := btt0_1; have t3 : lx22.toInt < t0_1.toInt := b35; omega) ⟨(show q_F (t0_3.toInt ≤ a42.toInt) from (show t0_3.toInt ≤ a42.toInt from by have t1 : t0_3.toInt ≤ lx22.toInt := i23; have t2 : a42.toInt = lx22.toInt + 1 := b44; omega)), V, q_lw hl (q_lw1 0 rfl q_lw0), hI, hF, hO26, hO27, ⟨fm32, Nat.lt_of_lt_of_le (show (4100 - a42.toInt).toNat < (4100 - lx22.toInt).toNat from by have t1 : a42.toInt = lx22.toInt + 1 := b44; have t2 : 0 ≤ t0_1.toInt ∧ t0_1.toInt ≤ 4100 := btt0_1; have t3 : lx22.toInt < t0_1.toInt := b35; omega) (Nat.le_of_lt_succ hf31), (show F_TR_blanks_L0 t0_0 t0_1 t0_2 t0_3 t0_4 t0_5 t0_6 t0_7 t0_8 t0_9 t0_10 t0_11 t0_12 t0_13 t1_0 fm32 a42 = (F_TR_blanks t0_0 t0_1 t0_2 t0_3 t0_4 t0_5 t0_6 t0_7 t0_8 t0_9 t0_10 t0_11 t0_12 t0_13 t1_0) from Eq.trans (by have c39x := c39; rw [← e38] at c39x; rw [← e43, F_TR_blanks_L0.eq_2, if_neg c33, if_neg c39x]) hR28), (show True ∧ S_TR_blanks_L0 t0_0 t0_1 t0_2 t0_3 t0_4 t0_5 t0_6 t0_7 t0_8 t0_9 t0_10 t0_11 t0_12 t0_13 t1_0 fm32 a42 from (by rw [← e43]; have h := hS29; rw [S_TR_blanks_L0.eq_2] at h; rw [if_neg c33] at h; replace h := q_s2 h; have c39x := c39; rw [← e38] at c39x; rw [if_neg c39x] at h; with_reducible exact h))⟩⟩
theorem d_18_7_0 : decode prog_18_method_7_code 0 = .ok (.aload_n 0, 1) := by decide +kernel
theorem d_18_7_1 : decode prog_18_method_7_code 1 = .ok (.getfield 28, 3) := by decide +kernel
theorem d_18_7_4 : decode prog_18_method_7_code 4 = .ok (.aload_n 0, 1) := by decide +kernel
theorem d_18_7_5 : decode prog_18_method_7_code 5 = .ok (.getfield 25, 3) := by decide +kernel
theorem d_18_7_8 : decode prog_18_method_7_code 8 = .ok (.if_icmp .ge 15, 3) := by decide +kernel
theorem d_18_7_23 : decode prog_18_method_7_code 23 = .ok (.iconst 0, 1) := by decide +kernel
theorem d_18_7_24 : decode prog_18_method_7_code 24 = .ok (.ireturn, 1) := by decide +kernel
theorem d_18_7_11 : decode prog_18_method_7_code 11 = .ok (.aload_n 0, 1) := by decide +kernel
theorem d_18_7_12 : decode prog_18_method_7_code 12 = .ok (.getfield 7, 3) := by decide +kernel
theorem d_18_7_15 : decode prog_18_method_7_code 15 = .ok (.aload_n 0, 1) := by decide +kernel
theorem d_18_7_16 : decode prog_18_method_7_code 16 = .ok (.getfield 28, 3) := by decide +kernel
theorem d_18_7_19 : decode prog_18_method_7_code 19 = .ok (.iaload, 1) := by decide +kernel
theorem d_18_7_20 : decode prog_18_method_7_code 20 = .ok (.goto 4, 3) := by decide +kernel
def y_TR_here : MethodName := ⟨"NumberHouseModel$TextRows", "here", "()I"⟩
def F_TR_here (t0_0 : Int32) (t0_1 : Int32) (t0_2 : Int32) (t0_3 : Int32) (t0_4 : Int32) (t0_5 : Int32) (t0_6 : Int32) (t0_7 : Int64) (t0_8 : Int32) (t0_9 : Int32) (t0_10 : Int64) (t0_11 : Int64) (t0_12 : Int32) (t0_13 : Int32) (t1_0 : (Nat → Int32)) : Int32 := if t0_1 ≤ t0_3 then ((0 : Int32)) else ((t1_0 t0_3.toNatClampNeg : Int32))
def S_TR_here (t0_0 : Int32) (t0_1 : Int32) (t0_2 : Int32) (t0_3 : Int32) (t0_4 : Int32) (t0_5 : Int32) (t0_6 : Int32) (t0_7 : Int64) (t0_8 : Int32) (t0_9 : Int32) (t0_10 : Int64) (t0_11 : Int64) (t0_12 : Int32) (t0_13 : Int32) (t1_0 : (Nat → Int32)) : Prop := if t0_1 ≤ t0_3 then (True) else ((0 ≤ t0_3.toInt) ∧ (True))
set_option maxRecDepth 100000 in
set_option maxHeartbeats 4000000 in
theorem X_TR_here (l : Launch) (D : va_G) (g : Nat → ClassId) (q : Nat → Nat) (ws : va_W) (hI : q_I (msh g q) q ws) (t0_0 : Int32) (t0_1 : Int32) (t0_2 : Int32) (t0_3 : Int32) (t0_4 : Int32) (t0_5 : Int32) (t0_6 : Int32) (t0_7 : Int64) (t0_8 : Int32) (t0_9 : Int32) (t0_10 : Int64) (t0_11 : Int64) (t0_12 : Int32) (t0_13 : Int32) (hT0 : ws[153]? = (some (q 153, .inr (16, [.int t0_0, .ref (q 154), .int t0_1, .int t0_2, .int t0_3, .int t0_4, .ref (q 155), .int t0_5, .int t0_6, .long t0_7, .ref (q 156), .int t0_8, .int t0_9, .long t0_10, .long t0_11, .int t0_12, .int t0_13])) : Option (Nat × va_E))) (t1_0 : (Nat → Int32)) (hT1 : ws[154]? = (some (q 154, .inl (g 0, (4100 : Int32).toNatClampNeg, .inl t1_0)) : Option (Nat × va_E))) (hS : True ∧ S_TR_here t0_0 t0_1 t0_2 t0_3 t0_4 t0_5 t0_6 t0_7 t0_8 t0_9 t0_10 t0_11 t0_12 t0_13 t1_0) : q_mI l y_TR_here prog_18_method_7_code 1 (.int) 1 0 0 D g [.ref (q 153)] ws (fun r u => ws = u ∧ r = (F_TR_here t0_0 t0_1 t0_2 t0_3 t0_4 t0_5 t0_6 t0_7 t0_8 t0_9 t0_10 t0_11 t0_12 t0_13 t1_0)) := by
  intro sz
  refine q_into (by decide) (Nat.le_of_ble_eq_true rfl) ?_
  intro p e s m below meth c ls hsz C0 V hl
  have hx := C0.1
  have hb := C0.2.1
  obtain ⟨btt0_1, hZ9⟩ := n_w153 hI hT0
  obtain ⟨-, btt0_13⟩ := hZ9
  replace btt0_1 : q_F (0 ≤ t0_1.toInt ∧ t0_1.toInt ≤ 4100) := btt0_1
  clear btt0_13
  have hl : lv_has ls 1 [(0, .ref (q 153))] := hl
  refine lv_aload_n hx hb d_18_7_0 rfl (lv_at hl 0 rfl) ?_
  refine q_get (ci := 16) (j := 4) (v := .int t0_3) C0 V i_TR rfl rfl hT0 (by decide) w_2144 rfl d_18_7_1 ?_
  refine lv_aload_n hx hb d_18_7_4 rfl (lv_at hl 0 rfl) ?_
  refine q_get (ci := 16) (j := 2) (v := .int t0_1) C0 V i_TR rfl rfl hT0 (by decide) w_2141 rfl d_18_7_5 ?_
  refine lv_icmp_ge (tgt := 23) hx hb d_18_7_8 (by decide) (fun c22 => ?_) (fun c22 => ?_)
  ·
    refine lv_iconst (v := 0) hx hb d_18_7_23 (by decide) ?_
    exact q_reti C0 V (⟨rfl, (show (0 : Int32) = (F_TR_here t0_0 t0_1 t0_2 t0_3 t0_4 t0_5 t0_6 t0_7 t0_8 t0_9 t0_10 t0_11 t0_12 t0_13 t1_0) from (by rw [F_TR_here.eq_1, if_pos c22]))⟩) d_18_7_24
  ·
    have b24 : q_F (t0_3.toInt < t0_1.toInt) := (q_nleI c22)
    refine lv_aload_n hx hb d_18_7_11 rfl (lv_at hl 0 rfl) ?_
    refine q_get (ci := 16) (j := 1) (v := .ref (q 154)) C0 V i_TR rfl rfl hT0 (by decide) w_2139 rfl d_18_7_12 ?_
    refine lv_aload_n hx hb d_18_7_15 rfl (lv_at hl 0 rfl) ?_
    refine q_get (ci := 16) (j := 4) (v := .int t0_3) C0 V i_TR rfl rfl hT0 (by decide) w_2144 rfl d_18_7_16 ?_
    have ob25 : q_F (0 ≤ t0_3.toInt) := (by have h := hS; rw [S_TR_here.eq_1] at h; rw [if_neg c22] at h; exact h.2.1)
    refine q_iald C0 V hT1 (q_ix (x := t0_3.toInt) rfl (by first | with_reducible exact q_fe ob25 | (have t1 : 0 ≤ t0_3.toInt := ob25; omega)) (by have t1 : 0 ≤ t0_3.toInt := ob25; have t2 : 0 ≤ t0_1.toInt ∧ t0_1.toInt ≤ 4100 := btt0_1; have t3 : t0_3.toInt < t0_1.toInt := b24; have e9 : (((4100 : Int32).toNatClampNeg : Nat) : Int) = 4100 := (by decide); omega)) d_18_7_19 ?_
    obtain ⟨a26, e27⟩ := q_nm (t1_0 t0_3.toNatClampNeg : Int32)
    refine q_ti (v := a26) e27 ?_
    refine lv_goto (tgt := 24) hx hb d_18_7_20 (by decide) ?_
    exact q_reti C0 V (⟨rfl, (show a26 = (F_TR_here t0_0 t0_1 t0_2 t0_3 t0_4 t0_5 t0_6 t0_7 t0_8 t0_9 t0_10 t0_11 t0_12 t0_13 t1_0) from (by rw [← e27, F_TR_here.eq_1, if_neg c22]))⟩) d_18_7_24
theorem d_18_11_0 : decode prog_18_method_11_code 0 = .ok (.lload_n 1, 1) := by decide +kernel
theorem d_18_11_1 : decode prog_18_method_11_code 1 = .ok (.lstore_n 3, 1) := by decide +kernel
theorem d_18_11_2 : decode prog_18_method_11_code 2 = .ok (.lload_n 3, 1) := by decide +kernel
theorem d_18_11_3 : decode prog_18_method_11_code 3 = .ok (.lconst 0, 1) := by decide +kernel
theorem d_18_11_4 : decode prog_18_method_11_code 4 = .ok (.lcmp, 1) := by decide +kernel
theorem d_18_11_5 : decode prog_18_method_11_code 5 = .ok (.ifCond .eq 37, 3) := by decide +kernel
theorem d_18_11_42 : decode prog_18_method_11_code 42 = .ok (.iconst 1, 1) := by decide +kernel
theorem d_18_11_43 : decode prog_18_method_11_code 43 = .ok (.ireturn, 1) := by decide +kernel
theorem d_18_11_8 : decode prog_18_method_11_code 8 = .ok (.aload_n 0, 1) := by decide +kernel
theorem d_18_11_9 : decode prog_18_method_11_code 9 = .ok (.invokevirtual 35, 3) := by decide +kernel
set_option maxRecDepth 100000 in
theorem w_2434 : (Cond.code ({ cls := "NumberHouseModel$TextRows", name := "here", desc := "()I" } : MethodName) prog_18_method_7_code (1 : Nat) (some .int)) ∈ q_tbl := q_of11 34 rfl (by decide +kernel)
set_option maxRecDepth 100000 in
theorem w_2431 : (Cond.methodLink "NumberHouseModel$TextRows" (35 : Nat) ({ cls := "NumberHouseModel$TextRows", name := "here", desc := "()I" } : MethodName)) ∈ q_tbl := q_of11 31 rfl (by decide +kernel)
set_option maxRecDepth 100000 in
theorem w_2433 : (Cond.instanceMethod ({ cls := "NumberHouseModel$TextRows", name := "here", desc := "()I" } : MethodName)) ∈ q_tbl := q_of11 33 rfl (by decide +kernel)
theorem ws_67 : Cond.selects "NumberHouseModel$TextRows" (⟨"NumberHouseModel$TextRows", "here", "()I"⟩ : MethodName) (⟨"NumberHouseModel$TextRows", "here", "()I"⟩ : MethodName) ∈ q_tbl := q_ofs 67 (by decide +kernel) (by decide +kernel)
theorem LV_TR_35 : q_LV "NumberHouseModel$TextRows" 35 y_TR_here prog_18_method_7_code 1 (some .int) 0 := ⟨w_2434, w_18, w_2431, w_2433, ws_67, ⟨by decide, by decide, by decide +kernel⟩⟩
theorem d_18_11_12 : decode prog_18_method_11_code 12 = .ok (.i2l, 1) := by decide +kernel
theorem d_18_11_13 : decode prog_18_method_11_code 13 = .ok (.lload_n 3, 1) := by decide +kernel
theorem d_18_11_14 : decode prog_18_method_11_code 14 = .ok (.ldc2_w 23, 3) := by decide +kernel
set_option maxRecDepth 100000 in
theorem w_2440 : (Cond.constantLong "NumberHouseModel$TextRows" (23 : Nat) (255 : Int64)) ∈ q_tbl := q_of11 40 rfl (by decide +kernel)
theorem d_18_11_17 : decode prog_18_method_11_code 17 = .ok (.land, 1) := by decide +kernel
theorem d_18_11_18 : decode prog_18_method_11_code 18 = .ok (.lcmp, 1) := by decide +kernel
theorem d_18_11_19 : decode prog_18_method_11_code 19 = .ok (.ifCond .eq 5, 3) := by decide +kernel
theorem d_18_11_24 : decode prog_18_method_11_code 24 = .ok (.aload_n 0, 1) := by decide +kernel
theorem d_18_11_25 : decode prog_18_method_11_code 25 = .ok (.dup, 1) := by decide +kernel
theorem d_18_11_26 : decode prog_18_method_11_code 26 = .ok (.getfield 28, 3) := by decide +kernel
theorem d_18_11_29 : decode prog_18_method_11_code 29 = .ok (.iconst 1, 1) := by decide +kernel
theorem d_18_11_30 : decode prog_18_method_11_code 30 = .ok (.iadd, 1) := by decide +kernel
theorem d_18_11_31 : decode prog_18_method_11_code 31 = .ok (.putfield 28, 3) := by decide +kernel
theorem d_18_11_34 : decode prog_18_method_11_code 34 = .ok (.lload_n 3, 1) := by decide +kernel
theorem d_18_11_35 : decode prog_18_method_11_code 35 = .ok (.bipush 8, 2) := by decide +kernel
theorem d_18_11_37 : decode prog_18_method_11_code 37 = .ok (.lshr, 1) := by decide +kernel
theorem d_18_11_38 : decode prog_18_method_11_code 38 = .ok (.lstore_n 3, 1) := by decide +kernel
theorem d_18_11_39 : decode prog_18_method_11_code 39 = .ok (.goto (-37), 3) := by decide +kernel
theorem d_18_11_22 : decode prog_18_method_11_code 22 = .ok (.iconst 0, 1) := by decide +kernel
theorem d_18_11_23 : decode prog_18_method_11_code 23 = .ok (.ireturn, 1) := by decide +kernel
def y_TR_spells : MethodName := ⟨"NumberHouseModel$TextRows", "spells", "(J)Z"⟩
def F_TR_spells_L2 (x2 : Int64) (t0_0 : Int32) (t0_1 : Int32) (t0_2 : Int32) (t0_3 : Int32) (t0_4 : Int32) (t0_5 : Int32) (t0_6 : Int32) (t0_7 : Int64) (t0_8 : Int32) (t0_9 : Int32) (t0_10 : Int64) (t0_11 : Int64) (t0_12 : Int32) (t0_13 : Int32) (t1_0 : (Nat → Int32)) : Nat → Int64 → Int32 → (Int32 × Int32 × Int32 × Int32 × Int32 × Int32 × Int32 × Int32 × Int64 × Int32 × Int32 × Int64 × Int64 × Int32 × Int32)
  | 0, _, _ => default
  | fm + 1, lx23, lx24 => if (lg_cmp lx23 0 : Int32) = (0 : Int32) then (((1 : Int32), t0_0, t0_1, t0_2, lx24, t0_4, t0_5, t0_6, t0_7, t0_8, t0_9, t0_10, t0_11, t0_12, t0_13)) else (if (lg_cmp (((F_TR_here t0_0 t0_1 t0_2 lx24 t0_4 t0_5 t0_6 t0_7 t0_8 t0_9 t0_10 t0_11 t0_12 t0_13 t1_0) : Int32).toInt64 : Int64) (lx23 &&& 255 : Int64) : Int32) = (0 : Int32) then (F_TR_spells_L2 x2 t0_0 t0_1 t0_2 t0_3 t0_4 t0_5 t0_6 t0_7 t0_8 t0_9 t0_10 t0_11 t0_12 t0_13 t1_0 fm (lx23 >>> ((8 : Int32).toInt64 &&& 63) : Int64) (lx24 + 1 : Int32)) else (((0 : Int32), t0_0, t0_1, t0_2, lx24, t0_4, t0_5, t0_6, t0_7, t0_8, t0_9, t0_10, t0_11, t0_12, t0_13)))
def F_TR_spells (x2 : Int64) (t0_0 : Int32) (t0_1 : Int32) (t0_2 : Int32) (t0_3 : Int32) (t0_4 : Int32) (t0_5 : Int32) (t0_6 : Int32) (t0_7 : Int64) (t0_8 : Int32) (t0_9 : Int32) (t0_10 : Int64) (t0_11 : Int64) (t0_12 : Int32) (t0_13 : Int32) (t1_0 : (Nat → Int32)) : Int32 × Int32 × Int32 × Int32 × Int32 × Int32 × Int32 × Int32 × Int64 × Int32 × Int32 × Int64 × Int64 × Int32 × Int32 := F_TR_spells_L2 x2 t0_0 t0_1 t0_2 t0_3 t0_4 t0_5 t0_6 t0_7 t0_8 t0_9 t0_10 t0_11 t0_12 t0_13 t1_0 1000000 x2 t0_3
def S_TR_spells_L2 (x2 : Int64) (t0_0 : Int32) (t0_1 : Int32) (t0_2 : Int32) (t0_3 : Int32) (t0_4 : Int32) (t0_5 : Int32) (t0_6 : Int32) (t0_7 : Int64) (t0_8 : Int32) (t0_9 : Int32) (t0_10 : Int64) (t0_11 : Int64) (t0_12 : Int32) (t0_13 : Int32) (t1_0 : (Nat → Int32)) : Nat → Int64 → Int32 → Prop
  | 0, _, _ => False
  | fm + 1, lx23, lx24 => if (lg_cmp lx23 0 : Int32) = (0 : Int32) then (True) else ((True ∧ S_TR_here t0_0 t0_1 t0_2 lx24 t0_4 t0_5 t0_6 t0_7 t0_8 t0_9 t0_10 t0_11 t0_12 t0_13 t1_0) ∧ (if (lg_cmp (((F_TR_here t0_0 t0_1 t0_2 lx24 t0_4 t0_5 t0_6 t0_7 t0_8 t0_9 t0_10 t0_11 t0_12 t0_13 t1_0) : Int32).toInt64 : Int64) (lx23 &&& 255 : Int64) : Int32) = (0 : Int32) then (S_TR_spells_L2 x2 t0_0 t0_1 t0_2 t0_3 t0_4 t0_5 t0_6 t0_7 t0_8 t0_9 t0_10 t0_11 t0_12 t0_13 t1_0 fm (lx23 >>> ((8 : Int32).toInt64 &&& 63) : Int64) (lx24 + 1 : Int32)) else (True)))
def S_TR_spells (x2 : Int64) (t0_0 : Int32) (t0_1 : Int32) (t0_2 : Int32) (t0_3 : Int32) (t0_4 : Int32) (t0_5 : Int32) (t0_6 : Int32) (t0_7 : Int64) (t0_8 : Int32) (t0_9 : Int32) (t0_10 : Int64) (t0_11 : Int64) (t0_12 : Int32) (t0_13 : Int32) (t1_0 : (Nat → Int32)) : Prop := S_TR_spells_L2 x2 t0_0 t0_1 t0_2 t0_3 t0_4 t0_5 t0_6 t0_7 t0_8 t0_9 t0_10 t0_11 t0_12 t0_13 t1_0 1000000 x2 t0_3
set_option maxRecDepth 100000 in
set_option maxHeartbeats 4000000 in
theorem X_TR_spells (l : Launch) (D : va_G) (g : Nat → ClassId) (q : Nat → Nat) (ws : va_W) (x2 : Int64) (hI : q_I (msh g q) q ws) (t0_0 : Int32) (t0_1 : Int32) (t0_2 : Int32) (t0_3 : Int32) (t0_4 : Int32) (t0_5 : Int32) (t0_6 : Int32) (t0_7 : Int64) (t0_8 : Int32) (t0_9 : Int32) (t0_10 : Int64) (t0_11 : Int64) (t0_12 : Int32) (t0_13 : Int32) (hT0 : ws[153]? = (some (q 153, .inr (16, [.int t0_0, .ref (q 154), .int t0_1, .int t0_2, .int t0_3, .int t0_4, .ref (q 155), .int t0_5, .int t0_6, .long t0_7, .ref (q 156), .int t0_8, .int t0_9, .long t0_10, .long t0_11, .int t0_12, .int t0_13])) : Option (Nat × va_E))) (t1_0 : (Nat → Int32)) (hT1 : ws[154]? = (some (q 154, .inl (g 0, (4100 : Int32).toNatClampNeg, .inl t1_0)) : Option (Nat × va_E))) (hS : True ∧ S_TR_spells x2 t0_0 t0_1 t0_2 t0_3 t0_4 t0_5 t0_6 t0_7 t0_8 t0_9 t0_10 t0_11 t0_12 t0_13 t1_0) : q_mI l y_TR_spells prog_18_method_11_code 5 (.boolean) 2 0 0 D g [.ref (q 153), .long x2] ws (fun r u => q_I (msh g q) q u ∧ q_un ws u [153] ∧ ∃ (u0_0 : Int32) (u0_1 : Int32) (u0_2 : Int32) (u0_3 : Int32) (u0_4 : Int32) (u0_5 : Int32) (u0_6 : Int32) (u0_7 : Int64) (u0_8 : Int32) (u0_9 : Int32) (u0_10 : Int64) (u0_11 : Int64) (u0_12 : Int32) (u0_13 : Int32), u[153]? = (some (q 153, .inr (16, [.int u0_0, .ref (q 154), .int u0_1, .int u0_2, .int u0_3, .int u0_4, .ref (q 155), .int u0_5, .int u0_6, .long u0_7, .ref (q 156), .int u0_8, .int u0_9, .long u0_10, .long u0_11, .int u0_12, .int u0_13])) : Option (Nat × va_E)) ∧ (0 ≤ r.toInt) ∧ (r.toInt ≤ 1) ∧ (t0_0.toInt ≤ u0_0.toInt) ∧ (u0_0.toInt ≤ t0_0.toInt) ∧ (t0_1.toInt ≤ u0_1.toInt) ∧ (u0_1.toInt ≤ t0_1.toInt) ∧ (t0_2.toInt ≤ u0_2.toInt) ∧ (u0_2.toInt ≤ t0_2.toInt) ∧ (t0_4.toInt ≤ u0_4.toInt) ∧ (u0_4.toInt ≤ t0_4.toInt) ∧ (t0_5.toInt ≤ u0_5.toInt) ∧ (u0_5.toInt ≤ t0_5.toInt) ∧ (t0_6.toInt ≤ u0_6.toInt) ∧ (u0_6.toInt ≤ t0_6.toInt) ∧ (t0_7.toInt ≤ u0_7.toInt) ∧ (u0_7.toInt ≤ t0_7.toInt) ∧ (t0_8.toInt ≤ u0_8.toInt) ∧ (u0_8.toInt ≤ t0_8.toInt) ∧ (t0_9.toInt ≤ u0_9.toInt) ∧ (u0_9.toInt ≤ t0_9.toInt) ∧ (t0_10.toInt ≤ u0_10.toInt) ∧ (u0_10.toInt ≤ t0_10.toInt) ∧ (t0_11.toInt ≤ u0_11.toInt) ∧ (u0_11.toInt ≤ t0_11.toInt) ∧ (t0_12.toInt ≤ u0_12.toInt) ∧ (u0_12.toInt ≤ t0_12.toInt) ∧ (t0_13.toInt ≤ u0_13.toInt) ∧ (u0_13.toInt ≤ t0_13.toInt) ∧ (r, u0_0, u0_1, u0_2, u0_3, u0_4, u0_5, u0_6, u0_7, u0_8, u0_9, u0_10, u0_11, u0_12, u0_13) = (F_TR_spells x2 t0_0 t0_1 t0_2 t0_3 t0_4 t0_5 t0_6 t0_7 t0_8 t0_9 t0_10 t0_11 t0_12 t0_13 t1_0)) := by
  intro sz
  refine q_into (by decide) (Nat.le_of_ble_eq_true rfl) ?_
  intro p e s m below meth c ls hsz C0 V hl
  have hx := C0.1
  have hb := C0.2.1
  obtain ⟨btt0_1, hZ9⟩ := n_w153 hI hT0
  obtain ⟨btt0_4, btt0_13⟩ := hZ9
  replace btt0_1 : q_F (0 ≤ t0_1.toInt ∧ t0_1.toInt ≤ 4100) := btt0_1
  replace btt0_4 : q_F (0 ≤ t0_4.toInt ∧ t0_4.toInt ≤ 1) := btt0_4
  replace btt0_13 : q_F (0 ≤ t0_13.toInt ∧ t0_13.toInt ≤ 1) := btt0_13
  have hF : q_un ws ws [153] := q_u0
  have hl : lv_has ls 5 [(0, .ref (q 153)), (1, .long x2)] := hl
  refine lv_lload_n hx hb d_18_11_0 rfl (lv_at hl 1 rfl) ?_
  refine lv_lstore_n (lv' := [(3, .long x2), (0, .ref (q 153)), (1, .long x2)]) hx hb d_18_11_1 rfl hl (by decide) rfl (fun ls hl => ?_)
  refine q_loop (X := Nat × Int64 × Int32) (fun z H locs ls w26 => q_Wd D g (va_A ws sz) s w26 H locs ∧ lv_has ls 5 [(3, .long z.2.1), (0, .ref (q 153))] ∧ q_I (msh g q) q w26 ∧ q_un ws w26 [153] ∧ w26[153]? = (some (q 153, .inr (16, [.int t0_0, .ref (q 154), .int t0_1, .int t0_2, .int z.2.2, .int t0_4, .ref (q 155), .int t0_5, .int t0_6, .long t0_7, .ref (q 156), .int t0_8, .int t0_9, .long t0_10, .long t0_11, .int t0_12, .int t0_13])) : Option (Nat × va_E)) ∧ w26[154]? = (some (q 154, .inl (g 0, (4100 : Int32).toNatClampNeg, .inl t1_0)) : Option (Nat × va_E)) ∧ F_TR_spells_L2 x2 t0_0 t0_1 t0_2 t0_3 t0_4 t0_5 t0_6 t0_7 t0_8 t0_9 t0_10 t0_11 t0_12 t0_13 t1_0 z.1 z.2.1 z.2.2 = (F_TR_spells x2 t0_0 t0_1 t0_2 t0_3 t0_4 t0_5 t0_6 t0_7 t0_8 t0_9 t0_10 t0_11 t0_12 t0_13 t1_0) ∧ True ∧ S_TR_spells_L2 x2 t0_0 t0_1 t0_2 t0_3 t0_4 t0_5 t0_6 t0_7 t0_8 t0_9 t0_10 t0_11 t0_12 t0_13 t1_0 z.1 z.2.1 z.2.2) (fun z => z.1) ?_ ((1000000 : Nat), (x2 : Int64), (t0_3 : Int32)) _ _ _ ws ⟨V, q_lw hl (q_lw1 0 rfl (q_lw1 1 rfl q_lw0)), hI, hF, hT0, hT1, (show F_TR_spells_L2 x2 t0_0 t0_1 t0_2 t0_3 t0_4 t0_5 t0_6 t0_7 t0_8 t0_9 t0_10 t0_11 t0_12 t0_13 t1_0 1000000 x2 t0_3 = (F_TR_spells x2 t0_0 t0_1 t0_2 t0_3 t0_4 t0_5 t0_6 t0_7 t0_8 t0_9 t0_10 t0_11 t0_12 t0_13 t1_0) from (by rw [F_TR_spells.eq_1])), (show True ∧ S_TR_spells_L2 x2 t0_0 t0_1 t0_2 t0_3 t0_4 t0_5 t0_6 t0_7 t0_8 t0_9 t0_10 t0_11 t0_12 t0_13 t1_0 1000000 x2 t0_3 from (by have h := hS; rw [S_TR_spells.eq_1] at h; with_reducible exact h))⟩
  rintro ⟨fu31, lx23, lx24⟩ H locs ls w26 ⟨V, hl, hI, hF, hO27, hO28, hR29, hS30⟩ ih25
  obtain ⟨fm33, rfl⟩ : ∃ m, fu31 = m + 1 := Nat.exists_eq_succ_of_ne_zero (fun e => by subst e; rw [S_TR_spells_L2.eq_1] at hS30; exact hS30.2)
  replace hl : lv_has ls 5 [(3, .long lx23), (0, .ref (q 153))] := hl
  replace hO27 : w26[153]? = (some (q 153, .inr (16, [.int t0_0, .ref (q 154), .int t0_1, .int t0_2, .int lx24, .int t0_4, .ref (q 155), .int t0_5, .int t0_6, .long t0_7, .ref (q 156), .int t0_8, .int t0_9, .long t0_10, .long t0_11, .int t0_12, .int t0_13])) : Option (Nat × va_E)) := hO27
  replace hO28 : w26[154]? = (some (q 154, .inl (g 0, (4100 : Int32).toNatClampNeg, .inl t1_0)) : Option (Nat × va_E)) := hO28
  refine lv_lload_n hx hb d_18_11_2 rfl (lv_at hl 0 rfl) ?_
  refine lv_lconst (v := 0) hx hb d_18_11_3 (by decide) ?_
  refine W.lcmp hx hb d_18_11_4 ?_
  obtain ⟨a34, e35⟩ := q_nm (lg_cmp lx23 0 : Int32)
  refine q_ti (v := a34) e35 ?_
  refine lv_if_eq (tgt := 42) hx hb d_18_11_5 (by decide) (fun c37 => ?_) (fun c37 => ?_)
  ·
    refine lv_iconst (v := 1) hx hb d_18_11_42 (by decide) ?_
    exact q_retz C0 V (by decide) (⟨hI, hF, t0_0, t0_1, t0_2, lx24, t0_4, t0_5, t0_6, t0_7, t0_8, t0_9, t0_10, t0_11, t0_12, t0_13, hO27, (show 0 ≤ (1 : Int32).toInt from (by have z16 : (1 : Int32).toInt = 1 := rfl; omega)), (show (1 : Int32).toInt ≤ 1 from (by have z16 : (1 : Int32).toInt = 1 := rfl; omega)), (show t0_0.toInt ≤ t0_0.toInt from (by have z16 : (1 : Int32).toInt = 1 := rfl; omega)), (show t0_0.toInt ≤ t0_0.toInt from (by have z16 : (1 : Int32).toInt = 1 := rfl; omega)), (show t0_1.toInt ≤ t0_1.toInt from (by have z16 : (1 : Int32).toInt = 1 := rfl; omega)), (show t0_1.toInt ≤ t0_1.toInt from (by have z16 : (1 : Int32).toInt = 1 := rfl; omega)), (show t0_2.toInt ≤ t0_2.toInt from (by have z16 : (1 : Int32).toInt = 1 := rfl; omega)), (show t0_2.toInt ≤ t0_2.toInt from (by have z16 : (1 : Int32).toInt = 1 := rfl; omega)), (show t0_4.toInt ≤ t0_4.toInt from (by have z16 : (1 : Int32).toInt = 1 := rfl; omega)), (show t0_4.toInt ≤ t0_4.toInt from (by have z16 : (1 : Int32).toInt = 1 := rfl; omega)), (show t0_5.toInt ≤ t0_5.toInt from (by have z16 : (1 : Int32).toInt = 1 := rfl; omega)), (show t0_5.toInt ≤ t0_5.toInt from (by have z16 : (1 : Int32).toInt = 1 := rfl; omega)), (show t0_6.toInt ≤ t0_6.toInt from (by have z16 : (1 : Int32).toInt = 1 := rfl; omega)), (show t0_6.toInt ≤ t0_6.toInt from (by have z16 : (1 : Int32).toInt = 1 := rfl; omega)), (show t0_7.toInt ≤ t0_7.toInt from (by have z16 : (1 : Int32).toInt = 1 := rfl; omega)), (show t0_7.toInt ≤ t0_7.toInt from (by have z16 : (1 : Int32).toInt = 1 := rfl; omega)), (show t0_8.toInt ≤ t0_8.toInt from (by have z16 : (1 : Int32).toInt = 1 := rfl; omega)), (show t0_8.toInt ≤ t0_8.toInt from (by have z16 : (1 : Int32).toInt = 1 := rfl; omega)), (show t0_9.toInt ≤ t0_9.toInt from (by have z16 : (1 : Int32).toInt = 1 := rfl; omega)), (show t0_9.toInt ≤ t0_9.toInt from (by have z16 : (1 : Int32).toInt = 1 := rfl; omega)), (show t0_10.toInt ≤ t0_10.toInt from (by have z16 : (1 : Int32).toInt = 1 := rfl; omega)), (show t0_10.toInt ≤ t0_10.toInt from (by have z16 : (1 : Int32).toInt = 1 := rfl; omega)), (show t0_11.toInt ≤ t0_11.toInt from (by have z16 : (1 : Int32).toInt = 1 := rfl; omega)), (show t0_11.toInt ≤ t0_11.toInt from (by have z16 : (1 : Int32).toInt = 1 := rfl; omega)), (show t0_12.toInt ≤ t0_12.toInt from (by have z16 : (1 : Int32).toInt = 1 := rfl; omega)), (show t0_12.toInt ≤ t0_12.toInt from (by have z16 : (1 : Int32).toInt = 1 := rfl; omega)), (show t0_13.toInt ≤ t0_13.toInt from (by have z16 : (1 : Int32).toInt = 1 := rfl; omega)), (show t0_13.toInt ≤ t0_13.toInt from (by have z16 : (1 : Int32).toInt = 1 := rfl; omega)), (show ((1 : Int32), t0_0, t0_1, t0_2, lx24, t0_4, t0_5, t0_6, t0_7, t0_8, t0_9, t0_10, t0_11, t0_12, t0_13) = (F_TR_spells x2 t0_0 t0_1 t0_2 t0_3 t0_4 t0_5 t0_6 t0_7 t0_8 t0_9 t0_10 t0_11 t0_12 t0_13 t1_0) from Eq.trans (by have c37x := c37; rw [← e35] at c37x; rw [F_TR_spells_L2.eq_2, if_pos c37x]) hR29)⟩) d_18_11_43
  ·
    refine lv_aload_n hx hb d_18_11_8 rfl (lv_at hl 1 rfl) ?_
    have ob40 : True ∧ S_TR_here t0_0 t0_1 t0_2 lx24 t0_4 t0_5 t0_6 t0_7 t0_8 t0_9 t0_10 t0_11 t0_12 t0_13 t1_0 := (by have h := hS30; rw [S_TR_spells_L2.eq_2] at h; have c37x := c37; rw [← e35] at c37x; rw [if_neg c37x] at h; with_reducible exact h.2.1)
    refine q_goi V (q_runV (As := []) (rest := []) (d := 1) (mc := 0) (ms := 0) (ci := 16) C0 V rfl LV_TR_35 (X_TR_here l D g q w26   hI t0_0 t0_1 t0_2 lx24 t0_4 t0_5 t0_6 t0_7 t0_8 t0_9 t0_10 t0_11 t0_12 t0_13 hO27 t1_0 hO28 ob40 _) rfl rfl hO27 rfl hl.1 rfl (Nat.le_of_ble_eq_true rfl) ⟨by decide, by decide⟩ ⟨Nat.le_of_ble_eq_true rfl, Nat.le_of_ble_eq_true rfl⟩ d_18_11_9) (fun a43 u41 H locs hp42 V => ?_)
    obtain ⟨rfl, hE44⟩ := hp42
    have e45 : a43 = (F_TR_here t0_0 t0_1 t0_2 lx24 t0_4 t0_5 t0_6 t0_7 t0_8 t0_9 t0_10 t0_11 t0_12 t0_13 t1_0) := hE44
    refine lv_i2l hx hb d_18_11_12 rfl ?_
    obtain ⟨j46, e47⟩ := q_nm (a43.toInt64 : Int64)
    refine q_tl (v := j46) e47 ?_
    refine lv_lload_n hx hb d_18_11_13 rfl (lv_at hl 0 rfl) ?_
    refine q_ldc2 C0 rfl w_2440 d_18_11_14 ?_
    refine lv_land hx hb d_18_11_17 ?_
    obtain ⟨j49, e50⟩ := q_nm (lx23 &&& 255 : Int64)
    refine q_tl (v := j49) e50 ?_
    refine W.lcmp hx hb d_18_11_18 ?_
    obtain ⟨a52, e53⟩ := q_nm (lg_cmp j46 j49 : Int32)
    refine q_ti (v := a52) e53 ?_
    refine lv_if_eq (tgt := 24) hx hb d_18_11_19 (by decide) (fun c55 => ?_) (fun c55 => ?_)
    ·
      refine lv_aload_n hx hb d_18_11_24 rfl (lv_at hl 1 rfl) ?_
      refine lv_dup hx hb d_18_11_25 rfl ?_
      refine q_get (ci := 16) (j := 4) (v := .int lx24) C0 V i_TR rfl rfl hO27 (by decide) w_2144 rfl d_18_11_26 ?_
      refine lv_iconst (v := 1) hx hb d_18_11_29 (by decide) ?_
      refine lv_iadd hx hb d_18_11_30 ?_
      obtain ⟨a57, e58⟩ := q_nm (lx24 + 1 : Int32)
      refine q_ti (v := a57) e58 ?_
      refine q_put (ci := 16) (j := 4) (v := .int a57) (ty := .int) C0 V i_TR o_TR n_TR rfl rfl hO27 (by decide) w_2144 rfl rfl rfl rfl (Nat.le_of_ble_eq_true rfl) d_18_11_31 (fun H locs w59 hu60 hO27 V => ?_)
      replace hO27 : w59[153]? = (some (q 153, .inr (16, [.int t0_0, .ref (q 154), .int t0_1, .int t0_2, .int a57, .int t0_4, .ref (q 155), .int t0_5, .int t0_6, .long t0_7, .ref (q 156), .int t0_8, .int t0_9, .long t0_10, .long t0_11, .int t0_12, .int t0_13])) : Option (Nat × va_E)) := hO27
      replace hI := n_p153 hI hu60 hO27 (by first | with_reducible exact q_fe btt0_1 | exact ⟨(by have t1 : 0 ≤ t0_1.toInt ∧ t0_1.toInt ≤ 4100 := btt0_1; omega), (by have t1 : 0 ≤ t0_1.toInt ∧ t0_1.toInt ≤ 4100 := btt0_1; omega)⟩) (by first | with_reducible exact q_fe btt0_4 | exact ⟨(by have t1 : 0 ≤ t0_4.toInt ∧ t0_4.toInt ≤ 1 := btt0_4; omega), (by have t1 : 0 ≤ t0_4.toInt ∧ t0_4.toInt ≤ 1 := btt0_4; omega)⟩) (by first | with_reducible exact q_fe btt0_13 | exact ⟨(by have t1 : 0 ≤ t0_13.toInt ∧ t0_13.toInt ≤ 1 := btt0_13; omega), (by have t1 : 0 ≤ t0_13.toInt ∧ t0_13.toInt ≤ 1 := btt0_13; omega)⟩)
      replace hO28 := (hu60 _ (by decide)).trans hO28
      replace hF := q_us hF hu60 (by simp)
      refine lv_lload_n hx hb d_18_11_34 rfl (lv_at hl 0 rfl) ?_
      refine lv_bipush (v := 8) hx hb d_18_11_35 (by decide) ?_
      refine lv_lshr hx hb d_18_11_37 rfl ?_
      obtain ⟨j61, e62⟩ := q_nm (lx23 >>> ((8 : Int32).toInt64 &&& 63) : Int64)
      refine q_tl (v := j61) e62 ?_
      refine lv_lstore_n (lv' := [(3, .long j61), (0, .ref (q 153))]) hx hb d_18_11_38 rfl hl (by decide) rfl (fun ls hl => ?_)
      refine lv_goto (tgt := 2) hx hb d_18_11_39 (by decide) ?_
      exact ih25 ((fm33 : Nat), (j61 : Int64), (a57 : Int32)) _ _ _ _ (Nat.lt_succ_self _) ⟨V, q_lw hl (q_lw1 0 rfl (q_lw1 1 rfl q_lw0)), hI, hF, hO27, hO28, (show F_TR_spells_L2 x2 t0_0 t0_1 t0_2 t0_3 t0_4 t0_5 t0_6 t0_7 t0_8 t0_9 t0_10 t0_11 t0_12 t0_13 t1_0 fm33 j61 a57 = (F_TR_spells x2 t0_0 t0_1 t0_2 t0_3 t0_4 t0_5 t0_6 t0_7 t0_8 t0_9 t0_10 t0_11 t0_12 t0_13 t1_0) from Eq.trans (by have c37x := c37; rw [← e35] at c37x; have c55x := c55; rw [← e53, ← e50, ← e47, e45] at c55x; rw [← e62, ← e58, F_TR_spells_L2.eq_2, if_neg c37x, if_pos c55x]) hR29), (show True ∧ S_TR_spells_L2 x2 t0_0 t0_1 t0_2 t0_3 t0_4 t0_5 t0_6 t0_7 t0_8 t0_9 t0_10 t0_11 t0_12 t0_13 t1_0 fm33 j61 a57 from (by rw [← e62, ← e58]; have h := hS30; rw [S_TR_spells_L2.eq_2] at h; have c37x := c37; rw [← e35] at c37x; rw [if_neg c37x] at h; replace h := q_s2 h; have c55x := c55; rw [← e53, ← e50, ← e47, e45] at c55x; rw [if_pos c55x] at h; with_reducible exact h))⟩
    ·
      refine lv_iconst (v := 0) hx hb d_18_11_22 (by decide) ?_
      exact q_retz C0 V (by decide) (⟨hI, hF, t0_0, t0_1, t0_2, lx24, t0_4, t0_5, t0_6, t0_7, t0_8, t0_9, t0_10, t0_11, t0_12, t0_13, hO27, (show 0 ≤ (0 : Int32).toInt from (by have z16 : (0 : Int32).toInt = 0 := rfl; omega)), (show (0 : Int32).toInt ≤ 1 from (by have z16 : (0 : Int32).toInt = 0 := rfl; omega)), (show t0_0.toInt ≤ t0_0.toInt from (by have z16 : (0 : Int32).toInt = 0 := rfl; omega)), (show t0_0.toInt ≤ t0_0.toInt from (by have z16 : (0 : Int32).toInt = 0 := rfl; omega)), (show t0_1.toInt ≤ t0_1.toInt from (by have z16 : (0 : Int32).toInt = 0 := rfl; omega)), (show t0_1.toInt ≤ t0_1.toInt from (by have z16 : (0 : Int32).toInt = 0 := rfl; omega)), (show t0_2.toInt ≤ t0_2.toInt from (by have z16 : (0 : Int32).toInt = 0 := rfl; omega)), (show t0_2.toInt ≤ t0_2.toInt from (by have z16 : (0 : Int32).toInt = 0 := rfl; omega)), (show t0_4.toInt ≤ t0_4.toInt from (by have z16 : (0 : Int32).toInt = 0 := rfl; omega)), (show t0_4.toInt ≤ t0_4.toInt from (by have z16 : (0 : Int32).toInt = 0 := rfl; omega)), (show t0_5.toInt ≤ t0_5.toInt from (by have z16 : (0 : Int32).toInt = 0 := rfl; omega)), (show t0_5.toInt ≤ t0_5.toInt from (by have z16 : (0 : Int32).toInt = 0 := rfl; omega)), (show t0_6.toInt ≤ t0_6.toInt from (by have z16 : (0 : Int32).toInt = 0 := rfl; omega)), (show t0_6.toInt ≤ t0_6.toInt from (by have z16 : (0 : Int32).toInt = 0 := rfl; omega)), (show t0_7.toInt ≤ t0_7.toInt from (by have z16 : (0 : Int32).toInt = 0 := rfl; omega)), (show t0_7.toInt ≤ t0_7.toInt from (by have z16 : (0 : Int32).toInt = 0 := rfl; omega)), (show t0_8.toInt ≤ t0_8.toInt from (by have z16 : (0 : Int32).toInt = 0 := rfl; omega)), (show t0_8.toInt ≤ t0_8.toInt from (by have z16 : (0 : Int32).toInt = 0 := rfl; omega)), (show t0_9.toInt ≤ t0_9.toInt from (by have z16 : (0 : Int32).toInt = 0 := rfl; omega)), (show t0_9.toInt ≤ t0_9.toInt from (by have z16 : (0 : Int32).toInt = 0 := rfl; omega)), (show t0_10.toInt ≤ t0_10.toInt from (by have z16 : (0 : Int32).toInt = 0 := rfl; omega)), (show t0_10.toInt ≤ t0_10.toInt from (by have z16 : (0 : Int32).toInt = 0 := rfl; omega)), (show t0_11.toInt ≤ t0_11.toInt from (by have z16 : (0 : Int32).toInt = 0 := rfl; omega)), (show t0_11.toInt ≤ t0_11.toInt from (by have z16 : (0 : Int32).toInt = 0 := rfl; omega)), (show t0_12.toInt ≤ t0_12.toInt from (by have z16 : (0 : Int32).toInt = 0 := rfl; omega)), (show t0_12.toInt ≤ t0_12.toInt from (by have z16 : (0 : Int32).toInt = 0 := rfl; omega)), (show t0_13.toInt ≤ t0_13.toInt from (by have z16 : (0 : Int32).toInt = 0 := rfl; omega)), (show t0_13.toInt ≤ t0_13.toInt from (by have z16 : (0 : Int32).toInt = 0 := rfl; omega)), (show ((0 : Int32), t0_0, t0_1, t0_2, lx24, t0_4, t0_5, t0_6, t0_7, t0_8, t0_9, t0_10, t0_11, t0_12, t0_13) = (F_TR_spells x2 t0_0 t0_1 t0_2 t0_3 t0_4 t0_5 t0_6 t0_7 t0_8 t0_9 t0_10 t0_11 t0_12 t0_13 t1_0) from Eq.trans (by have c37x := c37; rw [← e35] at c37x; have c55x := c55; rw [← e53, ← e50, ← e47, e45] at c55x; rw [F_TR_spells_L2.eq_2, if_neg c37x, if_neg c55x]) hR29)⟩) d_18_11_23
theorem d_18_8_0 : decode prog_18_method_8_code 0 = .ok (.iload_n 0, 1) := by decide +kernel
theorem d_18_8_1 : decode prog_18_method_8_code 1 = .ok (.bipush 48, 2) := by decide +kernel
theorem d_18_8_3 : decode prog_18_method_8_code 3 = .ok (.if_icmp .lt 13, 3) := by decide +kernel
theorem d_18_8_16 : decode prog_18_method_8_code 16 = .ok (.iconst 0, 1) := by decide +kernel
theorem d_18_8_17 : decode prog_18_method_8_code 17 = .ok (.ireturn, 1) := by decide +kernel
theorem d_18_8_6 : decode prog_18_method_8_code 6 = .ok (.iload_n 0, 1) := by decide +kernel
theorem d_18_8_7 : decode prog_18_method_8_code 7 = .ok (.bipush 57, 2) := by decide +kernel
theorem d_18_8_9 : decode prog_18_method_8_code 9 = .ok (.if_icmp .gt 7, 3) := by decide +kernel
theorem d_18_8_12 : decode prog_18_method_8_code 12 = .ok (.iconst 1, 1) := by decide +kernel
theorem d_18_8_13 : decode prog_18_method_8_code 13 = .ok (.goto 4, 3) := by decide +kernel
def y_TR_isDigit : MethodName := ⟨"NumberHouseModel$TextRows", "isDigit", "(I)Z"⟩
def F_TR_isDigit (x1 : Int32) : Int32 := if x1 < (48 : Int32) then ((0 : Int32)) else (if (57 : Int32) < x1 then ((0 : Int32)) else ((1 : Int32)))
set_option maxRecDepth 100000 in
set_option maxHeartbeats 4000000 in
theorem X_TR_isDigit (l : Launch) (D : va_G) (g : Nat → ClassId) (q : Nat → Nat) (ws : va_W) (x1 : Int32) (hI : q_I (msh g q) q ws) : q_mI l y_TR_isDigit prog_18_method_8_code 1 (.boolean) 1 0 0 D g [.int x1] ws (fun r u => ws = u ∧ (0 ≤ r.toInt) ∧ (r.toInt ≤ 1) ∧ r = (F_TR_isDigit x1)) := by
  intro sz
  refine q_into (by decide) (Nat.le_of_ble_eq_true rfl) ?_
  intro p e s m below meth c ls hsz C0 V hl
  have hx := C0.1
  have hb := C0.2.1
  have hl : lv_has ls 1 [(0, .int x1)] := hl
  refine lv_iload_n hx hb d_18_8_0 rfl (lv_at hl 0 rfl) ?_
  refine lv_bipush (v := 48) hx hb d_18_8_1 (by decide) ?_
  refine lv_icmp_lt (tgt := 16) hx hb d_18_8_3 (by decide) (fun c1 => ?_) (fun c1 => ?_)
  ·
    refine lv_iconst (v := 0) hx hb d_18_8_16 (by decide) ?_
    exact q_retz C0 V (by decide) (⟨rfl, (show 0 ≤ (0 : Int32).toInt from (by have z1 : (0 : Int32).toInt = 0 := rfl; omega)), (show (0 : Int32).toInt ≤ 1 from (by have z1 : (0 : Int32).toInt = 0 := rfl; omega)), (show (0 : Int32) = (F_TR_isDigit x1) from (by rw [F_TR_isDigit.eq_1, if_pos c1]))⟩) d_18_8_17
  ·
    refine lv_iload_n hx hb d_18_8_6 rfl (lv_at hl 0 rfl) ?_
    refine lv_bipush (v := 57) hx hb d_18_8_7 (by decide) ?_
    refine lv_icmp_gt (tgt := 16) hx hb d_18_8_9 (by decide) (fun c4 => ?_) (fun c4 => ?_)
    ·
      refine lv_iconst (v := 0) hx hb d_18_8_16 (by decide) ?_
      exact q_retz C0 V (by decide) (⟨rfl, (show 0 ≤ (0 : Int32).toInt from (by have z1 : (0 : Int32).toInt = 0 := rfl; omega)), (show (0 : Int32).toInt ≤ 1 from (by have z1 : (0 : Int32).toInt = 0 := rfl; omega)), (show (0 : Int32) = (F_TR_isDigit x1) from (by rw [F_TR_isDigit.eq_1, if_neg c1, if_pos c4]))⟩) d_18_8_17
    ·
      refine lv_iconst (v := 1) hx hb d_18_8_12 (by decide) ?_
      refine lv_goto (tgt := 17) hx hb d_18_8_13 (by decide) ?_
      exact q_retz C0 V (by decide) (⟨rfl, (show 0 ≤ (1 : Int32).toInt from (by have z1 : (1 : Int32).toInt = 1 := rfl; omega)), (show (1 : Int32).toInt ≤ 1 from (by have z1 : (1 : Int32).toInt = 1 := rfl; omega)), (show (1 : Int32) = (F_TR_isDigit x1) from (by rw [F_TR_isDigit.eq_1, if_neg c1, if_neg c4]))⟩) d_18_8_17
theorem d_18_9_0 : decode prog_18_method_9_code 0 = .ok (.iload_n 0, 1) := by decide +kernel
theorem d_18_9_1 : decode prog_18_method_9_code 1 = .ok (.invokestatic 31, 3) := by decide +kernel
set_option maxRecDepth 100000 in
theorem w_2455 : (Cond.code ({ cls := "NumberHouseModel$TextRows", name := "isDigit", desc := "(I)Z" } : MethodName) prog_18_method_8_code (1 : Nat) (some .boolean)) ∈ q_tbl := q_of11 55 rfl (by decide +kernel)
set_option maxRecDepth 100000 in
theorem w_2453 : (Cond.methodLink "NumberHouseModel$TextRows" (31 : Nat) ({ cls := "NumberHouseModel$TextRows", name := "isDigit", desc := "(I)Z" } : MethodName)) ∈ q_tbl := q_of11 53 rfl (by decide +kernel)
set_option maxRecDepth 100000 in
theorem w_2454 : (Cond.static ({ cls := "NumberHouseModel$TextRows", name := "isDigit", desc := "(I)Z" } : MethodName)) ∈ q_tbl := q_of11 54 rfl (by decide +kernel)
theorem LS_TR_31 : q_LS "NumberHouseModel$TextRows" 31 y_TR_isDigit prog_18_method_8_code 1 (some .boolean) 1 := ⟨w_2455, w_18, w_2453, w_2454, ⟨by decide, by decide, by decide +kernel⟩⟩
theorem d_18_9_4 : decode prog_18_method_9_code 4 = .ok (.ifCond .eq 10, 3) := by decide +kernel
theorem d_18_9_14 : decode prog_18_method_9_code 14 = .ok (.iload_n 0, 1) := by decide +kernel
theorem d_18_9_15 : decode prog_18_method_9_code 15 = .ok (.bipush 97, 2) := by decide +kernel
theorem d_18_9_36 : decode prog_18_method_9_code 36 = .ok (.iload_n 0, 1) := by decide +kernel
theorem d_18_9_37 : decode prog_18_method_9_code 37 = .ok (.bipush 65, 2) := by decide +kernel
theorem d_18_9_39 : decode prog_18_method_9_code 39 = .ok (.if_icmp .lt 19, 3) := by decide +kernel
theorem d_18_9_58 : decode prog_18_method_9_code 58 = .ok (.iconst (-1), 1) := by decide +kernel
theorem d_18_9_59 : decode prog_18_method_9_code 59 = .ok (.ireturn, 1) := by decide +kernel
theorem d_18_9_42 : decode prog_18_method_9_code 42 = .ok (.iload_n 0, 1) := by decide +kernel
theorem d_18_9_43 : decode prog_18_method_9_code 43 = .ok (.bipush 70, 2) := by decide +kernel
theorem d_18_9_45 : decode prog_18_method_9_code 45 = .ok (.if_icmp .gt 13, 3) := by decide +kernel
theorem d_18_9_48 : decode prog_18_method_9_code 48 = .ok (.iload_n 0, 1) := by decide +kernel
theorem d_18_9_49 : decode prog_18_method_9_code 49 = .ok (.bipush 65, 2) := by decide +kernel
theorem d_18_9_51 : decode prog_18_method_9_code 51 = .ok (.isub, 1) := by decide +kernel
theorem d_18_9_52 : decode prog_18_method_9_code 52 = .ok (.bipush 10, 2) := by decide +kernel
theorem d_18_9_54 : decode prog_18_method_9_code 54 = .ok (.iadd, 1) := by decide +kernel
theorem d_18_9_55 : decode prog_18_method_9_code 55 = .ok (.goto 4, 3) := by decide +kernel
theorem d_18_9_17 : decode prog_18_method_9_code 17 = .ok (.if_icmp .lt 19, 3) := by decide +kernel
theorem d_18_9_20 : decode prog_18_method_9_code 20 = .ok (.iload_n 0, 1) := by decide +kernel
theorem d_18_9_21 : decode prog_18_method_9_code 21 = .ok (.bipush 102, 2) := by decide +kernel
theorem d_18_9_23 : decode prog_18_method_9_code 23 = .ok (.if_icmp .gt 13, 3) := by decide +kernel
theorem d_18_9_26 : decode prog_18_method_9_code 26 = .ok (.iload_n 0, 1) := by decide +kernel
theorem d_18_9_27 : decode prog_18_method_9_code 27 = .ok (.bipush 97, 2) := by decide +kernel
theorem d_18_9_29 : decode prog_18_method_9_code 29 = .ok (.isub, 1) := by decide +kernel
theorem d_18_9_30 : decode prog_18_method_9_code 30 = .ok (.bipush 10, 2) := by decide +kernel
theorem d_18_9_32 : decode prog_18_method_9_code 32 = .ok (.iadd, 1) := by decide +kernel
theorem d_18_9_33 : decode prog_18_method_9_code 33 = .ok (.goto 26, 3) := by decide +kernel
theorem d_18_9_7 : decode prog_18_method_9_code 7 = .ok (.iload_n 0, 1) := by decide +kernel
theorem d_18_9_8 : decode prog_18_method_9_code 8 = .ok (.bipush 48, 2) := by decide +kernel
theorem d_18_9_10 : decode prog_18_method_9_code 10 = .ok (.isub, 1) := by decide +kernel
theorem d_18_9_11 : decode prog_18_method_9_code 11 = .ok (.goto 48, 3) := by decide +kernel
def y_TR_hex : MethodName := ⟨"NumberHouseModel$TextRows", "hex", "(I)I"⟩
def F_TR_hex_J36 (x1 : Int32) : Int32 := if x1 < (65 : Int32) then ((-1 : Int32)) else (if (70 : Int32) < x1 then ((-1 : Int32)) else (((x1 - 65 : Int32) + 10 : Int32)))
def F_TR_hex (x1 : Int32) : Int32 := if ((F_TR_isDigit x1) : Int32) = (0 : Int32) then (if x1 < (97 : Int32) then (F_TR_hex_J36 x1) else (if (102 : Int32) < x1 then (F_TR_hex_J36 x1) else (((x1 - 97 : Int32) + 10 : Int32)))) else ((x1 - 48 : Int32))
set_option maxRecDepth 100000 in
set_option maxHeartbeats 4000000 in
theorem X_TR_hex (l : Launch) (D : va_G) (g : Nat → ClassId) (q : Nat → Nat) (ws : va_W) (x1 : Int32) (hI : q_I (msh g q) q ws) : q_mI l y_TR_hex prog_18_method_9_code 1 (.int) 2 0 0 D g [.int x1] ws (fun r u => ws = u ∧ r = (F_TR_hex x1)) := by
  intro sz
  refine q_into (by decide) (Nat.le_of_ble_eq_true rfl) ?_
  intro p e s m below meth c ls hsz C0 V hl
  have hx := C0.1
  have hb := C0.2.1
  have hl : lv_has ls 1 [(0, .int x1)] := hl
  refine lv_iload_n hx hb d_18_9_0 rfl (lv_at hl 0 rfl) ?_
  refine q_goi V (q_runS (As := [.int x1]) (rest := []) (d := 1) (mc := 0) (ms := 0) C0 V rfl LS_TR_31 (X_TR_isDigit l D g q ws  x1 hI   _) rfl hl.1 rfl (Nat.le_of_ble_eq_true rfl) ⟨by decide, by decide⟩ ⟨Nat.le_of_ble_eq_true rfl, Nat.le_of_ble_eq_true rfl⟩ d_18_9_1) (fun a3 u1 H locs hp2 V => ?_)
  obtain ⟨rfl, b4, b5, hE6⟩ := hp2
  have e7 : a3 = (F_TR_isDigit x1) := hE6
  clear b4
  clear b5
  refine lv_if_eq (tgt := 14) hx hb d_18_9_4 (by decide) (fun c8 => ?_) (fun c8 => ?_)
  ·
    refine lv_iload_n hx hb d_18_9_14 rfl (lv_at hl 0 rfl) ?_
    refine lv_bipush (v := 97) hx hb d_18_9_15 (by decide) ?_
    refine q_join (X := Unit) (fun z H locs ls _ => q_Wd D g (va_A ws sz) s ws H locs ∧ lv_has ls 1 [(0, .int x1)] ∧ F_TR_hex_J36 x1 = (F_TR_hex x1)) (fun z => []) 36 0 0 ?_ ?_
    ·
      rintro _ H locs ls _ ⟨V, hl, hR11⟩
      replace hl : lv_has ls 1 [(0, .int x1)] := hl
      refine lv_iload_n hx hb d_18_9_36 rfl (lv_at hl 0 rfl) ?_
      refine lv_bipush (v := 65) hx hb d_18_9_37 (by decide) ?_
      refine lv_icmp_lt (tgt := 58) hx hb d_18_9_39 (by decide) (fun c16 => ?_) (fun c16 => ?_)
      ·
        refine lv_iconst (v := (-1)) hx hb d_18_9_58 (by decide) ?_
        exact q_reti C0 V (⟨rfl, (show (-1 : Int32) = (F_TR_hex x1) from Eq.trans (by rw [F_TR_hex_J36.eq_1, if_pos c16]) hR11)⟩) d_18_9_59
      ·
        refine lv_iload_n hx hb d_18_9_42 rfl (lv_at hl 0 rfl) ?_
        refine lv_bipush (v := 70) hx hb d_18_9_43 (by decide) ?_
        refine lv_icmp_gt (tgt := 58) hx hb d_18_9_45 (by decide) (fun c19 => ?_) (fun c19 => ?_)
        ·
          refine lv_iconst (v := (-1)) hx hb d_18_9_58 (by decide) ?_
          exact q_reti C0 V (⟨rfl, (show (-1 : Int32) = (F_TR_hex x1) from Eq.trans (by rw [F_TR_hex_J36.eq_1, if_neg c16, if_pos c19]) hR11)⟩) d_18_9_59
        ·
          refine lv_iload_n hx hb d_18_9_48 rfl (lv_at hl 0 rfl) ?_
          refine lv_bipush (v := 65) hx hb d_18_9_49 (by decide) ?_
          refine lv_isub hx hb d_18_9_51 ?_
          obtain ⟨a22, e23⟩ := q_nm (x1 - 65 : Int32)
          refine q_ti (v := a22) e23 ?_
          refine lv_bipush (v := 10) hx hb d_18_9_52 (by decide) ?_
          refine lv_iadd hx hb d_18_9_54 ?_
          obtain ⟨a25, e26⟩ := q_nm (a22 + 10 : Int32)
          refine q_ti (v := a25) e26 ?_
          refine lv_goto (tgt := 59) hx hb d_18_9_55 (by decide) ?_
          exact q_reti C0 V (⟨rfl, (show a25 = (F_TR_hex x1) from Eq.trans (by rw [← e26, ← e23, F_TR_hex_J36.eq_1, if_neg c16, if_neg c19]) hR11)⟩) d_18_9_59
    ·
      intro J10
      refine lv_icmp_lt (tgt := 36) hx hb d_18_9_17 (by decide) (fun c28 => ?_) (fun c28 => ?_)
      ·
        exact J10 (()) _ _ _ ws ⟨V, q_lw hl (q_lw1 0 rfl q_lw0), (show F_TR_hex_J36 x1 = (F_TR_hex x1) from (by have c8x := c8; rw [e7] at c8x; rw [F_TR_hex.eq_1, if_pos c8x, if_pos c28]))⟩
      ·
        refine lv_iload_n hx hb d_18_9_20 rfl (lv_at hl 0 rfl) ?_
        refine lv_bipush (v := 102) hx hb d_18_9_21 (by decide) ?_
        refine lv_icmp_gt (tgt := 36) hx hb d_18_9_23 (by decide) (fun c31 => ?_) (fun c31 => ?_)
        ·
          exact J10 (()) _ _ _ ws ⟨V, q_lw hl (q_lw1 0 rfl q_lw0), (show F_TR_hex_J36 x1 = (F_TR_hex x1) from (by have c8x := c8; rw [e7] at c8x; rw [F_TR_hex.eq_1, if_pos c8x, if_neg c28, if_pos c31]))⟩
        ·
          refine lv_iload_n hx hb d_18_9_26 rfl (lv_at hl 0 rfl) ?_
          refine lv_bipush (v := 97) hx hb d_18_9_27 (by decide) ?_
          refine lv_isub hx hb d_18_9_29 ?_
          obtain ⟨a34, e35⟩ := q_nm (x1 - 97 : Int32)
          refine q_ti (v := a34) e35 ?_
          refine lv_bipush (v := 10) hx hb d_18_9_30 (by decide) ?_
          refine lv_iadd hx hb d_18_9_32 ?_
          obtain ⟨a37, e38⟩ := q_nm (a34 + 10 : Int32)
          refine q_ti (v := a37) e38 ?_
          refine lv_goto (tgt := 59) hx hb d_18_9_33 (by decide) ?_
          exact q_reti C0 V (⟨rfl, (show a37 = (F_TR_hex x1) from (by have c8x := c8; rw [e7] at c8x; rw [← e38, ← e35, F_TR_hex.eq_1, if_pos c8x, if_neg c28, if_neg c31]))⟩) d_18_9_59
  ·
    refine lv_iload_n hx hb d_18_9_7 rfl (lv_at hl 0 rfl) ?_
    refine lv_bipush (v := 48) hx hb d_18_9_8 (by decide) ?_
    refine lv_isub hx hb d_18_9_10 ?_
    obtain ⟨a41, e42⟩ := q_nm (x1 - 48 : Int32)
    refine q_ti (v := a41) e42 ?_
    refine lv_goto (tgt := 59) hx hb d_18_9_11 (by decide) ?_
    exact q_reti C0 V (⟨rfl, (show a41 = (F_TR_hex x1) from (by have c8x := c8; rw [e7] at c8x; rw [← e42, F_TR_hex.eq_1, if_neg c8x]))⟩) d_18_9_59
theorem d_18_12_0 : decode prog_18_method_12_code 0 = .ok (.aload_n 0, 1) := by decide +kernel
theorem d_18_12_1 : decode prog_18_method_12_code 1 = .ok (.iconst 0, 1) := by decide +kernel
theorem d_18_12_2 : decode prog_18_method_12_code 2 = .ok (.putfield 39, 3) := by decide +kernel
set_option maxRecDepth 100000 in
theorem w_2147 : (Cond.fieldLink "NumberHouseModel$TextRows" (39 : Nat) "NumberHouseModel$TextRows" "many" "I") ∈ q_tbl := q_of9 227 rfl (by decide +kernel)
theorem d_18_12_5 : decode prog_18_method_12_code 5 = .ok (.aload_n 0, 1) := by decide +kernel
theorem d_18_12_6 : decode prog_18_method_12_code 6 = .ok (.iconst (-1), 1) := by decide +kernel
theorem d_18_12_7 : decode prog_18_method_12_code 7 = .ok (.putfield 42, 3) := by decide +kernel
set_option maxRecDepth 100000 in
theorem w_2148 : (Cond.fieldLink "NumberHouseModel$TextRows" (42 : Nat) "NumberHouseModel$TextRows" "point" "I") ∈ q_tbl := q_of9 228 rfl (by decide +kernel)
theorem d_18_12_10 : decode prog_18_method_12_code 10 = .ok (.iload_n 1, 1) := by decide +kernel
theorem d_18_12_45 : decode prog_18_method_12_code 45 = .ok (.istore_n 2, 1) := by decide +kernel
theorem d_18_12_46 : decode prog_18_method_12_code 46 = .ok (.iload_n 2, 1) := by decide +kernel
theorem d_18_12_47 : decode prog_18_method_12_code 47 = .ok (.ifCond .lt 26, 3) := by decide +kernel
theorem d_18_12_73 : decode prog_18_method_12_code 73 = .ok (.aload_n 0, 1) := by decide +kernel
theorem d_18_12_74 : decode prog_18_method_12_code 74 = .ok (.invokevirtual 35, 3) := by decide +kernel
theorem d_18_12_77 : decode prog_18_method_12_code 77 = .ok (.bipush 46, 2) := by decide +kernel
theorem d_18_12_100 : decode prog_18_method_12_code 100 = .ok (.aload_n 0, 1) := by decide +kernel
theorem d_18_12_101 : decode prog_18_method_12_code 101 = .ok (.aload_n 0, 1) := by decide +kernel
theorem d_18_12_102 : decode prog_18_method_12_code 102 = .ok (.getfield 42, 3) := by decide +kernel
theorem d_18_12_105 : decode prog_18_method_12_code 105 = .ok (.ifCond .ge 10, 3) := by decide +kernel
theorem d_18_12_115 : decode prog_18_method_12_code 115 = .ok (.aload_n 0, 1) := by decide +kernel
theorem d_18_12_116 : decode prog_18_method_12_code 116 = .ok (.getfield 42, 3) := by decide +kernel
theorem d_18_12_119 : decode prog_18_method_12_code 119 = .ok (.putfield 42, 3) := by decide +kernel
theorem d_18_12_122 : decode prog_18_method_12_code 122 = .ok (.aload_n 0, 1) := by decide +kernel
theorem d_18_12_123 : decode prog_18_method_12_code 123 = .ok (.getfield 39, 3) := by decide +kernel
theorem d_18_12_126 : decode prog_18_method_12_code 126 = .ok (.ifCond .le 7, 3) := by decide +kernel
theorem d_18_12_133 : decode prog_18_method_12_code 133 = .ok (.iconst 0, 1) := by decide +kernel
theorem d_18_12_134 : decode prog_18_method_12_code 134 = .ok (.ireturn, 1) := by decide +kernel
theorem d_18_12_129 : decode prog_18_method_12_code 129 = .ok (.iconst 1, 1) := by decide +kernel
theorem d_18_12_130 : decode prog_18_method_12_code 130 = .ok (.goto 4, 3) := by decide +kernel
theorem d_18_12_108 : decode prog_18_method_12_code 108 = .ok (.aload_n 0, 1) := by decide +kernel
theorem d_18_12_109 : decode prog_18_method_12_code 109 = .ok (.getfield 39, 3) := by decide +kernel
theorem d_18_12_112 : decode prog_18_method_12_code 112 = .ok (.goto 7, 3) := by decide +kernel
theorem d_18_12_79 : decode prog_18_method_12_code 79 = .ok (.if_icmp .ne 21, 3) := by decide +kernel
theorem d_18_12_82 : decode prog_18_method_12_code 82 = .ok (.aload_n 0, 1) := by decide +kernel
theorem d_18_12_83 : decode prog_18_method_12_code 83 = .ok (.getfield 42, 3) := by decide +kernel
theorem d_18_12_86 : decode prog_18_method_12_code 86 = .ok (.ifCond .ge 14, 3) := by decide +kernel
theorem d_18_12_89 : decode prog_18_method_12_code 89 = .ok (.aload_n 0, 1) := by decide +kernel
theorem d_18_12_90 : decode prog_18_method_12_code 90 = .ok (.aload_n 0, 1) := by decide +kernel
theorem d_18_12_91 : decode prog_18_method_12_code 91 = .ok (.getfield 39, 3) := by decide +kernel
theorem d_18_12_94 : decode prog_18_method_12_code 94 = .ok (.putfield 42, 3) := by decide +kernel
theorem d_18_12_97 : decode prog_18_method_12_code 97 = .ok (.goto 38, 3) := by decide +kernel
theorem d_18_12_135 : decode prog_18_method_12_code 135 = .ok (.aload_n 0, 1) := by decide +kernel
theorem d_18_12_136 : decode prog_18_method_12_code 136 = .ok (.dup, 1) := by decide +kernel
theorem d_18_12_137 : decode prog_18_method_12_code 137 = .ok (.getfield 28, 3) := by decide +kernel
theorem d_18_12_140 : decode prog_18_method_12_code 140 = .ok (.iconst 1, 1) := by decide +kernel
theorem d_18_12_141 : decode prog_18_method_12_code 141 = .ok (.iadd, 1) := by decide +kernel
theorem d_18_12_142 : decode prog_18_method_12_code 142 = .ok (.putfield 28, 3) := by decide +kernel
theorem d_18_12_145 : decode prog_18_method_12_code 145 = .ok (.goto (-135), 3) := by decide +kernel
theorem d_18_12_50 : decode prog_18_method_12_code 50 = .ok (.aload_n 0, 1) := by decide +kernel
theorem d_18_12_51 : decode prog_18_method_12_code 51 = .ok (.getfield 13, 3) := by decide +kernel
theorem d_18_12_54 : decode prog_18_method_12_code 54 = .ok (.aload_n 0, 1) := by decide +kernel
theorem d_18_12_55 : decode prog_18_method_12_code 55 = .ok (.getfield 39, 3) := by decide +kernel
theorem d_18_12_58 : decode prog_18_method_12_code 58 = .ok (.iload_n 2, 1) := by decide +kernel
theorem d_18_12_59 : decode prog_18_method_12_code 59 = .ok (.iastore, 1) := by decide +kernel
theorem d_18_12_60 : decode prog_18_method_12_code 60 = .ok (.aload_n 0, 1) := by decide +kernel
theorem d_18_12_61 : decode prog_18_method_12_code 61 = .ok (.dup, 1) := by decide +kernel
theorem d_18_12_62 : decode prog_18_method_12_code 62 = .ok (.getfield 39, 3) := by decide +kernel
theorem d_18_12_65 : decode prog_18_method_12_code 65 = .ok (.iconst 1, 1) := by decide +kernel
theorem d_18_12_66 : decode prog_18_method_12_code 66 = .ok (.iadd, 1) := by decide +kernel
theorem d_18_12_67 : decode prog_18_method_12_code 67 = .ok (.putfield 39, 3) := by decide +kernel
theorem d_18_12_70 : decode prog_18_method_12_code 70 = .ok (.goto 65, 3) := by decide +kernel
theorem d_18_12_11 : decode prog_18_method_12_code 11 = .ok (.ifCond .eq 13, 3) := by decide +kernel
theorem d_18_12_24 : decode prog_18_method_12_code 24 = .ok (.aload_n 0, 1) := by decide +kernel
theorem d_18_12_25 : decode prog_18_method_12_code 25 = .ok (.invokevirtual 35, 3) := by decide +kernel
theorem d_18_12_28 : decode prog_18_method_12_code 28 = .ok (.invokestatic 31, 3) := by decide +kernel
theorem d_18_12_31 : decode prog_18_method_12_code 31 = .ok (.ifCond .eq 13, 3) := by decide +kernel
theorem d_18_12_44 : decode prog_18_method_12_code 44 = .ok (.iconst (-1), 1) := by decide +kernel
theorem d_18_12_34 : decode prog_18_method_12_code 34 = .ok (.aload_n 0, 1) := by decide +kernel
theorem d_18_12_35 : decode prog_18_method_12_code 35 = .ok (.invokevirtual 35, 3) := by decide +kernel
theorem d_18_12_38 : decode prog_18_method_12_code 38 = .ok (.bipush 48, 2) := by decide +kernel
theorem d_18_12_40 : decode prog_18_method_12_code 40 = .ok (.isub, 1) := by decide +kernel
theorem d_18_12_41 : decode prog_18_method_12_code 41 = .ok (.goto 4, 3) := by decide +kernel
theorem d_18_12_14 : decode prog_18_method_12_code 14 = .ok (.aload_n 0, 1) := by decide +kernel
theorem d_18_12_15 : decode prog_18_method_12_code 15 = .ok (.invokevirtual 35, 3) := by decide +kernel
theorem d_18_12_18 : decode prog_18_method_12_code 18 = .ok (.invokestatic 45, 3) := by decide +kernel
set_option maxRecDepth 100000 in
theorem w_2452 : (Cond.code ({ cls := "NumberHouseModel$TextRows", name := "hex", desc := "(I)I" } : MethodName) prog_18_method_9_code (1 : Nat) (some .int)) ∈ q_tbl := q_of11 52 rfl (by decide +kernel)
set_option maxRecDepth 100000 in
theorem w_2450 : (Cond.methodLink "NumberHouseModel$TextRows" (45 : Nat) ({ cls := "NumberHouseModel$TextRows", name := "hex", desc := "(I)I" } : MethodName)) ∈ q_tbl := q_of11 50 rfl (by decide +kernel)
set_option maxRecDepth 100000 in
theorem w_2451 : (Cond.static ({ cls := "NumberHouseModel$TextRows", name := "hex", desc := "(I)I" } : MethodName)) ∈ q_tbl := q_of11 51 rfl (by decide +kernel)
theorem LS_TR_45 : q_LS "NumberHouseModel$TextRows" 45 y_TR_hex prog_18_method_9_code 1 (some .int) 1 := ⟨w_2452, w_18, w_2450, w_2451, ⟨by decide, by decide, by decide +kernel⟩⟩
theorem d_18_12_21 : decode prog_18_method_12_code 21 = .ok (.goto 24, 3) := by decide +kernel
def y_TR_digits : MethodName := ⟨"NumberHouseModel$TextRows", "digits", "(Z)Z"⟩
def F_TR_digits_J100 (K_F_TR_digits_L10 : Int32 → Int32 → Int32 → (Nat → Int32) → (Int32 × Int32 × Int32 × Int32 × Int32 × Int32 × Int32 × Int32 × Int64 × Int32 × Int32 × Int64 × Int64 × Int32 × Int32 × (Nat → Int32))) (x2 : Int32) (t0_0 : Int32) (t0_1 : Int32) (t0_2 : Int32) (t0_3 : Int32) (t0_4 : Int32) (t0_5 : Int32) (t0_6 : Int32) (t0_7 : Int64) (t0_8 : Int32) (t0_9 : Int32) (t0_10 : Int64) (t0_11 : Int64) (t0_12 : Int32) (t0_13 : Int32) (t1_0 : (Nat → Int32)) (t2_0 : (Nat → Int32)) (lx29 : Int32) (lx30 : Int32) (lx31 : Int32) (lx32 : (Nat → Int32)) (lx47 : Int32) : Int32 × Int32 × Int32 × Int32 × Int32 × Int32 × Int32 × Int32 × Int64 × Int32 × Int32 × Int64 × Int64 × Int32 × Int32 × (Nat → Int32) := if (0 : Int32) ≤ lx30 then (if lx31 ≤ (0 : Int32) then (((0 : Int32), t0_0, t0_1, t0_2, lx29, t0_4, lx31, lx30, t0_7, t0_8, t0_9, t0_10, t0_11, t0_12, t0_13, lx32)) else (((1 : Int32), t0_0, t0_1, t0_2, lx29, t0_4, lx31, lx30, t0_7, t0_8, t0_9, t0_10, t0_11, t0_12, t0_13, lx32))) else (if lx31 ≤ (0 : Int32) then (((0 : Int32), t0_0, t0_1, t0_2, lx29, t0_4, lx31, lx31, t0_7, t0_8, t0_9, t0_10, t0_11, t0_12, t0_13, lx32)) else (((1 : Int32), t0_0, t0_1, t0_2, lx29, t0_4, lx31, lx31, t0_7, t0_8, t0_9, t0_10, t0_11, t0_12, t0_13, lx32)))
def F_TR_digits_J45 (K_F_TR_digits_L10 : Int32 → Int32 → Int32 → (Nat → Int32) → (Int32 × Int32 × Int32 × Int32 × Int32 × Int32 × Int32 × Int32 × Int64 × Int32 × Int32 × Int64 × Int64 × Int32 × Int32 × (Nat → Int32))) (x2 : Int32) (t0_0 : Int32) (t0_1 : Int32) (t0_2 : Int32) (t0_3 : Int32) (t0_4 : Int32) (t0_5 : Int32) (t0_6 : Int32) (t0_7 : Int64) (t0_8 : Int32) (t0_9 : Int32) (t0_10 : Int64) (t0_11 : Int64) (t0_12 : Int32) (t0_13 : Int32) (t1_0 : (Nat → Int32)) (t2_0 : (Nat → Int32)) (lx29 : Int32) (lx30 : Int32) (lx31 : Int32) (lx32 : (Nat → Int32)) (lx47 : Int32) : Int32 × Int32 × Int32 × Int32 × Int32 × Int32 × Int32 × Int32 × Int64 × Int32 × Int32 × Int64 × Int64 × Int32 × Int32 × (Nat → Int32) := if lx47 < (0 : Int32) then (if ((F_TR_here t0_0 t0_1 t0_2 lx29 t0_4 lx31 lx30 t0_7 t0_8 t0_9 t0_10 t0_11 t0_12 t0_13 t1_0) : Int32) = (46 : Int32) then (if (0 : Int32) ≤ lx30 then (F_TR_digits_J100 K_F_TR_digits_L10 x2 t0_0 t0_1 t0_2 t0_3 t0_4 t0_5 t0_6 t0_7 t0_8 t0_9 t0_10 t0_11 t0_12 t0_13 t1_0 t2_0 lx29 lx30 lx31 lx32 lx47) else (K_F_TR_digits_L10 (lx29 + 1 : Int32) lx31 lx31 lx32)) else (F_TR_digits_J100 K_F_TR_digits_L10 x2 t0_0 t0_1 t0_2 t0_3 t0_4 t0_5 t0_6 t0_7 t0_8 t0_9 t0_10 t0_11 t0_12 t0_13 t1_0 t2_0 lx29 lx30 lx31 lx32 lx47)) else (K_F_TR_digits_L10 (lx29 + 1 : Int32) lx30 (lx31 + 1 : Int32) (upd lx32 lx31.toNatClampNeg lx47 : (Nat → Int32)))
def F_TR_digits_L10 (x2 : Int32) (t0_0 : Int32) (t0_1 : Int32) (t0_2 : Int32) (t0_3 : Int32) (t0_4 : Int32) (t0_5 : Int32) (t0_6 : Int32) (t0_7 : Int64) (t0_8 : Int32) (t0_9 : Int32) (t0_10 : Int64) (t0_11 : Int64) (t0_12 : Int32) (t0_13 : Int32) (t1_0 : (Nat → Int32)) (t2_0 : (Nat → Int32)) : Nat → Int32 → Int32 → Int32 → (Nat → Int32) → (Int32 × Int32 × Int32 × Int32 × Int32 × Int32 × Int32 × Int32 × Int64 × Int32 × Int32 × Int64 × Int64 × Int32 × Int32 × (Nat → Int32))
  | 0, _, _, _, _ => default
  | fm + 1, lx29, lx30, lx31, lx32 => if x2 = (0 : Int32) then (if ((F_TR_isDigit ((F_TR_here t0_0 t0_1 t0_2 lx29 t0_4 lx31 lx30 t0_7 t0_8 t0_9 t0_10 t0_11 t0_12 t0_13 t1_0) : Int32)) : Int32) = (0 : Int32) then (F_TR_digits_J45 (F_TR_digits_L10 x2 t0_0 t0_1 t0_2 t0_3 t0_4 t0_5 t0_6 t0_7 t0_8 t0_9 t0_10 t0_11 t0_12 t0_13 t1_0 t2_0 fm) x2 t0_0 t0_1 t0_2 t0_3 t0_4 t0_5 t0_6 t0_7 t0_8 t0_9 t0_10 t0_11 t0_12 t0_13 t1_0 t2_0 lx29 lx30 lx31 lx32 (-1)) else (F_TR_digits_J45 (F_TR_digits_L10 x2 t0_0 t0_1 t0_2 t0_3 t0_4 t0_5 t0_6 t0_7 t0_8 t0_9 t0_10 t0_11 t0_12 t0_13 t1_0 t2_0 fm) x2 t0_0 t0_1 t0_2 t0_3 t0_4 t0_5 t0_6 t0_7 t0_8 t0_9 t0_10 t0_11 t0_12 t0_13 t1_0 t2_0 lx29 lx30 lx31 lx32 (((F_TR_here t0_0 t0_1 t0_2 lx29 t0_4 lx31 lx30 t0_7 t0_8 t0_9 t0_10 t0_11 t0_12 t0_13 t1_0) : Int32) - 48 : Int32))) else (F_TR_digits_J45 (F_TR_digits_L10 x2 t0_0 t0_1 t0_2 t0_3 t0_4 t0_5 t0_6 t0_7 t0_8 t0_9 t0_10 t0_11 t0_12 t0_13 t1_0 t2_0 fm) x2 t0_0 t0_1 t0_2 t0_3 t0_4 t0_5 t0_6 t0_7 t0_8 t0_9 t0_10 t0_11 t0_12 t0_13 t1_0 t2_0 lx29 lx30 lx31 lx32 ((F_TR_hex ((F_TR_here t0_0 t0_1 t0_2 lx29 t0_4 lx31 lx30 t0_7 t0_8 t0_9 t0_10 t0_11 t0_12 t0_13 t1_0) : Int32)) : Int32))
def F_TR_digits (x2 : Int32) (t0_0 : Int32) (t0_1 : Int32) (t0_2 : Int32) (t0_3 : Int32) (t0_4 : Int32) (t0_5 : Int32) (t0_6 : Int32) (t0_7 : Int64) (t0_8 : Int32) (t0_9 : Int32) (t0_10 : Int64) (t0_11 : Int64) (t0_12 : Int32) (t0_13 : Int32) (t1_0 : (Nat → Int32)) (t2_0 : (Nat → Int32)) : Int32 × Int32 × Int32 × Int32 × Int32 × Int32 × Int32 × Int32 × Int64 × Int32 × Int32 × Int64 × Int64 × Int32 × Int32 × (Nat → Int32) := F_TR_digits_L10 x2 t0_0 t0_1 t0_2 t0_3 t0_4 t0_5 t0_6 t0_7 t0_8 t0_9 t0_10 t0_11 t0_12 t0_13 t1_0 t2_0 1000000 t0_3 (-1) 0 t2_0
def S_TR_digits_J100 (K_S_TR_digits_L10 : Int32 → Int32 → Int32 → (Nat → Int32) → Prop) (x2 : Int32) (t0_0 : Int32) (t0_1 : Int32) (t0_2 : Int32) (t0_3 : Int32) (t0_4 : Int32) (t0_5 : Int32) (t0_6 : Int32) (t0_7 : Int64) (t0_8 : Int32) (t0_9 : Int32) (t0_10 : Int64) (t0_11 : Int64) (t0_12 : Int32) (t0_13 : Int32) (t1_0 : (Nat → Int32)) (t2_0 : (Nat → Int32)) (lx29 : Int32) (lx30 : Int32) (lx31 : Int32) (lx32 : (Nat → Int32)) (lx47 : Int32) : Prop := if (0 : Int32) ≤ lx30 then (if lx31 ≤ (0 : Int32) then (True) else (True)) else (if lx31 ≤ (0 : Int32) then (True) else (True))
def S_TR_digits_J45 (K_S_TR_digits_L10 : Int32 → Int32 → Int32 → (Nat → Int32) → Prop) (x2 : Int32) (t0_0 : Int32) (t0_1 : Int32) (t0_2 : Int32) (t0_3 : Int32) (t0_4 : Int32) (t0_5 : Int32) (t0_6 : Int32) (t0_7 : Int64) (t0_8 : Int32) (t0_9 : Int32) (t0_10 : Int64) (t0_11 : Int64) (t0_12 : Int32) (t0_13 : Int32) (t1_0 : (Nat → Int32)) (t2_0 : (Nat → Int32)) (lx29 : Int32) (lx30 : Int32) (lx31 : Int32) (lx32 : (Nat → Int32)) (lx47 : Int32) : Prop := if lx47 < (0 : Int32) then ((True ∧ S_TR_here t0_0 t0_1 t0_2 lx29 t0_4 lx31 lx30 t0_7 t0_8 t0_9 t0_10 t0_11 t0_12 t0_13 t1_0) ∧ (if ((F_TR_here t0_0 t0_1 t0_2 lx29 t0_4 lx31 lx30 t0_7 t0_8 t0_9 t0_10 t0_11 t0_12 t0_13 t1_0) : Int32) = (46 : Int32) then (if (0 : Int32) ≤ lx30 then (S_TR_digits_J100 K_S_TR_digits_L10 x2 t0_0 t0_1 t0_2 t0_3 t0_4 t0_5 t0_6 t0_7 t0_8 t0_9 t0_10 t0_11 t0_12 t0_13 t1_0 t2_0 lx29 lx30 lx31 lx32 lx47) else (K_S_TR_digits_L10 (lx29 + 1 : Int32) lx31 lx31 lx32)) else (S_TR_digits_J100 K_S_TR_digits_L10 x2 t0_0 t0_1 t0_2 t0_3 t0_4 t0_5 t0_6 t0_7 t0_8 t0_9 t0_10 t0_11 t0_12 t0_13 t1_0 t2_0 lx29 lx30 lx31 lx32 lx47))) else ((lx31.toInt ≤ 4099) ∧ (K_S_TR_digits_L10 (lx29 + 1 : Int32) lx30 (lx31 + 1 : Int32) (upd lx32 lx31.toNatClampNeg lx47 : (Nat → Int32))))
def S_TR_digits_L10 (x2 : Int32) (t0_0 : Int32) (t0_1 : Int32) (t0_2 : Int32) (t0_3 : Int32) (t0_4 : Int32) (t0_5 : Int32) (t0_6 : Int32) (t0_7 : Int64) (t0_8 : Int32) (t0_9 : Int32) (t0_10 : Int64) (t0_11 : Int64) (t0_12 : Int32) (t0_13 : Int32) (t1_0 : (Nat → Int32)) (t2_0 : (Nat → Int32)) : Nat → Int32 → Int32 → Int32 → (Nat → Int32) → Prop
  | 0, _, _, _, _ => False
  | fm + 1, lx29, lx30, lx31, lx32 => if x2 = (0 : Int32) then ((True ∧ S_TR_here t0_0 t0_1 t0_2 lx29 t0_4 lx31 lx30 t0_7 t0_8 t0_9 t0_10 t0_11 t0_12 t0_13 t1_0) ∧ (if ((F_TR_isDigit ((F_TR_here t0_0 t0_1 t0_2 lx29 t0_4 lx31 lx30 t0_7 t0_8 t0_9 t0_10 t0_11 t0_12 t0_13 t1_0) : Int32)) : Int32) = (0 : Int32) then (S_TR_digits_J45 (S_TR_digits_L10 x2 t0_0 t0_1 t0_2 t0_3 t0_4 t0_5 t0_6 t0_7 t0_8 t0_9 t0_10 t0_11 t0_12 t0_13 t1_0 t2_0 fm) x2 t0_0 t0_1 t0_2 t0_3 t0_4 t0_5 t0_6 t0_7 t0_8 t0_9 t0_10 t0_11 t0_12 t0_13 t1_0 t2_0 lx29 lx30 lx31 lx32 (-1)) else ((True ∧ S_TR_here t0_0 t0_1 t0_2 lx29 t0_4 lx31 lx30 t0_7 t0_8 t0_9 t0_10 t0_11 t0_12 t0_13 t1_0) ∧ (S_TR_digits_J45 (S_TR_digits_L10 x2 t0_0 t0_1 t0_2 t0_3 t0_4 t0_5 t0_6 t0_7 t0_8 t0_9 t0_10 t0_11 t0_12 t0_13 t1_0 t2_0 fm) x2 t0_0 t0_1 t0_2 t0_3 t0_4 t0_5 t0_6 t0_7 t0_8 t0_9 t0_10 t0_11 t0_12 t0_13 t1_0 t2_0 lx29 lx30 lx31 lx32 (((F_TR_here t0_0 t0_1 t0_2 lx29 t0_4 lx31 lx30 t0_7 t0_8 t0_9 t0_10 t0_11 t0_12 t0_13 t1_0) : Int32) - 48 : Int32))))) else ((True ∧ S_TR_here t0_0 t0_1 t0_2 lx29 t0_4 lx31 lx30 t0_7 t0_8 t0_9 t0_10 t0_11 t0_12 t0_13 t1_0) ∧ (S_TR_digits_J45 (S_TR_digits_L10 x2 t0_0 t0_1 t0_2 t0_3 t0_4 t0_5 t0_6 t0_7 t0_8 t0_9 t0_10 t0_11 t0_12 t0_13 t1_0 t2_0 fm) x2 t0_0 t0_1 t0_2 t0_3 t0_4 t0_5 t0_6 t0_7 t0_8 t0_9 t0_10 t0_11 t0_12 t0_13 t1_0 t2_0 lx29 lx30 lx31 lx32 ((F_TR_hex ((F_TR_here t0_0 t0_1 t0_2 lx29 t0_4 lx31 lx30 t0_7 t0_8 t0_9 t0_10 t0_11 t0_12 t0_13 t1_0) : Int32)) : Int32)))
def S_TR_digits (x2 : Int32) (t0_0 : Int32) (t0_1 : Int32) (t0_2 : Int32) (t0_3 : Int32) (t0_4 : Int32) (t0_5 : Int32) (t0_6 : Int32) (t0_7 : Int64) (t0_8 : Int32) (t0_9 : Int32) (t0_10 : Int64) (t0_11 : Int64) (t0_12 : Int32) (t0_13 : Int32) (t1_0 : (Nat → Int32)) (t2_0 : (Nat → Int32)) : Prop := S_TR_digits_L10 x2 t0_0 t0_1 t0_2 t0_3 t0_4 t0_5 t0_6 t0_7 t0_8 t0_9 t0_10 t0_11 t0_12 t0_13 t1_0 t2_0 1000000 t0_3 (-1) 0 t2_0
set_option maxRecDepth 100000 in
set_option maxHeartbeats 4000000 in
theorem X_TR_digits (l : Launch) (D : va_G) (g : Nat → ClassId) (q : Nat → Nat) (ws : va_W) (x2 : Int32) (hI : q_I (msh g q) q ws) (t0_0 : Int32) (t0_1 : Int32) (t0_2 : Int32) (t0_3 : Int32) (t0_4 : Int32) (t0_5 : Int32) (t0_6 : Int32) (t0_7 : Int64) (t0_8 : Int32) (t0_9 : Int32) (t0_10 : Int64) (t0_11 : Int64) (t0_12 : Int32) (t0_13 : Int32) (hT0 : ws[153]? = (some (q 153, .inr (16, [.int t0_0, .ref (q 154), .int t0_1, .int t0_2, .int t0_3, .int t0_4, .ref (q 155), .int t0_5, .int t0_6, .long t0_7, .ref (q 156), .int t0_8, .int t0_9, .long t0_10, .long t0_11, .int t0_12, .int t0_13])) : Option (Nat × va_E))) (t1_0 : (Nat → Int32)) (hT1 : ws[154]? = (some (q 154, .inl (g 0, (4100 : Int32).toNatClampNeg, .inl t1_0)) : Option (Nat × va_E))) (t2_0 : (Nat → Int32)) (hT2 : ws[155]? = (some (q 155, .inl (g 0, (4100 : Int32).toNatClampNeg, .inl t2_0)) : Option (Nat × va_E))) (hzx2 : 0 ≤ x2.toInt ∧ x2.toInt ≤ 1) (hS : True ∧ S_TR_digits x2 t0_0 t0_1 t0_2 t0_3 t0_4 t0_5 t0_6 t0_7 t0_8 t0_9 t0_10 t0_11 t0_12 t0_13 t1_0 t2_0) : q_mI l y_TR_digits prog_18_method_12_code 3 (.boolean) 3 0 0 D g [.ref (q 153), .int x2] ws (fun r u => q_I (msh g q) q u ∧ q_un ws u [153, 155] ∧ ∃ (u0_0 : Int32) (u0_1 : Int32) (u0_2 : Int32) (u0_3 : Int32) (u0_4 : Int32) (u0_5 : Int32) (u0_6 : Int32) (u0_7 : Int64) (u0_8 : Int32) (u0_9 : Int32) (u0_10 : Int64) (u0_11 : Int64) (u0_12 : Int32) (u0_13 : Int32) (u2_0 : (Nat → Int32)), u[153]? = (some (q 153, .inr (16, [.int u0_0, .ref (q 154), .int u0_1, .int u0_2, .int u0_3, .int u0_4, .ref (q 155), .int u0_5, .int u0_6, .long u0_7, .ref (q 156), .int u0_8, .int u0_9, .long u0_10, .long u0_11, .int u0_12, .int u0_13])) : Option (Nat × va_E)) ∧ u[155]? = (some (q 155, .inl (g 0, (4100 : Int32).toNatClampNeg, .inl u2_0)) : Option (Nat × va_E)) ∧ (0 ≤ r.toInt) ∧ (r.toInt ≤ 1) ∧ (0 ≤ u0_6.toInt) ∧ (u0_6.toInt ≤ 4100) ∧ (t0_0.toInt ≤ u0_0.toInt) ∧ (u0_0.toInt ≤ t0_0.toInt) ∧ (t0_1.toInt ≤ u0_1.toInt) ∧ (u0_1.toInt ≤ t0_1.toInt) ∧ (t0_2.toInt ≤ u0_2.toInt) ∧ (u0_2.toInt ≤ t0_2.toInt) ∧ (t0_4.toInt ≤ u0_4.toInt) ∧ (u0_4.toInt ≤ t0_4.toInt) ∧ (t0_7.toInt ≤ u0_7.toInt) ∧ (u0_7.toInt ≤ t0_7.toInt) ∧ (t0_8.toInt ≤ u0_8.toInt) ∧ (u0_8.toInt ≤ t0_8.toInt) ∧ (t0_9.toInt ≤ u0_9.toInt) ∧ (u0_9.toInt ≤ t0_9.toInt) ∧ (t0_10.toInt ≤ u0_10.toInt) ∧ (u0_10.toInt ≤ t0_10.toInt) ∧ (t0_11.toInt ≤ u0_11.toInt) ∧ (u0_11.toInt ≤ t0_11.toInt) ∧ (t0_12.toInt ≤ u0_12.toInt) ∧ (u0_12.toInt ≤ t0_12.toInt) ∧ (t0_13.toInt ≤ u0_13.toInt) ∧ (u0_13.toInt ≤ t0_13.toInt) ∧ (u0_5.toInt ≤ r.toInt + 4099) ∧ (r.toInt ≤ u0_5.toInt) ∧ (r, u0_0, u0_1, u0_2, u0_3, u0_4, u0_5, u0_6, u0_7, u0_8, u0_9, u0_10, u0_11, u0_12, u0_13, u2_0) = (F_TR_digits x2 t0_0 t0_1 t0_2 t0_3 t0_4 t0_5 t0_6 t0_7 t0_8 t0_9 t0_10 t0_11 t0_12 t0_13 t1_0 t2_0)) := by
  intro sz
  refine q_into (by decide) (Nat.le_of_ble_eq_true rfl) ?_
  intro p e s m below meth c ls hsz C0 V hl
  have hx := C0.1
  have hb := C0.2.1
  clear hzx2
  obtain ⟨btt0_1, hZ9⟩ := n_w153 hI hT0
  obtain ⟨btt0_4, btt0_13⟩ := hZ9
  replace btt0_1 : q_F (0 ≤ t0_1.toInt ∧ t0_1.toInt ≤ 4100) := btt0_1
  replace btt0_4 : q_F (0 ≤ t0_4.toInt ∧ t0_4.toInt ≤ 1) := btt0_4
  replace btt0_13 : q_F (0 ≤ t0_13.toInt ∧ t0_13.toInt ≤ 1) := btt0_13
  have hF : q_un ws ws [153, 155] := q_u0
  have hl : lv_has ls 3 [(0, .ref (q 153)), (1, .int x2)] := hl
  refine lv_aload_n hx hb d_18_12_0 rfl (lv_at hl 0 rfl) ?_
  refine lv_iconst (v := 0) hx hb d_18_12_1 (by decide) ?_
  refine q_put (ci := 16) (j := 7) (v := .int 0) (ty := .int) C0 V i_TR o_TR n_TR rfl rfl hT0 (by decide) w_2147 rfl rfl rfl rfl (Nat.le_of_ble_eq_true rfl) d_18_12_2 (fun H locs w25 hu26 hT0 V => ?_)
  replace hT0 : w25[153]? = (some (q 153, .inr (16, [.int t0_0, .ref (q 154), .int t0_1, .int t0_2, .int t0_3, .int t0_4, .ref (q 155), .int 0, .int t0_6, .long t0_7, .ref (q 156), .int t0_8, .int t0_9, .long t0_10, .long t0_11, .int t0_12, .int t0_13])) : Option (Nat × va_E)) := hT0
  replace hI := n_p153 hI hu26 hT0 (by first | with_reducible exact q_fe btt0_1 | exact ⟨(by have t1 : 0 ≤ t0_1.toInt ∧ t0_1.toInt ≤ 4100 := btt0_1; omega), (by have t1 : 0 ≤ t0_1.toInt ∧ t0_1.toInt ≤ 4100 := btt0_1; omega)⟩) (by first | with_reducible exact q_fe btt0_4 | exact ⟨(by have t1 : 0 ≤ t0_4.toInt ∧ t0_4.toInt ≤ 1 := btt0_4; omega), (by have t1 : 0 ≤ t0_4.toInt ∧ t0_4.toInt ≤ 1 := btt0_4; omega)⟩) (by first | with_reducible exact q_fe btt0_13 | exact ⟨(by have t1 : 0 ≤ t0_13.toInt ∧ t0_13.toInt ≤ 1 := btt0_13; omega), (by have t1 : 0 ≤ t0_13.toInt ∧ t0_13.toInt ≤ 1 := btt0_13; omega)⟩)
  replace hT1 := (hu26 _ (by decide)).trans hT1
  replace hT2 := (hu26 _ (by decide)).trans hT2
  replace hF := q_us hF hu26 (by simp)
  refine lv_aload_n hx hb d_18_12_5 rfl (lv_at hl 0 rfl) ?_
  refine lv_iconst (v := (-1)) hx hb d_18_12_6 (by decide) ?_
  refine q_put (ci := 16) (j := 8) (v := .int (-1)) (ty := .int) C0 V i_TR o_TR n_TR rfl rfl hT0 (by decide) w_2148 rfl rfl rfl rfl (Nat.le_of_ble_eq_true rfl) d_18_12_7 (fun H locs w27 hu28 hT0 V => ?_)
  replace hT0 : w27[153]? = (some (q 153, .inr (16, [.int t0_0, .ref (q 154), .int t0_1, .int t0_2, .int t0_3, .int t0_4, .ref (q 155), .int 0, .int (-1), .long t0_7, .ref (q 156), .int t0_8, .int t0_9, .long t0_10, .long t0_11, .int t0_12, .int t0_13])) : Option (Nat × va_E)) := hT0
  replace hI := n_p153 hI hu28 hT0 (by first | with_reducible exact q_fe btt0_1 | exact ⟨(by have t1 : 0 ≤ t0_1.toInt ∧ t0_1.toInt ≤ 4100 := btt0_1; omega), (by have t1 : 0 ≤ t0_1.toInt ∧ t0_1.toInt ≤ 4100 := btt0_1; omega)⟩) (by first | with_reducible exact q_fe btt0_4 | exact ⟨(by have t1 : 0 ≤ t0_4.toInt ∧ t0_4.toInt ≤ 1 := btt0_4; omega), (by have t1 : 0 ≤ t0_4.toInt ∧ t0_4.toInt ≤ 1 := btt0_4; omega)⟩) (by first | with_reducible exact q_fe btt0_13 | exact ⟨(by have t1 : 0 ≤ t0_13.toInt ∧ t0_13.toInt ≤ 1 := btt0_13; omega), (by have t1 : 0 ≤ t0_13.toInt ∧ t0_13.toInt ≤ 1 := btt0_13; omega)⟩)
  replace hT1 := (hu28 _ (by decide)).trans hT1
  replace hT2 := (hu28 _ (by decide)).trans hT2
  replace hF := q_us hF hu28 (by simp)
  refine q_loop (X := Nat × Int32 × Int32 × Int32 × (Nat → Int32)) (fun z H locs ls w38 => q_F (0 ≤ z.2.2.1.toInt + 1) ∧ q_F (z.2.2.1.toInt ≤ 4100) ∧ q_F (0 ≤ z.2.2.2.1.toInt) ∧ q_F (z.2.2.2.1.toInt ≤ 4100) ∧ q_Wd D g (va_A ws sz) s w38 H locs ∧ lv_has ls 3 [(0, .ref (q 153)), (1, .int x2)] ∧ q_I (msh g q) q w38 ∧ q_un ws w38 [153, 155] ∧ w38[153]? = (some (q 153, .inr (16, [.int t0_0, .ref (q 154), .int t0_1, .int t0_2, .int z.2.1, .int t0_4, .ref (q 155), .int z.2.2.2.1, .int z.2.2.1, .long t0_7, .ref (q 156), .int t0_8, .int t0_9, .long t0_10, .long t0_11, .int t0_12, .int t0_13])) : Option (Nat × va_E)) ∧ w38[154]? = (some (q 154, .inl (g 0, (4100 : Int32).toNatClampNeg, .inl t1_0)) : Option (Nat × va_E)) ∧ w38[155]? = (some (q 155, .inl (g 0, (4100 : Int32).toNatClampNeg, .inl z.2.2.2.2)) : Option (Nat × va_E)) ∧ F_TR_digits_L10 x2 t0_0 t0_1 t0_2 t0_3 t0_4 t0_5 t0_6 t0_7 t0_8 t0_9 t0_10 t0_11 t0_12 t0_13 t1_0 t2_0 z.1 z.2.1 z.2.2.1 z.2.2.2.1 z.2.2.2.2 = (F_TR_digits x2 t0_0 t0_1 t0_2 t0_3 t0_4 t0_5 t0_6 t0_7 t0_8 t0_9 t0_10 t0_11 t0_12 t0_13 t1_0 t2_0) ∧ True ∧ S_TR_digits_L10 x2 t0_0 t0_1 t0_2 t0_3 t0_4 t0_5 t0_6 t0_7 t0_8 t0_9 t0_10 t0_11 t0_12 t0_13 t1_0 t2_0 z.1 z.2.1 z.2.2.1 z.2.2.2.1 z.2.2.2.2) (fun z => z.1) ?_ ((1000000 : Nat), (t0_3 : Int32), ((-1) : Int32), (0 : Int32), (t2_0 : (Nat → Int32))) _ _ _ w27 ⟨(show q_F (0 ≤ (-1) + 1) from (show 0 ≤ (-1) + 1 from by omega)), (show q_F ((-1) ≤ 4100) from (show (-1) ≤ 4100 from by omega)), (show q_F (0 ≤ 0) from (show 0 ≤ 0 from by omega)), (show q_F (0 ≤ 4100) from (show 0 ≤ 4100 from by omega)), V, q_lw hl (q_lw1 0 rfl (q_lw1 1 rfl q_lw0)), hI, hF, hT0, hT1, hT2, (show F_TR_digits_L10 x2 t0_0 t0_1 t0_2 t0_3 t0_4 t0_5 t0_6 t0_7 t0_8 t0_9 t0_10 t0_11 t0_12 t0_13 t1_0 t2_0 1000000 t0_3 (-1) 0 t2_0 = (F_TR_digits x2 t0_0 t0_1 t0_2 t0_3 t0_4 t0_5 t0_6 t0_7 t0_8 t0_9 t0_10 t0_11 t0_12 t0_13 t1_0 t2_0) from (by rw [F_TR_digits.eq_1])), (show True ∧ S_TR_digits_L10 x2 t0_0 t0_1 t0_2 t0_3 t0_4 t0_5 t0_6 t0_7 t0_8 t0_9 t0_10 t0_11 t0_12 t0_13 t1_0 t2_0 1000000 t0_3 (-1) 0 t2_0 from (by have h := hS; rw [S_TR_digits.eq_1] at h; with_reducible exact h))⟩
  rintro ⟨fu44, lx29, lx30, lx31, lx32⟩ H locs ls w38 ⟨i33, i34, i35, i36, V, hl, hI, hF, hO39, hO40, hO41, hR42, hS43⟩ ih37
  obtain ⟨fm46, rfl⟩ : ∃ m, fu44 = m + 1 := Nat.exists_eq_succ_of_ne_zero (fun e => by subst e; rw [S_TR_digits_L10.eq_1] at hS43; exact hS43.2)
  replace i33 : q_F (0 ≤ lx30.toInt + 1) := i33
  replace i34 : q_F (lx30.toInt ≤ 4100) := i34
  replace i35 : q_F (0 ≤ lx31.toInt) := i35
  replace i36 : q_F (lx31.toInt ≤ 4100) := i36
  replace hl : lv_has ls 3 [(0, .ref (q 153)), (1, .int x2)] := hl
  replace hO39 : w38[153]? = (some (q 153, .inr (16, [.int t0_0, .ref (q 154), .int t0_1, .int t0_2, .int lx29, .int t0_4, .ref (q 155), .int lx31, .int lx30, .long t0_7, .ref (q 156), .int t0_8, .int t0_9, .long t0_10, .long t0_11, .int t0_12, .int t0_13])) : Option (Nat × va_E)) := hO39
  replace hO40 : w38[154]? = (some (q 154, .inl (g 0, (4100 : Int32).toNatClampNeg, .inl t1_0)) : Option (Nat × va_E)) := hO40
  replace hO41 : w38[155]? = (some (q 155, .inl (g 0, (4100 : Int32).toNatClampNeg, .inl lx32)) : Option (Nat × va_E)) := hO41
  refine lv_iload_n hx hb d_18_12_10 rfl (lv_at hl 1 rfl) ?_
  refine q_join (X := Int32) (fun z H locs ls _ => q_Wd D g (va_A ws sz) s w38 H locs ∧ lv_has ls 3 [(0, .ref (q 153)), (1, .int x2)] ∧ F_TR_digits_J45 (F_TR_digits_L10 x2 t0_0 t0_1 t0_2 t0_3 t0_4 t0_5 t0_6 t0_7 t0_8 t0_9 t0_10 t0_11 t0_12 t0_13 t1_0 t2_0 fm46) x2 t0_0 t0_1 t0_2 t0_3 t0_4 t0_5 t0_6 t0_7 t0_8 t0_9 t0_10 t0_11 t0_12 t0_13 t1_0 t2_0 lx29 lx30 lx31 lx32 z = (F_TR_digits x2 t0_0 t0_1 t0_2 t0_3 t0_4 t0_5 t0_6 t0_7 t0_8 t0_9 t0_10 t0_11 t0_12 t0_13 t1_0 t2_0) ∧ True ∧ S_TR_digits_J45 (S_TR_digits_L10 x2 t0_0 t0_1 t0_2 t0_3 t0_4 t0_5 t0_6 t0_7 t0_8 t0_9 t0_10 t0_11 t0_12 t0_13 t1_0 t2_0 fm46) x2 t0_0 t0_1 t0_2 t0_3 t0_4 t0_5 t0_6 t0_7 t0_8 t0_9 t0_10 t0_11 t0_12 t0_13 t1_0 t2_0 lx29 lx30 lx31 lx32 z) (fun z => [.int z]) 45 0 0 ?_ ?_
  ·
    rintro lx47 H locs ls _ ⟨V, hl, hR52, hS53⟩
    replace hl : lv_has ls 3 [(0, .ref (q 153)), (1, .int x2)] := hl
    refine lv_istore_n (lv' := [(2, .int lx47), (0, .ref (q 153)), (1, .int x2)]) hx hb d_18_12_45 rfl hl (by decide) rfl (fun ls hl => ?_)
    refine lv_iload_n hx hb d_18_12_46 rfl (lv_at hl 0 rfl) ?_
    refine lv_if_lt (tgt := 73) hx hb d_18_12_47 (by decide) (fun c57 => ?_) (fun c57 => ?_)
    ·
      refine lv_aload_n hx hb d_18_12_73 rfl (lv_at hl 1 rfl) ?_
      have ob59 : True ∧ S_TR_here t0_0 t0_1 t0_2 lx29 t0_4 lx31 lx30 t0_7 t0_8 t0_9 t0_10 t0_11 t0_12 t0_13 t1_0 := (by have h := hS53; rw [S_TR_digits_J45.eq_1] at h; rw [if_pos c57] at h; with_reducible exact h.2.1)
      refine q_goi V (q_runV (As := []) (rest := []) (d := 1) (mc := 0) (ms := 0) (ci := 16) C0 V rfl LV_TR_35 (X_TR_here l D g q w38   hI t0_0 t0_1 t0_2 lx29 t0_4 lx31 lx30 t0_7 t0_8 t0_9 t0_10 t0_11 t0_12 t0_13 hO39 t1_0 hO40 ob59 _) rfl rfl hO39 rfl hl.1 rfl (Nat.le_of_ble_eq_true rfl) ⟨by decide, by decide⟩ ⟨Nat.le_of_ble_eq_true rfl, Nat.le_of_ble_eq_true rfl⟩ d_18_12_74) (fun a62 u60 H locs hp61 V => ?_)
      obtain ⟨rfl, hE63⟩ := hp61
      have e64 : a62 = (F_TR_here t0_0 t0_1 t0_2 lx29 t0_4 lx31 lx30 t0_7 t0_8 t0_9 t0_10 t0_11 t0_12 t0_13 t1_0) := hE63
      refine lv_bipush (v := 46) hx hb d_18_12_77 (by decide) ?_
      refine q_join (X := Unit) (fun z H locs ls _ => q_Wd D g (va_A ws sz) s w38 H locs ∧ lv_has ls 3 [(0, .ref (q 153))] ∧ F_TR_digits_J100 (F_TR_digits_L10 x2 t0_0 t0_1 t0_2 t0_3 t0_4 t0_5 t0_6 t0_7 t0_8 t0_9 t0_10 t0_11 t0_12 t0_13 t1_0 t2_0 fm46) x2 t0_0 t0_1 t0_2 t0_3 t0_4 t0_5 t0_6 t0_7 t0_8 t0_9 t0_10 t0_11 t0_12 t0_13 t1_0 t2_0 lx29 lx30 lx31 lx32 lx47 = (F_TR_digits x2 t0_0 t0_1 t0_2 t0_3 t0_4 t0_5 t0_6 t0_7 t0_8 t0_9 t0_10 t0_11 t0_12 t0_13 t1_0 t2_0) ∧ True ∧ S_TR_digits_J100 (S_TR_digits_L10 x2 t0_0 t0_1 t0_2 t0_3 t0_4 t0_5 t0_6 t0_7 t0_8 t0_9 t0_10 t0_11 t0_12 t0_13 t1_0 t2_0 fm46) x2 t0_0 t0_1 t0_2 t0_3 t0_4 t0_5 t0_6 t0_7 t0_8 t0_9 t0_10 t0_11 t0_12 t0_13 t1_0 t2_0 lx29 lx30 lx31 lx32 lx47) (fun z => []) 100 0 0 ?_ ?_
      ·
        rintro _ H locs ls _ ⟨V, hl, hR69, hS70⟩
        replace hl : lv_has ls 3 [(0, .ref (q 153))] := hl
        refine lv_aload_n hx hb d_18_12_100 rfl (lv_at hl 0 rfl) ?_
        refine lv_aload_n hx hb d_18_12_101 rfl (lv_at hl 0 rfl) ?_
        refine q_get (ci := 16) (j := 8) (v := .int lx30) C0 V i_TR rfl rfl hO39 (by decide) w_2148 rfl d_18_12_102 ?_
        refine lv_if_ge (tgt := 115) hx hb d_18_12_105 (by decide) (fun c74 => ?_) (fun c74 => ?_)
        ·
          have b75 : q_F (0 ≤ lx30.toInt) := (q_leI c74)
          refine lv_aload_n hx hb d_18_12_115 rfl (lv_at hl 0 rfl) ?_
          refine q_get (ci := 16) (j := 8) (v := .int lx30) C0 V i_TR rfl rfl hO39 (by decide) w_2148 rfl d_18_12_116 ?_
          refine q_put (ci := 16) (j := 8) (v := .int lx30) (ty := .int) C0 V i_TR o_TR n_TR rfl rfl hO39 (by decide) w_2148 rfl rfl rfl rfl (Nat.le_of_ble_eq_true rfl) d_18_12_119 (fun H locs w76 hu77 hO39 V => ?_)
          replace hO39 : w76[153]? = (some (q 153, .inr (16, [.int t0_0, .ref (q 154), .int t0_1, .int t0_2, .int lx29, .int t0_4, .ref (q 155), .int lx31, .int lx30, .long t0_7, .ref (q 156), .int t0_8, .int t0_9, .long t0_10, .long t0_11, .int t0_12, .int t0_13])) : Option (Nat × va_E)) := hO39
          replace hI := n_p153 hI hu77 hO39 (by first | with_reducible exact q_fe btt0_1 | exact ⟨(by have t1 : 0 ≤ t0_1.toInt ∧ t0_1.toInt ≤ 4100 := btt0_1; omega), (by have t1 : 0 ≤ t0_1.toInt ∧ t0_1.toInt ≤ 4100 := btt0_1; omega)⟩) (by first | with_reducible exact q_fe btt0_4 | exact ⟨(by have t1 : 0 ≤ t0_4.toInt ∧ t0_4.toInt ≤ 1 := btt0_4; omega), (by have t1 : 0 ≤ t0_4.toInt ∧ t0_4.toInt ≤ 1 := btt0_4; omega)⟩) (by first | with_reducible exact q_fe btt0_13 | exact ⟨(by have t1 : 0 ≤ t0_13.toInt ∧ t0_13.toInt ≤ 1 := btt0_13; omega), (by have t1 : 0 ≤ t0_13.toInt ∧ t0_13.toInt ≤ 1 := btt0_13; omega)⟩)
          replace hO41 := (hu77 _ (by decide)).trans hO41
          replace hF := q_us hF hu77 (by simp)
          refine lv_aload_n hx hb d_18_12_122 rfl (lv_at hl 0 rfl) ?_
          refine q_get (ci := 16) (j := 7) (v := .int lx31) C0 V i_TR rfl rfl hO39 (by decide) w_2147 rfl d_18_12_123 ?_
          refine lv_if_le (tgt := 133) hx hb d_18_12_126 (by decide) (fun c78 => ?_) (fun c78 => ?_)
          ·
            have b79 : q_F (lx31.toInt ≤ 0) := (q_leI c78)
            refine lv_iconst (v := 0) hx hb d_18_12_133 (by decide) ?_
            exact q_retz C0 V (by decide) (⟨hI, hF, t0_0, t0_1, t0_2, lx29, t0_4, lx31, lx30, t0_7, t0_8, t0_9, t0_10, t0_11, t0_12, t0_13, lx32, hO39, hO41, (show 0 ≤ (0 : Int32).toInt from (by have z17 : (0 : Int32).toInt = 0 := rfl; omega)), (show (0 : Int32).toInt ≤ 1 from (by have z17 : (0 : Int32).toInt = 0 := rfl; omega)), (show 0 ≤ lx30.toInt from (by have z17 : (0 : Int32).toInt = 0 := rfl; have t1 : 0 ≤ lx30.toInt := b75; omega)), (show lx30.toInt ≤ 4100 from (by have z17 : (0 : Int32).toInt = 0 := rfl; have t1 : lx30.toInt ≤ 4100 := i34; omega)), (show t0_0.toInt ≤ t0_0.toInt from (by have z17 : (0 : Int32).toInt = 0 := rfl; omega)), (show t0_0.toInt ≤ t0_0.toInt from (by have z17 : (0 : Int32).toInt = 0 := rfl; omega)), (show t0_1.toInt ≤ t0_1.toInt from (by have z17 : (0 : Int32).toInt = 0 := rfl; omega)), (show t0_1.toInt ≤ t0_1.toInt from (by have z17 : (0 : Int32).toInt = 0 := rfl; omega)), (show t0_2.toInt ≤ t0_2.toInt from (by have z17 : (0 : Int32).toInt = 0 := rfl; omega)), (show t0_2.toInt ≤ t0_2.toInt from (by have z17 : (0 : Int32).toInt = 0 := rfl; omega)), (show t0_4.toInt ≤ t0_4.toInt from (by have z17 : (0 : Int32).toInt = 0 := rfl; omega)), (show t0_4.toInt ≤ t0_4.toInt from (by have z17 : (0 : Int32).toInt = 0 := rfl; omega)), (show t0_7.toInt ≤ t0_7.toInt from (by have z17 : (0 : Int32).toInt = 0 := rfl; omega)), (show t0_7.toInt ≤ t0_7.toInt from (by have z17 : (0 : Int32).toInt = 0 := rfl; omega)), (show t0_8.toInt ≤ t0_8.toInt from (by have z17 : (0 : Int32).toInt = 0 := rfl; omega)), (show t0_8.toInt ≤ t0_8.toInt from (by have z17 : (0 : Int32).toInt = 0 := rfl; omega)), (show t0_9.toInt ≤ t0_9.toInt from (by have z17 : (0 : Int32).toInt = 0 := rfl; omega)), (show t0_9.toInt ≤ t0_9.toInt from (by have z17 : (0 : Int32).toInt = 0 := rfl; omega)), (show t0_10.toInt ≤ t0_10.toInt from (by have z17 : (0 : Int32).toInt = 0 := rfl; omega)), (show t0_10.toInt ≤ t0_10.toInt from (by have z17 : (0 : Int32).toInt = 0 := rfl; omega)), (show t0_11.toInt ≤ t0_11.toInt from (by have z17 : (0 : Int32).toInt = 0 := rfl; omega)), (show t0_11.toInt ≤ t0_11.toInt from (by have z17 : (0 : Int32).toInt = 0 := rfl; omega)), (show t0_12.toInt ≤ t0_12.toInt from (by have z17 : (0 : Int32).toInt = 0 := rfl; omega)), (show t0_12.toInt ≤ t0_12.toInt from (by have z17 : (0 : Int32).toInt = 0 := rfl; omega)), (show t0_13.toInt ≤ t0_13.toInt from (by have z17 : (0 : Int32).toInt = 0 := rfl; omega)), (show t0_13.toInt ≤ t0_13.toInt from (by have z17 : (0 : Int32).toInt = 0 := rfl; omega)), (show lx31.toInt ≤ (0 : Int32).toInt + 4099 from (by have z17 : (0 : Int32).toInt = 0 := rfl; have t1 : lx31.toInt ≤ 0 := b79; omega)), (show (0 : Int32).toInt ≤ lx31.toInt from (by have z17 : (0 : Int32).toInt = 0 := rfl; have t1 : 0 ≤ lx31.toInt := i35; omega)), (show ((0 : Int32), t0_0, t0_1, t0_2, lx29, t0_4, lx31, lx30, t0_7, t0_8, t0_9, t0_10, t0_11, t0_12, t0_13, lx32) = (F_TR_digits x2 t0_0 t0_1 t0_2 t0_3 t0_4 t0_5 t0_6 t0_7 t0_8 t0_9 t0_10 t0_11 t0_12 t0_13 t1_0 t2_0) from Eq.trans (by rw [F_TR_digits_J100.eq_1, if_pos c74, if_pos c78]) hR69)⟩) d_18_12_134
          ·
            have b80 : q_F (0 < lx31.toInt) := (q_nleI c78)
            refine lv_iconst (v := 1) hx hb d_18_12_129 (by decide) ?_
            refine lv_goto (tgt := 134) hx hb d_18_12_130 (by decide) ?_
            exact q_retz C0 V (by decide) (⟨hI, hF, t0_0, t0_1, t0_2, lx29, t0_4, lx31, lx30, t0_7, t0_8, t0_9, t0_10, t0_11, t0_12, t0_13, lx32, hO39, hO41, (show 0 ≤ (1 : Int32).toInt from (by have z17 : (1 : Int32).toInt = 1 := rfl; omega)), (show (1 : Int32).toInt ≤ 1 from (by have z17 : (1 : Int32).toInt = 1 := rfl; omega)), (show 0 ≤ lx30.toInt from (by have z17 : (1 : Int32).toInt = 1 := rfl; have t1 : 0 ≤ lx30.toInt := b75; omega)), (show lx30.toInt ≤ 4100 from (by have z17 : (1 : Int32).toInt = 1 := rfl; have t1 : lx30.toInt ≤ 4100 := i34; omega)), (show t0_0.toInt ≤ t0_0.toInt from (by have z17 : (1 : Int32).toInt = 1 := rfl; omega)), (show t0_0.toInt ≤ t0_0.toInt from (by have z17 : (1 : Int32).toInt = 1 := rfl; omega)), (show t0_1.toInt ≤ t0_1.toInt from (by have z17 : (1 : Int32).toInt = 1 := rfl; omega)), (show t0_1.toInt ≤ t0_1.toInt from (by have z17 : (1 : Int32).toInt = 1 := rfl; omega)), (show t0_2.toInt ≤ t0_2.toInt from (by have z17 : (1 : Int32).toInt = 1 := rfl; omega)), (show t0_2.toInt ≤ t0_2.toInt from (by have z17 : (1 : Int32).toInt = 1 := rfl; omega)), (show t0_4.toInt ≤ t0_4.toInt from (by have z17 : (1 : Int32).toInt = 1 := rfl; omega)), (show t0_4.toInt ≤ t0_4.toInt from (by have z17 : (1 : Int32).toInt = 1 := rfl; omega)), (show t0_7.toInt ≤ t0_7.toInt from (by have z17 : (1 : Int32).toInt = 1 := rfl; omega)), (show t0_7.toInt ≤ t0_7.toInt from (by have z17 : (1 : Int32).toInt = 1 := rfl; omega)), (show t0_8.toInt ≤ t0_8.toInt from (by have z17 : (1 : Int32).toInt = 1 := rfl; omega)), (show t0_8.toInt ≤ t0_8.toInt from (by have z17 : (1 : Int32).toInt = 1 := rfl; omega)), (show t0_9.toInt ≤ t0_9.toInt from (by have z17 : (1 : Int32).toInt = 1 := rfl; omega)), (show t0_9.toInt ≤ t0_9.toInt from (by have z17 : (1 : Int32).toInt = 1 := rfl; omega)), (show t0_10.toInt ≤ t0_10.toInt from (by have z17 : (1 : Int32).toInt = 1 := rfl; omega)), (show t0_10.toInt ≤ t0_10.toInt from (by have z17 : (1 : Int32).toInt = 1 := rfl; omega)), (show t0_11.toInt ≤ t0_11.toInt from (by have z17 : (1 : Int32).toInt = 1 := rfl; omega)), (show t0_11.toInt ≤ t0_11.toInt from (by have z17 : (1 : Int32).toInt = 1 := rfl; omega)), (show t0_12.toInt ≤ t0_12.toInt from (by have z17 : (1 : Int32).toInt = 1 := rfl; omega)), (show t0_12.toInt ≤ t0_12.toInt from (by have z17 : (1 : Int32).toInt = 1 := rfl; omega)), (show t0_13.toInt ≤ t0_13.toInt from (by have z17 : (1 : Int32).toInt = 1 := rfl; omega)), (show t0_13.toInt ≤ t0_13.toInt from (by have z17 : (1 : Int32).toInt = 1 := rfl; omega)), (show lx31.toInt ≤ (1 : Int32).toInt + 4099 from (by have z17 : (1 : Int32).toInt = 1 := rfl; have t1 : lx31.toInt ≤ 4100 := i36; omega)), (show (1 : Int32).toInt ≤ lx31.toInt from (by have z17 : (1 : Int32).toInt = 1 := rfl; have t1 : 0 < lx31.toInt := b80; omega)), (show ((1 : Int32), t0_0, t0_1, t0_2, lx29, t0_4, lx31, lx30, t0_7, t0_8, t0_9, t0_10, t0_11, t0_12, t0_13, lx32) = (F_TR_digits x2 t0_0 t0_1 t0_2 t0_3 t0_4 t0_5 t0_6 t0_7 t0_8 t0_9 t0_10 t0_11 t0_12 t0_13 t1_0 t2_0) from Eq.trans (by rw [F_TR_digits_J100.eq_1, if_pos c74, if_neg c78]) hR69)⟩) d_18_12_134
        ·
          refine lv_aload_n hx hb d_18_12_108 rfl (lv_at hl 0 rfl) ?_
          refine q_get (ci := 16) (j := 7) (v := .int lx31) C0 V i_TR rfl rfl hO39 (by decide) w_2147 rfl d_18_12_109 ?_
          refine lv_goto (tgt := 119) hx hb d_18_12_112 (by decide) ?_
          refine q_put (ci := 16) (j := 8) (v := .int lx31) (ty := .int) C0 V i_TR o_TR n_TR rfl rfl hO39 (by decide) w_2148 rfl rfl rfl rfl (Nat.le_of_ble_eq_true rfl) d_18_12_119 (fun H locs w82 hu83 hO39 V => ?_)
          replace hO39 : w82[153]? = (some (q 153, .inr (16, [.int t0_0, .ref (q 154), .int t0_1, .int t0_2, .int lx29, .int t0_4, .ref (q 155), .int lx31, .int lx31, .long t0_7, .ref (q 156), .int t0_8, .int t0_9, .long t0_10, .long t0_11, .int t0_12, .int t0_13])) : Option (Nat × va_E)) := hO39
          replace hI := n_p153 hI hu83 hO39 (by first | with_reducible exact q_fe btt0_1 | exact ⟨(by have t1 : 0 ≤ t0_1.toInt ∧ t0_1.toInt ≤ 4100 := btt0_1; omega), (by have t1 : 0 ≤ t0_1.toInt ∧ t0_1.toInt ≤ 4100 := btt0_1; omega)⟩) (by first | with_reducible exact q_fe btt0_4 | exact ⟨(by have t1 : 0 ≤ t0_4.toInt ∧ t0_4.toInt ≤ 1 := btt0_4; omega), (by have t1 : 0 ≤ t0_4.toInt ∧ t0_4.toInt ≤ 1 := btt0_4; omega)⟩) (by first | with_reducible exact q_fe btt0_13 | exact ⟨(by have t1 : 0 ≤ t0_13.toInt ∧ t0_13.toInt ≤ 1 := btt0_13; omega), (by have t1 : 0 ≤ t0_13.toInt ∧ t0_13.toInt ≤ 1 := btt0_13; omega)⟩)
          replace hO41 := (hu83 _ (by decide)).trans hO41
          replace hF := q_us hF hu83 (by simp)
          refine lv_aload_n hx hb d_18_12_122 rfl (lv_at hl 0 rfl) ?_
          refine q_get (ci := 16) (j := 7) (v := .int lx31) C0 V i_TR rfl rfl hO39 (by decide) w_2147 rfl d_18_12_123 ?_
          refine lv_if_le (tgt := 133) hx hb d_18_12_126 (by decide) (fun c84 => ?_) (fun c84 => ?_)
          ·
            have b85 : q_F (lx31.toInt ≤ 0) := (q_leI c84)
            refine lv_iconst (v := 0) hx hb d_18_12_133 (by decide) ?_
            exact q_retz C0 V (by decide) (⟨hI, hF, t0_0, t0_1, t0_2, lx29, t0_4, lx31, lx31, t0_7, t0_8, t0_9, t0_10, t0_11, t0_12, t0_13, lx32, hO39, hO41, (show 0 ≤ (0 : Int32).toInt from (by have z17 : (0 : Int32).toInt = 0 := rfl; omega)), (show (0 : Int32).toInt ≤ 1 from (by have z17 : (0 : Int32).toInt = 0 := rfl; omega)), (show 0 ≤ lx31.toInt from (by have z17 : (0 : Int32).toInt = 0 := rfl; have t1 : 0 ≤ lx31.toInt := i35; omega)), (show lx31.toInt ≤ 4100 from (by have z17 : (0 : Int32).toInt = 0 := rfl; have t1 : lx31.toInt ≤ 4100 := i36; omega)), (show t0_0.toInt ≤ t0_0.toInt from (by have z17 : (0 : Int32).toInt = 0 := rfl; omega)), (show t0_0.toInt ≤ t0_0.toInt from (by have z17 : (0 : Int32).toInt = 0 := rfl; omega)), (show t0_1.toInt ≤ t0_1.toInt from (by have z17 : (0 : Int32).toInt = 0 := rfl; omega)), (show t0_1.toInt ≤ t0_1.toInt from (by have z17 : (0 : Int32).toInt = 0 := rfl; omega)), (show t0_2.toInt ≤ t0_2.toInt from (by have z17 : (0 : Int32).toInt = 0 := rfl; omega)), (show t0_2.toInt ≤ t0_2.toInt from (by have z17 : (0 : Int32).toInt = 0 := rfl; omega)), (show t0_4.toInt ≤ t0_4.toInt from (by have z17 : (0 : Int32).toInt = 0 := rfl; omega)), (show t0_4.toInt ≤ t0_4.toInt from (by have z17 : (0 : Int32).toInt = 0 := rfl; omega)), (show t0_7.toInt ≤ t0_7.toInt from (by have z17 : (0 : Int32).toInt = 0 := rfl; omega)), (show t0_7.toInt ≤ t0_7.toInt from (by have z17 : (0 : Int32).toInt = 0 := rfl; omega)), (show t0_8.toInt ≤ t0_8.toInt from (by have z17 : (0 : Int32).toInt = 0 := rfl; omega)), (show t0_8.toInt ≤ t0_8.toInt from (by have z17 : (0 : Int32).toInt = 0 := rfl; omega)), (show t0_9.toInt ≤ t0_9.toInt from (by have z17 : (0 : Int32).toInt = 0 := rfl; omega)), (show t0_9.toInt ≤ t0_9.toInt from (by have z17 : (0 : Int32).toInt = 0 := rfl; omega)), (show t0_10.toInt ≤ t0_10.toInt from (by have z17 : (0 : Int32).toInt = 0 := rfl; omega)), (show t0_10.toInt ≤ t0_10.toInt from (by have z17 : (0 : Int32).toInt = 0 := rfl; omega)), (show t0_11.toInt ≤ t0_11.toInt from (by have z17 : (0 : Int32).toInt = 0 := rfl; omega)), (show t0_11.toInt ≤ t0_11.toInt from (by have z17 : (0 : Int32).toInt = 0 := rfl; omega)), (show t0_12.toInt ≤ t0_12.toInt from (by have z17 : (0 : Int32).toInt = 0 := rfl; omega)), (show t0_12.toInt ≤ t0_12.toInt from (by have z17 : (0 : Int32).toInt = 0 := rfl; omega)), (show t0_13.toInt ≤ t0_13.toInt from (by have z17 : (0 : Int32).toInt = 0 := rfl; omega)), (show t0_13.toInt ≤ t0_13.toInt from (by have z17 : (0 : Int32).toInt = 0 := rfl; omega)), (show lx31.toInt ≤ (0 : Int32).toInt + 4099 from (by have z17 : (0 : Int32).toInt = 0 := rfl; have t1 : lx31.toInt ≤ 0 := b85; omega)), (show (0 : Int32).toInt ≤ lx31.toInt from (by have z17 : (0 : Int32).toInt = 0 := rfl; have t1 : 0 ≤ lx31.toInt := i35; omega)), (show ((0 : Int32), t0_0, t0_1, t0_2, lx29, t0_4, lx31, lx31, t0_7, t0_8, t0_9, t0_10, t0_11, t0_12, t0_13, lx32) = (F_TR_digits x2 t0_0 t0_1 t0_2 t0_3 t0_4 t0_5 t0_6 t0_7 t0_8 t0_9 t0_10 t0_11 t0_12 t0_13 t1_0 t2_0) from Eq.trans (by rw [F_TR_digits_J100.eq_1, if_neg c74, if_pos c84]) hR69)⟩) d_18_12_134
          ·
            have b86 : q_F (0 < lx31.toInt) := (q_nleI c84)
            refine lv_iconst (v := 1) hx hb d_18_12_129 (by decide) ?_
            refine lv_goto (tgt := 134) hx hb d_18_12_130 (by decide) ?_
            exact q_retz C0 V (by decide) (⟨hI, hF, t0_0, t0_1, t0_2, lx29, t0_4, lx31, lx31, t0_7, t0_8, t0_9, t0_10, t0_11, t0_12, t0_13, lx32, hO39, hO41, (show 0 ≤ (1 : Int32).toInt from (by have z17 : (1 : Int32).toInt = 1 := rfl; omega)), (show (1 : Int32).toInt ≤ 1 from (by have z17 : (1 : Int32).toInt = 1 := rfl; omega)), (show 0 ≤ lx31.toInt from (by have z17 : (1 : Int32).toInt = 1 := rfl; have t1 : 0 ≤ lx31.toInt := i35; omega)), (show lx31.toInt ≤ 4100 from (by have z17 : (1 : Int32).toInt = 1 := rfl; have t1 : lx31.toInt ≤ 4100 := i36; omega)), (show t0_0.toInt ≤ t0_0.toInt from (by have z17 : (1 : Int32).toInt = 1 := rfl; omega)), (show t0_0.toInt ≤ t0_0.toInt from (by have z17 : (1 : Int32).toInt = 1 := rfl; omega)), (show t0_1.toInt ≤ t0_1.toInt from (by have z17 : (1 : Int32).toInt = 1 := rfl; omega)), (show t0_1.toInt ≤ t0_1.toInt from (by have z17 : (1 : Int32).toInt = 1 := rfl; omega)), (show t0_2.toInt ≤ t0_2.toInt from (by have z17 : (1 : Int32).toInt = 1 := rfl; omega)), (show t0_2.toInt ≤ t0_2.toInt from (by have z17 : (1 : Int32).toInt = 1 := rfl; omega)), (show t0_4.toInt ≤ t0_4.toInt from (by have z17 : (1 : Int32).toInt = 1 := rfl; omega)), (show t0_4.toInt ≤ t0_4.toInt from (by have z17 : (1 : Int32).toInt = 1 := rfl; omega)), (show t0_7.toInt ≤ t0_7.toInt from (by have z17 : (1 : Int32).toInt = 1 := rfl; omega)), (show t0_7.toInt ≤ t0_7.toInt from (by have z17 : (1 : Int32).toInt = 1 := rfl; omega)), (show t0_8.toInt ≤ t0_8.toInt from (by have z17 : (1 : Int32).toInt = 1 := rfl; omega)), (show t0_8.toInt ≤ t0_8.toInt from (by have z17 : (1 : Int32).toInt = 1 := rfl; omega)), (show t0_9.toInt ≤ t0_9.toInt from (by have z17 : (1 : Int32).toInt = 1 := rfl; omega)), (show t0_9.toInt ≤ t0_9.toInt from (by have z17 : (1 : Int32).toInt = 1 := rfl; omega)), (show t0_10.toInt ≤ t0_10.toInt from (by have z17 : (1 : Int32).toInt = 1 := rfl; omega)), (show t0_10.toInt ≤ t0_10.toInt from (by have z17 : (1 : Int32).toInt = 1 := rfl; omega)), (show t0_11.toInt ≤ t0_11.toInt from (by have z17 : (1 : Int32).toInt = 1 := rfl; omega)), (show t0_11.toInt ≤ t0_11.toInt from (by have z17 : (1 : Int32).toInt = 1 := rfl; omega)), (show t0_12.toInt ≤ t0_12.toInt from (by have z17 : (1 : Int32).toInt = 1 := rfl; omega)), (show t0_12.toInt ≤ t0_12.toInt from (by have z17 : (1 : Int32).toInt = 1 := rfl; omega)), (show t0_13.toInt ≤ t0_13.toInt from (by have z17 : (1 : Int32).toInt = 1 := rfl; omega)), (show t0_13.toInt ≤ t0_13.toInt from (by have z17 : (1 : Int32).toInt = 1 := rfl; omega)), (show lx31.toInt ≤ (1 : Int32).toInt + 4099 from (by have z17 : (1 : Int32).toInt = 1 := rfl; have t1 : lx31.toInt ≤ 4100 := i36; omega)), (show (1 : Int32).toInt ≤ lx31.toInt from (by have z17 : (1 : Int32).toInt = 1 := rfl; have t1 : 0 < lx31.toInt := b86; omega)), (show ((1 : Int32), t0_0, t0_1, t0_2, lx29, t0_4, lx31, lx31, t0_7, t0_8, t0_9, t0_10, t0_11, t0_12, t0_13, lx32) = (F_TR_digits x2 t0_0 t0_1 t0_2 t0_3 t0_4 t0_5 t0_6 t0_7 t0_8 t0_9 t0_10 t0_11 t0_12 t0_13 t1_0 t2_0) from Eq.trans (by rw [F_TR_digits_J100.eq_1, if_neg c74, if_neg c84]) hR69)⟩) d_18_12_134
      ·
        intro J68
        refine lv_icmp_ne (tgt := 100) hx hb d_18_12_79 (by decide) (fun c87 => ?_) (fun c87 => ?_)
        ·
          exact J68 (()) _ _ _ w38 ⟨V, q_lw hl (q_lw1 1 rfl q_lw0), (show F_TR_digits_J100 (F_TR_digits_L10 x2 t0_0 t0_1 t0_2 t0_3 t0_4 t0_5 t0_6 t0_7 t0_8 t0_9 t0_10 t0_11 t0_12 t0_13 t1_0 t2_0 fm46) x2 t0_0 t0_1 t0_2 t0_3 t0_4 t0_5 t0_6 t0_7 t0_8 t0_9 t0_10 t0_11 t0_12 t0_13 t1_0 t2_0 lx29 lx30 lx31 lx32 lx47 = (F_TR_digits x2 t0_0 t0_1 t0_2 t0_3 t0_4 t0_5 t0_6 t0_7 t0_8 t0_9 t0_10 t0_11 t0_12 t0_13 t1_0 t2_0) from Eq.trans (by have c87x := c87; rw [e64] at c87x; rw [F_TR_digits_J45.eq_1, if_pos c57, if_neg c87x]) hR52), (show True ∧ S_TR_digits_J100 (S_TR_digits_L10 x2 t0_0 t0_1 t0_2 t0_3 t0_4 t0_5 t0_6 t0_7 t0_8 t0_9 t0_10 t0_11 t0_12 t0_13 t1_0 t2_0 fm46) x2 t0_0 t0_1 t0_2 t0_3 t0_4 t0_5 t0_6 t0_7 t0_8 t0_9 t0_10 t0_11 t0_12 t0_13 t1_0 t2_0 lx29 lx30 lx31 lx32 lx47 from (by have h := hS53; rw [S_TR_digits_J45.eq_1] at h; rw [if_pos c57] at h; replace h := q_s2 h; have c87x := c87; rw [e64] at c87x; rw [if_neg c87x] at h; with_reducible exact h))⟩
        ·
          refine lv_aload_n hx hb d_18_12_82 rfl (lv_at hl 1 rfl) ?_
          refine q_get (ci := 16) (j := 8) (v := .int lx30) C0 V i_TR rfl rfl hO39 (by decide) w_2148 rfl d_18_12_83 ?_
          refine lv_if_ge (tgt := 100) hx hb d_18_12_86 (by decide) (fun c90 => ?_) (fun c90 => ?_)
          ·
            exact J68 (()) _ _ _ w38 ⟨V, q_lw hl (q_lw1 1 rfl q_lw0), (show F_TR_digits_J100 (F_TR_digits_L10 x2 t0_0 t0_1 t0_2 t0_3 t0_4 t0_5 t0_6 t0_7 t0_8 t0_9 t0_10 t0_11 t0_12 t0_13 t1_0 t2_0 fm46) x2 t0_0 t0_1 t0_2 t0_3 t0_4 t0_5 t0_6 t0_7 t0_8 t0_9 t0_10 t0_11 t0_12 t0_13 t1_0 t2_0 lx29 lx30 lx31 lx32 lx47 = (F_TR_digits x2 t0_0 t0_1 t0_2 t0_3 t0_4 t0_5 t0_6 t0_7 t0_8 t0_9 t0_10 t0_11 t0_12 t0_13 t1_0 t2_0) from Eq.trans (by have c87x := c87; rw [e64] at c87x; rw [F_TR_digits_J45.eq_1, if_pos c57, if_pos c87x, if_pos c90]) hR52), (show True ∧ S_TR_digits_J100 (S_TR_digits_L10 x2 t0_0 t0_1 t0_2 t0_3 t0_4 t0_5 t0_6 t0_7 t0_8 t0_9 t0_10 t0_11 t0_12 t0_13 t1_0 t2_0 fm46) x2 t0_0 t0_1 t0_2 t0_3 t0_4 t0_5 t0_6 t0_7 t0_8 t0_9 t0_10 t0_11 t0_12 t0_13 t1_0 t2_0 lx29 lx30 lx31 lx32 lx47 from (by have h := hS53; rw [S_TR_digits_J45.eq_1] at h; rw [if_pos c57] at h; replace h := q_s2 h; have c87x := c87; rw [e64] at c87x; rw [if_pos c87x] at h; rw [if_pos c90] at h; with_reducible exact h))⟩
          ·
            refine lv_aload_n hx hb d_18_12_89 rfl (lv_at hl 1 rfl) ?_
            refine lv_aload_n hx hb d_18_12_90 rfl (lv_at hl 1 rfl) ?_
            refine q_get (ci := 16) (j := 7) (v := .int lx31) C0 V i_TR rfl rfl hO39 (by decide) w_2147 rfl d_18_12_91 ?_
            refine q_put (ci := 16) (j := 8) (v := .int lx31) (ty := .int) C0 V i_TR o_TR n_TR rfl rfl hO39 (by decide) w_2148 rfl rfl rfl rfl (Nat.le_of_ble_eq_true rfl) d_18_12_94 (fun H locs w93 hu94 hO39 V => ?_)
            replace hO39 : w93[153]? = (some (q 153, .inr (16, [.int t0_0, .ref (q 154), .int t0_1, .int t0_2, .int lx29, .int t0_4, .ref (q 155), .int lx31, .int lx31, .long t0_7, .ref (q 156), .int t0_8, .int t0_9, .long t0_10, .long t0_11, .int t0_12, .int t0_13])) : Option (Nat × va_E)) := hO39
            replace hI := n_p153 hI hu94 hO39 (by first | with_reducible exact q_fe btt0_1 | exact ⟨(by have t1 : 0 ≤ t0_1.toInt ∧ t0_1.toInt ≤ 4100 := btt0_1; omega), (by have t1 : 0 ≤ t0_1.toInt ∧ t0_1.toInt ≤ 4100 := btt0_1; omega)⟩) (by first | with_reducible exact q_fe btt0_4 | exact ⟨(by have t1 : 0 ≤ t0_4.toInt ∧ t0_4.toInt ≤ 1 := btt0_4; omega), (by have t1 : 0 ≤ t0_4.toInt ∧ t0_4.toInt ≤ 1 := btt0_4; omega)⟩) (by first | with_reducible exact q_fe btt0_13 | exact ⟨(by have t1 : 0 ≤ t0_13.toInt ∧ t0_13.toInt ≤ 1 := btt0_13; omega), (by have t1 : 0 ≤ t0_13.toInt ∧ t0_13.toInt ≤ 1 := btt0_13; omega)⟩)
            replace hO40 := (hu94 _ (by decide)).trans hO40
            replace hO41 := (hu94 _ (by decide)).trans hO41
            replace hF := q_us hF hu94 (by simp)
            refine lv_goto (tgt := 135) hx hb d_18_12_97 (by decide) ?_
            refine lv_aload_n hx hb d_18_12_135 rfl (lv_at hl 1 rfl) ?_
            refine lv_dup hx hb d_18_12_136 rfl ?_
            refine q_get (ci := 16) (j := 4) (v := .int lx29) C0 V i_TR rfl rfl hO39 (by decide) w_2144 rfl d_18_12_137 ?_
            refine lv_iconst (v := 1) hx hb d_18_12_140 (by decide) ?_
            refine lv_iadd hx hb d_18_12_141 ?_
            obtain ⟨a95, e96⟩ := q_nm (lx29 + 1 : Int32)
            refine q_ti (v := a95) e96 ?_
            refine q_put (ci := 16) (j := 4) (v := .int a95) (ty := .int) C0 V i_TR o_TR n_TR rfl rfl hO39 (by decide) w_2144 rfl rfl rfl rfl (Nat.le_of_ble_eq_true rfl) d_18_12_142 (fun H locs w97 hu98 hO39 V => ?_)
            replace hO39 : w97[153]? = (some (q 153, .inr (16, [.int t0_0, .ref (q 154), .int t0_1, .int t0_2, .int a95, .int t0_4, .ref (q 155), .int lx31, .int lx31, .long t0_7, .ref (q 156), .int t0_8, .int t0_9, .long t0_10, .long t0_11, .int t0_12, .int t0_13])) : Option (Nat × va_E)) := hO39
            replace hI := n_p153 hI hu98 hO39 (by first | with_reducible exact q_fe btt0_1 | exact ⟨(by have t1 : 0 ≤ t0_1.toInt ∧ t0_1.toInt ≤ 4100 := btt0_1; omega), (by have t1 : 0 ≤ t0_1.toInt ∧ t0_1.toInt ≤ 4100 := btt0_1; omega)⟩) (by first | with_reducible exact q_fe btt0_4 | exact ⟨(by have t1 : 0 ≤ t0_4.toInt ∧ t0_4.toInt ≤ 1 := btt0_4; omega), (by have t1 : 0 ≤ t0_4.toInt ∧ t0_4.toInt ≤ 1 := btt0_4; omega)⟩) (by first | with_reducible exact q_fe btt0_13 | exact ⟨(by have t1 : 0 ≤ t0_13.toInt ∧ t0_13.toInt ≤ 1 := btt0_13; omega), (by have t1 : 0 ≤ t0_13.toInt ∧ t0_13.toInt ≤ 1 := btt0_13; omega)⟩)
            replace hO40 := (hu98 _ (by decide)).trans hO40
            replace hO41 := (hu98 _ (by decide)).trans hO41
            replace hF := q_us hF hu98 (by simp)
            refine lv_goto (tgt := 10) hx hb d_18_12_145 (by decide) ?_
            exact ih37 ((fm46 : Nat), (a95 : Int32), (lx31 : Int32), (lx31 : Int32), (lx32 : (Nat → Int32))) _ _ _ _ (Nat.lt_succ_self _) ⟨(show q_F (0 ≤ lx31.toInt + 1) from (show 0 ≤ lx31.toInt + 1 from by have t1 : 0 ≤ lx31.toInt := i35; omega)), (show q_F (lx31.toInt ≤ 4100) from (show lx31.toInt ≤ 4100 from by have t1 : lx31.toInt ≤ 4100 := i36; omega)), (show q_F (0 ≤ lx31.toInt) from (show 0 ≤ lx31.toInt from by have t1 : 0 ≤ lx31.toInt := i35; omega)), (show q_F (lx31.toInt ≤ 4100) from (show lx31.toInt ≤ 4100 from by have t1 : lx31.toInt ≤ 4100 := i36; omega)), V, q_lw hl (q_lw1 1 rfl (q_lw1 2 rfl q_lw0)), hI, hF, hO39, hO40, hO41, (show F_TR_digits_L10 x2 t0_0 t0_1 t0_2 t0_3 t0_4 t0_5 t0_6 t0_7 t0_8 t0_9 t0_10 t0_11 t0_12 t0_13 t1_0 t2_0 fm46 a95 lx31 lx31 lx32 = (F_TR_digits x2 t0_0 t0_1 t0_2 t0_3 t0_4 t0_5 t0_6 t0_7 t0_8 t0_9 t0_10 t0_11 t0_12 t0_13 t1_0 t2_0) from Eq.trans (by have c87x := c87; rw [e64] at c87x; rw [← e96, F_TR_digits_J45.eq_1, if_pos c57, if_pos c87x, if_neg c90]) hR52), (show True ∧ S_TR_digits_L10 x2 t0_0 t0_1 t0_2 t0_3 t0_4 t0_5 t0_6 t0_7 t0_8 t0_9 t0_10 t0_11 t0_12 t0_13 t1_0 t2_0 fm46 a95 lx31 lx31 lx32 from (by rw [← e96]; have h := hS53; rw [S_TR_digits_J45.eq_1] at h; rw [if_pos c57] at h; replace h := q_s2 h; have c87x := c87; rw [e64] at c87x; rw [if_pos c87x] at h; rw [if_neg c90] at h; with_reducible exact h))⟩
    ·
      refine lv_aload_n hx hb d_18_12_50 rfl (lv_at hl 1 rfl) ?_
      refine q_get (ci := 16) (j := 6) (v := .ref (q 155)) C0 V i_TR rfl rfl hO39 (by decide) w_2146 rfl d_18_12_51 ?_
      refine lv_aload_n hx hb d_18_12_54 rfl (lv_at hl 1 rfl) ?_
      refine q_get (ci := 16) (j := 7) (v := .int lx31) C0 V i_TR rfl rfl hO39 (by decide) w_2147 rfl d_18_12_55 ?_
      refine lv_iload_n hx hb d_18_12_58 rfl (lv_at hl 0 rfl) ?_
      have ob100 : q_F (lx31.toInt ≤ 4099) := (by have h := hS53; rw [S_TR_digits_J45.eq_1] at h; rw [if_neg c57] at h; exact h.2.1)
      refine q_iast C0 V hO41 (q_ix (x := lx31.toInt) rfl (by first | with_reducible exact q_fe i35 | (have t1 : 0 ≤ lx31.toInt := i35; omega)) (by have t1 : 0 ≤ lx31.toInt := i35; have t2 : lx31.toInt ≤ 4099 := ob100; have e9 : (((4100 : Int32).toNatClampNeg : Nat) : Int) = 4100 := (by decide); omega)) d_18_12_59 (fun H locs w101 hu102 hO41 V => ?_)
      replace hI := n_ai' hI (n_r155 g q).1 hu102 hO41 (q_updB (fun _ => s_bnd) s_bnd)
      replace hO39 := (hu102 _ (by decide)).trans hO39
      replace hO40 := (hu102 _ (by decide)).trans hO40
      replace hF := q_us hF hu102 (by simp)
      obtain ⟨f103, e104⟩ := q_nm (upd lx32 lx31.toNatClampNeg lx47 : (Nat → Int32))
      rw [e104] at hO41
      refine lv_aload_n hx hb d_18_12_60 rfl (lv_at hl 1 rfl) ?_
      refine lv_dup hx hb d_18_12_61 rfl ?_
      refine q_get (ci := 16) (j := 7) (v := .int lx31) C0 V i_TR rfl rfl hO39 (by decide) w_2147 rfl d_18_12_62 ?_
      refine lv_iconst (v := 1) hx hb d_18_12_65 (by decide) ?_
      refine lv_iadd hx hb d_18_12_66 ?_
      obtain ⟨a105, e106⟩ := q_nm (lx31 + 1 : Int32)
      refine q_ti (v := a105) e106 ?_
      have b107 : q_F (a105.toInt = lx31.toInt + 1) := (by rw [← e106]; show (lx31 + 1 : Int32).toInt = lx31.toInt + 1; exact q_addI (x := lx31.toInt) (y := 1) rfl (by decide) (by have t1 : 0 ≤ lx31.toInt := i35; have t2 : lx31.toInt ≤ 4100 := i36; omega) (by have t1 : 0 ≤ lx31.toInt := i35; have t2 : lx31.toInt ≤ 4100 := i36; omega))
      refine q_put (ci := 16) (j := 7) (v := .int a105) (ty := .int) C0 V i_TR o_TR n_TR rfl rfl hO39 (by decide) w_2147 rfl rfl rfl rfl (Nat.le_of_ble_eq_true rfl) d_18_12_67 (fun H locs w108 hu109 hO39 V => ?_)
      replace hO39 : w108[153]? = (some (q 153, .inr (16, [.int t0_0, .ref (q 154), .int t0_1, .int t0_2, .int lx29, .int t0_4, .ref (q 155), .int a105, .int lx30, .long t0_7, .ref (q 156), .int t0_8, .int t0_9, .long t0_10, .long t0_11, .int t0_12, .int t0_13])) : Option (Nat × va_E)) := hO39
      replace hI := n_p153 hI hu109 hO39 (by first | with_reducible exact q_fe btt0_1 | exact ⟨(by have t1 : 0 ≤ t0_1.toInt ∧ t0_1.toInt ≤ 4100 := btt0_1; omega), (by have t1 : 0 ≤ t0_1.toInt ∧ t0_1.toInt ≤ 4100 := btt0_1; omega)⟩) (by first | with_reducible exact q_fe btt0_4 | exact ⟨(by have t1 : 0 ≤ t0_4.toInt ∧ t0_4.toInt ≤ 1 := btt0_4; omega), (by have t1 : 0 ≤ t0_4.toInt ∧ t0_4.toInt ≤ 1 := btt0_4; omega)⟩) (by first | with_reducible exact q_fe btt0_13 | exact ⟨(by have t1 : 0 ≤ t0_13.toInt ∧ t0_13.toInt ≤ 1 := btt0_13; omega), (by have t1 : 0 ≤ t0_13.toInt ∧ t0_13.toInt ≤ 1 := btt0_13; omega)⟩)
      replace hO40 := (hu109 _ (by decide)).trans hO40
      replace hO41 := (hu109 _ (by decide)).trans hO41
      replace hF := q_us hF hu109 (by simp)
      refine lv_goto (tgt := 135) hx hb d_18_12_70 (by decide) ?_
      refine lv_aload_n hx hb d_18_12_135 rfl (lv_at hl 1 rfl) ?_
      refine lv_dup hx hb d_18_12_136 rfl ?_
      refine q_get (ci := 16) (j := 4) (v := .int lx29) C0 V i_TR rfl rfl hO39 (by decide) w_2144 rfl d_18_12_137 ?_
      refine lv_iconst (v := 1) hx hb d_18_12_140 (by decide) ?_
      refine lv_iadd hx hb d_18_12_141 ?_
      obtain ⟨a110, e111⟩ := q_nm (lx29 + 1 : Int32)
      refine q_ti (v := a110) e111 ?_
      refine q_put (ci := 16) (j := 4) (v := .int a110) (ty := .int) C0 V i_TR o_TR n_TR rfl rfl hO39 (by decide) w_2144 rfl rfl rfl rfl (Nat.le_of_ble_eq_true rfl) d_18_12_142 (fun H locs w112 hu113 hO39 V => ?_)
      replace hO39 : w112[153]? = (some (q 153, .inr (16, [.int t0_0, .ref (q 154), .int t0_1, .int t0_2, .int a110, .int t0_4, .ref (q 155), .int a105, .int lx30, .long t0_7, .ref (q 156), .int t0_8, .int t0_9, .long t0_10, .long t0_11, .int t0_12, .int t0_13])) : Option (Nat × va_E)) := hO39
      replace hI := n_p153 hI hu113 hO39 (by first | with_reducible exact q_fe btt0_1 | exact ⟨(by have t1 : 0 ≤ t0_1.toInt ∧ t0_1.toInt ≤ 4100 := btt0_1; omega), (by have t1 : 0 ≤ t0_1.toInt ∧ t0_1.toInt ≤ 4100 := btt0_1; omega)⟩) (by first | with_reducible exact q_fe btt0_4 | exact ⟨(by have t1 : 0 ≤ t0_4.toInt ∧ t0_4.toInt ≤ 1 := btt0_4; omega), (by have t1 : 0 ≤ t0_4.toInt ∧ t0_4.toInt ≤ 1 := btt0_4; omega)⟩) (by first | with_reducible exact q_fe btt0_13 | exact ⟨(by have t1 : 0 ≤ t0_13.toInt ∧ t0_13.toInt ≤ 1 := btt0_13; omega), (by have t1 : 0 ≤ t0_13.toInt ∧ t0_13.toInt ≤ 1 := btt0_13; omega)⟩)
      replace hO40 := (hu113 _ (by decide)).trans hO40
      replace hO41 := (hu113 _ (by decide)).trans hO41
      replace hF := q_us hF hu113 (by simp)
      refine lv_goto (tgt := 10) hx hb d_18_12_145 (by decide) ?_
      exact ih37 ((fm46 : Nat), (a110 : Int32), (lx30 : Int32), (a105 : Int32), (f103 : (Nat → Int32))) _ _ _ _ (Nat.lt_succ_self _) ⟨(show q_F (0 ≤ lx30.toInt + 1) from (show 0 ≤ lx30.toInt + 1 from by have t1 : 0 ≤ lx30.toInt + 1 := i33; omega)), (show q_F (lx30.toInt ≤ 4100) from (show lx30.toInt ≤ 4100 from by have t1 : lx30.toInt ≤ 4100 := i34; omega)), (show q_F (0 ≤ a105.toInt) from (show 0 ≤ a105.toInt from by have t1 : 0 ≤ lx31.toInt := i35; have t2 : a105.toInt = lx31.toInt + 1 := b107; omega)), (show q_F (a105.toInt ≤ 4100) from (show a105.toInt ≤ 4100 from by have t1 : lx31.toInt ≤ 4099 := ob100; have t2 : a105.toInt = lx31.toInt + 1 := b107; omega)), V, q_lw hl (q_lw1 1 rfl (q_lw1 2 rfl q_lw0)), hI, hF, hO39, hO40, hO41, (show F_TR_digits_L10 x2 t0_0 t0_1 t0_2 t0_3 t0_4 t0_5 t0_6 t0_7 t0_8 t0_9 t0_10 t0_11 t0_12 t0_13 t1_0 t2_0 fm46 a110 lx30 a105 f103 = (F_TR_digits x2 t0_0 t0_1 t0_2 t0_3 t0_4 t0_5 t0_6 t0_7 t0_8 t0_9 t0_10 t0_11 t0_12 t0_13 t1_0 t2_0) from Eq.trans (by rw [← e111, ← e106, ← e104, F_TR_digits_J45.eq_1, if_neg c57]) hR52), (show True ∧ S_TR_digits_L10 x2 t0_0 t0_1 t0_2 t0_3 t0_4 t0_5 t0_6 t0_7 t0_8 t0_9 t0_10 t0_11 t0_12 t0_13 t1_0 t2_0 fm46 a110 lx30 a105 f103 from (by rw [← e111, ← e106, ← e104]; have h := hS53; rw [S_TR_digits_J45.eq_1] at h; rw [if_neg c57] at h; replace h := q_s2 h; with_reducible exact h))⟩
  ·
    intro J51
    refine lv_if_eq (tgt := 24) hx hb d_18_12_11 (by decide) (fun c114 => ?_) (fun c114 => ?_)
    ·
      refine lv_aload_n hx hb d_18_12_24 rfl (lv_at hl 0 rfl) ?_
      have ob116 : True ∧ S_TR_here t0_0 t0_1 t0_2 lx29 t0_4 lx31 lx30 t0_7 t0_8 t0_9 t0_10 t0_11 t0_12 t0_13 t1_0 := (by have h := hS43; rw [S_TR_digits_L10.eq_2] at h; rw [if_pos c114] at h; with_reducible exact h.2.1)
      refine q_goi V (q_runV (As := []) (rest := []) (d := 1) (mc := 0) (ms := 0) (ci := 16) C0 V rfl LV_TR_35 (X_TR_here l D g q w38   hI t0_0 t0_1 t0_2 lx29 t0_4 lx31 lx30 t0_7 t0_8 t0_9 t0_10 t0_11 t0_12 t0_13 hO39 t1_0 hO40 ob116 _) rfl rfl hO39 rfl hl.1 rfl (Nat.le_of_ble_eq_true rfl) ⟨by decide, by decide⟩ ⟨Nat.le_of_ble_eq_true rfl, Nat.le_of_ble_eq_true rfl⟩ d_18_12_25) (fun a119 u117 H locs hp118 V => ?_)
      obtain ⟨rfl, hE120⟩ := hp118
      have e121 : a119 = (F_TR_here t0_0 t0_1 t0_2 lx29 t0_4 lx31 lx30 t0_7 t0_8 t0_9 t0_10 t0_11 t0_12 t0_13 t1_0) := hE120
      refine q_goi V (q_runS (As := [.int a119]) (rest := []) (d := 1) (mc := 0) (ms := 0) C0 V rfl LS_TR_31 (X_TR_isDigit l D g q w38  a119 hI   _) rfl hl.1 rfl (Nat.le_of_ble_eq_true rfl) ⟨by decide, by decide⟩ ⟨Nat.le_of_ble_eq_true rfl, Nat.le_of_ble_eq_true rfl⟩ d_18_12_28) (fun a124 u122 H locs hp123 V => ?_)
      obtain ⟨rfl, b125, b126, hE127⟩ := hp123
      have e128 : a124 = (F_TR_isDigit a119) := hE127
      clear b125
      clear b126
      refine lv_if_eq (tgt := 44) hx hb d_18_12_31 (by decide) (fun c129 => ?_) (fun c129 => ?_)
      ·
        refine lv_iconst (v := (-1)) hx hb d_18_12_44 (by decide) ?_
        exact J51 (((-1) : Int32)) _ _ _ w38 ⟨V, q_lw hl (q_lw1 0 rfl (q_lw1 1 rfl q_lw0)), (show F_TR_digits_J45 (F_TR_digits_L10 x2 t0_0 t0_1 t0_2 t0_3 t0_4 t0_5 t0_6 t0_7 t0_8 t0_9 t0_10 t0_11 t0_12 t0_13 t1_0 t2_0 fm46) x2 t0_0 t0_1 t0_2 t0_3 t0_4 t0_5 t0_6 t0_7 t0_8 t0_9 t0_10 t0_11 t0_12 t0_13 t1_0 t2_0 lx29 lx30 lx31 lx32 (-1) = (F_TR_digits x2 t0_0 t0_1 t0_2 t0_3 t0_4 t0_5 t0_6 t0_7 t0_8 t0_9 t0_10 t0_11 t0_12 t0_13 t1_0 t2_0) from Eq.trans (by have c129x := c129; rw [e128, e121] at c129x; rw [F_TR_digits_L10.eq_2, if_pos c114, if_pos c129x]) hR42), (show True ∧ S_TR_digits_J45 (S_TR_digits_L10 x2 t0_0 t0_1 t0_2 t0_3 t0_4 t0_5 t0_6 t0_7 t0_8 t0_9 t0_10 t0_11 t0_12 t0_13 t1_0 t2_0 fm46) x2 t0_0 t0_1 t0_2 t0_3 t0_4 t0_5 t0_6 t0_7 t0_8 t0_9 t0_10 t0_11 t0_12 t0_13 t1_0 t2_0 lx29 lx30 lx31 lx32 (-1) from (by have h := hS43; rw [S_TR_digits_L10.eq_2] at h; rw [if_pos c114] at h; replace h := q_s2 h; have c129x := c129; rw [e128, e121] at c129x; rw [if_pos c129x] at h; with_reducible exact h))⟩
      ·
        refine lv_aload_n hx hb d_18_12_34 rfl (lv_at hl 0 rfl) ?_
        have ob132 : True ∧ S_TR_here t0_0 t0_1 t0_2 lx29 t0_4 lx31 lx30 t0_7 t0_8 t0_9 t0_10 t0_11 t0_12 t0_13 t1_0 := (by have h := hS43; rw [S_TR_digits_L10.eq_2] at h; rw [if_pos c114] at h; replace h := q_s2 h; have c129x := c129; rw [e128, e121] at c129x; rw [if_neg c129x] at h; with_reducible exact h.2.1)
        refine q_goi V (q_runV (As := []) (rest := []) (d := 1) (mc := 0) (ms := 0) (ci := 16) C0 V rfl LV_TR_35 (X_TR_here l D g q w38   hI t0_0 t0_1 t0_2 lx29 t0_4 lx31 lx30 t0_7 t0_8 t0_9 t0_10 t0_11 t0_12 t0_13 hO39 t1_0 hO40 ob132 _) rfl rfl hO39 rfl hl.1 rfl (Nat.le_of_ble_eq_true rfl) ⟨by decide, by decide⟩ ⟨Nat.le_of_ble_eq_true rfl, Nat.le_of_ble_eq_true rfl⟩ d_18_12_35) (fun a135 u133 H locs hp134 V => ?_)
        obtain ⟨rfl, hE136⟩ := hp134
        have e137 : a135 = (F_TR_here t0_0 t0_1 t0_2 lx29 t0_4 lx31 lx30 t0_7 t0_8 t0_9 t0_10 t0_11 t0_12 t0_13 t1_0) := hE136
        refine lv_bipush (v := 48) hx hb d_18_12_38 (by decide) ?_
        refine lv_isub hx hb d_18_12_40 ?_
        obtain ⟨a138, e139⟩ := q_nm (a135 - 48 : Int32)
        refine q_ti (v := a138) e139 ?_
        refine lv_goto (tgt := 45) hx hb d_18_12_41 (by decide) ?_
        exact J51 ((a138 : Int32)) _ _ _ w38 ⟨V, q_lw hl (q_lw1 0 rfl (q_lw1 1 rfl q_lw0)), (show F_TR_digits_J45 (F_TR_digits_L10 x2 t0_0 t0_1 t0_2 t0_3 t0_4 t0_5 t0_6 t0_7 t0_8 t0_9 t0_10 t0_11 t0_12 t0_13 t1_0 t2_0 fm46) x2 t0_0 t0_1 t0_2 t0_3 t0_4 t0_5 t0_6 t0_7 t0_8 t0_9 t0_10 t0_11 t0_12 t0_13 t1_0 t2_0 lx29 lx30 lx31 lx32 a138 = (F_TR_digits x2 t0_0 t0_1 t0_2 t0_3 t0_4 t0_5 t0_6 t0_7 t0_8 t0_9 t0_10 t0_11 t0_12 t0_13 t1_0 t2_0) from Eq.trans (by have c129x := c129; rw [e128, e121] at c129x; rw [← e139, e137, F_TR_digits_L10.eq_2, if_pos c114, if_neg c129x]) hR42), (show True ∧ S_TR_digits_J45 (S_TR_digits_L10 x2 t0_0 t0_1 t0_2 t0_3 t0_4 t0_5 t0_6 t0_7 t0_8 t0_9 t0_10 t0_11 t0_12 t0_13 t1_0 t2_0 fm46) x2 t0_0 t0_1 t0_2 t0_3 t0_4 t0_5 t0_6 t0_7 t0_8 t0_9 t0_10 t0_11 t0_12 t0_13 t1_0 t2_0 lx29 lx30 lx31 lx32 a138 from (by rw [← e139, e137]; have h := hS43; rw [S_TR_digits_L10.eq_2] at h; rw [if_pos c114] at h; replace h := q_s2 h; have c129x := c129; rw [e128, e121] at c129x; rw [if_neg c129x] at h; replace h := q_s2 h; with_reducible exact h))⟩
    ·
      refine lv_aload_n hx hb d_18_12_14 rfl (lv_at hl 0 rfl) ?_
      have ob141 : True ∧ S_TR_here t0_0 t0_1 t0_2 lx29 t0_4 lx31 lx30 t0_7 t0_8 t0_9 t0_10 t0_11 t0_12 t0_13 t1_0 := (by have h := hS43; rw [S_TR_digits_L10.eq_2] at h; rw [if_neg c114] at h; with_reducible exact h.2.1)
      refine q_goi V (q_runV (As := []) (rest := []) (d := 1) (mc := 0) (ms := 0) (ci := 16) C0 V rfl LV_TR_35 (X_TR_here l D g q w38   hI t0_0 t0_1 t0_2 lx29 t0_4 lx31 lx30 t0_7 t0_8 t0_9 t0_10 t0_11 t0_12 t0_13 hO39 t1_0 hO40 ob141 _) rfl rfl hO39 rfl hl.1 rfl (Nat.le_of_ble_eq_true rfl) ⟨by decide, by decide⟩ ⟨Nat.le_of_ble_eq_true rfl, Nat.le_of_ble_eq_true rfl⟩ d_18_12_15) (fun a144 u142 H locs hp143 V => ?_)
      obtain ⟨rfl, hE145⟩ := hp143
      have e146 : a144 = (F_TR_here t0_0 t0_1 t0_2 lx29 t0_4 lx31 lx30 t0_7 t0_8 t0_9 t0_10 t0_11 t0_12 t0_13 t1_0) := hE145
      refine q_goi V (q_runS (As := [.int a144]) (rest := []) (d := 2) (mc := 0) (ms := 0) C0 V rfl LS_TR_45 (X_TR_hex l D g q w38  a144 hI   _) rfl hl.1 rfl (Nat.le_of_ble_eq_true rfl) ⟨by decide, by decide⟩ ⟨Nat.le_of_ble_eq_true rfl, Nat.le_of_ble_eq_true rfl⟩ d_18_12_18) (fun a149 u147 H locs hp148 V => ?_)
      obtain ⟨rfl, hE150⟩ := hp148
      have e151 : a149 = (F_TR_hex a144) := hE150
      refine lv_goto (tgt := 45) hx hb d_18_12_21 (by decide) ?_
      exact J51 ((a149 : Int32)) _ _ _ w38 ⟨V, q_lw hl (q_lw1 0 rfl (q_lw1 1 rfl q_lw0)), (show F_TR_digits_J45 (F_TR_digits_L10 x2 t0_0 t0_1 t0_2 t0_3 t0_4 t0_5 t0_6 t0_7 t0_8 t0_9 t0_10 t0_11 t0_12 t0_13 t1_0 t2_0 fm46) x2 t0_0 t0_1 t0_2 t0_3 t0_4 t0_5 t0_6 t0_7 t0_8 t0_9 t0_10 t0_11 t0_12 t0_13 t1_0 t2_0 lx29 lx30 lx31 lx32 a149 = (F_TR_digits x2 t0_0 t0_1 t0_2 t0_3 t0_4 t0_5 t0_6 t0_7 t0_8 t0_9 t0_10 t0_11 t0_12 t0_13 t1_0 t2_0) from Eq.trans (by rw [e151, e146, F_TR_digits_L10.eq_2, if_neg c114]) hR42), (show True ∧ S_TR_digits_J45 (S_TR_digits_L10 x2 t0_0 t0_1 t0_2 t0_3 t0_4 t0_5 t0_6 t0_7 t0_8 t0_9 t0_10 t0_11 t0_12 t0_13 t1_0 t2_0 fm46) x2 t0_0 t0_1 t0_2 t0_3 t0_4 t0_5 t0_6 t0_7 t0_8 t0_9 t0_10 t0_11 t0_12 t0_13 t1_0 t2_0 lx29 lx30 lx31 lx32 a149 from (by rw [e151, e146]; have h := hS43; rw [S_TR_digits_L10.eq_2] at h; rw [if_neg c114] at h; replace h := q_s2 h; with_reducible exact h))⟩

