/-! FloatRows: print -/
def Q_FR_print (p : Int32 × Int32 × Int32 × Int32 × Int32 × Int64 × Int32 × Int32 × Int64 × Int32 × Int64 × Int32 × (Nat → Int32) × (Nat → Int32) × (Nat → Int32) × (Nat → Int32) × (Nat → Int32) × (Nat → Int32) × (Nat → Int32)) : Prop := 0 ≤ p.1.toInt ∧ p.1.toInt ≤ 1600
theorem vf_pr2 {K_F_FR_print_L169 : Int32 → Int32 → Int32 → Int32 → Int32 → Int64 → Int32 → Int32 → Int64 → Int32 → Int64 → Int32 → (Nat → Int32) → (Int32 × Int32 × Int32 × Int32 × Int32 × Int64 × Int32 × Int32 × Int64 × Int32 × Int64 × Int32 × (Nat → Int32) × (Nat → Int32) × (Nat → Int32) × (Nat → Int32) × (Nat → Int32) × (Nat → Int32) × (Nat → Int32))} {x2 : Int64} {x3 : Int32} {t0_0 : Int32} {t0_1 : Int32} {t0_2 : Int32} {t0_3 : Int32} {t0_4 : Int64} {t0_5 : Int32} {t0_6 : Int32} {t0_7 : Int64} {t0_8 : Int32} {t0_9 : Int64} {t0_10 : Int32} {t1_0 : (Nat → Int32)} {t2_0 : (Nat → Int32)} {t3_0 : (Nat → Int32)} {t4_0 : (Nat → Int32)} {t5_0 : (Nat → Int32)} {t6_0 : (Nat → Int32)} {t7_0 : (Nat → Int32)} {lx42 : Int32} {p100 : (Int32 × Int32 × Int32 × Int32 × Int64 × Int32 × Int32 × Int64 × Int32 × Int64 × Int32)} {p168 : (Int32 × Int32 × Int32 × Int32 × Int64 × Int32 × Int32 × Int64 × Int32 × Int64 × Int32 × (Nat → Int32))} {f142 : (Nat → Int32)} {p239 : (Int32 × Int32 × Int32 × Int32 × Int64 × Int32 × Int32 × Int64 × Int32 × Int64 × Int32 × (Nat → Int32) × (Nat → Int32) × (Nat → Int32) × (Nat → Int32) × (Nat → Int32) × (Nat → Int32))} {a269 : Int32} {a266 : Int32} {y196 : Int32} {y197 : Int32} {y198 : Int32} {y199 : Int32} {y200 : Int64} {y201 : Int32} {y202 : Int32} {y203 : Int64} {y204 : Int32} {y205 : Int64} {y206 : Int32} {f207 : (Nat → Int32)} {f209 : (Nat → Int32)} {f211 : (Nat → Int32)} {f213 : (Nat → Int32)} {f215 : (Nat → Int32)} {f217 : (Nat → Int32)} {lx279 : Int32} {lx296 : Int32} {lx312 : Int32} {lx328 : Int32} {lx329 : Int32} {lx330 : Int32} {lx331 : Int32} {lx332 : Int32} {lx333 : Int64} {lx334 : Int32} {lx335 : Int32} {lx336 : Int64} {lx337 : Int32} {lx338 : Int64} {lx339 : Int32} {lx340 : (Nat → Int32)} {p429 : (Int32 × Int32 × Int32 × Int32 × Int64 × Int32 × Int32 × Int64 × Int32 × Int64 × Int32 × (Nat → Int32))} {y390 : Int32} {y391 : Int32} {y392 : Int32} {y393 : Int32} {y394 : Int64} {y395 : Int32} {y396 : Int32} {y397 : Int64} {y398 : Int32} {y399 : Int64} {y400 : Int32} {f401 : (Nat → Int32)} {lx451 : Int32} {K_S_FR_print_L169 : Int32 → Int32 → Int32 → Int32 → Int32 → Int64 → Int32 → Int32 → Int64 → Int32 → Int64 → Int32 → (Nat → Int32) → Prop} (hA : -1080 ≤ a269.toInt ∧ a269.toInt ≤ 420) (hB : a269.toInt ≤ a266.toInt ∧ a266.toInt ≤ a269.toInt + 18)(h4 : lx312.toInt - 1 - lx451.toInt ≤ 1080 ∧ lx451.toInt ≤ lx312.toInt - 1) (h3 : -1080 ≤ lx312.toInt ∧ lx312.toInt ≤ 438) : ∀ (n : Nat) (lx472 : Int32) (lx473 : Int32) (lx474 : Int32) (lx475 : Int32) (lx476 : Int32) (lx477 : Int64) (lx478 : Int32) (lx479 : Int32) (lx480 : Int64) (lx481 : Int32) (lx482 : Int64) (lx483 : Int32) (lx484 : (Nat → Int32)), (lx451.toInt - 1 ≤ lx472.toInt ∧ lx472.toInt ≤ lx312.toInt - 1) → (1600 - lx474.toInt < (n : Int)) → (0 ≤ lx474.toInt ∧ lx474.toInt + lx472.toInt ≤ 443 + lx312.toInt - 1) → (S_FR_print_L227 K_S_FR_print_L169 x2 x3 t0_0 t0_1 t0_2 t0_3 t0_4 t0_5 t0_6 t0_7 t0_8 t0_9 t0_10 t1_0 t2_0 t3_0 t4_0 t5_0 t6_0 t7_0 lx42 p100 p168 f142 p239 a269 a266 y196 y197 y198 y199 y200 y201 y202 y203 y204 y205 y206 f207 f209 f211 f213 f215 f217 lx279 lx296 lx312 lx328 lx329 lx330 lx331 lx332 lx333 lx334 lx335 lx336 lx337 lx338 lx339 lx340 p429 y390 y391 y392 y393 y394 y395 y396 y397 y398 y399 y400 f401 lx451 n lx472 lx473 lx474 lx475 lx476 lx477 lx478 lx479 lx480 lx481 lx482 lx483 lx484) ∧ Q_FR_print (F_FR_print_L227 K_F_FR_print_L169 x2 x3 t0_0 t0_1 t0_2 t0_3 t0_4 t0_5 t0_6 t0_7 t0_8 t0_9 t0_10 t1_0 t2_0 t3_0 t4_0 t5_0 t6_0 t7_0 lx42 p100 p168 f142 p239 a269 a266 y196 y197 y198 y199 y200 y201 y202 y203 y204 y205 y206 f207 f209 f211 f213 f215 f217 lx279 lx296 lx312 lx328 lx329 lx330 lx331 lx332 lx333 lx334 lx335 lx336 lx337 lx338 lx339 lx340 p429 y390 y391 y392 y393 y394 y395 y396 y397 y398 y399 y400 f401 lx451 n lx472 lx473 lx474 lx475 lx476 lx477 lx478 lx479 lx480 lx481 lx482 lx483 lx484) := by
  intro n
  induction n with
  | zero => intro lx472 lx473 lx474 lx475 lx476 lx477 lx478 lx479 lx480 lx481 lx482 lx483 lx484 h0 hm h1; exact absurd (show False by omega) id
  | succ n ih =>
    intro lx472 lx473 lx474 lx475 lx476 lx477 lx478 lx479 lx480 lx481 lx482 lx483 lx484 h0 hm h1
    have e0 : (0 : Int32).toInt = 0 := rfl
    have e1 : (1 : Int32).toInt = 1 := rfl
    have eL0 : (0 : Int64).toInt = 0 := rfl
    have n266 : (-a266 : Int32).toInt = -a266.toInt := v_negI (by omega) (by omega)
    rw [S_FR_print_L227.eq_2, F_FR_print_L227.eq_2]
    by_cases g1 : lx472 < lx451
    ·
      rw [if_pos g1, if_pos g1]
      have g1i : lx472.toInt < lx451.toInt := q_ltI g1
      by_cases g2 : lx279 = (0 : Int32)
      ·
        rw [if_pos g2, if_pos g2]
        have h3 := T_FR_add (x2 := (69 : Int32)) (t0_0 := lx473) (t0_1 := lx474) (t0_2 := lx475) (t0_3 := lx476) (t0_4 := lx477) (t0_5 := lx478) (t0_6 := lx479) (t0_7 := lx480) (t0_8 := lx481) (t0_9 := lx482) (t0_10 := lx483) (t1_0 := lx484) ⟨by first | omega | decide, by first | omega | decide⟩
        with_reducible refine v_owe h3.1 ?_
        replace h3 := h3.2
        generalize F_FR_add (69 : Int32) lx473 lx474 lx475 lx476 lx477 lx478 lx479 lx480 lx481 lx482 lx483 lx484 = p570 at *
        unfold Q_FR_add at h3
        obtain ⟨h31, h33, h35, h36, h37, h38, h39, h3x⟩ := h3
        have h39i := congrArg Int64.toInt h39
        have h37i := congrArg Int64.toInt h37
        unfold S_FR_print_c261 F_FR_print_c261
        by_cases g4 : (0 : Int32) ≤ a266
        ·
          rw [if_pos g4, if_pos g4]
          have g4i : 0 ≤ a266.toInt := q_leI g4
          unfold S_FR_print_J275 F_FR_print_J275
          rw [if_pos g4, if_pos g4]
          have h5 := T_FR_number (x2 := a266) (t0_0 := (p570.1 : Int32)) (t0_1 := (p570.2.1 : Int32)) (t0_2 := (p570.2.2.1 : Int32)) (t0_3 := (p570.2.2.2.1 : Int32)) (t0_4 := (p570.2.2.2.2.1 : Int64)) (t0_5 := (p570.2.2.2.2.2.1 : Int32)) (t0_6 := (p570.2.2.2.2.2.2.1 : Int32)) (t0_7 := (p570.2.2.2.2.2.2.2.1 : Int64)) (t0_8 := (p570.2.2.2.2.2.2.2.2.1 : Int32)) (t0_9 := (p570.2.2.2.2.2.2.2.2.2.1 : Int64)) (t0_10 := (p570.2.2.2.2.2.2.2.2.2.2.1 : Int32)) (t1_0 := (p570.2.2.2.2.2.2.2.2.2.2.2 : (Nat → Int32))) ⟨by omega, by omega⟩ ⟨by omega, by omega⟩
          with_reducible refine v_owe h5.1 ?_
          replace h5 := h5.2
          generalize F_FR_number a266 (p570.1 : Int32) (p570.2.1 : Int32) (p570.2.2.1 : Int32) (p570.2.2.2.1 : Int32) (p570.2.2.2.2.1 : Int64) (p570.2.2.2.2.2.1 : Int32) (p570.2.2.2.2.2.2.1 : Int32) (p570.2.2.2.2.2.2.2.1 : Int64) (p570.2.2.2.2.2.2.2.2.1 : Int32) (p570.2.2.2.2.2.2.2.2.2.1 : Int64) (p570.2.2.2.2.2.2.2.2.2.2.1 : Int32) (p570.2.2.2.2.2.2.2.2.2.2.2 : (Nat → Int32)) = p682 at *
          unfold Q_FR_number at h5
          unfold S_FR_print_c289 F_FR_print_c289
          refine ⟨trivial, ?_⟩
          (unfold Q_FR_print; dsimp only; first | exact ⟨by omega, by omega⟩ | exact ⟨by decide, by decide⟩)
        ·
          rw [if_neg g4, if_neg g4]
          have g4i : a266.toInt < 0 := q_nleI g4
          have h6 := T_FR_add (x2 := (45 : Int32)) (t0_0 := (p570.1 : Int32)) (t0_1 := (p570.2.1 : Int32)) (t0_2 := (p570.2.2.1 : Int32)) (t0_3 := (p570.2.2.2.1 : Int32)) (t0_4 := (p570.2.2.2.2.1 : Int64)) (t0_5 := (p570.2.2.2.2.2.1 : Int32)) (t0_6 := (p570.2.2.2.2.2.2.1 : Int32)) (t0_7 := (p570.2.2.2.2.2.2.2.1 : Int64)) (t0_8 := (p570.2.2.2.2.2.2.2.2.1 : Int32)) (t0_9 := (p570.2.2.2.2.2.2.2.2.2.1 : Int64)) (t0_10 := (p570.2.2.2.2.2.2.2.2.2.2.1 : Int32)) (t1_0 := (p570.2.2.2.2.2.2.2.2.2.2.2 : (Nat → Int32))) ⟨by first | omega | decide, by first | omega | decide⟩
          with_reducible refine v_owe h6.1 ?_
          replace h6 := h6.2
          generalize F_FR_add (45 : Int32) (p570.1 : Int32) (p570.2.1 : Int32) (p570.2.2.1 : Int32) (p570.2.2.2.1 : Int32) (p570.2.2.2.2.1 : Int64) (p570.2.2.2.2.2.1 : Int32) (p570.2.2.2.2.2.2.1 : Int32) (p570.2.2.2.2.2.2.2.1 : Int64) (p570.2.2.2.2.2.2.2.2.1 : Int32) (p570.2.2.2.2.2.2.2.2.2.1 : Int64) (p570.2.2.2.2.2.2.2.2.2.2.1 : Int32) (p570.2.2.2.2.2.2.2.2.2.2.2 : (Nat → Int32)) = p809 at *
          unfold Q_FR_add at h6
          obtain ⟨h61, h63, h65, h66, h67, h68, h69, h6x⟩ := h6
          have h69i := congrArg Int64.toInt h69
          have h67i := congrArg Int64.toInt h67
          unfold S_FR_print_c272 F_FR_print_c272
          unfold S_FR_print_J275 F_FR_print_J275
          rw [if_neg g4, if_neg g4]
          have h7 := T_FR_number (x2 := (-a266 : Int32)) (t0_0 := (p809.1 : Int32)) (t0_1 := (p809.2.1 : Int32)) (t0_2 := (p809.2.2.1 : Int32)) (t0_3 := (p809.2.2.2.1 : Int32)) (t0_4 := (p809.2.2.2.2.1 : Int64)) (t0_5 := (p809.2.2.2.2.2.1 : Int32)) (t0_6 := (p809.2.2.2.2.2.2.1 : Int32)) (t0_7 := (p809.2.2.2.2.2.2.2.1 : Int64)) (t0_8 := (p809.2.2.2.2.2.2.2.2.1 : Int32)) (t0_9 := (p809.2.2.2.2.2.2.2.2.2.1 : Int64)) (t0_10 := (p809.2.2.2.2.2.2.2.2.2.2.1 : Int32)) (t1_0 := (p809.2.2.2.2.2.2.2.2.2.2.2 : (Nat → Int32))) ⟨by omega, by omega⟩ ⟨by omega, by omega⟩
          with_reducible refine v_owe h7.1 ?_
          replace h7 := h7.2
          generalize F_FR_number (-a266 : Int32) (p809.1 : Int32) (p809.2.1 : Int32) (p809.2.2.1 : Int32) (p809.2.2.2.1 : Int32) (p809.2.2.2.2.1 : Int64) (p809.2.2.2.2.2.1 : Int32) (p809.2.2.2.2.2.2.1 : Int32) (p809.2.2.2.2.2.2.2.1 : Int64) (p809.2.2.2.2.2.2.2.2.1 : Int32) (p809.2.2.2.2.2.2.2.2.2.1 : Int64) (p809.2.2.2.2.2.2.2.2.2.2.1 : Int32) (p809.2.2.2.2.2.2.2.2.2.2.2 : (Nat → Int32)) = p744 at *
          unfold Q_FR_number at h7
          unfold S_FR_print_c289_15 F_FR_print_c289_15
          refine ⟨trivial, ?_⟩
          (unfold Q_FR_print; dsimp only; first | exact ⟨by omega, by omega⟩ | exact ⟨by decide, by decide⟩)
      ·
        rw [if_neg g2, if_neg g2]
        refine ⟨trivial, ?_⟩
        (unfold Q_FR_print; dsimp only; first | exact ⟨by omega, by omega⟩ | exact ⟨by decide, by decide⟩)
    ·
      rw [if_neg g1, if_neg g1]
      have g1i : lx451.toInt ≤ lx472.toInt := q_nltI g1
      have h8 := T_FR_add (x2 := (48 + ((F_FR_figure lx472 lx473 lx474 lx475 lx476 lx477 lx478 lx479 lx480 lx481 lx482 lx483) : Int32) : Int32)) (t0_0 := lx473) (t0_1 := lx474) (t0_2 := lx475) (t0_3 := lx476) (t0_4 := lx477) (t0_5 := lx478) (t0_6 := lx479) (t0_7 := lx480) (t0_8 := lx481) (t0_9 := lx482) (t0_10 := lx483) (t1_0 := lx484) ⟨by first | omega | decide, by first | omega | decide⟩
      with_reducible refine v_owe h8.1 ?_
      replace h8 := h8.2
      generalize F_FR_add (48 + ((F_FR_figure lx472 lx473 lx474 lx475 lx476 lx477 lx478 lx479 lx480 lx481 lx482 lx483) : Int32) : Int32) lx473 lx474 lx475 lx476 lx477 lx478 lx479 lx480 lx481 lx482 lx483 lx484 = p879 at *
      unfold Q_FR_add at h8
      obtain ⟨h81, h83, h85, h86, h87, h88, h89, h8x⟩ := h8
      have h89i := congrArg Int64.toInt h89
      have h87i := congrArg Int64.toInt h87
      unfold S_FR_print_c244 F_FR_print_c244
      obtain ⟨a9, e10⟩ := q_nm (lx472 + (-1) : Int32)
      rw [e10]
      have a9i : a9.toInt = lx472.toInt + (-1) := by rw [← e10]; exact q_addI (x := lx472.toInt) (y := (-1)) rfl (by decide) (by omega) (by omega)
      exact ih _ _ _ _ _ _ _ _ _ _ _ _ _ ⟨by omega, by omega⟩ (by omega) ⟨by omega, by omega⟩
theorem vf_pr1 {x2 : Int64} {x3 : Int32} {t0_0 : Int32} {t0_1 : Int32} {t0_2 : Int32} {t0_3 : Int32} {t0_4 : Int64} {t0_5 : Int32} {t0_6 : Int32} {t0_7 : Int64} {t0_8 : Int32} {t0_9 : Int64} {t0_10 : Int32} {t1_0 : (Nat → Int32)} {t2_0 : (Nat → Int32)} {t3_0 : (Nat → Int32)} {t4_0 : (Nat → Int32)} {t5_0 : (Nat → Int32)} {t6_0 : (Nat → Int32)} {t7_0 : (Nat → Int32)} {lx42 : Int32} {p100 : (Int32 × Int32 × Int32 × Int32 × Int64 × Int32 × Int32 × Int64 × Int32 × Int64 × Int32)} {p168 : (Int32 × Int32 × Int32 × Int32 × Int64 × Int32 × Int32 × Int64 × Int32 × Int64 × Int32 × (Nat → Int32))} {f142 : (Nat → Int32)} {p239 : (Int32 × Int32 × Int32 × Int32 × Int64 × Int32 × Int32 × Int64 × Int32 × Int64 × Int32 × (Nat → Int32) × (Nat → Int32) × (Nat → Int32) × (Nat → Int32) × (Nat → Int32) × (Nat → Int32))} {a269 : Int32} {a266 : Int32} {y196 : Int32} {y197 : Int32} {y198 : Int32} {y199 : Int32} {y200 : Int64} {y201 : Int32} {y202 : Int32} {y203 : Int64} {y204 : Int32} {y205 : Int64} {y206 : Int32} {f207 : (Nat → Int32)} {f209 : (Nat → Int32)} {f211 : (Nat → Int32)} {f213 : (Nat → Int32)} {f215 : (Nat → Int32)} {f217 : (Nat → Int32)} {lx279 : Int32} {lx296 : Int32} {lx312 : Int32} (hA : -1080 ≤ a269.toInt ∧ a269.toInt ≤ 420) (hB : a269.toInt ≤ a266.toInt ∧ a266.toInt ≤ a269.toInt + 18)(h9 : lx312.toInt ≤ lx296.toInt ∧ lx296.toInt ≤ lx312.toInt + 440) (h3 : -1080 ≤ lx312.toInt ∧ lx312.toInt ≤ 438) (h5 : lx312.toInt = 0 ∨ lx312.toInt = a266.toInt) : ∀ (n : Nat) (lx328 : Int32) (lx329 : Int32) (lx330 : Int32) (lx331 : Int32) (lx332 : Int32) (lx333 : Int64) (lx334 : Int32) (lx335 : Int32) (lx336 : Int64) (lx337 : Int32) (lx338 : Int64) (lx339 : Int32) (lx340 : (Nat → Int32)), (lx312.toInt - 1 ≤ lx328.toInt ∧ lx328.toInt ≤ lx296.toInt) → (2047 - lx330.toInt < (n : Int)) → (0 ≤ lx330.toInt ∧ lx330.toInt + lx328.toInt ≤ 1 + lx296.toInt) → (S_FR_print_L169 x2 x3 t0_0 t0_1 t0_2 t0_3 t0_4 t0_5 t0_6 t0_7 t0_8 t0_9 t0_10 t1_0 t2_0 t3_0 t4_0 t5_0 t6_0 t7_0 lx42 p100 p168 f142 p239 a269 a266 y196 y197 y198 y199 y200 y201 y202 y203 y204 y205 y206 f207 f209 f211 f213 f215 f217 lx279 lx296 lx312 n lx328 lx329 lx330 lx331 lx332 lx333 lx334 lx335 lx336 lx337 lx338 lx339 lx340) ∧ Q_FR_print (F_FR_print_L169 x2 x3 t0_0 t0_1 t0_2 t0_3 t0_4 t0_5 t0_6 t0_7 t0_8 t0_9 t0_10 t1_0 t2_0 t3_0 t4_0 t5_0 t6_0 t7_0 lx42 p100 p168 f142 p239 a269 a266 y196 y197 y198 y199 y200 y201 y202 y203 y204 y205 y206 f207 f209 f211 f213 f215 f217 lx279 lx296 lx312 n lx328 lx329 lx330 lx331 lx332 lx333 lx334 lx335 lx336 lx337 lx338 lx339 lx340) := by
  intro n
  induction n with
  | zero => intro lx328 lx329 lx330 lx331 lx332 lx333 lx334 lx335 lx336 lx337 lx338 lx339 lx340 h0 hm h1; exact absurd (show False by omega) id
  | succ n ih =>
    intro lx328 lx329 lx330 lx331 lx332 lx333 lx334 lx335 lx336 lx337 lx338 lx339 lx340 h0 hm h1
    have e0 : (0 : Int32).toInt = 0 := rfl
    have e1 : (1 : Int32).toInt = 1 := rfl
    have eL0 : (0 : Int64).toInt = 0 := rfl
    have e12 : (lx312 - 1 : Int32).toInt = lx312.toInt - 1 := q_subI (y := 1) rfl (by decide) (by omega) (by omega)
    rw [S_FR_print_L169.eq_2, F_FR_print_L169.eq_2]
    by_cases g1 : lx328 < lx312
    ·
      rw [if_pos g1, if_pos g1]
      have g1i : lx328.toInt < lx312.toInt := q_ltI g1
      have h2 := T_FR_add (x2 := (46 : Int32)) (t0_0 := lx329) (t0_1 := lx330) (t0_2 := lx331) (t0_3 := lx332) (t0_4 := lx333) (t0_5 := lx334) (t0_6 := lx335) (t0_7 := lx336) (t0_8 := lx337) (t0_9 := lx338) (t0_10 := lx339) (t1_0 := lx340) ⟨by first | omega | decide, by first | omega | decide⟩
      with_reducible refine v_owe h2.1 ?_
      replace h2 := h2.2
      generalize F_FR_add (46 : Int32) lx329 lx330 lx331 lx332 lx333 lx334 lx335 lx336 lx337 lx338 lx339 lx340 = p429 at *
      unfold Q_FR_add at h2
      obtain ⟨h21, h23, h25, h26, h27, h28, h29, h2x⟩ := h2
      have h29i := congrArg Int64.toInt h29
      have h27i := congrArg Int64.toInt h27
      unfold S_FR_print_c198 F_FR_print_c198
      by_cases g3 : (lx312 - 1 : Int32) ≤ a269
      ·
        rw [if_pos g3, if_pos g3]
        have g3i := q_leI g3
        unfold S_FR_print_J219 F_FR_print_J219
        exact vf_pr2 hA hB ⟨by omega, by omega⟩ ⟨by omega, by omega⟩ _ _ _ _ _ _ _ _ _ _ _ _ _ _ ⟨by omega, by omega⟩ (by omega) ⟨by omega, by omega⟩
      ·
        rw [if_neg g3, if_neg g3]
        have g3i := q_nleI g3
        unfold S_FR_print_J219 F_FR_print_J219
        exact vf_pr2 hA hB ⟨by omega, by omega⟩ ⟨by omega, by omega⟩ _ _ _ _ _ _ _ _ _ _ _ _ _ _ ⟨by omega, by omega⟩ (by omega) ⟨by omega, by omega⟩
    ·
      rw [if_neg g1, if_neg g1]
      have g1i : lx312.toInt ≤ lx328.toInt := q_nltI g1
      have h4 := T_FR_add (x2 := (48 + ((F_FR_figure lx328 lx329 lx330 lx331 lx332 lx333 lx334 lx335 lx336 lx337 lx338 lx339) : Int32) : Int32)) (t0_0 := lx329) (t0_1 := lx330) (t0_2 := lx331) (t0_3 := lx332) (t0_4 := lx333) (t0_5 := lx334) (t0_6 := lx335) (t0_7 := lx336) (t0_8 := lx337) (t0_9 := lx338) (t0_10 := lx339) (t1_0 := lx340) ⟨by first | omega | decide, by first | omega | decide⟩
      with_reducible refine v_owe h4.1 ?_
      replace h4 := h4.2
      generalize F_FR_add (48 + ((F_FR_figure lx328 lx329 lx330 lx331 lx332 lx333 lx334 lx335 lx336 lx337 lx338 lx339) : Int32) : Int32) lx329 lx330 lx331 lx332 lx333 lx334 lx335 lx336 lx337 lx338 lx339 lx340 = p957 at *
      unfold Q_FR_add at h4
      obtain ⟨h41, h43, h45, h46, h47, h48, h49, h4x⟩ := h4
      have h49i := congrArg Int64.toInt h49
      have h47i := congrArg Int64.toInt h47
      unfold S_FR_print_c186 F_FR_print_c186
      obtain ⟨a5, e6⟩ := q_nm (lx328 + (-1) : Int32)
      rw [e6]
      have a5i : a5.toInt = lx328.toInt + (-1) := by rw [← e6]; exact q_addI (x := lx328.toInt) (y := (-1)) rfl (by decide) (by omega) (by omega)
      exact ih _ _ _ _ _ _ _ _ _ _ _ _ _ ⟨by omega, by omega⟩ (by omega) ⟨by omega, by omega⟩
theorem T_FR_prJ {x2 : Int64} {x3 : Int32} {t0_0 : Int32} {t0_1 : Int32} {t0_2 : Int32} {t0_3 : Int32} {t0_4 : Int64} {t0_5 : Int32} {t0_6 : Int32} {t0_7 : Int64} {t0_8 : Int32} {t0_9 : Int64} {t0_10 : Int32} {t1_0 : (Nat → Int32)} {t2_0 : (Nat → Int32)} {t3_0 : (Nat → Int32)} {t4_0 : (Nat → Int32)} {t5_0 : (Nat → Int32)} {t6_0 : (Nat → Int32)} {t7_0 : (Nat → Int32)} {lx42 : Int32} {p100 : (Int32 × Int32 × Int32 × Int32 × Int64 × Int32 × Int32 × Int64 × Int32 × Int64 × Int32)} {p168 : (Int32 × Int32 × Int32 × Int32 × Int64 × Int32 × Int32 × Int64 × Int32 × Int64 × Int32 × (Nat → Int32))} {f142 : (Nat → Int32)} {p239 : (Int32 × Int32 × Int32 × Int32 × Int64 × Int32 × Int32 × Int64 × Int32 × Int64 × Int32 × (Nat → Int32) × (Nat → Int32) × (Nat → Int32) × (Nat → Int32) × (Nat → Int32) × (Nat → Int32))} {a269 : Int32} {a266 : Int32} {y196 : Int32} {y197 : Int32} {y198 : Int32} {y199 : Int32} {y200 : Int64} {y201 : Int32} {y202 : Int32} {y203 : Int64} {y204 : Int32} {y205 : Int64} {y206 : Int32} {f207 : (Nat → Int32)} {f209 : (Nat → Int32)} {f211 : (Nat → Int32)} {f213 : (Nat → Int32)} {f215 : (Nat → Int32)} {f217 : (Nat → Int32)} {lx279 : Int32} (hA : -1080 ≤ a269.toInt ∧ a269.toInt ≤ 420) (hB : a269.toInt ≤ a266.toInt ∧ a266.toInt ≤ a269.toInt + 18)(hy : 0 ≤ y197.toInt ∧ y197.toInt ≤ 1) : (S_FR_print_J127 x2 x3 t0_0 t0_1 t0_2 t0_3 t0_4 t0_5 t0_6 t0_7 t0_8 t0_9 t0_10 t1_0 t2_0 t3_0 t4_0 t5_0 t6_0 t7_0 lx42 p100 p168 f142 p239 a269 a266 y196 y197 y198 y199 y200 y201 y202 y203 y204 y205 y206 f207 f209 f211 f213 f215 f217 lx279) ∧ Q_FR_print (F_FR_print_J127 x2 x3 t0_0 t0_1 t0_2 t0_3 t0_4 t0_5 t0_6 t0_7 t0_8 t0_9 t0_10 t1_0 t2_0 t3_0 t4_0 t5_0 t6_0 t7_0 lx42 p100 p168 f142 p239 a269 a266 y196 y197 y198 y199 y200 y201 y202 y203 y204 y205 y206 f207 f209 f211 f213 f215 f217 lx279) := by
  have e0 : (0 : Int32).toInt = 0 := rfl
  have e1 : (1 : Int32).toInt = 1 := rfl
  have eL0 : (0 : Int64).toInt = 0 := rfl
  unfold S_FR_print_J127 F_FR_print_J127
  by_cases g1 : lx279 = (0 : Int32)
  ·
    rw [if_pos g1, if_pos g1]
    have g1i : lx279.toInt = 0 := q_eqI g1
    unfold S_FR_print_J150 F_FR_print_J150
    rw [if_pos g1, if_pos g1]
    unfold S_FR_print_J163 F_FR_print_J163
    exact vf_pr1 hA hB ⟨by omega, by omega⟩ ⟨by omega, by omega⟩ (by first | exact Or.inr rfl | exact Or.inl rfl) _ _ _ _ _ _ _ _ _ _ _ _ _ _ ⟨by omega, by omega⟩ (by omega) ⟨by omega, by omega⟩
  ·
    rw [if_neg g1, if_neg g1]
    have g1i : lx279.toInt ≠ 0 := q_neI g1
    by_cases g2 : a266 ≤ (0 : Int32)
    ·
      rw [if_pos g2, if_pos g2]
      have g2i : a266.toInt ≤ 0 := q_leI g2
      unfold S_FR_print_J150 F_FR_print_J150
      rw [if_neg g1, if_neg g1]
      unfold S_FR_print_J163 F_FR_print_J163
      exact vf_pr1 hA hB ⟨by omega, by omega⟩ ⟨by omega, by omega⟩ (by first | exact Or.inr rfl | exact Or.inl rfl) _ _ _ _ _ _ _ _ _ _ _ _ _ _ ⟨by omega, by omega⟩ (by omega) ⟨by omega, by omega⟩
    ·
      rw [if_neg g2, if_neg g2]
      have g2i : 0 < a266.toInt := q_nleI g2
      unfold S_FR_print_J150 F_FR_print_J150
      rw [if_neg g1, if_neg g1]
      unfold S_FR_print_J163 F_FR_print_J163
      exact vf_pr1 hA hB ⟨by omega, by omega⟩ ⟨by omega, by omega⟩ (by first | exact Or.inr rfl | exact Or.inl rfl) _ _ _ _ _ _ _ _ _ _ _ _ _ _ ⟨by omega, by omega⟩ (by omega) ⟨by omega, by omega⟩
theorem fl_pA {a : Int32} (h : 0 ≤ a.toInt ∧ a.toInt ≤ 1500) : (a - 1080 : Int32).toInt = a.toInt - 1080 := q_subI (y := 1080) rfl (by decide) (by omega) (by omega)
theorem fl_pB {a b : Int32} (h : 0 ≤ a.toInt ∧ a.toInt ≤ 1500) (q : Q_FR_shortestTop a b) : (a - 1080 : Int32).toInt ≤ b.toInt ∧ b.toInt ≤ (a - 1080 : Int32).toInt + 18 := by
  have e := fl_pA h
  have q1 : a.toInt - 1080 ≤ b.toInt ∧ b.toInt ≤ a.toInt - 1062 := q
  omega
theorem T_FR_print {x2 : Int64} {x3 : Int32} {t0_0 : Int32} {t0_1 : Int32} {t0_2 : Int32} {t0_3 : Int32} {t0_4 : Int64} {t0_5 : Int32} {t0_6 : Int32} {t0_7 : Int64} {t0_8 : Int32} {t0_9 : Int64} {t0_10 : Int32} {t1_0 : (Nat → Int32)} {t2_0 : (Nat → Int32)} {t3_0 : (Nat → Int32)} {t4_0 : (Nat → Int32)} {t5_0 : (Nat → Int32)} {t6_0 : (Nat → Int32)} {t7_0 : (Nat → Int32)}  : (S_FR_print x2 x3 t0_0 t0_1 t0_2 t0_3 t0_4 t0_5 t0_6 t0_7 t0_8 t0_9 t0_10 t1_0 t2_0 t3_0 t4_0 t5_0 t6_0 t7_0) ∧ Q_FR_print (F_FR_print x2 x3 t0_0 t0_1 t0_2 t0_3 t0_4 t0_5 t0_6 t0_7 t0_8 t0_9 t0_10 t1_0 t2_0 t3_0 t4_0 t5_0 t6_0 t7_0) := by
  have e0 : (0 : Int32).toInt = 0 := rfl
  have e1 : (1 : Int32).toInt = 1 := rfl
  have eL0 : (0 : Int64).toInt = 0 := rfl
  unfold S_FR_print F_FR_print
  by_cases g1 : ((F_FR_isWrong x2 x3) : Int32) = (0 : Int32)
  ·
    rw [if_pos g1, if_pos g1]
    unfold S_FR_print_J14 F_FR_print_J14
    have g2 : ((0 : Int32) ≤ (0 : Int32)) := (by decide)
    rw [if_pos g2, if_pos g2]
    have h3 := T_FR_open (x2 := x2) (x3 := x3) (t0_0 := (0 : Int32)) (t0_1 := t0_1) (t0_2 := t0_2) (t0_3 := t0_3) (t0_4 := t0_4) (t0_5 := t0_5) (t0_6 := t0_6) (t0_7 := t0_7) (t0_8 := t0_8) (t0_9 := t0_9) (t0_10 := t0_10) 
    generalize F_FR_open x2 x3 (0 : Int32) t0_1 t0_2 t0_3 t0_4 t0_5 t0_6 t0_7 t0_8 t0_9 t0_10 = p100 at *
    unfold Q_FR_open at h3
    obtain ⟨h3a, h3b, h37, h38, h3f, h35⟩ := h3
    have op7 := h37
    have op8 := h38
    have opf := h3f
    unfold S_FR_print_c29 F_FR_print_c29
    by_cases g4 : ((F_FR_isFinite (p100.1 : Int32) (p100.2.1 : Int32) (p100.2.2.1 : Int32) (p100.2.2.2.1 : Int32) (p100.2.2.2.2.1 : Int64) (p100.2.2.2.2.2.1 : Int32) (p100.2.2.2.2.2.2.1 : Int32) (p100.2.2.2.2.2.2.2.1 : Int64) (p100.2.2.2.2.2.2.2.2.1 : Int32) (p100.2.2.2.2.2.2.2.2.2.1 : Int64) (p100.2.2.2.2.2.2.2.2.2.2 : Int32)) : Int32) = (0 : Int32)
    ·
      rw [if_pos g4, if_pos g4]
      have h5 := T_FR_name (t0_0 := (p100.1 : Int32)) (t0_1 := (p100.2.1 : Int32)) (t0_2 := (p100.2.2.1 : Int32)) (t0_3 := (p100.2.2.2.1 : Int32)) (t0_4 := (p100.2.2.2.2.1 : Int64)) (t0_5 := (p100.2.2.2.2.2.1 : Int32)) (t0_6 := (p100.2.2.2.2.2.2.1 : Int32)) (t0_7 := (p100.2.2.2.2.2.2.2.1 : Int64)) (t0_8 := (p100.2.2.2.2.2.2.2.2.1 : Int32)) (t0_9 := (p100.2.2.2.2.2.2.2.2.2.1 : Int64)) (t0_10 := (p100.2.2.2.2.2.2.2.2.2.2 : Int32)) (t1_0 := t7_0) 
      with_reducible refine v_owe h5.1 ?_
      replace h5 := h5.2
      generalize F_FR_name (p100.1 : Int32) (p100.2.1 : Int32) (p100.2.2.1 : Int32) (p100.2.2.2.1 : Int32) (p100.2.2.2.2.1 : Int64) (p100.2.2.2.2.2.1 : Int32) (p100.2.2.2.2.2.2.1 : Int32) (p100.2.2.2.2.2.2.2.1 : Int64) (p100.2.2.2.2.2.2.2.2.1 : Int32) (p100.2.2.2.2.2.2.2.2.2.1 : Int64) (p100.2.2.2.2.2.2.2.2.2.2 : Int32) t7_0 = p1244 at *
      unfold Q_FR_name at h5
      unfold S_FR_print_c40 F_FR_print_c40
      refine ⟨trivial, ?_⟩
      (unfold Q_FR_print; dsimp only; first | exact ⟨by omega, by omega⟩ | exact ⟨by decide, by decide⟩)
    ·
      rw [if_neg g4, if_neg g4]
      have fin := fl_fin g4
      have h6 := T_FR_begin (t0_0 := (p100.1 : Int32)) (t0_1 := (p100.2.1 : Int32)) (t0_2 := (p100.2.2.1 : Int32)) (t0_3 := (p100.2.2.2.1 : Int32)) (t0_4 := (p100.2.2.2.2.1 : Int64)) (t0_5 := (p100.2.2.2.2.2.1 : Int32)) (t0_6 := (p100.2.2.2.2.2.2.1 : Int32)) (t0_7 := (p100.2.2.2.2.2.2.2.1 : Int64)) (t0_8 := (p100.2.2.2.2.2.2.2.2.1 : Int32)) (t0_9 := (p100.2.2.2.2.2.2.2.2.2.1 : Int64)) (t0_10 := (p100.2.2.2.2.2.2.2.2.2.2 : Int32)) (t1_0 := t7_0) 
      with_reducible refine v_owe h6.1 ?_
      replace h6 := h6.2
      generalize F_FR_begin (p100.1 : Int32) (p100.2.1 : Int32) (p100.2.2.1 : Int32) (p100.2.2.2.1 : Int32) (p100.2.2.2.2.1 : Int64) (p100.2.2.2.2.2.1 : Int32) (p100.2.2.2.2.2.2.1 : Int32) (p100.2.2.2.2.2.2.2.1 : Int64) (p100.2.2.2.2.2.2.2.2.1 : Int32) (p100.2.2.2.2.2.2.2.2.2.1 : Int64) (p100.2.2.2.2.2.2.2.2.2.2 : Int32) t7_0 = p168 at *
      unfold Q_FR_begin at h6
      obtain ⟨h61, h63, h65, h66, h67, h68, h69, h6x⟩ := h6
      have h69i := congrArg Int64.toInt h69
      have h67i := congrArg Int64.toInt h67
      unfold S_FR_print_c49 F_FR_print_c49
      by_cases g7 : (lg_cmp (p168.2.2.2.2.2.2.2.1 : Int64) 0 : Int32) = (0 : Int32)
      ·
        rw [if_pos g7, if_pos g7]
        have g7z := fl_lz g7
        have h8 := T_FR_add (x2 := (48 : Int32)) (t0_0 := (p168.1 : Int32)) (t0_1 := (p168.2.1 : Int32)) (t0_2 := (p168.2.2.1 : Int32)) (t0_3 := (p168.2.2.2.1 : Int32)) (t0_4 := (p168.2.2.2.2.1 : Int64)) (t0_5 := (p168.2.2.2.2.2.1 : Int32)) (t0_6 := (p168.2.2.2.2.2.2.1 : Int32)) (t0_7 := (p168.2.2.2.2.2.2.2.1 : Int64)) (t0_8 := (p168.2.2.2.2.2.2.2.2.1 : Int32)) (t0_9 := (p168.2.2.2.2.2.2.2.2.2.1 : Int64)) (t0_10 := (p168.2.2.2.2.2.2.2.2.2.2.1 : Int32)) (t1_0 := (p168.2.2.2.2.2.2.2.2.2.2.2 : (Nat → Int32))) ⟨by first | omega | decide, by first | omega | decide⟩
        with_reducible refine v_owe h8.1 ?_
        replace h8 := h8.2
        generalize F_FR_add (48 : Int32) (p168.1 : Int32) (p168.2.1 : Int32) (p168.2.2.1 : Int32) (p168.2.2.2.1 : Int32) (p168.2.2.2.2.1 : Int64) (p168.2.2.2.2.2.1 : Int32) (p168.2.2.2.2.2.2.1 : Int32) (p168.2.2.2.2.2.2.2.1 : Int64) (p168.2.2.2.2.2.2.2.2.1 : Int32) (p168.2.2.2.2.2.2.2.2.2.1 : Int64) (p168.2.2.2.2.2.2.2.2.2.2.1 : Int32) (p168.2.2.2.2.2.2.2.2.2.2.2 : (Nat → Int32)) = p1059 at *
        unfold Q_FR_add at h8
        obtain ⟨h81, h83, h85, h86, h87, h88, h89, h8x⟩ := h8
        have h89i := congrArg Int64.toInt h89
        have h87i := congrArg Int64.toInt h87
        unfold S_FR_print_c64 F_FR_print_c64
        have h9 := T_FR_add (x2 := (46 : Int32)) (t0_0 := (p1059.1 : Int32)) (t0_1 := (p1059.2.1 : Int32)) (t0_2 := (p1059.2.2.1 : Int32)) (t0_3 := (p1059.2.2.2.1 : Int32)) (t0_4 := (p1059.2.2.2.2.1 : Int64)) (t0_5 := (p1059.2.2.2.2.2.1 : Int32)) (t0_6 := (p1059.2.2.2.2.2.2.1 : Int32)) (t0_7 := (p1059.2.2.2.2.2.2.2.1 : Int64)) (t0_8 := (p1059.2.2.2.2.2.2.2.2.1 : Int32)) (t0_9 := (p1059.2.2.2.2.2.2.2.2.2.1 : Int64)) (t0_10 := (p1059.2.2.2.2.2.2.2.2.2.2.1 : Int32)) (t1_0 := (p1059.2.2.2.2.2.2.2.2.2.2.2 : (Nat → Int32))) ⟨by first | omega | decide, by first | omega | decide⟩
        with_reducible refine v_owe h9.1 ?_
        replace h9 := h9.2
        generalize F_FR_add (46 : Int32) (p1059.1 : Int32) (p1059.2.1 : Int32) (p1059.2.2.1 : Int32) (p1059.2.2.2.1 : Int32) (p1059.2.2.2.2.1 : Int64) (p1059.2.2.2.2.2.1 : Int32) (p1059.2.2.2.2.2.2.1 : Int32) (p1059.2.2.2.2.2.2.2.1 : Int64) (p1059.2.2.2.2.2.2.2.2.1 : Int32) (p1059.2.2.2.2.2.2.2.2.2.1 : Int64) (p1059.2.2.2.2.2.2.2.2.2.2.1 : Int32) (p1059.2.2.2.2.2.2.2.2.2.2.2 : (Nat → Int32)) = p1121 at *
        unfold Q_FR_add at h9
        obtain ⟨h91, h93, h95, h96, h97, h98, h99, h9x⟩ := h9
        have h99i := congrArg Int64.toInt h99
        have h97i := congrArg Int64.toInt h97
        unfold S_FR_print_c70 F_FR_print_c70
        have h10 := T_FR_add (x2 := (48 : Int32)) (t0_0 := (p1121.1 : Int32)) (t0_1 := (p1121.2.1 : Int32)) (t0_2 := (p1121.2.2.1 : Int32)) (t0_3 := (p1121.2.2.2.1 : Int32)) (t0_4 := (p1121.2.2.2.2.1 : Int64)) (t0_5 := (p1121.2.2.2.2.2.1 : Int32)) (t0_6 := (p1121.2.2.2.2.2.2.1 : Int32)) (t0_7 := (p1121.2.2.2.2.2.2.2.1 : Int64)) (t0_8 := (p1121.2.2.2.2.2.2.2.2.1 : Int32)) (t0_9 := (p1121.2.2.2.2.2.2.2.2.2.1 : Int64)) (t0_10 := (p1121.2.2.2.2.2.2.2.2.2.2.1 : Int32)) (t1_0 := (p1121.2.2.2.2.2.2.2.2.2.2.2 : (Nat → Int32))) ⟨by first | omega | decide, by first | omega | decide⟩
        with_reducible refine v_owe h10.1 ?_
        replace h10 := h10.2
        generalize F_FR_add (48 : Int32) (p1121.1 : Int32) (p1121.2.1 : Int32) (p1121.2.2.1 : Int32) (p1121.2.2.2.1 : Int32) (p1121.2.2.2.2.1 : Int64) (p1121.2.2.2.2.2.1 : Int32) (p1121.2.2.2.2.2.2.1 : Int32) (p1121.2.2.2.2.2.2.2.1 : Int64) (p1121.2.2.2.2.2.2.2.2.1 : Int32) (p1121.2.2.2.2.2.2.2.2.2.1 : Int64) (p1121.2.2.2.2.2.2.2.2.2.2.1 : Int32) (p1121.2.2.2.2.2.2.2.2.2.2.2 : (Nat → Int32)) = p1183 at *
        unfold Q_FR_add at h10
        obtain ⟨h101, h103, h105, h106, h107, h108, h109, h10x⟩ := h10
        have h109i := congrArg Int64.toInt h109
        have h107i := congrArg Int64.toInt h107
        unfold S_FR_print_c76 F_FR_print_c76
        refine ⟨trivial, ?_⟩
        (unfold Q_FR_print; dsimp only; first | exact ⟨by omega, by omega⟩ | exact ⟨by decide, by decide⟩)
      ·
        rw [if_neg g7, if_neg g7]
        have g7z := fl_lnz g7
        have h11 := T_FR_findShortest (t0_0 := (p168.1 : Int32)) (t0_1 := (p168.2.1 : Int32)) (t0_2 := (p168.2.2.1 : Int32)) (t0_3 := (p168.2.2.2.1 : Int32)) (t0_4 := (p168.2.2.2.2.1 : Int64)) (t0_5 := (p168.2.2.2.2.2.1 : Int32)) (t0_6 := (p168.2.2.2.2.2.2.1 : Int32)) (t0_7 := (p168.2.2.2.2.2.2.2.1 : Int64)) (t0_8 := (p168.2.2.2.2.2.2.2.2.1 : Int32)) (t0_9 := (p168.2.2.2.2.2.2.2.2.2.1 : Int64)) (t0_10 := (p168.2.2.2.2.2.2.2.2.2.2.1 : Int32)) (t1_0 := t1_0) (t2_0 := t2_0) (t3_0 := t3_0) (t4_0 := t4_0) (t5_0 := t5_0) (t6_0 := t6_0) ⟨by omega, by omega⟩ ⟨by omega, by omega⟩
        with_reducible refine v_owe h11.1 ?_
        replace h11 := h11.2
        generalize F_FR_findShortest (p168.1 : Int32) (p168.2.1 : Int32) (p168.2.2.1 : Int32) (p168.2.2.2.1 : Int32) (p168.2.2.2.2.1 : Int64) (p168.2.2.2.2.2.1 : Int32) (p168.2.2.2.2.2.2.1 : Int32) (p168.2.2.2.2.2.2.2.1 : Int64) (p168.2.2.2.2.2.2.2.2.1 : Int32) (p168.2.2.2.2.2.2.2.2.2.1 : Int64) (p168.2.2.2.2.2.2.2.2.2.2.1 : Int32) t1_0 t2_0 t3_0 t4_0 t5_0 t6_0 = p239 at *
        unfold Q_FR_findShortest at h11
        obtain ⟨h11a, h11b, h11c, h11d, h11e, h11f, h11g, h11h, h11i, h119, h1110, h11w, h11n⟩ := h11
        have h11bi := congrArg Int32.toInt h11b
        have hw := h11w
        have hn := h11n
        have s9 := h119
        have s10 := h1110
        unfold S_FR_print_c85 F_FR_print_c85
        have h12 := T_FR_shortestTop (t0_0 := (p239.1 : Int32)) (t0_1 := (p239.2.1 : Int32)) (t0_2 := (p239.2.2.1 : Int32)) (t0_3 := (p239.2.2.2.1 : Int32)) (t0_4 := (p239.2.2.2.2.1 : Int64)) (t0_5 := (p239.2.2.2.2.2.1 : Int32)) (t0_6 := (p239.2.2.2.2.2.2.1 : Int32)) (t0_7 := (p239.2.2.2.2.2.2.2.1 : Int64)) (t0_8 := (p239.2.2.2.2.2.2.2.2.1 : Int32)) (t0_9 := (p239.2.2.2.2.2.2.2.2.2.1 : Int64)) (t0_10 := (p239.2.2.2.2.2.2.2.2.2.2.1 : Int32)) ⟨by omega, by omega⟩ ⟨by omega, by omega⟩
        have h12q := h12.2
        with_reducible refine v_owe h12.1 ?_
        have h13 := T_FR_isBelow (x2 := (7 : Int32)) (t0_0 := (p239.1 : Int32)) (t0_1 := (p239.2.1 : Int32)) (t0_2 := (p239.2.2.1 : Int32)) (t0_3 := (p239.2.2.2.1 : Int32)) (t0_4 := (p239.2.2.2.2.1 : Int64)) (t0_5 := (p239.2.2.2.2.2.1 : Int32)) (t0_6 := (p239.2.2.2.2.2.2.1 : Int32)) (t0_7 := (p239.2.2.2.2.2.2.2.1 : Int64)) (t0_8 := (p239.2.2.2.2.2.2.2.2.1 : Int32)) (t0_9 := (p239.2.2.2.2.2.2.2.2.2.1 : Int64)) (t0_10 := (p239.2.2.2.2.2.2.2.2.2.2.1 : Int32)) (t1_0 := (p239.2.2.2.2.2.2.2.2.2.2.2.2.2.1 : (Nat → Int32))) (by with_reducible assumption) (by with_reducible assumption)
        with_reducible refine v_owe h13 ?_
        by_cases g14 : ((F_FR_isBelow (7 : Int32) (p239.1 : Int32) (p239.2.1 : Int32) (p239.2.2.1 : Int32) (p239.2.2.2.1 : Int32) (p239.2.2.2.2.1 : Int64) (p239.2.2.2.2.2.1 : Int32) (p239.2.2.2.2.2.2.1 : Int32) (p239.2.2.2.2.2.2.2.1 : Int64) (p239.2.2.2.2.2.2.2.2.1 : Int32) (p239.2.2.2.2.2.2.2.2.2.1 : Int64) (p239.2.2.2.2.2.2.2.2.2.2.1 : Int32) (p239.2.2.2.2.2.2.2.2.2.2.2.2.2.1 : (Nat → Int32))) : Int32) = (0 : Int32)
        ·
          rw [if_pos g14, if_pos g14]
          unfold S_FR_print_J126 F_FR_print_J126
          exact T_FR_prJ (fl_pw8 s10) (fl_pB s10 (T_FR_shortestTop s9 s10).2) ⟨by omega, by omega⟩
        ·
          rw [if_neg g14, if_neg g14]
          have h15 := T_FR_isBelow (x2 := (-3 : Int32)) (t0_0 := (p239.1 : Int32)) (t0_1 := (p239.2.1 : Int32)) (t0_2 := (p239.2.2.1 : Int32)) (t0_3 := (p239.2.2.2.1 : Int32)) (t0_4 := (p239.2.2.2.2.1 : Int64)) (t0_5 := (p239.2.2.2.2.2.1 : Int32)) (t0_6 := (p239.2.2.2.2.2.2.1 : Int32)) (t0_7 := (p239.2.2.2.2.2.2.2.1 : Int64)) (t0_8 := (p239.2.2.2.2.2.2.2.2.1 : Int32)) (t0_9 := (p239.2.2.2.2.2.2.2.2.2.1 : Int64)) (t0_10 := (p239.2.2.2.2.2.2.2.2.2.2.1 : Int32)) (t1_0 := (p239.2.2.2.2.2.2.2.2.2.2.2.2.2.1 : (Nat → Int32))) (by with_reducible assumption) (by with_reducible assumption)
          with_reducible refine v_owe h15 ?_
          by_cases g16 : ((F_FR_isBelow (-3 : Int32) (p239.1 : Int32) (p239.2.1 : Int32) (p239.2.2.1 : Int32) (p239.2.2.2.1 : Int32) (p239.2.2.2.2.1 : Int64) (p239.2.2.2.2.2.1 : Int32) (p239.2.2.2.2.2.2.1 : Int32) (p239.2.2.2.2.2.2.2.1 : Int64) (p239.2.2.2.2.2.2.2.2.1 : Int32) (p239.2.2.2.2.2.2.2.2.2.1 : Int64) (p239.2.2.2.2.2.2.2.2.2.2.1 : Int32) (p239.2.2.2.2.2.2.2.2.2.2.2.2.2.1 : (Nat → Int32))) : Int32) = (0 : Int32)
          ·
            rw [if_pos g16, if_pos g16]
            exact T_FR_prJ (fl_pw8 s10) (fl_pB s10 (T_FR_shortestTop s9 s10).2) ⟨by omega, by omega⟩
          ·
            rw [if_neg g16, if_neg g16]
            unfold S_FR_print_J126 F_FR_print_J126
            exact T_FR_prJ (fl_pw8 s10) (fl_pB s10 (T_FR_shortestTop s9 s10).2) ⟨by omega, by omega⟩
  ·
    rw [if_neg g1, if_neg g1]
    unfold S_FR_print_J14 F_FR_print_J14
    have g17 : ¬ ((1 : Int32) ≤ (0 : Int32)) := (by decide)
    rw [if_neg g17, if_neg g17]
    refine ⟨trivial, ?_⟩
    (unfold Q_FR_print; dsimp only; first | exact ⟨by omega, by omega⟩ | exact ⟨by decide, by decide⟩)
