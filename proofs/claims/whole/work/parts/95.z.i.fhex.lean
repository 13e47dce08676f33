/-! FloatRows: hexadecimal, narrowed, widened -/
theorem fl_hx {f : Int64} {l : Int32} (g : ¬ lg_cmp (f &&& (((1 : Int64) <<< (l.toInt64 &&& 63)) - 1)) 0 = 0) : l.toInt ≠ 0 := fun h => g (by
  have e : l = 0 := Int32.toInt_inj.mp (by rw [h]; rfl)
  rw [e, show ((1 : Int64) <<< ((0 : Int32).toInt64 &&& 63)) - 1 = 0 by decide, Int64.and_zero]
  rfl)
theorem fl_shr1 {x : Int64} (h : 0 ≤ x.toInt) : (x >>> ((1 : Int32).toInt64 &&& 63)).toInt = x.toInt / 2 := by
  have hc : ((1 : Int32).toInt64 &&& 63).toBitVec.smod 64 = BitVec.ofNat 64 1 := by decide
  show (x >>> ((1 : Int32).toInt64 &&& 63)).toBitVec.toInt = _
  rw [Int64.toBitVec_shiftRight, hc, BitVec.sshiftRight_eq', BitVec.toInt_sshiftRight, Int.shiftRight_eq_div_pow]
  rfl
theorem fl_shl1 {x : Int64} (h : 0 ≤ x.toInt) (h2 : x.toInt < 4611686018427387904) : (x <<< ((1 : Int32).toInt64 &&& 63)).toInt = x.toInt * 2 := by
  obtain ⟨h1, h3, -⟩ := s_nnL h
  have hc : ((1 : Int32).toInt64 &&& 63).toBitVec.smod 64 = BitVec.ofNat 64 1 := by decide
  have e : (x <<< ((1 : Int32).toInt64 &&& 63)).toBitVec.toNat = x.toBitVec.toNat * 2 := by
    rw [Int64.toBitVec_shiftLeft, hc, BitVec.shiftLeft_eq', BitVec.toNat_shiftLeft, Nat.shiftLeft_eq]
    show x.toBitVec.toNat * 2 % 18446744073709551616 = _
    omega
  have h5 := s_ofL e (by omega)
  rw [h5, h1]
  omega
theorem fl_hv {m : Int64} {j : Nat} (h0 : 0 ≤ m.toInt) (h : m.toInt < 2 ^ j) : 0 ≤ (m >>> ((1 : Int32).toInt64 &&& 63)).toInt ∧ (m >>> ((1 : Int32).toInt64 &&& 63)).toInt < 2 ^ (j - 1) := by
  rw [fl_shr1 h0]
  refine ⟨by omega, ?_⟩
  by_cases c : j = 0
  · subst c
    rw [Int.pow_zero] at h
    show m.toInt / 2 < 2 ^ 0
    rw [Int.pow_zero]; omega
  · have p : (2 : Int) ^ j = 2 ^ (j - 1) * 2 := by rw [← fl_pw, show j - 1 + 1 = j by omega]
    rw [p] at h
    generalize (2 : Int) ^ (j - 1) = P at *
    omega
theorem fl_j24 {m : Int64} {j : Nat} (h : m.toInt < 2 ^ j) (g : 16777216 ≤ m.toInt) : 25 ≤ j := by
  by_cases c : 25 ≤ j
  · exact c
  · have a := fl_mono (B := 2) (by decide) (show j ≤ 24 by omega)
    have e : (2 : Int) ^ 24 = 16777216 := by decide
    rw [e] at a
    omega
def Q_FR_hexadecimal (p : Int32 × Int32 × Int32 × Int32 × Int32 × Int64 × Int32 × Int32 × Int64 × Int32 × Int64 × Int32 × (Nat → Int32)) : Prop := 0 ≤ p.1.toInt ∧ p.1.toInt ≤ 1600
theorem vf_hx {x2 : Int64} {x3 : Int32} {t0_0 : Int32} {t0_1 : Int32} {t0_2 : Int32} {t0_3 : Int32} {t0_4 : Int64} {t0_5 : Int32} {t0_6 : Int32} {t0_7 : Int64} {t0_8 : Int32} {t0_9 : Int64} {t0_10 : Int32} {t1_0 : (Nat → Int32)} {lx24 : Int32} {p76 : (Int32 × Int32 × Int32 × Int32 × Int64 × Int32 × Int32 × Int64 × Int32 × Int64 × Int32)} {p144 : (Int32 × Int32 × Int32 × Int32 × Int64 × Int32 × Int32 × Int64 × Int32 × Int64 × Int32 × (Nat → Int32))} {p206 : (Int32 × Int32 × Int32 × Int32 × Int64 × Int32 × Int32 × Int64 × Int32 × Int64 × Int32 × (Nat → Int32))} {p268 : (Int32 × Int32 × Int32 × Int32 × Int64 × Int32 × Int32 × Int64 × Int32 × Int64 × Int32 × (Nat → Int32))} {y229 : Int32} {y230 : Int32} {y231 : Int32} {y232 : Int32} {y233 : Int64} {y234 : Int32} {y235 : Int32} {y236 : Int64} {y237 : Int32} {y238 : Int64} {y239 : Int32} {f240 : (Nat → Int32)} {lx287 : Int32} {p341 : (Int32 × Int32 × Int32 × Int32 × Int64 × Int32 × Int32 × Int64 × Int32 × Int64 × Int32 × (Nat → Int32))} {p403 : (Int32 × Int32 × Int32 × Int32 × Int64 × Int32 × Int32 × Int64 × Int32 × Int64 × Int32 × (Nat → Int32))} {y364 : Int32} {y365 : Int32} {y366 : Int32} {y367 : Int32} {y368 : Int64} {y369 : Int32} {y370 : Int32} {y371 : Int64} {y372 : Int32} {y373 : Int64} {y374 : Int32} {f375 : (Nat → Int32)} {lx422 : Int64} {lx431 : Int32} {p490 : (Int32 × Int32 × Int32 × Int32 × Int64 × Int32 × Int32 × Int64 × Int32 × Int64 × Int32 × (Nat → Int32))}  : ∀ (n : Nat) (lx510 : Int32) (lx511 : Int32) (lx512 : Int32) (lx513 : Int32) (lx514 : Int32) (lx515 : Int64) (lx516 : Int32) (lx517 : Int32) (lx518 : Int64) (lx519 : Int32) (lx520 : Int64) (lx521 : Int32) (lx522 : (Nat → Int32)), ((0 ≤ lx510.toInt ∧ lx510.toInt ≤ 48) ∧ lx510.toInt % 4 = 0) → (1600 - lx512.toInt < (n : Int)) → (0 ≤ lx512.toInt ∧ 4 * lx512.toInt + lx510.toInt ≤ 80) → ((-1074 ≤ lx519.toInt ∧ lx519.toInt ≤ 972) ∧ (0 ≤ lx516.toInt ∧ lx516.toInt ≤ 52)) → (S_FR_hexadecimal_L135 x2 x3 t0_0 t0_1 t0_2 t0_3 t0_4 t0_5 t0_6 t0_7 t0_8 t0_9 t0_10 t1_0 lx24 p76 p144 p206 p268 y229 y230 y231 y232 y233 y234 y235 y236 y237 y238 y239 f240 lx287 p341 p403 y364 y365 y366 y367 y368 y369 y370 y371 y372 y373 y374 f375 lx422 lx431 p490 n lx510 lx511 lx512 lx513 lx514 lx515 lx516 lx517 lx518 lx519 lx520 lx521 lx522) ∧ Q_FR_hexadecimal (F_FR_hexadecimal_L135 x2 x3 t0_0 t0_1 t0_2 t0_3 t0_4 t0_5 t0_6 t0_7 t0_8 t0_9 t0_10 t1_0 lx24 p76 p144 p206 p268 y229 y230 y231 y232 y233 y234 y235 y236 y237 y238 y239 f240 lx287 p341 p403 y364 y365 y366 y367 y368 y369 y370 y371 y372 y373 y374 f375 lx422 lx431 p490 n lx510 lx511 lx512 lx513 lx514 lx515 lx516 lx517 lx518 lx519 lx520 lx521 lx522) := by
  intro n
  induction n with
  | zero => intro lx510 lx511 lx512 lx513 lx514 lx515 lx516 lx517 lx518 lx519 lx520 lx521 lx522 h0 hm h1 h2; exact absurd (show False by omega) id
  | succ n ih =>
    intro lx510 lx511 lx512 lx513 lx514 lx515 lx516 lx517 lx518 lx519 lx520 lx521 lx522 h0 hm h1 h2
    have e0 : (0 : Int32).toInt = 0 := rfl
    have e1 : (1 : Int32).toInt = 1 := rfl
    have eL0 : (0 : Int64).toInt = 0 := rfl
    rw [S_FR_hexadecimal_L135.eq_2, F_FR_hexadecimal_L135.eq_2]
    obtain ⟨l4, el4⟩ := q_nm (lx510 - 4 : Int32)
    rw [el4]
    have l4i : l4.toInt = lx510.toInt - 4 := by rw [← el4]; exact q_subI (y := 4) rfl (by decide) (by omega) (by omega)
    by_cases g1 : (lg_cmp (lx422 &&& (((1 : Int64) <<< (lx510.toInt64 &&& 63) : Int64) - 1 : Int64) : Int64) 0 : Int32) = (0 : Int32)
    ·
      rw [if_pos g1, if_pos g1]
      have h2 := T_FR_add (x2 := (112 : Int32)) (t0_0 := lx511) (t0_1 := lx512) (t0_2 := lx513) (t0_3 := lx514) (t0_4 := lx515) (t0_5 := lx516) (t0_6 := lx517) (t0_7 := lx518) (t0_8 := lx519) (t0_9 := lx520) (t0_10 := lx521) (t1_0 := lx522) ⟨by first | omega | decide, by first | omega | decide⟩
      with_reducible refine v_owe h2.1 ?_
      replace h2 := h2.2
      generalize F_FR_add (112 : Int32) lx511 lx512 lx513 lx514 lx515 lx516 lx517 lx518 lx519 lx520 lx521 lx522 = p608 at *
      unfold Q_FR_add at h2
      obtain ⟨h21, h23, h25, h26, h27, h28, h29, h2x⟩ := h2
      have h29i := congrArg Int64.toInt h29
      have h27i := congrArg Int64.toInt h27
      unfold S_FR_hexadecimal_c174 F_FR_hexadecimal_c174
      by_cases g3 : (lg_cmp (p608.2.2.2.2.2.2.2.1 : Int64) 0 : Int32) = (0 : Int32)
      ·
        rw [if_pos g3, if_pos g3]
        have g3z := fl_lz g3
        unfold S_FR_hexadecimal_J199 F_FR_hexadecimal_J199
        have g4 : ((0 : Int32) ≤ (0 : Int32)) := (by decide)
        rw [if_pos g4, if_pos g4]
        unfold S_FR_hexadecimal_J212 F_FR_hexadecimal_J212
        have g5 : ((0 : Int32) ≤ (0 : Int32)) := (by decide)
        rw [if_pos g5, if_pos g5]
        have h6 := T_FR_number (x2 := (0 : Int32)) (t0_0 := (p608.1 : Int32)) (t0_1 := (p608.2.1 : Int32)) (t0_2 := (p608.2.2.1 : Int32)) (t0_3 := (p608.2.2.2.1 : Int32)) (t0_4 := (p608.2.2.2.2.1 : Int64)) (t0_5 := (p608.2.2.2.2.2.1 : Int32)) (t0_6 := (p608.2.2.2.2.2.2.1 : Int32)) (t0_7 := (p608.2.2.2.2.2.2.2.1 : Int64)) (t0_8 := (p608.2.2.2.2.2.2.2.2.1 : Int32)) (t0_9 := (p608.2.2.2.2.2.2.2.2.2.1 : Int64)) (t0_10 := (p608.2.2.2.2.2.2.2.2.2.2.1 : Int32)) (t1_0 := (p608.2.2.2.2.2.2.2.2.2.2.2 : (Nat → Int32))) ⟨by omega, by omega⟩ ⟨by omega, by omega⟩
        with_reducible refine v_owe h6.1 ?_
        replace h6 := h6.2
        generalize F_FR_number (0 : Int32) (p608.1 : Int32) (p608.2.1 : Int32) (p608.2.2.1 : Int32) (p608.2.2.2.1 : Int32) (p608.2.2.2.2.1 : Int64) (p608.2.2.2.2.2.1 : Int32) (p608.2.2.2.2.2.2.1 : Int32) (p608.2.2.2.2.2.2.2.1 : Int64) (p608.2.2.2.2.2.2.2.2.1 : Int32) (p608.2.2.2.2.2.2.2.2.2.1 : Int64) (p608.2.2.2.2.2.2.2.2.2.2.1 : Int32) (p608.2.2.2.2.2.2.2.2.2.2.2 : (Nat → Int32)) = p725 at *
        unfold Q_FR_number at h6
        unfold S_FR_hexadecimal_c226 F_FR_hexadecimal_c226
        refine ⟨trivial, ?_⟩
        (unfold Q_FR_hexadecimal; dsimp only; first | exact ⟨by omega, by omega⟩ | exact ⟨by decide, by decide⟩)
      ·
        rw [if_neg g3, if_neg g3]
        have g3z := fl_lnz g3
        obtain ⟨lx630, e7⟩ := q_nm (((p608.2.2.2.2.2.2.2.2.1 : Int32) + (p608.2.2.2.2.2.1 : Int32) : Int32) : Int32)
        rw [e7]
        have lx630i : lx630.toInt = p608.2.2.2.2.2.2.2.2.1.toInt + p608.2.2.2.2.2.1.toInt := by rw [← e7]; exact q_addI rfl rfl (by omega) (by omega)
        have lx630n : (-lx630 : Int32).toInt = -lx630.toInt := v_negI (by omega) (by omega)
        unfold S_FR_hexadecimal_J199 F_FR_hexadecimal_J199
        by_cases g8 : (0 : Int32) ≤ lx630
        ·
          rw [if_pos g8, if_pos g8]
          have g8i : 0 ≤ lx630.toInt := q_leI g8
          unfold S_FR_hexadecimal_J212 F_FR_hexadecimal_J212
          rw [if_pos g8, if_pos g8]
          have h9 := T_FR_number (x2 := lx630) (t0_0 := (p608.1 : Int32)) (t0_1 := (p608.2.1 : Int32)) (t0_2 := (p608.2.2.1 : Int32)) (t0_3 := (p608.2.2.2.1 : Int32)) (t0_4 := (p608.2.2.2.2.1 : Int64)) (t0_5 := (p608.2.2.2.2.2.1 : Int32)) (t0_6 := (p608.2.2.2.2.2.2.1 : Int32)) (t0_7 := (p608.2.2.2.2.2.2.2.1 : Int64)) (t0_8 := (p608.2.2.2.2.2.2.2.2.1 : Int32)) (t0_9 := (p608.2.2.2.2.2.2.2.2.2.1 : Int64)) (t0_10 := (p608.2.2.2.2.2.2.2.2.2.2.1 : Int32)) (t1_0 := (p608.2.2.2.2.2.2.2.2.2.2.2 : (Nat → Int32))) ⟨by omega, by omega⟩ ⟨by omega, by omega⟩
          with_reducible refine v_owe h9.1 ?_
          replace h9 := h9.2
          generalize F_FR_number lx630 (p608.1 : Int32) (p608.2.1 : Int32) (p608.2.2.1 : Int32) (p608.2.2.2.1 : Int32) (p608.2.2.2.2.1 : Int64) (p608.2.2.2.2.2.1 : Int32) (p608.2.2.2.2.2.2.1 : Int32) (p608.2.2.2.2.2.2.2.1 : Int64) (p608.2.2.2.2.2.2.2.2.1 : Int32) (p608.2.2.2.2.2.2.2.2.2.1 : Int64) (p608.2.2.2.2.2.2.2.2.2.2.1 : Int32) (p608.2.2.2.2.2.2.2.2.2.2.2 : (Nat → Int32)) = p725 at *
          unfold Q_FR_number at h9
          unfold S_FR_hexadecimal_c226 F_FR_hexadecimal_c226
          refine ⟨trivial, ?_⟩
          (unfold Q_FR_hexadecimal; dsimp only; first | exact ⟨by omega, by omega⟩ | exact ⟨by decide, by decide⟩)
        ·
          rw [if_neg g8, if_neg g8]
          have g8i : lx630.toInt < 0 := q_nleI g8
          have h10 := T_FR_add (x2 := (45 : Int32)) (t0_0 := (p608.1 : Int32)) (t0_1 := (p608.2.1 : Int32)) (t0_2 := (p608.2.2.1 : Int32)) (t0_3 := (p608.2.2.2.1 : Int32)) (t0_4 := (p608.2.2.2.2.1 : Int64)) (t0_5 := (p608.2.2.2.2.2.1 : Int32)) (t0_6 := (p608.2.2.2.2.2.2.1 : Int32)) (t0_7 := (p608.2.2.2.2.2.2.2.1 : Int64)) (t0_8 := (p608.2.2.2.2.2.2.2.2.1 : Int32)) (t0_9 := (p608.2.2.2.2.2.2.2.2.2.1 : Int64)) (t0_10 := (p608.2.2.2.2.2.2.2.2.2.2.1 : Int32)) (t1_0 := (p608.2.2.2.2.2.2.2.2.2.2.2 : (Nat → Int32))) ⟨by first | omega | decide, by first | omega | decide⟩
          with_reducible refine v_owe h10.1 ?_
          replace h10 := h10.2
          generalize F_FR_add (45 : Int32) (p608.1 : Int32) (p608.2.1 : Int32) (p608.2.2.1 : Int32) (p608.2.2.2.1 : Int32) (p608.2.2.2.2.1 : Int64) (p608.2.2.2.2.2.1 : Int32) (p608.2.2.2.2.2.2.1 : Int32) (p608.2.2.2.2.2.2.2.1 : Int64) (p608.2.2.2.2.2.2.2.2.1 : Int32) (p608.2.2.2.2.2.2.2.2.2.1 : Int64) (p608.2.2.2.2.2.2.2.2.2.2.1 : Int32) (p608.2.2.2.2.2.2.2.2.2.2.2 : (Nat → Int32)) = p852 at *
          unfold Q_FR_add at h10
          obtain ⟨h101, h103, h105, h106, h107, h108, h109, h10x⟩ := h10
          have h109i := congrArg Int64.toInt h109
          have h107i := congrArg Int64.toInt h107
          unfold S_FR_hexadecimal_c209 F_FR_hexadecimal_c209
          unfold S_FR_hexadecimal_J212 F_FR_hexadecimal_J212
          rw [if_neg g8, if_neg g8]
          have h11 := T_FR_number (x2 := (-lx630 : Int32)) (t0_0 := (p852.1 : Int32)) (t0_1 := (p852.2.1 : Int32)) (t0_2 := (p852.2.2.1 : Int32)) (t0_3 := (p852.2.2.2.1 : Int32)) (t0_4 := (p852.2.2.2.2.1 : Int64)) (t0_5 := (p852.2.2.2.2.2.1 : Int32)) (t0_6 := (p852.2.2.2.2.2.2.1 : Int32)) (t0_7 := (p852.2.2.2.2.2.2.2.1 : Int64)) (t0_8 := (p852.2.2.2.2.2.2.2.2.1 : Int32)) (t0_9 := (p852.2.2.2.2.2.2.2.2.2.1 : Int64)) (t0_10 := (p852.2.2.2.2.2.2.2.2.2.2.1 : Int32)) (t1_0 := (p852.2.2.2.2.2.2.2.2.2.2.2 : (Nat → Int32))) ⟨by omega, by omega⟩ ⟨by omega, by omega⟩
          with_reducible refine v_owe h11.1 ?_
          replace h11 := h11.2
          generalize F_FR_number (-lx630 : Int32) (p852.1 : Int32) (p852.2.1 : Int32) (p852.2.2.1 : Int32) (p852.2.2.2.1 : Int32) (p852.2.2.2.2.1 : Int64) (p852.2.2.2.2.2.1 : Int32) (p852.2.2.2.2.2.2.1 : Int32) (p852.2.2.2.2.2.2.2.1 : Int64) (p852.2.2.2.2.2.2.2.2.1 : Int32) (p852.2.2.2.2.2.2.2.2.2.1 : Int64) (p852.2.2.2.2.2.2.2.2.2.2.1 : Int32) (p852.2.2.2.2.2.2.2.2.2.2.2 : (Nat → Int32)) = p787 at *
          unfold Q_FR_number at h11
          unfold S_FR_hexadecimal_c226_17 F_FR_hexadecimal_c226_17
          refine ⟨trivial, ?_⟩
          (unfold Q_FR_hexadecimal; dsimp only; first | exact ⟨by omega, by omega⟩ | exact ⟨by decide, by decide⟩)
    ·
      rw [if_neg g1, if_neg g1]
      have n0 := fl_hx g1
      have h12 := T_FR_hexadecimalFigure (x2 := ((lx422 >>> (l4.toInt64 &&& 63) : Int64) &&& 15 : Int64)) (t0_0 := lx511) (t0_1 := lx512) (t0_2 := lx513) (t0_3 := lx514) (t0_4 := lx515) (t0_5 := lx516) (t0_6 := lx517) (t0_7 := lx518) (t0_8 := lx519) (t0_9 := lx520) (t0_10 := lx521) (t1_0 := lx522) ⟨by first | omega | decide, by first | omega | decide⟩
      with_reducible refine v_owe h12.1 ?_
      replace h12 := h12.2
      generalize F_FR_hexadecimalFigure ((lx422 >>> (l4.toInt64 &&& 63) : Int64) &&& 15 : Int64) lx511 lx512 lx513 lx514 lx515 lx516 lx517 lx518 lx519 lx520 lx521 lx522 = p927 at *
      unfold Q_FR_add at h12
      obtain ⟨h121, h123, h125, h126, h127, h128, h129, h12x⟩ := h12
      have h129i := congrArg Int64.toInt h129
      have h127i := congrArg Int64.toInt h127
      unfold S_FR_hexadecimal_c165 F_FR_hexadecimal_c165
      exact ih _ _ _ _ _ _ _ _ _ _ _ _ _ ⟨⟨by omega, by omega⟩, by omega⟩ (by omega) ⟨by omega, by omega⟩ ⟨⟨by omega, by omega⟩, ⟨by omega, by omega⟩⟩
theorem T_FR_hexadecimal {x2 : Int64} {x3 : Int32} {t0_0 : Int32} {t0_1 : Int32} {t0_2 : Int32} {t0_3 : Int32} {t0_4 : Int64} {t0_5 : Int32} {t0_6 : Int32} {t0_7 : Int64} {t0_8 : Int32} {t0_9 : Int64} {t0_10 : Int32} {t1_0 : (Nat → Int32)}  : (S_FR_hexadecimal x2 x3 t0_0 t0_1 t0_2 t0_3 t0_4 t0_5 t0_6 t0_7 t0_8 t0_9 t0_10 t1_0) ∧ Q_FR_hexadecimal (F_FR_hexadecimal x2 x3 t0_0 t0_1 t0_2 t0_3 t0_4 t0_5 t0_6 t0_7 t0_8 t0_9 t0_10 t1_0) := by
  have e0 : (0 : Int32).toInt = 0 := rfl
  have e1 : (1 : Int32).toInt = 1 := rfl
  have eL0 : (0 : Int64).toInt = 0 := rfl
  unfold S_FR_hexadecimal F_FR_hexadecimal
  by_cases g1 : ((F_FR_isWrong x2 x3) : Int32) = (0 : Int32)
  ·
    rw [if_pos g1, if_pos g1]
    unfold S_FR_hexadecimal_J14 F_FR_hexadecimal_J14
    have g2 : ((0 : Int32) ≤ (0 : Int32)) := (by decide)
    rw [if_pos g2, if_pos g2]
    have h3 := T_FR_open (x2 := x2) (x3 := x3) (t0_0 := (0 : Int32)) (t0_1 := t0_1) (t0_2 := t0_2) (t0_3 := t0_3) (t0_4 := t0_4) (t0_5 := t0_5) (t0_6 := t0_6) (t0_7 := t0_7) (t0_8 := t0_8) (t0_9 := t0_9) (t0_10 := t0_10) 
    generalize F_FR_open x2 x3 (0 : Int32) t0_1 t0_2 t0_3 t0_4 t0_5 t0_6 t0_7 t0_8 t0_9 t0_10 = p76 at *
    unfold Q_FR_open at h3
    obtain ⟨h3a, h3b, h37, h38, h3f, h35⟩ := h3
    have op7 := h37
    have op8 := h38
    have opf := h3f
    have op5 := h35
    have opa := congrArg Int32.toInt h3b
    unfold S_FR_hexadecimal_c29 F_FR_hexadecimal_c29
    by_cases g4 : ((F_FR_isFinite (p76.1 : Int32) (p76.2.1 : Int32) (p76.2.2.1 : Int32) (p76.2.2.2.1 : Int32) (p76.2.2.2.2.1 : Int64) (p76.2.2.2.2.2.1 : Int32) (p76.2.2.2.2.2.2.1 : Int32) (p76.2.2.2.2.2.2.2.1 : Int64) (p76.2.2.2.2.2.2.2.2.1 : Int32) (p76.2.2.2.2.2.2.2.2.2.1 : Int64) (p76.2.2.2.2.2.2.2.2.2.2 : Int32)) : Int32) = (0 : Int32)
    ·
      rw [if_pos g4, if_pos g4]
      have h5 := T_FR_name (t0_0 := (p76.1 : Int32)) (t0_1 := (p76.2.1 : Int32)) (t0_2 := (p76.2.2.1 : Int32)) (t0_3 := (p76.2.2.2.1 : Int32)) (t0_4 := (p76.2.2.2.2.1 : Int64)) (t0_5 := (p76.2.2.2.2.2.1 : Int32)) (t0_6 := (p76.2.2.2.2.2.2.1 : Int32)) (t0_7 := (p76.2.2.2.2.2.2.2.1 : Int64)) (t0_8 := (p76.2.2.2.2.2.2.2.2.1 : Int32)) (t0_9 := (p76.2.2.2.2.2.2.2.2.2.1 : Int64)) (t0_10 := (p76.2.2.2.2.2.2.2.2.2.2 : Int32)) (t1_0 := t1_0) 
      with_reducible refine v_owe h5.1 ?_
      replace h5 := h5.2
      generalize F_FR_name (p76.1 : Int32) (p76.2.1 : Int32) (p76.2.2.1 : Int32) (p76.2.2.2.1 : Int32) (p76.2.2.2.2.1 : Int64) (p76.2.2.2.2.2.1 : Int32) (p76.2.2.2.2.2.2.1 : Int32) (p76.2.2.2.2.2.2.2.1 : Int64) (p76.2.2.2.2.2.2.2.2.1 : Int32) (p76.2.2.2.2.2.2.2.2.2.1 : Int64) (p76.2.2.2.2.2.2.2.2.2.2 : Int32) t1_0 = p999 at *
      unfold Q_FR_name at h5
      unfold S_FR_hexadecimal_c40 F_FR_hexadecimal_c40
      refine ⟨trivial, ?_⟩
      (unfold Q_FR_hexadecimal; dsimp only; first | exact ⟨by omega, by omega⟩ | exact ⟨by decide, by decide⟩)
    ·
      rw [if_neg g4, if_neg g4]
      have fin := fl_fin g4
      have h6 := T_FR_begin (t0_0 := (p76.1 : Int32)) (t0_1 := (p76.2.1 : Int32)) (t0_2 := (p76.2.2.1 : Int32)) (t0_3 := (p76.2.2.2.1 : Int32)) (t0_4 := (p76.2.2.2.2.1 : Int64)) (t0_5 := (p76.2.2.2.2.2.1 : Int32)) (t0_6 := (p76.2.2.2.2.2.2.1 : Int32)) (t0_7 := (p76.2.2.2.2.2.2.2.1 : Int64)) (t0_8 := (p76.2.2.2.2.2.2.2.2.1 : Int32)) (t0_9 := (p76.2.2.2.2.2.2.2.2.2.1 : Int64)) (t0_10 := (p76.2.2.2.2.2.2.2.2.2.2 : Int32)) (t1_0 := t1_0) 
      with_reducible refine v_owe h6.1 ?_
      replace h6 := h6.2
      generalize F_FR_begin (p76.1 : Int32) (p76.2.1 : Int32) (p76.2.2.1 : Int32) (p76.2.2.2.1 : Int32) (p76.2.2.2.2.1 : Int64) (p76.2.2.2.2.2.1 : Int32) (p76.2.2.2.2.2.2.1 : Int32) (p76.2.2.2.2.2.2.2.1 : Int64) (p76.2.2.2.2.2.2.2.2.1 : Int32) (p76.2.2.2.2.2.2.2.2.2.1 : Int64) (p76.2.2.2.2.2.2.2.2.2.2 : Int32) t1_0 = p144 at *
      unfold Q_FR_begin at h6
      obtain ⟨h61, h63, h65, h66, h67, h68, h69, h6x⟩ := h6
      have h69i := congrArg Int64.toInt h69
      have h67i := congrArg Int64.toInt h67
      unfold S_FR_hexadecimal_c49 F_FR_hexadecimal_c49
      have h7 := T_FR_add (x2 := (48 : Int32)) (t0_0 := (p144.1 : Int32)) (t0_1 := (p144.2.1 : Int32)) (t0_2 := (p144.2.2.1 : Int32)) (t0_3 := (p144.2.2.2.1 : Int32)) (t0_4 := (p144.2.2.2.2.1 : Int64)) (t0_5 := (p144.2.2.2.2.2.1 : Int32)) (t0_6 := (p144.2.2.2.2.2.2.1 : Int32)) (t0_7 := (p144.2.2.2.2.2.2.2.1 : Int64)) (t0_8 := (p144.2.2.2.2.2.2.2.2.1 : Int32)) (t0_9 := (p144.2.2.2.2.2.2.2.2.2.1 : Int64)) (t0_10 := (p144.2.2.2.2.2.2.2.2.2.2.1 : Int32)) (t1_0 := (p144.2.2.2.2.2.2.2.2.2.2.2 : (Nat → Int32))) ⟨by first | omega | decide, by first | omega | decide⟩
      with_reducible refine v_owe h7.1 ?_
      replace h7 := h7.2
      generalize F_FR_add (48 : Int32) (p144.1 : Int32) (p144.2.1 : Int32) (p144.2.2.1 : Int32) (p144.2.2.2.1 : Int32) (p144.2.2.2.2.1 : Int64) (p144.2.2.2.2.2.1 : Int32) (p144.2.2.2.2.2.2.1 : Int32) (p144.2.2.2.2.2.2.2.1 : Int64) (p144.2.2.2.2.2.2.2.2.1 : Int32) (p144.2.2.2.2.2.2.2.2.2.1 : Int64) (p144.2.2.2.2.2.2.2.2.2.2.1 : Int32) (p144.2.2.2.2.2.2.2.2.2.2.2 : (Nat → Int32)) = p206 at *
      unfold Q_FR_add at h7
      obtain ⟨h71, h73, h75, h76, h77, h78, h79, h7x⟩ := h7
      have h79i := congrArg Int64.toInt h79
      have h77i := congrArg Int64.toInt h77
      unfold S_FR_hexadecimal_c55 F_FR_hexadecimal_c55
      have h8 := T_FR_add (x2 := (120 : Int32)) (t0_0 := (p206.1 : Int32)) (t0_1 := (p206.2.1 : Int32)) (t0_2 := (p206.2.2.1 : Int32)) (t0_3 := (p206.2.2.2.1 : Int32)) (t0_4 := (p206.2.2.2.2.1 : Int64)) (t0_5 := (p206.2.2.2.2.2.1 : Int32)) (t0_6 := (p206.2.2.2.2.2.2.1 : Int32)) (t0_7 := (p206.2.2.2.2.2.2.2.1 : Int64)) (t0_8 := (p206.2.2.2.2.2.2.2.2.1 : Int32)) (t0_9 := (p206.2.2.2.2.2.2.2.2.2.1 : Int64)) (t0_10 := (p206.2.2.2.2.2.2.2.2.2.2.1 : Int32)) (t1_0 := (p206.2.2.2.2.2.2.2.2.2.2.2 : (Nat → Int32))) ⟨by first | omega | decide, by first | omega | decide⟩
      with_reducible refine v_owe h8.1 ?_
      replace h8 := h8.2
      generalize F_FR_add (120 : Int32) (p206.1 : Int32) (p206.2.1 : Int32) (p206.2.2.1 : Int32) (p206.2.2.2.1 : Int32) (p206.2.2.2.2.1 : Int64) (p206.2.2.2.2.2.1 : Int32) (p206.2.2.2.2.2.2.1 : Int32) (p206.2.2.2.2.2.2.2.1 : Int64) (p206.2.2.2.2.2.2.2.2.1 : Int32) (p206.2.2.2.2.2.2.2.2.2.1 : Int64) (p206.2.2.2.2.2.2.2.2.2.2.1 : Int32) (p206.2.2.2.2.2.2.2.2.2.2.2 : (Nat → Int32)) = p268 at *
      unfold Q_FR_add at h8
      obtain ⟨h81, h83, h85, h86, h87, h88, h89, h8x⟩ := h8
      have h89i := congrArg Int64.toInt h89
      have h87i := congrArg Int64.toInt h87
      unfold S_FR_hexadecimal_c61 F_FR_hexadecimal_c61
      by_cases g9 : (p268.2.2.2.1 : Int32) ≤ (0 : Int32)
      ·
        rw [if_pos g9, if_pos g9]
        have g9i : p268.2.2.2.1.toInt ≤ 0 := q_leI g9
        unfold S_FR_hexadecimal_J79 F_FR_hexadecimal_J79
        have h10 := T_FR_add (x2 := (48 : Int32)) (t0_0 := (p268.1 : Int32)) (t0_1 := (p268.2.1 : Int32)) (t0_2 := (p268.2.2.1 : Int32)) (t0_3 := (p268.2.2.2.1 : Int32)) (t0_4 := (p268.2.2.2.2.1 : Int64)) (t0_5 := (p268.2.2.2.2.2.1 : Int32)) (t0_6 := (p268.2.2.2.2.2.2.1 : Int32)) (t0_7 := (p268.2.2.2.2.2.2.2.1 : Int64)) (t0_8 := (p268.2.2.2.2.2.2.2.2.1 : Int32)) (t0_9 := (p268.2.2.2.2.2.2.2.2.2.1 : Int64)) (t0_10 := (p268.2.2.2.2.2.2.2.2.2.2.1 : Int32)) (t1_0 := (p268.2.2.2.2.2.2.2.2.2.2.2 : (Nat → Int32))) ⟨by first | omega | decide, by first | omega | decide⟩
        with_reducible refine v_owe h10.1 ?_
        replace h10 := h10.2
        generalize F_FR_add (48 : Int32) (p268.1 : Int32) (p268.2.1 : Int32) (p268.2.2.1 : Int32) (p268.2.2.2.1 : Int32) (p268.2.2.2.2.1 : Int64) (p268.2.2.2.2.2.1 : Int32) (p268.2.2.2.2.2.2.1 : Int32) (p268.2.2.2.2.2.2.2.1 : Int64) (p268.2.2.2.2.2.2.2.2.1 : Int32) (p268.2.2.2.2.2.2.2.2.2.1 : Int64) (p268.2.2.2.2.2.2.2.2.2.2.1 : Int32) (p268.2.2.2.2.2.2.2.2.2.2.2 : (Nat → Int32)) = p341 at *
        unfold Q_FR_add at h10
        obtain ⟨h101, h103, h105, h106, h107, h108, h109, h10x⟩ := h10
        have h109i := congrArg Int64.toInt h109
        have h107i := congrArg Int64.toInt h107
        unfold S_FR_hexadecimal_c79 F_FR_hexadecimal_c79
        have h11 := T_FR_add (x2 := (46 : Int32)) (t0_0 := (p341.1 : Int32)) (t0_1 := (p341.2.1 : Int32)) (t0_2 := (p341.2.2.1 : Int32)) (t0_3 := (p341.2.2.2.1 : Int32)) (t0_4 := (p341.2.2.2.2.1 : Int64)) (t0_5 := (p341.2.2.2.2.2.1 : Int32)) (t0_6 := (p341.2.2.2.2.2.2.1 : Int32)) (t0_7 := (p341.2.2.2.2.2.2.2.1 : Int64)) (t0_8 := (p341.2.2.2.2.2.2.2.2.1 : Int32)) (t0_9 := (p341.2.2.2.2.2.2.2.2.2.1 : Int64)) (t0_10 := (p341.2.2.2.2.2.2.2.2.2.2.1 : Int32)) (t1_0 := (p341.2.2.2.2.2.2.2.2.2.2.2 : (Nat → Int32))) ⟨by first | omega | decide, by first | omega | decide⟩
        with_reducible refine v_owe h11.1 ?_
        replace h11 := h11.2
        generalize F_FR_add (46 : Int32) (p341.1 : Int32) (p341.2.1 : Int32) (p341.2.2.1 : Int32) (p341.2.2.2.1 : Int32) (p341.2.2.2.2.1 : Int64) (p341.2.2.2.2.2.1 : Int32) (p341.2.2.2.2.2.2.1 : Int32) (p341.2.2.2.2.2.2.2.1 : Int64) (p341.2.2.2.2.2.2.2.2.1 : Int32) (p341.2.2.2.2.2.2.2.2.2.1 : Int64) (p341.2.2.2.2.2.2.2.2.2.2.1 : Int32) (p341.2.2.2.2.2.2.2.2.2.2.2 : (Nat → Int32)) = p403 at *
        unfold Q_FR_add at h11
        obtain ⟨h111, h113, h115, h116, h117, h118, h119, h11x⟩ := h11
        have h119i := congrArg Int64.toInt h119
        have h117i := congrArg Int64.toInt h117
        unfold S_FR_hexadecimal_c85 F_FR_hexadecimal_c85
        by_cases g12 : x3 = (0 : Int32)
        ·
          rw [if_pos g12, if_pos g12]
          unfold S_FR_hexadecimal_J107 F_FR_hexadecimal_J107
          rw [if_pos g12, if_pos g12]
          unfold S_FR_hexadecimal_J120 F_FR_hexadecimal_J120
          have h13 := T_FR_hexadecimalFigure (x2 := (((p403.2.2.2.2.1 : Int64) >>> ((48 : Int32).toInt64 &&& 63) : Int64) &&& 15 : Int64)) (t0_0 := (p403.1 : Int32)) (t0_1 := (p403.2.1 : Int32)) (t0_2 := (p403.2.2.1 : Int32)) (t0_3 := (p403.2.2.2.1 : Int32)) (t0_4 := (p403.2.2.2.2.1 : Int64)) (t0_5 := (p403.2.2.2.2.2.1 : Int32)) (t0_6 := (p403.2.2.2.2.2.2.1 : Int32)) (t0_7 := (p403.2.2.2.2.2.2.2.1 : Int64)) (t0_8 := (p403.2.2.2.2.2.2.2.2.1 : Int32)) (t0_9 := (p403.2.2.2.2.2.2.2.2.2.1 : Int64)) (t0_10 := (p403.2.2.2.2.2.2.2.2.2.2.1 : Int32)) (t1_0 := (p403.2.2.2.2.2.2.2.2.2.2.2 : (Nat → Int32))) ⟨by first | omega | decide, by first | omega | decide⟩
          with_reducible refine v_owe h13.1 ?_
          replace h13 := h13.2
          generalize F_FR_hexadecimalFigure (((p403.2.2.2.2.1 : Int64) >>> ((48 : Int32).toInt64 &&& 63) : Int64) &&& 15 : Int64) (p403.1 : Int32) (p403.2.1 : Int32) (p403.2.2.1 : Int32) (p403.2.2.2.1 : Int32) (p403.2.2.2.2.1 : Int64) (p403.2.2.2.2.2.1 : Int32) (p403.2.2.2.2.2.2.1 : Int32) (p403.2.2.2.2.2.2.2.1 : Int64) (p403.2.2.2.2.2.2.2.2.1 : Int32) (p403.2.2.2.2.2.2.2.2.2.1 : Int64) (p403.2.2.2.2.2.2.2.2.2.2.1 : Int32) (p403.2.2.2.2.2.2.2.2.2.2.2 : (Nat → Int32)) = p490 at *
          unfold Q_FR_add at h13
          obtain ⟨h131, h133, h135, h136, h137, h138, h139, h13x⟩ := h13
          have h139i := congrArg Int64.toInt h139
          have h137i := congrArg Int64.toInt h137
          unfold S_FR_hexadecimal_c132 F_FR_hexadecimal_c132
          exact vf_hx _ _ _ _ _ _ _ _ _ _ _ _ _ _ (by decide) (by omega) ⟨by omega, by first | omega | (have ez : (48 : Int32).toInt = 48 := rfl; have ey : (20 : Int32).toInt = 20 := rfl; omega)⟩ ⟨⟨by omega, by omega⟩, ⟨by omega, by omega⟩⟩
        ·
          rw [if_neg g12, if_neg g12]
          unfold S_FR_hexadecimal_J107 F_FR_hexadecimal_J107
          rw [if_neg g12, if_neg g12]
          unfold S_FR_hexadecimal_J120 F_FR_hexadecimal_J120
          have h14 := T_FR_hexadecimalFigure (x2 := (((2 * (p403.2.2.2.2.1 : Int64) : Int64) >>> ((20 : Int32).toInt64 &&& 63) : Int64) &&& 15 : Int64)) (t0_0 := (p403.1 : Int32)) (t0_1 := (p403.2.1 : Int32)) (t0_2 := (p403.2.2.1 : Int32)) (t0_3 := (p403.2.2.2.1 : Int32)) (t0_4 := (p403.2.2.2.2.1 : Int64)) (t0_5 := (p403.2.2.2.2.2.1 : Int32)) (t0_6 := (p403.2.2.2.2.2.2.1 : Int32)) (t0_7 := (p403.2.2.2.2.2.2.2.1 : Int64)) (t0_8 := (p403.2.2.2.2.2.2.2.2.1 : Int32)) (t0_9 := (p403.2.2.2.2.2.2.2.2.2.1 : Int64)) (t0_10 := (p403.2.2.2.2.2.2.2.2.2.2.1 : Int32)) (t1_0 := (p403.2.2.2.2.2.2.2.2.2.2.2 : (Nat → Int32))) ⟨by first | omega | decide, by first | omega | decide⟩
          with_reducible refine v_owe h14.1 ?_
          replace h14 := h14.2
          generalize F_FR_hexadecimalFigure (((2 * (p403.2.2.2.2.1 : Int64) : Int64) >>> ((20 : Int32).toInt64 &&& 63) : Int64) &&& 15 : Int64) (p403.1 : Int32) (p403.2.1 : Int32) (p403.2.2.1 : Int32) (p403.2.2.2.1 : Int32) (p403.2.2.2.2.1 : Int64) (p403.2.2.2.2.2.1 : Int32) (p403.2.2.2.2.2.2.1 : Int32) (p403.2.2.2.2.2.2.2.1 : Int64) (p403.2.2.2.2.2.2.2.2.1 : Int32) (p403.2.2.2.2.2.2.2.2.2.1 : Int64) (p403.2.2.2.2.2.2.2.2.2.2.1 : Int32) (p403.2.2.2.2.2.2.2.2.2.2.2 : (Nat → Int32)) = p490 at *
          unfold Q_FR_add at h14
          obtain ⟨h141, h143, h145, h146, h147, h148, h149, h14x⟩ := h14
          have h149i := congrArg Int64.toInt h149
          have h147i := congrArg Int64.toInt h147
          unfold S_FR_hexadecimal_c132 F_FR_hexadecimal_c132
          exact vf_hx _ _ _ _ _ _ _ _ _ _ _ _ _ _ (by decide) (by omega) ⟨by omega, by first | omega | (have ez : (48 : Int32).toInt = 48 := rfl; have ey : (20 : Int32).toInt = 20 := rfl; omega)⟩ ⟨⟨by omega, by omega⟩, ⟨by omega, by omega⟩⟩
      ·
        rw [if_neg g9, if_neg g9]
        have g9i : 0 < p268.2.2.2.1.toInt := q_nleI g9
        unfold S_FR_hexadecimal_J79 F_FR_hexadecimal_J79
        have h15 := T_FR_add (x2 := (49 : Int32)) (t0_0 := (p268.1 : Int32)) (t0_1 := (p268.2.1 : Int32)) (t0_2 := (p268.2.2.1 : Int32)) (t0_3 := (p268.2.2.2.1 : Int32)) (t0_4 := (p268.2.2.2.2.1 : Int64)) (t0_5 := (p268.2.2.2.2.2.1 : Int32)) (t0_6 := (p268.2.2.2.2.2.2.1 : Int32)) (t0_7 := (p268.2.2.2.2.2.2.2.1 : Int64)) (t0_8 := (p268.2.2.2.2.2.2.2.2.1 : Int32)) (t0_9 := (p268.2.2.2.2.2.2.2.2.2.1 : Int64)) (t0_10 := (p268.2.2.2.2.2.2.2.2.2.2.1 : Int32)) (t1_0 := (p268.2.2.2.2.2.2.2.2.2.2.2 : (Nat → Int32))) ⟨by first | omega | decide, by first | omega | decide⟩
        with_reducible refine v_owe h15.1 ?_
        replace h15 := h15.2
        generalize F_FR_add (49 : Int32) (p268.1 : Int32) (p268.2.1 : Int32) (p268.2.2.1 : Int32) (p268.2.2.2.1 : Int32) (p268.2.2.2.2.1 : Int64) (p268.2.2.2.2.2.1 : Int32) (p268.2.2.2.2.2.2.1 : Int32) (p268.2.2.2.2.2.2.2.1 : Int64) (p268.2.2.2.2.2.2.2.2.1 : Int32) (p268.2.2.2.2.2.2.2.2.2.1 : Int64) (p268.2.2.2.2.2.2.2.2.2.2.1 : Int32) (p268.2.2.2.2.2.2.2.2.2.2.2 : (Nat → Int32)) = p341 at *
        unfold Q_FR_add at h15
        obtain ⟨h151, h153, h155, h156, h157, h158, h159, h15x⟩ := h15
        have h159i := congrArg Int64.toInt h159
        have h157i := congrArg Int64.toInt h157
        unfold S_FR_hexadecimal_c79 F_FR_hexadecimal_c79
        have h16 := T_FR_add (x2 := (46 : Int32)) (t0_0 := (p341.1 : Int32)) (t0_1 := (p341.2.1 : Int32)) (t0_2 := (p341.2.2.1 : Int32)) (t0_3 := (p341.2.2.2.1 : Int32)) (t0_4 := (p341.2.2.2.2.1 : Int64)) (t0_5 := (p341.2.2.2.2.2.1 : Int32)) (t0_6 := (p341.2.2.2.2.2.2.1 : Int32)) (t0_7 := (p341.2.2.2.2.2.2.2.1 : Int64)) (t0_8 := (p341.2.2.2.2.2.2.2.2.1 : Int32)) (t0_9 := (p341.2.2.2.2.2.2.2.2.2.1 : Int64)) (t0_10 := (p341.2.2.2.2.2.2.2.2.2.2.1 : Int32)) (t1_0 := (p341.2.2.2.2.2.2.2.2.2.2.2 : (Nat → Int32))) ⟨by first | omega | decide, by first | omega | decide⟩
        with_reducible refine v_owe h16.1 ?_
        replace h16 := h16.2
        generalize F_FR_add (46 : Int32) (p341.1 : Int32) (p341.2.1 : Int32) (p341.2.2.1 : Int32) (p341.2.2.2.1 : Int32) (p341.2.2.2.2.1 : Int64) (p341.2.2.2.2.2.1 : Int32) (p341.2.2.2.2.2.2.1 : Int32) (p341.2.2.2.2.2.2.2.1 : Int64) (p341.2.2.2.2.2.2.2.2.1 : Int32) (p341.2.2.2.2.2.2.2.2.2.1 : Int64) (p341.2.2.2.2.2.2.2.2.2.2.1 : Int32) (p341.2.2.2.2.2.2.2.2.2.2.2 : (Nat → Int32)) = p403 at *
        unfold Q_FR_add at h16
        obtain ⟨h161, h163, h165, h166, h167, h168, h169, h16x⟩ := h16
        have h169i := congrArg Int64.toInt h169
        have h167i := congrArg Int64.toInt h167
        unfold S_FR_hexadecimal_c85 F_FR_hexadecimal_c85
        by_cases g17 : x3 = (0 : Int32)
        ·
          rw [if_pos g17, if_pos g17]
          unfold S_FR_hexadecimal_J107 F_FR_hexadecimal_J107
          rw [if_pos g17, if_pos g17]
          unfold S_FR_hexadecimal_J120 F_FR_hexadecimal_J120
          have h18 := T_FR_hexadecimalFigure (x2 := (((p403.2.2.2.2.1 : Int64) >>> ((48 : Int32).toInt64 &&& 63) : Int64) &&& 15 : Int64)) (t0_0 := (p403.1 : Int32)) (t0_1 := (p403.2.1 : Int32)) (t0_2 := (p403.2.2.1 : Int32)) (t0_3 := (p403.2.2.2.1 : Int32)) (t0_4 := (p403.2.2.2.2.1 : Int64)) (t0_5 := (p403.2.2.2.2.2.1 : Int32)) (t0_6 := (p403.2.2.2.2.2.2.1 : Int32)) (t0_7 := (p403.2.2.2.2.2.2.2.1 : Int64)) (t0_8 := (p403.2.2.2.2.2.2.2.2.1 : Int32)) (t0_9 := (p403.2.2.2.2.2.2.2.2.2.1 : Int64)) (t0_10 := (p403.2.2.2.2.2.2.2.2.2.2.1 : Int32)) (t1_0 := (p403.2.2.2.2.2.2.2.2.2.2.2 : (Nat → Int32))) ⟨by first | omega | decide, by first | omega | decide⟩
          with_reducible refine v_owe h18.1 ?_
          replace h18 := h18.2
          generalize F_FR_hexadecimalFigure (((p403.2.2.2.2.1 : Int64) >>> ((48 : Int32).toInt64 &&& 63) : Int64) &&& 15 : Int64) (p403.1 : Int32) (p403.2.1 : Int32) (p403.2.2.1 : Int32) (p403.2.2.2.1 : Int32) (p403.2.2.2.2.1 : Int64) (p403.2.2.2.2.2.1 : Int32) (p403.2.2.2.2.2.2.1 : Int32) (p403.2.2.2.2.2.2.2.1 : Int64) (p403.2.2.2.2.2.2.2.2.1 : Int32) (p403.2.2.2.2.2.2.2.2.2.1 : Int64) (p403.2.2.2.2.2.2.2.2.2.2.1 : Int32) (p403.2.2.2.2.2.2.2.2.2.2.2 : (Nat → Int32)) = p490 at *
          unfold Q_FR_add at h18
          obtain ⟨h181, h183, h185, h186, h187, h188, h189, h18x⟩ := h18
          have h189i := congrArg Int64.toInt h189
          have h187i := congrArg Int64.toInt h187
          unfold S_FR_hexadecimal_c132 F_FR_hexadecimal_c132
          exact vf_hx _ _ _ _ _ _ _ _ _ _ _ _ _ _ (by decide) (by omega) ⟨by omega, by first | omega | (have ez : (48 : Int32).toInt = 48 := rfl; have ey : (20 : Int32).toInt = 20 := rfl; omega)⟩ ⟨⟨by omega, by omega⟩, ⟨by omega, by omega⟩⟩
        ·
          rw [if_neg g17, if_neg g17]
          unfold S_FR_hexadecimal_J107 F_FR_hexadecimal_J107
          rw [if_neg g17, if_neg g17]
          unfold S_FR_hexadecimal_J120 F_FR_hexadecimal_J120
          have h19 := T_FR_hexadecimalFigure (x2 := (((2 * (p403.2.2.2.2.1 : Int64) : Int64) >>> ((20 : Int32).toInt64 &&& 63) : Int64) &&& 15 : Int64)) (t0_0 := (p403.1 : Int32)) (t0_1 := (p403.2.1 : Int32)) (t0_2 := (p403.2.2.1 : Int32)) (t0_3 := (p403.2.2.2.1 : Int32)) (t0_4 := (p403.2.2.2.2.1 : Int64)) (t0_5 := (p403.2.2.2.2.2.1 : Int32)) (t0_6 := (p403.2.2.2.2.2.2.1 : Int32)) (t0_7 := (p403.2.2.2.2.2.2.2.1 : Int64)) (t0_8 := (p403.2.2.2.2.2.2.2.2.1 : Int32)) (t0_9 := (p403.2.2.2.2.2.2.2.2.2.1 : Int64)) (t0_10 := (p403.2.2.2.2.2.2.2.2.2.2.1 : Int32)) (t1_0 := (p403.2.2.2.2.2.2.2.2.2.2.2 : (Nat → Int32))) ⟨by first | omega | decide, by first | omega | decide⟩
          with_reducible refine v_owe h19.1 ?_
          replace h19 := h19.2
          generalize F_FR_hexadecimalFigure (((2 * (p403.2.2.2.2.1 : Int64) : Int64) >>> ((20 : Int32).toInt64 &&& 63) : Int64) &&& 15 : Int64) (p403.1 : Int32) (p403.2.1 : Int32) (p403.2.2.1 : Int32) (p403.2.2.2.1 : Int32) (p403.2.2.2.2.1 : Int64) (p403.2.2.2.2.2.1 : Int32) (p403.2.2.2.2.2.2.1 : Int32) (p403.2.2.2.2.2.2.2.1 : Int64) (p403.2.2.2.2.2.2.2.2.1 : Int32) (p403.2.2.2.2.2.2.2.2.2.1 : Int64) (p403.2.2.2.2.2.2.2.2.2.2.1 : Int32) (p403.2.2.2.2.2.2.2.2.2.2.2 : (Nat → Int32)) = p490 at *
          unfold Q_FR_add at h19
          obtain ⟨h191, h193, h195, h196, h197, h198, h199, h19x⟩ := h19
          have h199i := congrArg Int64.toInt h199
          have h197i := congrArg Int64.toInt h197
          unfold S_FR_hexadecimal_c132 F_FR_hexadecimal_c132
          exact vf_hx _ _ _ _ _ _ _ _ _ _ _ _ _ _ (by decide) (by omega) ⟨by omega, by first | omega | (have ez : (48 : Int32).toInt = 48 := rfl; have ey : (20 : Int32).toInt = 20 := rfl; omega)⟩ ⟨⟨by omega, by omega⟩, ⟨by omega, by omega⟩⟩
  ·
    rw [if_neg g1, if_neg g1]
    unfold S_FR_hexadecimal_J14 F_FR_hexadecimal_J14
    have g20 : ¬ ((1 : Int32) ≤ (0 : Int32)) := (by decide)
    rw [if_neg g20, if_neg g20]
    refine ⟨trivial, ?_⟩
    (unfold Q_FR_hexadecimal; dsimp only; first | exact ⟨by omega, by omega⟩ | exact ⟨by decide, by decide⟩)
theorem vf_na2 {K_F_FR_narrowed_L72 : Int32 → Int32 → Int32 → Int64 → (Int64 × Int32 × Int32 × Int32 × Int32 × Int64 × Int32 × Int32 × Int64 × Int32 × Int64 × Int32)} {x2 : Int64} {t0_0 : Int32} {t0_1 : Int32} {t0_2 : Int32} {t0_3 : Int32} {t0_4 : Int64} {t0_5 : Int32} {t0_6 : Int32} {t0_7 : Int64} {t0_8 : Int32} {t0_9 : Int64} {t0_10 : Int32} {p53 : (Int32 × Int32 × Int32 × Int32 × Int64 × Int32 × Int32 × Int64 × Int32 × Int64 × Int32)} {y19 : Int32} {y20 : Int32} {y21 : Int32} {y22 : Int32} {y23 : Int64} {y24 : Int32} {y25 : Int32} {y26 : Int64} {y27 : Int32} {y28 : Int64} {y29 : Int32} {lx71 : Int64} {lx94 : Int32} {lx95 : Int32} {lx96 : Int32} {lx97 : Int64} {lx156 : Int64} {K_S_FR_narrowed_L72 : Int32 → Int32 → Int32 → Int64 → Prop}  : ∀ (n : Nat) (lx169 : Int64) (lx170 : Int32), (lx170.toInt ≤ 1030 ∧ -149 ≤ lx170.toInt) → (lx170.toInt + 1074 < (n : Int)) → (S_FR_narrowed_L157 K_S_FR_narrowed_L72 x2 t0_0 t0_1 t0_2 t0_3 t0_4 t0_5 t0_6 t0_7 t0_8 t0_9 t0_10 p53 y19 y20 y21 y22 y23 y24 y25 y26 y27 y28 y29 lx71 lx94 lx95 lx96 lx97 lx156 n lx169 lx170) := by
  intro n
  induction n with
  | zero => intro lx169 lx170 hk hm; exact absurd (show False by omega) id
  | succ n ih =>
    intro lx169 lx170 hk hm
    have e0 : (0 : Int32).toInt = 0 := rfl
    have e1 : (1 : Int32).toInt = 1 := rfl
    have eL0 : (0 : Int64).toInt = 0 := rfl
    have em : (-149 : Int32).toInt = -149 := rfl
    rw [S_FR_narrowed_L157.eq_2]
    by_cases g1 : (lg_cmp lx169 0 : Int32) = (0 : Int32)
    ·
      rw [if_pos g1]
      unfold S_FR_narrowed_J193
      by_cases g2 : (lg_cmp lx169 16777216 : Int32) = (0 : Int32)
      ·
        rw [if_pos g2]
        unfold S_FR_narrowed_J211
        by_cases g3 : (lx170 + 1 : Int32) ≤ (104 : Int32)
        ·
          rw [if_pos g3]
          by_cases g4 : (0 : Int32) ≤ (lg_cmp (lx169 >>> ((1 : Int32).toInt64 &&& 63) : Int64) 8388608 : Int32)
          ·
            rw [if_pos g4]
            have g4l := g_lc5 g4
            exact trivial
          ·
            rw [if_neg g4]
            have g4l := g_lc6 g4
            exact trivial
        ·
          rw [if_neg g3]
          exact trivial
      ·
        rw [if_neg g2]
        unfold S_FR_narrowed_J211
        by_cases g5 : lx170 ≤ (104 : Int32)
        ·
          rw [if_pos g5]
          have g5i : lx170.toInt ≤ 104 := q_leI g5
          by_cases g6 : (0 : Int32) ≤ (lg_cmp lx169 8388608 : Int32)
          ·
            rw [if_pos g6]
            have g6l := g_lc5 g6
            exact trivial
          ·
            rw [if_neg g6]
            have g6l := g_lc6 g6
            exact trivial
        ·
          rw [if_neg g5]
          have g5i : 104 < lx170.toInt := q_nleI g5
          exact trivial
    ·
      rw [if_neg g1]
      by_cases g7 : (0 : Int32) ≤ (lg_cmp lx169 8388608 : Int32)
      ·
        rw [if_pos g7]
        have g7l := g_lc5 g7
        unfold S_FR_narrowed_J193
        by_cases g8 : (lg_cmp lx169 16777216 : Int32) = (0 : Int32)
        ·
          rw [if_pos g8]
          unfold S_FR_narrowed_J211
          by_cases g9 : (lx170 + 1 : Int32) ≤ (104 : Int32)
          ·
            rw [if_pos g9]
            by_cases g10 : (0 : Int32) ≤ (lg_cmp (lx169 >>> ((1 : Int32).toInt64 &&& 63) : Int64) 8388608 : Int32)
            ·
              rw [if_pos g10]
              have g10l := g_lc5 g10
              exact trivial
            ·
              rw [if_neg g10]
              have g10l := g_lc6 g10
              exact trivial
          ·
            rw [if_neg g9]
            exact trivial
        ·
          rw [if_neg g8]
          unfold S_FR_narrowed_J211
          by_cases g11 : lx170 ≤ (104 : Int32)
          ·
            rw [if_pos g11]
            have g11i : lx170.toInt ≤ 104 := q_leI g11
            rw [if_pos g7]
            exact trivial
          ·
            rw [if_neg g11]
            have g11i : 104 < lx170.toInt := q_nleI g11
            exact trivial
      ·
        rw [if_neg g7]
        have g7l := g_lc6 g7
        by_cases g12 : lx170 ≤ (-149 : Int32)
        ·
          rw [if_pos g12]
          have g12i : lx170.toInt ≤ -149 := q_leI g12
          unfold S_FR_narrowed_J193
          by_cases g13 : (lg_cmp lx169 16777216 : Int32) = (0 : Int32)
          ·
            rw [if_pos g13]
            unfold S_FR_narrowed_J211
            by_cases g14 : (lx170 + 1 : Int32) ≤ (104 : Int32)
            ·
              rw [if_pos g14]
              by_cases g15 : (0 : Int32) ≤ (lg_cmp (lx169 >>> ((1 : Int32).toInt64 &&& 63) : Int64) 8388608 : Int32)
              ·
                rw [if_pos g15]
                have g15l := g_lc5 g15
                exact trivial
              ·
                rw [if_neg g15]
                have g15l := g_lc6 g15
                exact trivial
            ·
              rw [if_neg g14]
              exact trivial
          ·
            rw [if_neg g13]
            unfold S_FR_narrowed_J211
            by_cases g16 : lx170 ≤ (104 : Int32)
            ·
              rw [if_pos g16]
              have g16i : lx170.toInt ≤ 104 := q_leI g16
              rw [if_neg g7]
              exact trivial
            ·
              rw [if_neg g16]
              have g16i : 104 < lx170.toInt := q_nleI g16
              exact trivial
        ·
          rw [if_neg g12]
          have g12i : -149 < lx170.toInt := q_nleI g12
          obtain ⟨a17, e18⟩ := q_nm (lx170 + (-1) : Int32)
          rw [e18]
          have a17i : a17.toInt = lx170.toInt + (-1) := by rw [← e18]; exact q_addI (x := lx170.toInt) (y := (-1)) rfl (by decide) (by omega) (by omega)
          exact ih _ _ (by first | with_reducible assumption | omega | decide) (by first | with_reducible assumption | omega | decide)
theorem vf_na1 {x2 : Int64} {t0_0 : Int32} {t0_1 : Int32} {t0_2 : Int32} {t0_3 : Int32} {t0_4 : Int64} {t0_5 : Int32} {t0_6 : Int32} {t0_7 : Int64} {t0_8 : Int32} {t0_9 : Int64} {t0_10 : Int32} {p53 : (Int32 × Int32 × Int32 × Int32 × Int64 × Int32 × Int32 × Int64 × Int32 × Int64 × Int32)} {y19 : Int32} {y20 : Int32} {y21 : Int32} {y22 : Int32} {y23 : Int64} {y24 : Int32} {y25 : Int32} {y26 : Int64} {y27 : Int32} {y28 : Int64} {y29 : Int32} {lx71 : Int64}  : ∀ (n : Nat) (lx94 : Int32) (lx95 : Int32) (lx96 : Int32) (lx97 : Int64), (0 ≤ lx97.toInt) → (∃ j : Nat, j ≤ 53 ∧ lx97.toInt < 2 ^ j ∧ lx96.toInt + (j : Int) ≤ 1030 ∧ (j : Int) ≤ (n : Int) + 23 ∧ -148 - lx96.toInt ≤ (n : Int)) → (1 ≤ (n : Int) ∧ -1100 ≤ lx96.toInt) → (S_FR_narrowed_L72 x2 t0_0 t0_1 t0_2 t0_3 t0_4 t0_5 t0_6 t0_7 t0_8 t0_9 t0_10 p53 y19 y20 y21 y22 y23 y24 y25 y26 y27 y28 y29 lx71 n lx94 lx95 lx96 lx97) := by
  intro n
  induction n with
  | zero => intro lx94 lx95 lx96 lx97 hm0 hj hn; omega
  | succ n ih =>
    intro lx94 lx95 lx96 lx97 hm0 hj hn
    have e0 : (0 : Int32).toInt = 0 := rfl
    have e1 : (1 : Int32).toInt = 1 := rfl
    have eL0 : (0 : Int64).toInt = 0 := rfl
    have em : (-149 : Int32).toInt = -149 := rfl
    have e24 : (16777216 : Int64).toInt = 16777216 := rfl
    obtain ⟨j, j1, j2, j3, j4, j5⟩ := hj
    have e25 : 16777216 ≤ lx97.toInt → 25 ≤ j := fl_j24 j2
    rw [S_FR_narrowed_L72.eq_2]
    by_cases g1 : (0 : Int32) ≤ (lg_cmp lx97 16777216 : Int32)
    ·
      rw [if_pos g1]
      have g1l := g_lc5 g1
      unfold S_FR_narrowed_J89
      by_cases g2 : lx95 = (0 : Int32)
      ·
        rw [if_pos g2]
        by_cases g3 : lx94 = (1 : Int32)
        ·
          rw [if_pos g3]
          unfold S_FR_narrowed_J100
          obtain ⟨a4, e5⟩ := q_nm (lx96 + 1 : Int32)
          rw [e5]
          have a4i : a4.toInt = lx96.toInt + 1 := by rw [← e5]; exact q_addI (x := lx96.toInt) (y := 1) rfl (by decide) (by omega) (by omega)
          have hv := fl_hv hm0 j2; exact ih _ _ _ _ hv.1 ⟨j - 1, by omega, hv.2, by omega, by omega, by omega⟩ ⟨by omega, by omega⟩
        ·
          rw [if_neg g3]
          obtain ⟨a6, e7⟩ := q_nm (lx96 + 1 : Int32)
          rw [e7]
          have a6i : a6.toInt = lx96.toInt + 1 := by rw [← e7]; exact q_addI (x := lx96.toInt) (y := 1) rfl (by decide) (by omega) (by omega)
          have hv := fl_hv hm0 j2; exact ih _ _ _ _ hv.1 ⟨j - 1, by omega, hv.2, by omega, by omega, by omega⟩ ⟨by omega, by omega⟩
      ·
        rw [if_neg g2]
        unfold S_FR_narrowed_J100
        obtain ⟨a8, e9⟩ := q_nm (lx96 + 1 : Int32)
        rw [e9]
        have a8i : a8.toInt = lx96.toInt + 1 := by rw [← e9]; exact q_addI (x := lx96.toInt) (y := 1) rfl (by decide) (by omega) (by omega)
        have hv := fl_hv hm0 j2; exact ih _ _ _ _ hv.1 ⟨j - 1, by omega, hv.2, by omega, by omega, by omega⟩ ⟨by omega, by omega⟩
    ·
      rw [if_neg g1]
      have g1l := g_lc6 g1
      by_cases g10 : (-149 : Int32) ≤ lx96
      ·
        rw [if_pos g10]
        have g10i := q_leI g10
        by_cases g11 : lx94 = (1 : Int32)
        ·
          rw [if_pos g11]
          by_cases g12 : lx95 = (0 : Int32)
          ·
            rw [if_pos g12]
            by_cases g13 : (lg_cmp (lx97 &&& 1 : Int64) 1 : Int32) = (0 : Int32)
            ·
              rw [if_pos g13]
              unfold S_FR_narrowed_J146
              unfold S_FR_narrowed_J155
              exact vf_na2 (K_F_FR_narrowed_L72 := fun _ _ _ _ => default) _ _ _ ⟨by omega, by omega⟩ (by omega)
            ·
              rw [if_neg g13]
              unfold S_FR_narrowed_J153
              unfold S_FR_narrowed_J155
              exact vf_na2 (K_F_FR_narrowed_L72 := fun _ _ _ _ => default) _ _ _ ⟨by omega, by omega⟩ (by omega)
          ·
            rw [if_neg g12]
            unfold S_FR_narrowed_J146
            unfold S_FR_narrowed_J155
            exact vf_na2 (K_F_FR_narrowed_L72 := fun _ _ _ _ => default) _ _ _ ⟨by omega, by omega⟩ (by omega)
        ·
          rw [if_neg g11]
          unfold S_FR_narrowed_J153
          unfold S_FR_narrowed_J155
          exact vf_na2 (K_F_FR_narrowed_L72 := fun _ _ _ _ => default) _ _ _ ⟨by omega, by omega⟩ (by omega)
      ·
        rw [if_neg g10]
        have g10i := q_nleI g10
        unfold S_FR_narrowed_J89
        by_cases g14 : lx95 = (0 : Int32)
        ·
          rw [if_pos g14]
          by_cases g15 : lx94 = (1 : Int32)
          ·
            rw [if_pos g15]
            unfold S_FR_narrowed_J100
            obtain ⟨a16, e17⟩ := q_nm (lx96 + 1 : Int32)
            rw [e17]
            have a16i : a16.toInt = lx96.toInt + 1 := by rw [← e17]; exact q_addI (x := lx96.toInt) (y := 1) rfl (by decide) (by omega) (by omega)
            have hv := fl_hv hm0 j2; exact ih _ _ _ _ hv.1 ⟨j - 1, by omega, hv.2, by omega, by omega, by omega⟩ ⟨by omega, by omega⟩
          ·
            rw [if_neg g15]
            obtain ⟨a18, e19⟩ := q_nm (lx96 + 1 : Int32)
            rw [e19]
            have a18i : a18.toInt = lx96.toInt + 1 := by rw [← e19]; exact q_addI (x := lx96.toInt) (y := 1) rfl (by decide) (by omega) (by omega)
            have hv := fl_hv hm0 j2; exact ih _ _ _ _ hv.1 ⟨j - 1, by omega, hv.2, by omega, by omega, by omega⟩ ⟨by omega, by omega⟩
        ·
          rw [if_neg g14]
          unfold S_FR_narrowed_J100
          obtain ⟨a20, e21⟩ := q_nm (lx96 + 1 : Int32)
          rw [e21]
          have a20i : a20.toInt = lx96.toInt + 1 := by rw [← e21]; exact q_addI (x := lx96.toInt) (y := 1) rfl (by decide) (by omega) (by omega)
          have hv := fl_hv hm0 j2; exact ih _ _ _ _ hv.1 ⟨j - 1, by omega, hv.2, by omega, by omega, by omega⟩ ⟨by omega, by omega⟩
theorem T_FR_narrowed {x2 : Int64} {t0_0 : Int32} {t0_1 : Int32} {t0_2 : Int32} {t0_3 : Int32} {t0_4 : Int64} {t0_5 : Int32} {t0_6 : Int32} {t0_7 : Int64} {t0_8 : Int32} {t0_9 : Int64} {t0_10 : Int32}  : (S_FR_narrowed x2 t0_0 t0_1 t0_2 t0_3 t0_4 t0_5 t0_6 t0_7 t0_8 t0_9 t0_10) := by
  have e0 : (0 : Int32).toInt = 0 := rfl
  have e1 : (1 : Int32).toInt = 1 := rfl
  have eL0 : (0 : Int64).toInt = 0 := rfl
  unfold S_FR_narrowed
  have h1 := T_FR_open (x2 := x2) (x3 := (0 : Int32)) (t0_0 := (0 : Int32)) (t0_1 := t0_1) (t0_2 := t0_2) (t0_3 := t0_3) (t0_4 := t0_4) (t0_5 := t0_5) (t0_6 := t0_6) (t0_7 := t0_7) (t0_8 := t0_8) (t0_9 := t0_9) (t0_10 := t0_10) 
  generalize F_FR_open x2 (0 : Int32) (0 : Int32) t0_1 t0_2 t0_3 t0_4 t0_5 t0_6 t0_7 t0_8 t0_9 t0_10 = p53 at *
  unfold Q_FR_open at h1
  obtain ⟨h1a, h1b, h17, h18, h1f, h15⟩ := h1
  have op7 := h17
  have op8 := h18
  have opf := h1f
  have op5 := h15
  have opa := congrArg Int32.toInt h1b
  unfold S_FR_narrowed_c8
  by_cases g2 : (p53.2.2.1 : Int32) = (0 : Int32)
  ·
    rw [if_pos g2]
    have g2i : p53.2.2.1.toInt = 0 := q_eqI g2
    unfold S_FR_narrowed_J25
    by_cases g3 : ((F_FR_isFinite (p53.1 : Int32) (p53.2.1 : Int32) (p53.2.2.1 : Int32) (p53.2.2.2.1 : Int32) (p53.2.2.2.2.1 : Int64) (p53.2.2.2.2.2.1 : Int32) (p53.2.2.2.2.2.2.1 : Int32) (p53.2.2.2.2.2.2.2.1 : Int64) (p53.2.2.2.2.2.2.2.2.1 : Int32) (p53.2.2.2.2.2.2.2.2.2.1 : Int64) (p53.2.2.2.2.2.2.2.2.2.2 : Int32)) : Int32) = (0 : Int32)
    ·
      rw [if_pos g3]
      by_cases g4 : (lg_cmp (p53.2.2.2.2.1 : Int64) 0 : Int32) = (0 : Int32)
      ·
        rw [if_pos g4]
        have g4z := fl_lz g4
        exact trivial
      ·
        rw [if_neg g4]
        have g4z := fl_lnz g4
        exact trivial
    ·
      rw [if_neg g3]
      have fin := fl_fin g3
      exact vf_na1 _ _ _ _ _ (by omega) ⟨53, by decide, Int.lt_of_lt_of_le op7.2 (by decide), by omega, by decide, by omega⟩ ⟨by decide, by omega⟩
  ·
    rw [if_neg g2]
    have g2i : p53.2.2.1.toInt ≠ 0 := q_neI g2
    unfold S_FR_narrowed_J25
    by_cases g5 : ((F_FR_isFinite (p53.1 : Int32) (p53.2.1 : Int32) (p53.2.2.1 : Int32) (p53.2.2.2.1 : Int32) (p53.2.2.2.2.1 : Int64) (p53.2.2.2.2.2.1 : Int32) (p53.2.2.2.2.2.2.1 : Int32) (p53.2.2.2.2.2.2.2.1 : Int64) (p53.2.2.2.2.2.2.2.2.1 : Int32) (p53.2.2.2.2.2.2.2.2.2.1 : Int64) (p53.2.2.2.2.2.2.2.2.2.2 : Int32)) : Int32) = (0 : Int32)
    ·
      rw [if_pos g5]
      by_cases g6 : (lg_cmp (p53.2.2.2.2.1 : Int64) 0 : Int32) = (0 : Int32)
      ·
        rw [if_pos g6]
        have g6z := fl_lz g6
        exact trivial
      ·
        rw [if_neg g6]
        have g6z := fl_lnz g6
        exact trivial
    ·
      rw [if_neg g5]
      have fin := fl_fin g5
      exact vf_na1 _ _ _ _ _ (by omega) ⟨53, by decide, Int.lt_of_lt_of_le op7.2 (by decide), by omega, by decide, by omega⟩ ⟨by decide, by omega⟩
theorem fl_dv {m : Int64} {j : Nat} (h1 : 1 ≤ m.toInt) (h2 : m.toInt < 4503599627370496) (h : 4503599627370496 ≤ m.toInt * 2 ^ j) : 1 ≤ (m <<< ((1 : Int32).toInt64 &&& 63)).toInt ∧ 1 ≤ j ∧ 4503599627370496 ≤ (m <<< ((1 : Int32).toInt64 &&& 63)).toInt * 2 ^ (j - 1) := by
  rw [fl_shl1 (by omega) (by omega)]
  have j1 : 1 ≤ j := by
    by_cases c : j = 0
    · subst c; rw [Int.pow_zero] at h; omega
    · omega
  refine ⟨by omega, j1, ?_⟩
  have p : (2 : Int) ^ j = 2 ^ (j - 1) * 2 := by rw [← fl_pw, show j - 1 + 1 = j by omega]
  rw [p, ← Int.mul_assoc, Int.mul_right_comm] at h
  exact h
theorem vf_wi {x2 : Int64} {t0_0 : Int32} {t0_1 : Int32} {t0_2 : Int32} {t0_3 : Int32} {t0_4 : Int64} {t0_5 : Int32} {t0_6 : Int32} {t0_7 : Int64} {t0_8 : Int32} {t0_9 : Int64} {t0_10 : Int32} {lx21 : Int32} {p72 : (Int32 × Int32 × Int32 × Int32 × Int64 × Int32 × Int32 × Int64 × Int32 × Int64 × Int32)} {y38 : Int32} {y39 : Int32} {y40 : Int32} {y41 : Int32} {y42 : Int64} {y43 : Int32} {y44 : Int32} {y45 : Int64} {y46 : Int32} {y47 : Int64} {y48 : Int32} {lx90 : Int64}  : ∀ (n : Nat) (lx115 : Int32) (lx116 : Int64), (1 ≤ lx116.toInt) → (∃ j : Nat, j + 1 ≤ n ∧ 4503599627370496 ≤ lx116.toInt * 2 ^ j ∧ -2000 + (j : Int) ≤ lx115.toInt) → (lx115.toInt ≤ 1000) → (S_FR_widened_L98 x2 t0_0 t0_1 t0_2 t0_3 t0_4 t0_5 t0_6 t0_7 t0_8 t0_9 t0_10 lx21 p72 y38 y39 y40 y41 y42 y43 y44 y45 y46 y47 y48 lx90 n lx115 lx116) := by
  intro n
  induction n with
  | zero => intro lx115 lx116 h1 hj hk; obtain ⟨j, a, -⟩ := hj; omega
  | succ n ih =>
    intro lx115 lx116 h1 hj hk
    have e0 : (0 : Int32).toInt = 0 := rfl
    have e1 : (1 : Int32).toInt = 1 := rfl
    have eL0 : (0 : Int64).toInt = 0 := rfl
    have e52 : (4503599627370496 : Int64).toInt = 4503599627370496 := rfl
    have hk2 : -2000 ≤ lx115.toInt := by obtain ⟨j, a, b, c⟩ := hj; omega
    rw [S_FR_widened_L98.eq_2]
    by_cases g1 : (0 : Int32) ≤ (lg_cmp lx116 4503599627370496 : Int32)
    ·
      rw [if_pos g1]
      have g1l := g_lc5 g1
      exact trivial
    ·
      rw [if_neg g1]
      have g1l := g_lc6 g1
      obtain ⟨a2, e3⟩ := q_nm (lx115 + (-1) : Int32)
      rw [e3]
      have a2i : a2.toInt = lx115.toInt + (-1) := by rw [← e3]; exact q_addI (x := lx115.toInt) (y := (-1)) rfl (by decide) (by omega) (by omega)
      obtain ⟨j, a, b, c⟩ := hj; have dv := fl_dv h1 (by omega) b; exact ih _ _ dv.1 ⟨j - 1, by omega, dv.2.2, by omega⟩ (by omega)
theorem fl_wi {v : Int} (h : 1 ≤ v) : 4503599627370496 ≤ v * 2 ^ 52 := by
  have e : (2 : Int) ^ 52 = 4503599627370496 := by decide
  rw [e]; omega
theorem T_FR_widened {x2 : Int64} {t0_0 : Int32} {t0_1 : Int32} {t0_2 : Int32} {t0_3 : Int32} {t0_4 : Int64} {t0_5 : Int32} {t0_6 : Int32} {t0_7 : Int64} {t0_8 : Int32} {t0_9 : Int64} {t0_10 : Int32}  : (S_FR_widened x2 t0_0 t0_1 t0_2 t0_3 t0_4 t0_5 t0_6 t0_7 t0_8 t0_9 t0_10) := by
  have e0 : (0 : Int32).toInt = 0 := rfl
  have e1 : (1 : Int32).toInt = 1 := rfl
  have eL0 : (0 : Int64).toInt = 0 := rfl
  unfold S_FR_widened
  by_cases g1 : ((F_FR_isWrong x2 (1 : Int32)) : Int32) = (0 : Int32)
  ·
    rw [if_pos g1]
    unfold S_FR_widened_J14
    have g2 : ((0 : Int32) ≤ (0 : Int32)) := (by decide)
    rw [if_pos g2]
    have h3 := T_FR_open (x2 := x2) (x3 := (1 : Int32)) (t0_0 := (0 : Int32)) (t0_1 := t0_1) (t0_2 := t0_2) (t0_3 := t0_3) (t0_4 := t0_4) (t0_5 := t0_5) (t0_6 := t0_6) (t0_7 := t0_7) (t0_8 := t0_8) (t0_9 := t0_9) (t0_10 := t0_10) 
    generalize F_FR_open x2 (1 : Int32) (0 : Int32) t0_1 t0_2 t0_3 t0_4 t0_5 t0_6 t0_7 t0_8 t0_9 t0_10 = p72 at *
    unfold Q_FR_open at h3
    obtain ⟨h3a, h3b, h37, h38, h3f, h35⟩ := h3
    have op7 := h37
    have op8 := h38
    have opf := h3f
    have op5 := h35
    have opa := congrArg Int32.toInt h3b
    unfold S_FR_widened_c29
    by_cases g4 : (p72.2.2.1 : Int32) = (0 : Int32)
    ·
      rw [if_pos g4]
      have g4i : p72.2.2.1.toInt = 0 := q_eqI g4
      unfold S_FR_widened_J46
      by_cases g5 : ((F_FR_isFinite (p72.1 : Int32) (p72.2.1 : Int32) (p72.2.2.1 : Int32) (p72.2.2.2.1 : Int32) (p72.2.2.2.2.1 : Int64) (p72.2.2.2.2.2.1 : Int32) (p72.2.2.2.2.2.2.1 : Int32) (p72.2.2.2.2.2.2.2.1 : Int64) (p72.2.2.2.2.2.2.2.2.1 : Int32) (p72.2.2.2.2.2.2.2.2.2.1 : Int64) (p72.2.2.2.2.2.2.2.2.2.2 : Int32)) : Int32) = (0 : Int32)
      ·
        rw [if_pos g5]
        by_cases g6 : (lg_cmp (p72.2.2.2.2.1 : Int64) 0 : Int32) = (0 : Int32)
        ·
          rw [if_pos g6]
          have g6z := fl_lz g6
          exact trivial
        ·
          rw [if_neg g6]
          have g6z := fl_lnz g6
          exact trivial
      ·
        rw [if_neg g5]
        have fin := fl_fin g5
        by_cases g7 : (lg_cmp (p72.2.2.2.2.2.2.2.1 : Int64) 0 : Int32) = (0 : Int32)
        ·
          rw [if_pos g7]
          have g7z := fl_lz g7
          exact trivial
        ·
          rw [if_neg g7]
          have g7z := fl_lnz g7
          exact vf_wi _ _ _ (by omega) ⟨52, by decide, fl_wi (by omega), by omega⟩ (by omega)
    ·
      rw [if_neg g4]
      have g4i : p72.2.2.1.toInt ≠ 0 := q_neI g4
      unfold S_FR_widened_J46
      by_cases g8 : ((F_FR_isFinite (p72.1 : Int32) (p72.2.1 : Int32) (p72.2.2.1 : Int32) (p72.2.2.2.1 : Int32) (p72.2.2.2.2.1 : Int64) (p72.2.2.2.2.2.1 : Int32) (p72.2.2.2.2.2.2.1 : Int32) (p72.2.2.2.2.2.2.2.1 : Int64) (p72.2.2.2.2.2.2.2.2.1 : Int32) (p72.2.2.2.2.2.2.2.2.2.1 : Int64) (p72.2.2.2.2.2.2.2.2.2.2 : Int32)) : Int32) = (0 : Int32)
      ·
        rw [if_pos g8]
        by_cases g9 : (lg_cmp (p72.2.2.2.2.1 : Int64) 0 : Int32) = (0 : Int32)
        ·
          rw [if_pos g9]
          have g9z := fl_lz g9
          exact trivial
        ·
          rw [if_neg g9]
          have g9z := fl_lnz g9
          exact trivial
      ·
        rw [if_neg g8]
        have fin := fl_fin g8
        by_cases g10 : (lg_cmp (p72.2.2.2.2.2.2.2.1 : Int64) 0 : Int32) = (0 : Int32)
        ·
          rw [if_pos g10]
          have g10z := fl_lz g10
          exact trivial
        ·
          rw [if_neg g10]
          have g10z := fl_lnz g10
          exact vf_wi _ _ _ (by omega) ⟨52, by decide, fl_wi (by omega), by omega⟩ (by omega)
  ·
    rw [if_neg g1]
    unfold S_FR_widened_J14
    have g11 : ¬ ((1 : Int32) ≤ (0 : Int32)) := (by decide)
    rw [if_neg g11]
    exact trivial
