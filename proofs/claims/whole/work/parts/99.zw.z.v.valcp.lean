/-! values, for whole: the class's shortest figures: prepare, whole -/
theorem V_prep {A : Int32} {B : Int32} {C : Int32} {x2 : Int64} {t0_0 : Int64} {t0_1 : Int32} {t0_2 : Int32} {t1_0 : Int32} {t1_1 : Int32} {t2_0 : (Nat → Int32)} {t3_0 : Int32} {t3_1 : Int32} {t4_0 : (Nat → Int32)} {t5_0 : Int32} {t5_1 : Int32} {t6_0 : (Nat → Int32)} {t7_0 : Int32} {t7_1 : Int32} {t8_0 : (Nat → Int32)} {P T : Nat} {l : Int} {Z : Nat} (hF : yF A B C P T l) (hf : yEx P T (yu x2) < T) (h0 : yNx P T (yu x2) ≠ 0) (hZ : yZ (yPx l (yEx P T (yu x2))) Z) : ∃ (e : Int) (a u b c : Nat), (F_Flo_prepare A B C x2 t0_0 t0_1 t0_2 t1_0 t1_1 t2_0 t3_0 t3_1 t4_0 t5_0 t5_1 t6_0 t7_0 t7_1 t8_0).2.2.1.toInt = e ∧ (F_Flo_prepare A B C x2 t0_0 t0_1 t0_2 t1_0 t1_1 t2_0 t3_0 t3_1 t4_0 t5_0 t5_1 t6_0 t7_0 t7_1 t8_0).1 = t0_0 ∧ (F_Flo_prepare A B C x2 t0_0 t0_1 t0_2 t1_0 t1_1 t2_0 t3_0 t3_1 t4_0 t5_0 t5_1 t6_0 t7_0 t7_1 t8_0).2.1 = t0_1 ∧ bO 220 (F_Flo_prepare A B C x2 t0_0 t0_1 t0_2 t1_0 t1_1 t2_0 t3_0 t3_1 t4_0 t5_0 t5_1 t6_0 t7_0 t7_1 t8_0).2.2.2.1 (F_Flo_prepare A B C x2 t0_0 t0_1 t0_2 t1_0 t1_1 t2_0 t3_0 t3_1 t4_0 t5_0 t5_1 t6_0 t7_0 t7_1 t8_0).2.2.2.2.1 (F_Flo_prepare A B C x2 t0_0 t0_1 t0_2 t1_0 t1_1 t2_0 t3_0 t3_1 t4_0 t5_0 t5_1 t6_0 t7_0 t7_1 t8_0).2.2.2.2.2.1 (a : Int) ∧ bO 220 (F_Flo_prepare A B C x2 t0_0 t0_1 t0_2 t1_0 t1_1 t2_0 t3_0 t3_1 t4_0 t5_0 t5_1 t6_0 t7_0 t7_1 t8_0).2.2.2.2.2.2.1 (F_Flo_prepare A B C x2 t0_0 t0_1 t0_2 t1_0 t1_1 t2_0 t3_0 t3_1 t4_0 t5_0 t5_1 t6_0 t7_0 t7_1 t8_0).2.2.2.2.2.2.2.1 (F_Flo_prepare A B C x2 t0_0 t0_1 t0_2 t1_0 t1_1 t2_0 t3_0 t3_1 t4_0 t5_0 t5_1 t6_0 t7_0 t7_1 t8_0).2.2.2.2.2.2.2.2.1 (u : Int) ∧ bO 220 (F_Flo_prepare A B C x2 t0_0 t0_1 t0_2 t1_0 t1_1 t2_0 t3_0 t3_1 t4_0 t5_0 t5_1 t6_0 t7_0 t7_1 t8_0).2.2.2.2.2.2.2.2.2.1 (F_Flo_prepare A B C x2 t0_0 t0_1 t0_2 t1_0 t1_1 t2_0 t3_0 t3_1 t4_0 t5_0 t5_1 t6_0 t7_0 t7_1 t8_0).2.2.2.2.2.2.2.2.2.2.1 (F_Flo_prepare A B C x2 t0_0 t0_1 t0_2 t1_0 t1_1 t2_0 t3_0 t3_1 t4_0 t5_0 t5_1 t6_0 t7_0 t7_1 t8_0).2.2.2.2.2.2.2.2.2.2.2.1 (b : Int) ∧ bO 220 (F_Flo_prepare A B C x2 t0_0 t0_1 t0_2 t1_0 t1_1 t2_0 t3_0 t3_1 t4_0 t5_0 t5_1 t6_0 t7_0 t7_1 t8_0).2.2.2.2.2.2.2.2.2.2.2.2.1 (F_Flo_prepare A B C x2 t0_0 t0_1 t0_2 t1_0 t1_1 t2_0 t3_0 t3_1 t4_0 t5_0 t5_1 t6_0 t7_0 t7_1 t8_0).2.2.2.2.2.2.2.2.2.2.2.2.2.1 (F_Flo_prepare A B C x2 t0_0 t0_1 t0_2 t1_0 t1_1 t2_0 t3_0 t3_1 t4_0 t5_0 t5_1 t6_0 t7_0 t7_1 t8_0).2.2.2.2.2.2.2.2.2.2.2.2.2.2 (c : Int) ∧ yPrp (yNx P T (yu x2)) Z (yFx P (yu x2) = 0 ∧ 1 < yEx P T (yu x2)) e a u b c ∧ a < u ∧ u ≤ 10 * a := by
  have e1 : (1 : Int32).toInt = 1 := rfl
  have e2 : (2 : Int32).toInt = 2 := rfl
  have nl := yNx_lt hF (u := yu x2)
  have num := y_num hF (x := x2)
  have pw := y_pow hF (x := x2)
  have ex := y_exp hF (x := x2)
  have fr := y_fra hF (x := x2)
  have pb : -1074 ≤ yPx l (yEx P T (yu x2)) ∧ yPx l (yEx P T (yu x2)) ≤ 971 ∧ (P = 23 → yPx l (yEx P T (yu x2)) ≤ 104) := by
    unfold yPx
    rcases hF with ⟨_, _, _, rfl, rfl, rfl⟩ | ⟨_, _, _, rfl, rfl, rfl⟩
    · refine ⟨by omega, by omega, fun h => absurd h (by decide)⟩
    · refine ⟨by omega, by omega, fun _ => by omega⟩
  generalize hp : yPx l (yEx P T (yu x2)) = p at hZ pw pb
  generalize hn : yNx P T (yu x2) = n at h0 num nl ⊢
  unfold F_Flo_prepare
  have sl := W_setLong (R := 220) (x := F_Flo_number A B C x2) (s := t1_0) (neg := t1_1) (f := t2_0) (by decide) (by decide)
  rw [num] at sl
  generalize F_Flo_power A B C x2 = a39 at pw ⊢
  revert sl
  generalize F_Big_setLong 220 (F_Flo_number A B C x2) t1_0 t1_1 t2_0 = p64
  intro sl
  unfold F_Flo_prepare_c31
  obtain ⟨bl, b1, b2, b3, b4⟩ := W_blen sl
  rw [Int.natAbs_natCast] at b3 b4
  obtain ⟨b5, b6⟩ := b4 (by omega)
  have bl53 : bl ≤ 53 := by
    rcases Nat.lt_or_ge 53 bl with q | q
    · have : 2 ^ 53 ≤ 2 ^ (bl - 1) := Nat.pow_le_pow_right (by decide) (by omega)
      have e53 : (2 : Nat) ^ 53 = 9007199254740992 := rfl
      rw [e53] at this
      exact absurd (Nat.le_trans this b6) (Nat.not_le.mpr nl.1)
    · exact q
  have s1 := q_subI b1 e1 (by omega) (by omega)
  have s2 := q_addI s1 pw (by omega) (by omega)
  have xr : -1074 ≤ (bl : Int) - 1 + p ∧ (bl : Int) - 1 + p ≤ 1023 := by omega
  have est : ((F_jMath_floorDiv_JJJ ((((F_Big_bitLength 220 p64.1 p64.2.1 p64.2.2) - 1) + a39).toInt64 * 301029995) 1000000000).toInt32).toInt = ((bl : Int) - 1 + p) * 301029995 / 1000000000 := by
    have eC : (301029995 : Int64).toInt = 301029995 := rfl
    have m := q_mulL (q_i2l s2) eC (by omega) (by omega)
    have f := y_fdL (x := (((F_Big_bitLength 220 p64.1 p64.2.1 p64.2.2) - 1) + a39).toInt64 * 301029995) (by rw [m]; omega) (by rw [m]; omega)
    rw [m] at f
    rw [s_l2i (by rw [f]; omega) (by rw [f]; omega), f]
  revert est
  generalize (F_jMath_floorDiv_JJJ ((((F_Big_bitLength 220 p64.1 p64.2.1 p64.2.2) - 1) + a39).toInt64 * 301029995) 1000000000).toInt32 = a99
  intro est
  have gl := y_gl (n := n) (p := p) b6 b3 b5 rfl xr.1 xr.2
  have er : -324 ≤ ((bl : Int) - 1 + p) * 301029995 / 1000000000 ∧ ((bl : Int) - 1 + p) * 301029995 / 1000000000 ≤ 308 := by omega
  generalize ((bl : Int) - 1 + p) * 301029995 / 1000000000 = e at est gl er
  have n2 : bB 2 (n : Int) := y_bBN (Nat.lt_trans nl.1 (by decide))
  have x1 := y_mx2 pw (by omega)
  have h1 := y_shlN sl x1.1 (by omega) (by have := sl.sB n2; omega)
  revert h1
  generalize F_Big_shiftLeft 220 (2 + (if 0 < a39 then a39 else 0)) p64.1 p64.2.1 p64.2.2 = p123
  intro h1
  unfold F_Flo_prepare_c68
  have sl1 := W_setLong (R := 220) (x := 1) (s := t3_0) (neg := t3_1) (f := t4_0) (by decide) (by decide)
  revert sl1
  generalize F_Big_setLong 220 1 t3_0 t3_1 t4_0 = p147
  intro sl1
  unfold F_Flo_prepare_c74
  have sl1' : bO 220 p147.1 p147.2.1 p147.2.2 ((1 : Nat) : Int) := sl1
  have ng := q_negI pw (by omega)
  have x2' := y_mx2 ng (by omega)
  have h2 := y_shlN sl1' x2'.1 (by omega) (by have := sl1'.sB (M := 1) (y_bBN (by decide)); omega)
  rw [Nat.one_mul] at h2
  revert h2
  generalize F_Big_shiftLeft 220 (2 + (if 0 < -a39 then -a39 else 0)) p147.1 p147.2.1 p147.2.2 = p180
  intro h2
  unfold F_Flo_prepare_c87
  have sl2 := W_setLong (R := 220) (x := 2) (s := t5_0) (neg := t5_1) (f := t6_0) (by decide) (by decide)
  revert sl2
  generalize F_Big_setLong 220 2 t5_0 t5_1 t6_0 = p204
  intro sl2
  unfold F_Flo_prepare_c100
  have sl2' : bO 220 p204.1 p204.2.1 p204.2.2 ((2 : Nat) : Int) := sl2
  have x3 := y_mx pw (by omega)
  have h3 := y_shlN sl2' x3.1 (by omega) (by have := sl2'.sB (M := 1) (y_bBN (by decide)); omega)
  revert h3
  generalize F_Big_shiftLeft 220 (if 0 < a39 then a39 else 0) p204.1 p204.2.1 p204.2.2 = p231
  intro h3
  unfold F_Flo_prepare_c115
  have e220 : (220 : Int32).toInt = 220 := rfl
  have cp := W_copy (R := 220) (R2 := 220) (s := t7_0) (neg := t7_1) (f := t8_0) h3 h3.2.2.2.1 (by decide)
  revert cp
  generalize F_Big_copy 220 220 t7_0 t7_1 t8_0 p231.1 p231.2.1 p231.2.2 = p255
  intro cp
  unfold F_Flo_prepare_c132
  have nq : ∀ qt : Prop, ¬ qt → (qt ∧ (2 : Nat) = 1) ∨ (¬ qt ∧ (2 : Nat) = 2) := fun qt q => Or.inr ⟨q, rfl⟩
  by_cases g1 : lg_cmp (F_Flo_fraction A B C x2) 0 = 0
  · rw [if_pos g1]
    have fz : yFx P (yu x2) = 0 := by
      have := g_lcz g1
      rw [fr] at this
      have z : (0 : Int64).toInt = 0 := rfl
      omega
    by_cases g2 : F_Flo_exponent A B C x2 ≤ 1
    · rw [if_pos g2]
      have g2 := q_leI g2
      exact V_pr166 hZ (by omega) est er (by omega) h1 h2 h3 cp (nq _ (fun q => by have := q.2; omega)) gl.1 gl.2
    · rw [if_neg g2]
      have g2 := q_nleI g2
      have sr := W_shrV (x := 1) cp
      have es : ((2 * 2 ^ p.toNat : Nat) : Int).tdiv (2 ^ (1 : Int32).toNatClampNeg) = ((1 * 2 ^ p.toNat : Nat) : Int) := by
        show ((2 * 2 ^ p.toNat : Nat) : Int).tdiv (2 ^ 1) = _
        rw [Int.natCast_mul, Nat.one_mul]
        exact Int.mul_tdiv_cancel_left _ (by decide)
      rw [es] at sr
      revert sr
      generalize F_Big_shiftRight 220 1 p255.1 p255.2.1 p255.2.2 = p500
      intro sr
      unfold F_Flo_prepare_c162
      exact V_pr166 hZ (by omega) est er (by omega) h1 h2 h3 sr (Or.inl ⟨⟨fz, by omega⟩, rfl⟩) gl.1 gl.2
  · rw [if_neg g1]
    have fz : ¬ yFx P (yu x2) = 0 := fun q => g1 (y_lcE.mpr (by rw [fr, q]; rfl))
    exact V_pr166 hZ (by omega) est er (by omega) h1 h2 h3 cp (nq _ (fun q => fz q.1)) gl.1 gl.2
