/-! values, for whole: the reference's floats written: print, whole -/
/-- the text of a float, its figures the fewest -/
def yFtxt (P T : Nat) (l : Int) (w : Nat) (t : List Nat) : Prop := (yEx P T w = T ∧ yFx P w ≠ 0 ∧ t = [78, 97, 78]) ∨ (yEx P T w = T ∧ yFx P w = 0 ∧ t = yMin (ySx P T w = 1) ++ [73, 110, 102, 105, 110, 105, 116, 121]) ∨ (yEx P T w ≠ T ∧ yNx P T w = 0 ∧ t = yMin (ySx P T w = 1) ++ [48, 46, 48]) ∨ (yEx P T w ≠ T ∧ yNx P T w ≠ 0 ∧ ∃ S q c : Nat, yFsh P T l w S q ∧ S < 1000000000000000000 ∧ q ≤ 3000 ∧ yDt S c ∧ t = yMin (ySx P T w = 1) ++ yStx S ((q : Int) - 1080) c)
theorem V_FRbeg {t0_0 : Int32} {t0_1 : Int32} {t0_2 : Int32} {t0_3 : Int32} {t0_4 : Int64} {t0_5 : Int32} {t0_6 : Int32} {t0_7 : Int64} {t0_8 : Int32} {t0_9 : Int64} {t0_10 : Int32} {t1_0 : (Nat → Int32)}  : yRt (F_FR_begin t0_0 t0_1 t0_2 t0_3 t0_4 t0_5 t0_6 t0_7 t0_8 t0_9 t0_10 t1_0).2.1 (F_FR_begin t0_0 t0_1 t0_2 t0_3 t0_4 t0_5 t0_6 t0_7 t0_8 t0_9 t0_10 t1_0).2.2.2.2.2.2.2.2.2.2.2 (yMin (¬ t0_2 = 0)) ∧ (F_FR_begin t0_0 t0_1 t0_2 t0_3 t0_4 t0_5 t0_6 t0_7 t0_8 t0_9 t0_10 t1_0).1 = t0_0 ∧ (F_FR_begin t0_0 t0_1 t0_2 t0_3 t0_4 t0_5 t0_6 t0_7 t0_8 t0_9 t0_10 t1_0).2.2.1 = t0_2 ∧ (F_FR_begin t0_0 t0_1 t0_2 t0_3 t0_4 t0_5 t0_6 t0_7 t0_8 t0_9 t0_10 t1_0).2.2.2.1 = t0_3 ∧ (F_FR_begin t0_0 t0_1 t0_2 t0_3 t0_4 t0_5 t0_6 t0_7 t0_8 t0_9 t0_10 t1_0).2.2.2.2.1 = t0_4 ∧ (F_FR_begin t0_0 t0_1 t0_2 t0_3 t0_4 t0_5 t0_6 t0_7 t0_8 t0_9 t0_10 t1_0).2.2.2.2.2.1 = t0_5 ∧ (F_FR_begin t0_0 t0_1 t0_2 t0_3 t0_4 t0_5 t0_6 t0_7 t0_8 t0_9 t0_10 t1_0).2.2.2.2.2.2.1 = t0_6 ∧ (F_FR_begin t0_0 t0_1 t0_2 t0_3 t0_4 t0_5 t0_6 t0_7 t0_8 t0_9 t0_10 t1_0).2.2.2.2.2.2.2.1 = t0_7 ∧ (F_FR_begin t0_0 t0_1 t0_2 t0_3 t0_4 t0_5 t0_6 t0_7 t0_8 t0_9 t0_10 t1_0).2.2.2.2.2.2.2.2.1 = t0_8 ∧ (F_FR_begin t0_0 t0_1 t0_2 t0_3 t0_4 t0_5 t0_6 t0_7 t0_8 t0_9 t0_10 t1_0).2.2.2.2.2.2.2.2.2.1 = t0_9 ∧ (F_FR_begin t0_0 t0_1 t0_2 t0_3 t0_4 t0_5 t0_6 t0_7 t0_8 t0_9 t0_10 t1_0).2.2.2.2.2.2.2.2.2.2.1 = t0_10 := by
  unfold F_FR_begin yMin
  by_cases z : t0_2 = 0
  · rw [if_pos z, if_neg (fun q => q z)]
    exact ⟨yRt_0, rfl, rfl, rfl, rfl, rfl, rfl, rfl, rfl, rfl, rfl⟩
  · rw [if_neg z, if_pos z]
    have w := V_rt (x := 45) (v := 45) (yRt_0 (t := t1_0)) (by decide) rfl
    unfold F_FR_add F_FR_begin_c15
    exact ⟨w, rfl, rfl, rfl, rfl, rfl, rfl, rfl, rfl, rfl, rfl⟩
def yInfL : List Nat := [73, 110, 102, 105, 110, 105, 116, 121]
theorem y_infC {x : Int32} {k : Nat} (h : x.toInt = (k : Int)) (hk : k < 8) : ((((8751735898823355977 : Int64) >>> ((8 * x : Int32).toInt64 &&& 63)) &&& 255).toInt32).toInt = ((yInfL.getD k 0 : Nat) : Int) ∧ yInfL.drop k = yInfL.getD k 0 :: yInfL.drop (k + 1) := by
  rw [y_asr h hk]
  have key : ∀ k : Nat, k < 8 → ((yBy8 8751735898823355977 k : Nat) : Int) = ((yInfL.getD k 0 : Nat) : Int) ∧ yInfL.drop k = yInfL.getD k 0 :: yInfL.drop (k + 1) := by decide +kernel
  exact key k hk
theorem V_nmL {t0_0 : Int32} {t0_1 : Int32} {t0_2 : Int32} {t0_3 : Int32} {t0_4 : Int64} {t0_5 : Int32} {t0_6 : Int32} {t0_7 : Int64} {t0_8 : Int32} {t0_9 : Int64} {t0_10 : Int32} {t1_0 : (Nat → Int32)} {p65 : (Int32 × Int32 × Int32 × Int32 × Int64 × Int32 × Int32 × Int64 × Int32 × Int64 × Int32 × (Nat → Int32))}  : ∀ (n : Nat) (lx85 : Int32) (lx86 : Int32) (lx87 : Int32) (lx88 : Int32) (lx89 : Int32) (lx90 : Int64) (lx91 : Int32) (lx92 : Int32) (lx93 : Int64) (lx94 : Int32) (lx95 : Int64) (lx96 : Int32) (lx97 : (Nat → Int32)), ∀ (k : Nat) (l : List Nat), lx85.toInt = (k : Int) → k ≤ 8 → 8 < n + k → yRt lx87 lx97 l → l.length ≤ 1 + k → yRt (F_FR_name_L43 t0_0 t0_1 t0_2 t0_3 t0_4 t0_5 t0_6 t0_7 t0_8 t0_9 t0_10 t1_0 p65 n lx85 lx86 lx87 lx88 lx89 lx90 lx91 lx92 lx93 lx94 lx95 lx96 lx97).2.1 (F_FR_name_L43 t0_0 t0_1 t0_2 t0_3 t0_4 t0_5 t0_6 t0_7 t0_8 t0_9 t0_10 t1_0 p65 n lx85 lx86 lx87 lx88 lx89 lx90 lx91 lx92 lx93 lx94 lx95 lx96 lx97).2.2.2.2.2.2.2.2.2.2.2 (l ++ yInfL.drop k) := by
  have e1 : (1 : Int32).toInt = 1 := rfl
  have e8 : (8 : Int32).toInt = 8 := rfl
  intro n
  induction n with
  | zero =>
    intro lx85 lx86 lx87 lx88 lx89 lx90 lx91 lx92 lx93 lx94 lx95 lx96 lx97 k l g1 g2 g3
    omega
  | succ n ih =>
    intro lx85 lx86 lx87 lx88 lx89 lx90 lx91 lx92 lx93 lx94 lx95 lx96 lx97 k l g1 g2 g3 g4 g5
    rw [F_FR_name_L43.eq_2]
    by_cases c : (8 : Int32) ≤ lx85
    · rw [if_pos c]
      have c := q_leI c
      obtain rfl : k = 8 := by omega
      show yRt lx87 lx97 (l ++ [])
      rw [List.append_nil]
      exact g4
    · rw [if_neg c]
      have c := q_nleI c
      obtain ⟨c1, c2⟩ := y_infC g1 (by omega)
      have w := V_rt g4 (by omega) c1
      unfold F_FR_add F_FR_name_c61
      have r := ih (lx85 + 1) lx86 (lx87 + 1) lx88 lx89 lx90 lx91 lx92 lx93 lx94 lx95 lx96 _ (k + 1) _ (q_addI g1 e1 (by omega) (by omega)) (by omega) (by omega) w (by rw [List.length_append, List.length_singleton]; omega)
      rw [c2]
      rw [List.append_assoc] at r
      exact r
theorem V_FRname {t0_0 : Int32} {t0_1 : Int32} {t0_2 : Int32} {t0_3 : Int32} {t0_4 : Int64} {t0_5 : Int32} {t0_6 : Int32} {t0_7 : Int64} {t0_8 : Int32} {t0_9 : Int64} {t0_10 : Int32} {t1_0 : (Nat → Int32)} {F' : Nat} (h4 : t0_4.toInt = (F' : Int)) : yRt (F_FR_name t0_0 t0_1 t0_2 t0_3 t0_4 t0_5 t0_6 t0_7 t0_8 t0_9 t0_10 t1_0).2.1 (F_FR_name t0_0 t0_1 t0_2 t0_3 t0_4 t0_5 t0_6 t0_7 t0_8 t0_9 t0_10 t1_0).2.2.2.2.2.2.2.2.2.2.2 (if F' = 0 then yMin (¬ t0_2 = 0) ++ yInfL else [78, 97, 78]) := by
  have e0 : (0 : Int64).toInt = 0 := rfl
  unfold F_FR_name
  by_cases z : lg_cmp t0_4 0 = 0
  · rw [if_pos z]
    have z := g_lcz z
    rw [if_pos (by omega)]
    have b := (V_FRbeg (t0_0 := t0_0) (t0_1 := 0) (t0_2 := t0_2) (t0_3 := t0_3) (t0_4 := t0_4) (t0_5 := t0_5) (t0_6 := t0_6) (t0_7 := t0_7) (t0_8 := t0_8) (t0_9 := t0_9) (t0_10 := t0_10) (t1_0 := t1_0)).1
    have ml := yMin_l (a := ¬ t0_2 = 0)
    revert b
    generalize F_FR_begin t0_0 0 t0_2 t0_3 t0_4 t0_5 t0_6 t0_7 t0_8 t0_9 t0_10 t1_0 = p
    intro b
    unfold F_FR_name_c34
    exact V_nmL ((8 - (0 : Int32).toInt).toNat + 1) 0 p.1 p.2.1 p.2.2.1 p.2.2.2.1 p.2.2.2.2.1 p.2.2.2.2.2.1 p.2.2.2.2.2.2.1 p.2.2.2.2.2.2.2.1 p.2.2.2.2.2.2.2.2.1 p.2.2.2.2.2.2.2.2.2.1 p.2.2.2.2.2.2.2.2.2.2.1 p.2.2.2.2.2.2.2.2.2.2.2 0 _ rfl (by omega) (by decide) b (by omega)
  · rw [if_neg z]
    have nz : ¬ F' = 0 := fun q => z (y_lcE.mpr (by rw [h4, q]; rfl))
    rw [if_neg nz]
    have w1 := V_rt (x := 78) (v := 78) (yRt_0 (t := t1_0)) (by decide) rfl
    have w2 := V_rt (x := 97) (v := 97) w1 (by decide) rfl
    have w3 := V_rt (x := 78) (v := 78) w2 (by decide) rfl
    unfold F_FR_add F_FR_name_c17 F_FR_add F_FR_name_c23 F_FR_add F_FR_name_c29
    exact w3
theorem yDt_ex (N : Nat) : ∃ c, yDt N c := by
  have key : ∀ k, N < 10 ^ k → ∃ c, yDt N c := by
    intro k
    induction k with
    | zero =>
      intro h
      exact ⟨0, h, fun q => absurd rfl q⟩
    | succ k ih =>
      intro h
      rcases Nat.lt_or_ge N (10 ^ k) with q | q
      · exact ih q
      · exact ⟨k + 1, h, fun _ w => absurd w (Nat.not_lt.mpr q)⟩
  exact key N (Nat.lt_of_lt_of_le (Nat.lt_pow_self (by decide : 1 < 10)) (Nat.le_refl _))
theorem V_p49 {x2 : Int64} {x3 : Int32} {t0_0 : Int32} {t0_1 : Int32} {t0_2 : Int32} {t0_3 : Int32} {t0_4 : Int64} {t0_5 : Int32} {t0_6 : Int32} {t0_7 : Int64} {t0_8 : Int32} {t0_9 : Int64} {t0_10 : Int32} {t1_0 : (Nat → Int32)} {t2_0 : (Nat → Int32)} {t3_0 : (Nat → Int32)} {t4_0 : (Nat → Int32)} {t5_0 : (Nat → Int32)} {t6_0 : (Nat → Int32)} {t7_0 : (Nat → Int32)} {lx42 : Int32} {p100 : (Int32 × Int32 × Int32 × Int32 × Int64 × Int32 × Int32 × Int64 × Int32 × Int64 × Int32)} {p168 : (Int32 × Int32 × Int32 × Int32 × Int64 × Int32 × Int32 × Int64 × Int32 × Int64 × Int32 × (Nat → Int32))} {P T w : Nat} {l0 : Int} {k : Int32} {l : List Nat} (hk : yG k P T l0) (hf : yEx P T w ≠ T) (h3 : p168.2.2.2.1.toInt = ((yEx P T w : Nat) : Int)) (h4 : p168.2.2.2.2.1.toInt = ((yFx P w : Nat) : Int)) (h7 : p168.2.2.2.2.2.2.2.1.toInt = ((yNx P T w : Nat) : Int)) (h8 : p168.2.2.2.2.2.2.2.2.1.toInt = yPx l0 (yEx P T w)) (hr : yRt p168.2.1 p168.2.2.2.2.2.2.2.2.2.2.2 l) (hl : l.length ≤ 1) : (yNx P T w = 0 ∧ yRt (F_FR_print_c49 x2 x3 t0_0 t0_1 t0_2 t0_3 t0_4 t0_5 t0_6 t0_7 t0_8 t0_9 t0_10 t1_0 t2_0 t3_0 t4_0 t5_0 t6_0 t7_0 lx42 p100 p168).1 (F_FR_print_c49 x2 x3 t0_0 t0_1 t0_2 t0_3 t0_4 t0_5 t0_6 t0_7 t0_8 t0_9 t0_10 t1_0 t2_0 t3_0 t4_0 t5_0 t6_0 t7_0 lx42 p100 p168).2.2.2.2.2.2.2.2.2.2.2.2.2.2.2.2.2.2 (l ++ [48, 46, 48])) ∨ (yNx P T w ≠ 0 ∧ ∃ S q c : Nat, yFsh P T l0 w S q ∧ S < 1000000000000000000 ∧ q ≤ 3000 ∧ yDt S c ∧ yRt (F_FR_print_c49 x2 x3 t0_0 t0_1 t0_2 t0_3 t0_4 t0_5 t0_6 t0_7 t0_8 t0_9 t0_10 t1_0 t2_0 t3_0 t4_0 t5_0 t6_0 t7_0 lx42 p100 p168).1 (F_FR_print_c49 x2 x3 t0_0 t0_1 t0_2 t0_3 t0_4 t0_5 t0_6 t0_7 t0_8 t0_9 t0_10 t1_0 t2_0 t3_0 t4_0 t5_0 t6_0 t7_0 lx42 p100 p168).2.2.2.2.2.2.2.2.2.2.2.2.2.2.2.2.2.2 (l ++ yStx S ((q : Int) - 1080) c)) := by
  have e0L : (0 : Int64).toInt = 0 := rfl
  have e7 : (7 : Int32).toInt = 7 := rfl
  have em3 : (-3 : Int32).toInt = -3 := rfl
  have eB : (1080 : Int32).toInt = 1080 := rfl
  obtain ⟨A, B, C, hF⟩ := yG_F hk
  have nl := yNx_lt hF (u := w)
  have pb := yPx_b hk hf
  unfold F_FR_print_c49
  by_cases z : lg_cmp p168.2.2.2.2.2.2.2.1 0 = 0
  · rw [if_pos z]
    have z := g_lcz z
    rw [h7, e0L] at z
    refine Or.inl ⟨by omega, ?_⟩
    have w1 := V_rt (x := 48) (v := 48) hr (by omega) rfl
    have w2 := V_rt (x := 46) (v := 46) w1 (by rw [List.length_append, List.length_singleton]; omega) rfl
    have w3 := V_rt (x := 48) (v := 48) w2 (by rw [List.length_append, List.length_append, List.length_singleton, List.length_singleton]; omega) rfl
    unfold F_FR_add F_FR_print_c64 F_FR_add F_FR_print_c70 F_FR_add F_FR_print_c76
    rw [List.append_assoc, List.append_assoc] at w3
    exact w3
  · rw [if_neg z]
    have nz : yNx P T w ≠ 0 := fun q => z (y_lcE.mpr (by rw [h7, q]; rfl))
    refine Or.inr ⟨nz, ?_⟩
    have fd := V_FRfind2 (t0_0 := p168.1) (t0_1 := p168.2.1) (t0_2 := p168.2.2.1) (t0_3 := p168.2.2.2.1) (t0_4 := p168.2.2.2.2.1) (t0_5 := p168.2.2.2.2.2.1) (t0_6 := p168.2.2.2.2.2.2.1) (t0_7 := p168.2.2.2.2.2.2.2.1) (t0_8 := p168.2.2.2.2.2.2.2.2.1) (t0_9 := p168.2.2.2.2.2.2.2.2.2.1) (t0_10 := p168.2.2.2.2.2.2.2.2.2.2.1) (t1_0 := t1_0) (t2_0 := t2_0) (t3_0 := t3_0) (t4_0 := t4_0) (t5_0 := t5_0) (t6_0 := t6_0) h7 ⟨by omega, nl.1⟩ nl.2 h8 pb h3 h4
    have tb := (T_FR_findShortest (t0_0 := p168.1) (t0_1 := p168.2.1) (t0_2 := p168.2.2.1) (t0_3 := p168.2.2.2.1) (t0_4 := p168.2.2.2.2.1) (t0_5 := p168.2.2.2.2.2.1) (t0_6 := p168.2.2.2.2.2.2.1) (t0_7 := p168.2.2.2.2.2.2.2.1) (t0_8 := p168.2.2.2.2.2.2.2.2.1) (t0_9 := p168.2.2.2.2.2.2.2.2.2.1) (t0_10 := p168.2.2.2.2.2.2.2.2.2.2.1) (t1_0 := t1_0) (t2_0 := t2_0) (t3_0 := t3_0) (t4_0 := t4_0) (t5_0 := t5_0) (t6_0 := t6_0) (by omega) (by omega)).2
    revert fd tb
    generalize F_FR_findShortest p168.1 p168.2.1 p168.2.2.1 p168.2.2.2.1 p168.2.2.2.2.1 p168.2.2.2.2.2.1 p168.2.2.2.2.2.2.1 p168.2.2.2.2.2.2.2.1 p168.2.2.2.2.2.2.2.2.1 p168.2.2.2.2.2.2.2.2.2.1 p168.2.2.2.2.2.2.2.2.2.2.1 t1_0 t2_0 t3_0 t4_0 t5_0 t6_0 = p239
    intro fd tb
    obtain ⟨S, q, Z, j, f1, f2, f3, f4, f5, f6, f7⟩ := fd
    obtain ⟨b0, b1, b2, b3, b4, b5, b6, b7, b8, b9, b10, bw, bz⟩ := tb
    have jq : q ≤ 1500 := by omega
    have Sm : S % 10 ≠ 0 := by
      obtain ⟨_, _, _, _, _, _, _, _, _, _, s6, _⟩ := f1
      exact s6
    have S18 : S < 1000000000000000000 := by omega
    obtain ⟨c, hc⟩ : ∃ c, yDt S c := yDt_ex S
    have c1 : 1 ≤ c := by
      rcases Nat.eq_zero_or_pos c with k | k
      · have := hc.1
        rw [k] at this
        unfold yLt10 at this
        rw [Nat.pow_zero] at this
        omega
      · exact k
    have c18 : c ≤ 18 := by
      rcases Nat.lt_or_ge 18 c with g | g
      · have := (y_ge10 (i := 18) hc).mpr g
        have e : (10 : Nat) ^ 18 = 1000000000000000000 := rfl
        rw [e] at this
        omega
      · exact g
    have tg := y_tpg f1 hc c1 f4 f5 f6
    have ts := y_tps hk (by omega) f1 hc c1 f4 f5 f6
    have j20 : 20 ≤ j := by
      have := f7 0 0 0 0 0 0 0 0 0 0 0
      have q2 := (T_FR_top (t0_0 := 0) (t0_1 := 0) (t0_2 := 0) (t0_3 := 0) (t0_4 := 0) (t0_5 := 0) (t0_6 := 0) (t0_7 := 0) (t0_8 := 0) (t0_9 := 0) (t0_10 := 0) bw bz).2
      have := q2.1.1
      omega
    refine ⟨S, q, c, f1, S18, by omega, hc, ?_⟩
    unfold F_FR_print_c85
    have tp := V_FRtop (t0_0 := p239.1) (t0_1 := p239.2.1) (t0_2 := p239.2.2.1) (t0_3 := p239.2.2.2.1) (t0_4 := p239.2.2.2.2.1) (t0_5 := p239.2.2.2.2.2.1) (t0_6 := p239.2.2.2.2.2.2.1) (t0_7 := p239.2.2.2.2.2.2.2.1) (t0_8 := p239.2.2.2.2.2.2.2.2.1) (t0_9 := p239.2.2.2.2.2.2.2.2.2.1) (t0_10 := p239.2.2.2.2.2.2.2.2.2.2.1) hc c1 (by omega) f2 f3 (by omega)
    have la := q_subI f3 eB (by omega) (by omega)
    have be7 : F_FR_isBelow 7 p239.1 p239.2.1 p239.2.2.1 p239.2.2.2.1 p239.2.2.2.2.1 p239.2.2.2.2.2.1 p239.2.2.2.2.2.2.1 p239.2.2.2.2.2.2.2.1 p239.2.2.2.2.2.2.2.2.1 p239.2.2.2.2.2.2.2.2.2.1 p239.2.2.2.2.2.2.2.2.2.2.1 p239.2.2.2.2.2.2.2.2.2.2.2.2.2.1 = (if j < 1087 then 1 else 0) := by
      unfold F_FR_isBelow
      have a := q_addI e7 eB (by omega) (by omega)
      by_cases g : j < 1087
      · rw [if_pos g, if_neg (fun q => by have := q_leI q; rw [f7] at this; omega)]
      · rw [if_neg g, if_pos (Int32.le_iff_toInt_le.mpr (by rw [f7]; omega))]
    have be3 : F_FR_isBelow (-3) p239.1 p239.2.1 p239.2.2.1 p239.2.2.2.1 p239.2.2.2.2.1 p239.2.2.2.2.2.1 p239.2.2.2.2.2.2.1 p239.2.2.2.2.2.2.2.1 p239.2.2.2.2.2.2.2.2.1 p239.2.2.2.2.2.2.2.2.2.1 p239.2.2.2.2.2.2.2.2.2.2.1 p239.2.2.2.2.2.2.2.2.2.2.2.2.2.1 = (if j < 1077 then 1 else 0) := by
      unfold F_FR_isBelow
      have a := q_addI em3 eB (by omega) (by omega)
      by_cases g : j < 1077
      · rw [if_pos g, if_neg (fun q => by have := q_leI q; rw [f7] at this; omega)]
      · rw [if_neg g, if_pos (Int32.le_iff_toInt_le.mpr (by rw [f7]; omega))]
    have hr' : yRt p239.2.1 p168.2.2.2.2.2.2.2.2.2.2.2 l := by
      rw [b1]
      exact hr
    by_cases g7 : j < 1087
    · rw [if_pos g7] at be7
      rw [if_neg (by rw [be7]; decide)]
      by_cases g3 : j < 1077
      · rw [if_pos g3] at be3
        rw [if_neg (by rw [be3]; decide)]
        unfold F_FR_print_J126
        exact V_p127 c1 c18 tp la S18 jq (by omega) (Or.inl ⟨rfl, by omega⟩) f2 f3 hr' hl
      · rw [if_neg g3] at be3
        rw [if_pos be3]
        exact V_p127 c1 c18 tp la S18 jq (by omega) (Or.inr ⟨rfl, by omega⟩) f2 f3 hr' hl
    · rw [if_neg g7] at be7
      rw [if_pos be7]
      unfold F_FR_print_J126
      exact V_p127 c1 c18 tp la S18 jq (by omega) (Or.inl ⟨rfl, by omega⟩) f2 f3 hr' hl
theorem V_FRpr {x2 : Int64} {x3 : Int32} {t0_0 : Int32} {t0_1 : Int32} {t0_2 : Int32} {t0_3 : Int32} {t0_4 : Int64} {t0_5 : Int32} {t0_6 : Int32} {t0_7 : Int64} {t0_8 : Int32} {t0_9 : Int64} {t0_10 : Int32} {t1_0 : (Nat → Int32)} {t2_0 : (Nat → Int32)} {t3_0 : (Nat → Int32)} {t4_0 : (Nat → Int32)} {t5_0 : (Nat → Int32)} {t6_0 : (Nat → Int32)} {t7_0 : (Nat → Int32)} {P T : Nat} {l0 : Int} (hk : yG x3 P T l0) (hb : yBit P T (yu x2)) : ∃ t, yFtxt P T l0 (yu x2) t ∧ yRt (F_FR_print x2 x3 t0_0 t0_1 t0_2 t0_3 t0_4 t0_5 t0_6 t0_7 t0_8 t0_9 t0_10 t1_0 t2_0 t3_0 t4_0 t5_0 t6_0 t7_0).1 (F_FR_print x2 x3 t0_0 t0_1 t0_2 t0_3 t0_4 t0_5 t0_6 t0_7 t0_8 t0_9 t0_10 t1_0 t2_0 t3_0 t4_0 t5_0 t6_0 t7_0).2.2.2.2.2.2.2.2.2.2.2.2.2.2.2.2.2.2 t := by
  unfold F_FR_print
  rw [if_pos (y_notW hk hb)]
  unfold F_FR_print_J14
  rw [if_pos (show (0 : Int32) ≤ 0 by decide)]
  have op := V_FR_open (x2 := x2) (x3 := x3) (t0_0 := 0) (t0_1 := t0_1) (t0_2 := t0_2) (t0_3 := t0_3) (t0_4 := t0_4) (t0_5 := t0_5) (t0_6 := t0_6) (t0_7 := t0_7) (t0_8 := t0_8) (t0_9 := t0_9) (t0_10 := t0_10) hk
  revert op
  generalize F_FR_open x2 x3 0 t0_1 t0_2 t0_3 t0_4 t0_5 t0_6 t0_7 t0_8 t0_9 t0_10 = p100
  intro op
  obtain ⟨o1, o2, o3, o4, o5, o6, o7, o8, o9, o10, o11⟩ := op
  have le := yEx_le (P := P) (T := T) (u := yu x2)
  have sg : yMin (¬ p100.2.2.1 = 0) = yMin (ySx P T (yu x2) = 1) := by
    refine yMin_c ?_
    rw [o3]
    by_cases s : ySx P T (yu x2) = 1
    · rw [if_pos s]
      exact ⟨fun _ => s, fun _ => by decide⟩
    · rw [if_neg s]
      exact ⟨fun q => absurd rfl q, fun q => absurd q s⟩
  unfold F_FR_print_c29
  by_cases f : yEx P T (yu x2) = T
  · have fi : F_FR_isFinite p100.1 p100.2.1 p100.2.2.1 p100.2.2.2.1 p100.2.2.2.2.1 p100.2.2.2.2.2.1 p100.2.2.2.2.2.2.1 p100.2.2.2.2.2.2.2.1 p100.2.2.2.2.2.2.2.2.1 p100.2.2.2.2.2.2.2.2.2.1 p100.2.2.2.2.2.2.2.2.2.2 = 0 := by
      unfold F_FR_isFinite
      rw [if_pos (Int32.le_iff_toInt_le.mpr (by omega))]
    rw [if_pos fi]
    have nmx := V_FRname (t0_0 := p100.1) (t0_1 := p100.2.1) (t0_2 := p100.2.2.1) (t0_3 := p100.2.2.2.1) (t0_4 := p100.2.2.2.2.1) (t0_5 := p100.2.2.2.2.2.1) (t0_6 := p100.2.2.2.2.2.2.1) (t0_7 := p100.2.2.2.2.2.2.2.1) (t0_8 := p100.2.2.2.2.2.2.2.2.1) (t0_9 := p100.2.2.2.2.2.2.2.2.2.1) (t0_10 := p100.2.2.2.2.2.2.2.2.2.2) (t1_0 := t7_0) o5
    rw [sg] at nmx
    revert nmx
    generalize F_FR_name p100.1 p100.2.1 p100.2.2.1 p100.2.2.2.1 p100.2.2.2.2.1 p100.2.2.2.2.2.1 p100.2.2.2.2.2.2.1 p100.2.2.2.2.2.2.2.1 p100.2.2.2.2.2.2.2.2.1 p100.2.2.2.2.2.2.2.2.2.1 p100.2.2.2.2.2.2.2.2.2.2 t7_0 = p
    intro nmx
    unfold F_FR_print_c40
    by_cases z : yFx P (yu x2) = 0
    · rw [if_pos z] at nmx
      exact ⟨_, Or.inr (Or.inl ⟨f, z, rfl⟩), nmx⟩
    · rw [if_neg z] at nmx
      exact ⟨_, Or.inl ⟨f, z, rfl⟩, nmx⟩
  · have fi : F_FR_isFinite p100.1 p100.2.1 p100.2.2.1 p100.2.2.2.1 p100.2.2.2.2.1 p100.2.2.2.2.2.1 p100.2.2.2.2.2.2.1 p100.2.2.2.2.2.2.2.1 p100.2.2.2.2.2.2.2.2.1 p100.2.2.2.2.2.2.2.2.2.1 p100.2.2.2.2.2.2.2.2.2.2 = 1 := by
      unfold F_FR_isFinite
      rw [if_neg (fun q => by have := q_leI q; omega)]
    rw [if_neg (by rw [fi]; decide)]
    have bg := V_FRbeg (t0_0 := p100.1) (t0_1 := p100.2.1) (t0_2 := p100.2.2.1) (t0_3 := p100.2.2.2.1) (t0_4 := p100.2.2.2.2.1) (t0_5 := p100.2.2.2.2.2.1) (t0_6 := p100.2.2.2.2.2.2.1) (t0_7 := p100.2.2.2.2.2.2.2.1) (t0_8 := p100.2.2.2.2.2.2.2.2.1) (t0_9 := p100.2.2.2.2.2.2.2.2.2.1) (t0_10 := p100.2.2.2.2.2.2.2.2.2.2) (t1_0 := t7_0)
    rw [sg] at bg
    have ml := yMin_l (a := ySx P T (yu x2) = 1)
    revert bg
    generalize F_FR_begin p100.1 p100.2.1 p100.2.2.1 p100.2.2.2.1 p100.2.2.2.2.1 p100.2.2.2.2.2.1 p100.2.2.2.2.2.2.1 p100.2.2.2.2.2.2.2.1 p100.2.2.2.2.2.2.2.2.1 p100.2.2.2.2.2.2.2.2.2.1 p100.2.2.2.2.2.2.2.2.2.2 t7_0 = p168
    intro bg
    obtain ⟨g0, g1, g2, g3, g4, g5, g6, g7, g8, g9, g10⟩ := bg
    rcases V_p49 (x2 := x2) (x3 := x3) (t0_0 := t0_0) (t0_1 := t0_1) (t0_2 := t0_2) (t0_3 := t0_3) (t0_4 := t0_4) (t0_5 := t0_5) (t0_6 := t0_6) (t0_7 := t0_7) (t0_8 := t0_8) (t0_9 := t0_9) (t0_10 := t0_10) (t1_0 := t1_0) (t2_0 := t2_0) (t3_0 := t3_0) (t4_0 := t4_0) (t5_0 := t5_0) (t6_0 := t6_0) (t7_0 := t7_0) (lx42 := 0) (p100 := p100) (p168 := p168) hk f (by rw [g3]; exact o4) (by rw [g4]; exact o5) (by rw [g7]; exact o8) (by rw [g8]; exact o9) g0 ml with ⟨a, b⟩ | ⟨a, S, q, c, b1, b4, b5, b2, b3⟩
    · exact ⟨_, Or.inr (Or.inr (Or.inl ⟨f, a, rfl⟩)), b⟩
    · exact ⟨_, Or.inr (Or.inr (Or.inr ⟨f, a, S, q, c, b1, b4, b5, b2, rfl⟩)), b3⟩
