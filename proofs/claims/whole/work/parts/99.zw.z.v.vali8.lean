/-! values, for whole: the reference prints -/
theorem Z_runV {t0_0 : Int32} {t0_1 : Int32} {t0_2 : Int32} {t0_3 : Int32} {t0_4 : Int32} {t0_5 : Int32} {t0_6 : Int32} {t0_7 : Int32} {t0_8 : Int32} {t0_9 : Int32} {t0_10 : Int32} {t0_11 : Int32} {t0_12 : Int32} {t0_13 : Int32} {t0_14 : Int32} {t0_15 : Int32} {t0_16 : Int32} {t0_17 : Int32} {t0_18 : Int32} {t0_19 : Int32} {t0_20 : Int32} {t0_21 : Int32} {t1_0 : (Nat → Int32)} {t2_0 : (Nat → Int32)} {t3_0 : (Nat → Int32)} {t4_0 : (Nat → Int64)} {t5_0 : (Nat → Int32)} {t6_0 : (Nat → Int32)} {t7_0 : (Nat → Int32)} {t8_0 : (Nat → Int32)} {L : Nat} {B : Nat → Int} {A : List yA} (hf : zFm t0_1 t1_0 L B) (hA : yRA t0_2 t2_0 t3_0 t4_0 t5_0 A) (hZ : ∀ i, i < 9 → 0 ≤ (t3_0 i).toInt ∧ (t3_0 i).toInt ≤ 64) : ∃ F pl o, zRun B L A (L + 1) 0 0 (-1) [] F pl o ∧ QZ_run (F_VR_run t0_0 t0_1 t0_2 t0_3 t0_4 t0_5 t0_6 t0_7 t0_8 t0_9 t0_10 t0_11 t0_12 t0_13 t0_14 t0_15 t0_16 t0_17 t0_18 t0_19 t0_20 t0_21 t1_0 t2_0 t3_0 t4_0 t5_0 t6_0 t7_0 t8_0) F pl o := by
  have h2 := hf.2.1
  unfold F_VR_run
  exact Z_rnL hf hA hZ 1000000 0 0 _ _ _ _ _ _ _ 0 (-1) _ _ _ _ _ _ _ 0 t6_0 (L + 1) 0 0 (-1) [] rfl rfl (Nat.zero_le _) rfl (Nat.le_refl _) rfl yRt_0 (by decide) (by omega) (by omega)
theorem Z_prL {t0_0 : Int32} {t0_1 : Int32} {t0_2 : Int32} {t0_3 : Int32} {t0_4 : Int32} {t0_5 : Int32} {t0_6 : Int32} {t0_7 : Int32} {t0_8 : Int32} {t0_9 : Int32} {t0_10 : Int32} {t0_11 : Int32} {t0_12 : Int32} {t0_13 : Int32} {t0_14 : Int32} {t0_15 : Int32} {t0_16 : Int32} {t0_17 : Int32} {t0_18 : Int32} {t0_19 : Int32} {t0_20 : Int32} {t0_21 : Int32} {t1_0 : (Nat → Int32)} {t2_0 : (Nat → Int32)} {t3_0 : (Nat → Int32)} {t4_0 : (Nat → Int64)} {t5_0 : (Nat → Int32)} {t6_0 : (Nat → Int32)} {t7_0 : (Nat → Int32)} {t8_0 : (Nat → Int32)} {t9_0 : (Nat → Int32)} {p96 : (Int32 × Int32 × Int32 × Int32 × Int32 × Int32 × Int32 × Int32 × Int32 × Int32 × Int32 × Int32 × Int32 × Int32 × Int32 × Int32 × Int32 × Int32 × (Nat → Int32) × (Nat → Int32) × (Nat → Int32))} {y62 : Int32} {y63 : Int32} {a60 : Int32} {y64 : Int32} {y65 : Int32} {y66 : Int32} {y67 : Int32} {y68 : Int32} {y69 : Int32} {y70 : Int32} {y71 : Int32} {y72 : Int32} {y73 : Int32} {y74 : Int32} {y75 : Int32} {y76 : Int32} {y77 : Int32} {y78 : Int32} {f79 : (Nat → Int32)} {f81 : (Nat → Int32)} {f83 : (Nat → Int32)} {lx126 : Int32} {o : List Nat} (h : yRt y62 f79 o) (ho : o.length ≤ 4096) : ∀ (n : Nat) (lx151 : Int32) (lx152 : (Nat → Int32)), ∀ a : Nat, lx151.toInt = (a : Int) → a ≤ o.length → o.length < n + a → (∀ i, i < a → (lx152 i).toInt = ((o.getD i 0 : Nat) : Int)) → (F_VR_print_L43 t0_0 t0_1 t0_2 t0_3 t0_4 t0_5 t0_6 t0_7 t0_8 t0_9 t0_10 t0_11 t0_12 t0_13 t0_14 t0_15 t0_16 t0_17 t0_18 t0_19 t0_20 t0_21 t1_0 t2_0 t3_0 t4_0 t5_0 t6_0 t7_0 t8_0 t9_0 p96 y62 y63 a60 y64 y65 y66 y67 y68 y69 y70 y71 y72 y73 y74 y75 y76 y77 y78 f79 f81 f83 lx126 n lx151 lx152).1 = lx126 ∧ ∀ i, i < o.length → ((F_VR_print_L43 t0_0 t0_1 t0_2 t0_3 t0_4 t0_5 t0_6 t0_7 t0_8 t0_9 t0_10 t0_11 t0_12 t0_13 t0_14 t0_15 t0_16 t0_17 t0_18 t0_19 t0_20 t0_21 t1_0 t2_0 t3_0 t4_0 t5_0 t6_0 t7_0 t8_0 t9_0 p96 y62 y63 a60 y64 y65 y66 y67 y68 y69 y70 y71 y72 y73 y74 y75 y76 y77 y78 f79 f81 f83 lx126 n lx151 lx152).2.2.2.2.2.2.2.2.2.2.2.2.2.2.2.2.2.2.2.2.2.1 i).toInt = ((o.getD i 0 : Nat) : Int) := by
  have h0 := h.1
  intro n
  induction n with
  | zero =>
    intro _ _ a _ q1 q2
    omega
  | succ n ih =>
    intro lx151 lx152 a h1 h2 h3 h4
    unfold F_VR_print_L43
    by_cases d : y62 ≤ lx151
    · rw [if_pos d]
      have d' := q_leI d
      exact ⟨rfl, fun i hi => h4 i (by omega)⟩
    · rw [if_neg d]
      have d' := q_nleI d
      have i1 : lx151.toNatClampNeg = a := by show lx151.toInt.toNat = _; omega
      rw [i1]
      refine ih _ _ (a + 1) (by rw [q_addI (y := 1) h1 rfl (by omega) (by omega)]; omega) (by omega) (by omega) (fun i hi => ?_)
      unfold upd
      by_cases e : i = a
      · rw [if_pos e, h.2 a (by omega), e]
      · rw [if_neg e]
        exact h4 i (by omega)
theorem Z_prn {t0_0 : Int32} {t0_1 : Int32} {t0_2 : Int32} {t0_3 : Int32} {t0_4 : Int32} {t0_5 : Int32} {t0_6 : Int32} {t0_7 : Int32} {t0_8 : Int32} {t0_9 : Int32} {t0_10 : Int32} {t0_11 : Int32} {t0_12 : Int32} {t0_13 : Int32} {t0_14 : Int32} {t0_15 : Int32} {t0_16 : Int32} {t0_17 : Int32} {t0_18 : Int32} {t0_19 : Int32} {t0_20 : Int32} {t0_21 : Int32} {t1_0 : (Nat → Int32)} {t2_0 : (Nat → Int32)} {t3_0 : (Nat → Int32)} {t4_0 : (Nat → Int64)} {t5_0 : (Nat → Int32)} {t6_0 : (Nat → Int32)} {t7_0 : (Nat → Int32)} {t8_0 : (Nat → Int32)} {t9_0 : (Nat → Int32)} {L : Nat} {B : Nat → Int} {A : List yA} (hf : zFm t0_1 t1_0 L B) (hA : yRA t0_2 t2_0 t3_0 t4_0 t5_0 A) (hZ : ∀ i, i < 9 → 0 ≤ (t3_0 i).toInt ∧ (t3_0 i).toInt ≤ 64) : ∃ F pl o, zRun B L A (L + 1) 0 0 (-1) [] F pl o ∧ (0 ≤ F ∧ F ≤ 12) ∧ (F = 0 → yRt (F_VR_print t0_0 t0_1 t0_2 t0_3 t0_4 t0_5 t0_6 t0_7 t0_8 t0_9 t0_10 t0_11 t0_12 t0_13 t0_14 t0_15 t0_16 t0_17 t0_18 t0_19 t0_20 t0_21 t1_0 t2_0 t3_0 t4_0 t5_0 t6_0 t7_0 t8_0 t9_0).1 (F_VR_print t0_0 t0_1 t0_2 t0_3 t0_4 t0_5 t0_6 t0_7 t0_8 t0_9 t0_10 t0_11 t0_12 t0_13 t0_14 t0_15 t0_16 t0_17 t0_18 t0_19 t0_20 t0_21 t1_0 t2_0 t3_0 t4_0 t5_0 t6_0 t7_0 t8_0 t9_0).2.2.2.2.2.2.2.2.2.2.2.2.2.2.2.2.2.2.2.2.2.1 o ∧ o.length ≤ 4096) ∧ (F ≠ 0 → (F_VR_print t0_0 t0_1 t0_2 t0_3 t0_4 t0_5 t0_6 t0_7 t0_8 t0_9 t0_10 t0_11 t0_12 t0_13 t0_14 t0_15 t0_16 t0_17 t0_18 t0_19 t0_20 t0_21 t1_0 t2_0 t3_0 t4_0 t5_0 t6_0 t7_0 t8_0 t9_0).1 = -1 ∧ (F_VR_print t0_0 t0_1 t0_2 t0_3 t0_4 t0_5 t0_6 t0_7 t0_8 t0_9 t0_10 t0_11 t0_12 t0_13 t0_14 t0_15 t0_16 t0_17 t0_18 t0_19 t0_20 t0_21 t1_0 t2_0 t3_0 t4_0 t5_0 t6_0 t7_0 t8_0 t9_0).2.2.2.2.1.toInt = F ∧ (F_VR_print t0_0 t0_1 t0_2 t0_3 t0_4 t0_5 t0_6 t0_7 t0_8 t0_9 t0_10 t0_11 t0_12 t0_13 t0_14 t0_15 t0_16 t0_17 t0_18 t0_19 t0_20 t0_21 t1_0 t2_0 t3_0 t4_0 t5_0 t6_0 t7_0 t8_0 t9_0).2.2.2.2.2.1.toInt = pl) := by
  have e0 : (0 : Int32).toInt = 0 := rfl
  unfold F_VR_print
  obtain ⟨F, pl, o, w1, w2, w3, w4, w5⟩ := Z_runV (t0_0 := 0) (t0_1 := t0_1) (t0_2 := t0_2) (t0_3 := t0_3) (t0_4 := t0_4) (t0_5 := t0_5) (t0_6 := t0_6) (t0_7 := t0_7) (t0_8 := t0_8) (t0_9 := t0_9) (t0_10 := t0_10) (t0_11 := t0_11) (t0_12 := t0_12) (t0_13 := t0_13) (t0_14 := t0_14) (t0_15 := t0_15) (t0_16 := t0_16) (t0_17 := t0_17) (t0_18 := t0_18) (t0_19 := t0_19) (t0_20 := t0_20) (t0_21 := t0_21) (t6_0 := t7_0) (t7_0 := t8_0) (t8_0 := t9_0) hf hA hZ
  revert w2 w4 w5
  generalize F_VR_run 0 t0_1 t0_2 t0_3 t0_4 t0_5 t0_6 t0_7 t0_8 t0_9 t0_10 t0_11 t0_12 t0_13 t0_14 t0_15 t0_16 t0_17 t0_18 t0_19 t0_20 t0_21 t1_0 t2_0 t3_0 t4_0 t5_0 t7_0 t8_0 t9_0 = q
  intro w2 w4 w5
  refine ⟨F, pl, o, w1, w3, ?_⟩
  unfold F_VR_print_c7
  by_cases c : q.2.2.1 ≤ 0
  · rw [if_pos c]
    have c' := q_leI c
    have f0 : F = 0 := by omega
    obtain ⟨r1, r2⟩ := w4 f0
    refine ⟨fun _ => ?_, fun w => absurd f0 w⟩
    unfold F_VR_print_J29
    rw [if_pos c]
    obtain ⟨s1, s2⟩ := Z_prL (t0_0 := t0_0) (t0_1 := t0_1) (t0_2 := t0_2) (t0_3 := t0_3) (t0_4 := t0_4) (t0_5 := t0_5) (t0_6 := t0_6) (t0_7 := t0_7) (t0_8 := t0_8) (t0_9 := t0_9) (t0_10 := t0_10) (t0_11 := t0_11) (t0_12 := t0_12) (t0_13 := t0_13) (t0_14 := t0_14) (t0_15 := t0_15) (t0_16 := t0_16) (t0_17 := t0_17) (t0_18 := t0_18) (t0_19 := t0_19) (t0_20 := t0_20) (t0_21 := t0_21) (t1_0 := t1_0) (t2_0 := t2_0) (t3_0 := t3_0) (t4_0 := t4_0) (t5_0 := t5_0) (t6_0 := t6_0) (t7_0 := t7_0) (t8_0 := t8_0) (t9_0 := t9_0) (p96 := q) (y62 := q.2.1) (y63 := q.2.2.1) (a60 := q.1) (y64 := q.2.2.2.1) (y65 := q.2.2.2.2.1) (y66 := q.2.2.2.2.2.1) (y67 := q.2.2.2.2.2.2.1) (y68 := q.2.2.2.2.2.2.2.1) (y69 := q.2.2.2.2.2.2.2.2.1) (y70 := q.2.2.2.2.2.2.2.2.2.1) (y71 := q.2.2.2.2.2.2.2.2.2.2.1) (y72 := q.2.2.2.2.2.2.2.2.2.2.2.1) (y73 := q.2.2.2.2.2.2.2.2.2.2.2.2.1) (y74 := q.2.2.2.2.2.2.2.2.2.2.2.2.2.1) (y75 := q.2.2.2.2.2.2.2.2.2.2.2.2.2.2.1) (y76 := q.2.2.2.2.2.2.2.2.2.2.2.2.2.2.2.1) (y77 := q.2.2.2.2.2.2.2.2.2.2.2.2.2.2.2.2.1) (y78 := q.2.2.2.2.2.2.2.2.2.2.2.2.2.2.2.2.2.1) (f79 := q.2.2.2.2.2.2.2.2.2.2.2.2.2.2.2.2.2.2.1) (f81 := q.2.2.2.2.2.2.2.2.2.2.2.2.2.2.2.2.2.2.2.1) (f83 := q.2.2.2.2.2.2.2.2.2.2.2.2.2.2.2.2.2.2.2.2) (lx126 := q.2.1) r1 r2 ((4096 - (0 : Int32).toInt).toNat + 1) 0 t6_0 0 rfl (Nat.zero_le _) (by rw [e0]; omega) (fun i hi => absurd hi (Nat.not_lt_zero _))
    exact ⟨⟨by rw [s1]; exact r1.1, s2⟩, r2⟩
  · rw [if_neg c]
    have c' := q_nleI c
    refine ⟨fun w => by omega, fun w => ?_⟩
    unfold F_VR_print_J29
    rw [if_neg c]
    exact ⟨rfl, w2, w5 w⟩
theorem zRun_p {B : Nat → Int} {L : Nat} {A : List yA} : ∀ {n p ord : Nat} {last : Int} {out : List Nat} {F pl : Int} {o : List Nat}, zRun B L A n p ord last out F pl o → F ≠ 0 → 0 ≤ pl ∧ pl < (L : Int) := by
  intro n
  induction n with
  | zero =>
    intro p ord last out F pl o h
    exact h.elim
  | succ n ih =>
    intro p ord last out F pl o h f
    unfold zRun at h
    rcases h with ⟨_, h2, _⟩ | ⟨h1, _, h3⟩ | ⟨h1, _, F1, wh, o1, l1, _, h3⟩
    · exact absurd h2 f
    · rcases h3 with ⟨_, _, h3⟩ | ⟨_, h3⟩
      · omega
      · exact ih h3 f
    · rcases h3 with ⟨_, _, h3⟩ | ⟨_, q, _, h3⟩
      · omega
      · rcases h3 with ⟨_, _, h3⟩ | ⟨_, h3⟩
        · omega
        · exact ih h3 f
theorem Z_NM_format {t0_0 : Int32} {t0_1 : Int32} {t0_2 : Int32} {t1_0 : Int32} {t1_1 : Int32} {t1_2 : Int32} {t1_3 : Int32} {t1_4 : Int32} {t1_5 : Int32} {t1_6 : Int32} {t1_7 : Int32} {t1_8 : Int32} {t1_9 : Int32} {t1_10 : Int32} {t1_11 : Int32} {t1_12 : Int32} {t1_13 : Int32} {t1_14 : Int32} {t1_15 : Int32} {t1_16 : Int32} {t1_17 : Int32} {t1_18 : Int32} {t1_19 : Int32} {t1_20 : Int32} {t1_21 : Int32} {t2_0 : (Nat → Int32)} {t3_0 : (Nat → Int32)} {t4_0 : (Nat → Int32)} {t5_0 : (Nat → Int64)} {t6_0 : (Nat → Int32)} {t7_0 : (Nat → Int32)} {t8_0 : (Nat → Int32)} {t9_0 : (Nat → Int32)} {t10_0 : (Nat → Int32)} {t11_0 : (Nat → Int32)} {t12_0 : (Nat → Int32)} {L : Nat} {B : Nat → Int} {A : List yA} (hL : t0_1.toInt = (L : Int)) (hL2 : L ≤ 4100) (hT : yTr t11_0 L B) (hB : ∀ i, i < L → 0 ≤ B i ∧ B i ≤ 255) (hA : yRA t1_2 t3_0 t4_0 t5_0 t6_0 A) (hZ : ∀ i, i < 9 → 0 ≤ (t4_0 i).toInt ∧ (t4_0 i).toInt ≤ 64) : (256 < L ∧ (F_NM_format t0_0 t0_1 t0_2 t1_0 t1_1 t1_2 t1_3 t1_4 t1_5 t1_6 t1_7 t1_8 t1_9 t1_10 t1_11 t1_12 t1_13 t1_14 t1_15 t1_16 t1_17 t1_18 t1_19 t1_20 t1_21 t2_0 t3_0 t4_0 t5_0 t6_0 t7_0 t8_0 t9_0 t10_0 t11_0 t12_0).1 = 0 ∧ (F_NM_format t0_0 t0_1 t0_2 t1_0 t1_1 t1_2 t1_3 t1_4 t1_5 t1_6 t1_7 t1_8 t1_9 t1_10 t1_11 t1_12 t1_13 t1_14 t1_15 t1_16 t1_17 t1_18 t1_19 t1_20 t1_21 t2_0 t3_0 t4_0 t5_0 t6_0 t7_0 t8_0 t9_0 t10_0 t11_0 t12_0).2.1 = 1 ∧ (F_NM_format t0_0 t0_1 t0_2 t1_0 t1_1 t1_2 t1_3 t1_4 t1_5 t1_6 t1_7 t1_8 t1_9 t1_10 t1_11 t1_12 t1_13 t1_14 t1_15 t1_16 t1_17 t1_18 t1_19 t1_20 t1_21 t2_0 t3_0 t4_0 t5_0 t6_0 t7_0 t8_0 t9_0 t10_0 t11_0 t12_0).2.2.1 = t0_1 ∧ (F_NM_format t0_0 t0_1 t0_2 t1_0 t1_1 t1_2 t1_3 t1_4 t1_5 t1_6 t1_7 t1_8 t1_9 t1_10 t1_11 t1_12 t1_13 t1_14 t1_15 t1_16 t1_17 t1_18 t1_19 t1_20 t1_21 t2_0 t3_0 t4_0 t5_0 t6_0 t7_0 t8_0 t9_0 t10_0 t11_0 t12_0).2.2.2.1 = t0_2 ∧ (F_NM_format t0_0 t0_1 t0_2 t1_0 t1_1 t1_2 t1_3 t1_4 t1_5 t1_6 t1_7 t1_8 t1_9 t1_10 t1_11 t1_12 t1_13 t1_14 t1_15 t1_16 t1_17 t1_18 t1_19 t1_20 t1_21 t2_0 t3_0 t4_0 t5_0 t6_0 t7_0 t8_0 t9_0 t10_0 t11_0 t12_0).2.2.2.2.2.2.2.2.2.2.2.2.2.2.2.2.2.2.2.2.2.2.2.2.2.2.2.2.2.2 = t12_0) ∨ (L ≤ 256 ∧ (F_NM_format t0_0 t0_1 t0_2 t1_0 t1_1 t1_2 t1_3 t1_4 t1_5 t1_6 t1_7 t1_8 t1_9 t1_10 t1_11 t1_12 t1_13 t1_14 t1_15 t1_16 t1_17 t1_18 t1_19 t1_20 t1_21 t2_0 t3_0 t4_0 t5_0 t6_0 t7_0 t8_0 t9_0 t10_0 t11_0 t12_0).2.1 = 0 ∧ ∃ F pl o, zRun B L A (L + 1) 0 0 (-1) [] F pl o ∧ ((F = 0 ∧ (F_NM_format t0_0 t0_1 t0_2 t1_0 t1_1 t1_2 t1_3 t1_4 t1_5 t1_6 t1_7 t1_8 t1_9 t1_10 t1_11 t1_12 t1_13 t1_14 t1_15 t1_16 t1_17 t1_18 t1_19 t1_20 t1_21 t2_0 t3_0 t4_0 t5_0 t6_0 t7_0 t8_0 t9_0 t10_0 t11_0 t12_0).1.toInt = (o.length : Int) ∧ (F_NM_format t0_0 t0_1 t0_2 t1_0 t1_1 t1_2 t1_3 t1_4 t1_5 t1_6 t1_7 t1_8 t1_9 t1_10 t1_11 t1_12 t1_13 t1_14 t1_15 t1_16 t1_17 t1_18 t1_19 t1_20 t1_21 t2_0 t3_0 t4_0 t5_0 t6_0 t7_0 t8_0 t9_0 t10_0 t11_0 t12_0).2.2.1 = 0 ∧ yRt (F_NM_format t0_0 t0_1 t0_2 t1_0 t1_1 t1_2 t1_3 t1_4 t1_5 t1_6 t1_7 t1_8 t1_9 t1_10 t1_11 t1_12 t1_13 t1_14 t1_15 t1_16 t1_17 t1_18 t1_19 t1_20 t1_21 t2_0 t3_0 t4_0 t5_0 t6_0 t7_0 t8_0 t9_0 t10_0 t11_0 t12_0).2.2.2.1 (F_NM_format t0_0 t0_1 t0_2 t1_0 t1_1 t1_2 t1_3 t1_4 t1_5 t1_6 t1_7 t1_8 t1_9 t1_10 t1_11 t1_12 t1_13 t1_14 t1_15 t1_16 t1_17 t1_18 t1_19 t1_20 t1_21 t2_0 t3_0 t4_0 t5_0 t6_0 t7_0 t8_0 t9_0 t10_0 t11_0 t12_0).2.2.2.2.2.2.2.2.2.2.2.2.2.2.2.2.2.2.2.2.2.2.2.2.2.2.2.2.2.2 o ∧ o.length ≤ 4096) ∨ (F ≠ 0 ∧ (F_NM_format t0_0 t0_1 t0_2 t1_0 t1_1 t1_2 t1_3 t1_4 t1_5 t1_6 t1_7 t1_8 t1_9 t1_10 t1_11 t1_12 t1_13 t1_14 t1_15 t1_16 t1_17 t1_18 t1_19 t1_20 t1_21 t2_0 t3_0 t4_0 t5_0 t6_0 t7_0 t8_0 t9_0 t10_0 t11_0 t12_0).1.toInt = -1000 * F - pl ∧ (F_NM_format t0_0 t0_1 t0_2 t1_0 t1_1 t1_2 t1_3 t1_4 t1_5 t1_6 t1_7 t1_8 t1_9 t1_10 t1_11 t1_12 t1_13 t1_14 t1_15 t1_16 t1_17 t1_18 t1_19 t1_20 t1_21 t2_0 t3_0 t4_0 t5_0 t6_0 t7_0 t8_0 t9_0 t10_0 t11_0 t12_0).2.2.1 = t0_1 ∧ (F_NM_format t0_0 t0_1 t0_2 t1_0 t1_1 t1_2 t1_3 t1_4 t1_5 t1_6 t1_7 t1_8 t1_9 t1_10 t1_11 t1_12 t1_13 t1_14 t1_15 t1_16 t1_17 t1_18 t1_19 t1_20 t1_21 t2_0 t3_0 t4_0 t5_0 t6_0 t7_0 t8_0 t9_0 t10_0 t11_0 t12_0).2.2.2.1 = 0 ∧ (F_NM_format t0_0 t0_1 t0_2 t1_0 t1_1 t1_2 t1_3 t1_4 t1_5 t1_6 t1_7 t1_8 t1_9 t1_10 t1_11 t1_12 t1_13 t1_14 t1_15 t1_16 t1_17 t1_18 t1_19 t1_20 t1_21 t2_0 t3_0 t4_0 t5_0 t6_0 t7_0 t8_0 t9_0 t10_0 t11_0 t12_0).2.2.2.2.2.2.2.2.2.2.2.2.2.2.2.2.2.2.2.2.2.2.2.2.2.2.2.2.2.2 = t12_0))) := by
  have e0 : (0 : Int32).toInt = 0 := rfl
  have e256 : (256 : Int32).toInt = 256 := rfl
  unfold F_NM_format
  by_cases c : t0_1 ≤ 256
  · rw [if_pos c]
    have c' := q_leI c
    refine Or.inr ⟨by omega, ?_⟩
    unfold F_NM_format_J16
    rw [if_pos (by decide)]
    have ld := (T_NM_load (N1 := 4100) (x2 := t0_1) (N3 := 256) (t0_0 := t11_0) (t1_0 := t2_0) (by rw [show (4100 : Int32).toInt = 4100 from rfl]; omega) (by omega) (by decide)).2
    unfold Q_NM_load at ld
    revert ld
    generalize F_NM_load 4100 t0_1 256 t11_0 t2_0 = q
    intro ld
    have fm : zFm q.1 q.2 L B := by
      refine ⟨?_, by omega, fun i hi => ?_, hB⟩
      · rw [ld.1]; exact hL
      · rw [ld.2 i (by omega)]; exact hT i hi
    unfold F_NM_format_c47
    obtain ⟨F, pl, o, w1, w2, w3, w4⟩ := Z_prn (t0_0 := t1_0) (t0_1 := q.1) (t0_2 := t1_2) (t0_3 := t1_3) (t0_4 := t1_4) (t0_5 := t1_5) (t0_6 := t1_6) (t0_7 := t1_7) (t0_8 := t1_8) (t0_9 := t1_9) (t0_10 := t1_10) (t0_11 := t1_11) (t0_12 := t1_12) (t0_13 := t1_13) (t0_14 := t1_14) (t0_15 := t1_15) (t0_16 := t1_16) (t0_17 := t1_17) (t0_18 := t1_18) (t0_19 := t1_19) (t0_20 := t1_20) (t0_21 := t1_21) (t1_0 := q.2) (t2_0 := t3_0) (t3_0 := t4_0) (t4_0 := t5_0) (t5_0 := t6_0) (t6_0 := t7_0) (t7_0 := t8_0) (t8_0 := t9_0) (t9_0 := t10_0) fm hA hZ
    have pb := zRun_p w1
    revert w3 w4
    generalize F_VR_print t1_0 q.1 t1_2 t1_3 t1_4 t1_5 t1_6 t1_7 t1_8 t1_9 t1_10 t1_11 t1_12 t1_13 t1_14 t1_15 t1_16 t1_17 t1_18 t1_19 t1_20 t1_21 q.2 t3_0 t4_0 t5_0 t6_0 t7_0 t8_0 t9_0 t10_0 = r
    intro w3 w4
    unfold F_NM_format_c57
    by_cases f : F = 0
    · obtain ⟨r1, r2⟩ := w3 f
      have r0 := r1.1
      have g : 0 ≤ r.1 := by
        rw [Int32.le_iff_toInt_le]
        omega
      rw [if_pos g]
      have sh := V_show (N2 := 4096) (t0_0 := 0) (t0_1 := 0) (t0_2 := t0_2) (t1_0 := t12_0) r1 (by omega)
      revert sh
      generalize F_NM_show 4096 r.1 0 0 t0_2 t12_0 r.2.2.2.2.2.2.2.2.2.2.2.2.2.2.2.2.2.2.2.2.2.1 = s
      intro sh
      unfold F_NM_format_c112
      refine ⟨rfl, F, pl, o, w1, Or.inl ⟨f, ?_, rfl, sh.2.2, r2⟩⟩
      show s.1.toInt = _
      rw [sh.1]
      exact r0
    · obtain ⟨r1, r2, r3⟩ := w4 f
      have g : ¬ 0 ≤ r.1 := by
        rw [r1]
        decide
      rw [if_neg g]
      refine ⟨rfl, F, pl, o, w1, Or.inr ⟨f, ?_, rfl, rfl, rfl⟩⟩
      have p0 := pb f
      exact q_subI (q_mulI (show (-1000 : Int32).toInt = -1000 from rfl) r2 (by omega) (by omega)) r3 (by omega) (by omega)
  · rw [if_neg c]
    have c' := q_nleI c
    refine Or.inl ⟨by omega, ?_⟩
    unfold F_NM_format_J16
    rw [if_neg (by decide)]
    exact ⟨rfl, rfl, rfl, rfl, rfl⟩

