/-! values, for whole: the reference's run -/
def QZ_run (r : Int32 × Int32 × Int32 × Int32 × Int32 × Int32 × Int32 × Int32 × Int32 × Int32 × Int32 × Int32 × Int32 × Int32 × Int32 × Int32 × Int32 × Int32 × (Nat → Int32) × (Nat → Int32) × (Nat → Int32)) (F pl : Int) (o : List Nat) : Prop := r.2.2.1.toInt = F ∧ (0 ≤ F ∧ F ≤ 12) ∧ (F = 0 → yRt r.2.1 r.2.2.2.2.2.2.2.2.2.2.2.2.2.2.2.2.2.2.1 o ∧ o.length ≤ 4096) ∧ (F ≠ 0 → r.1.toInt = pl)
theorem zCv_b {B : Nat → Int} {L p : Nat} (h : ∀ i, i < L → 0 ≤ B i ∧ B i ≤ 255) : -1 ≤ yCv B L p ∧ yCv B L p ≤ 255 := by
  unfold yCv
  by_cases c : yP4 B L p < L
  · rw [if_pos c]
    have := h _ c
    omega
  · rw [if_neg c]
    decide
theorem zCv_L {B : Nat → Int} {L p : Nat} (h : 0 ≤ yCv B L p) : yP4 B L p < L := by
  unfold yCv at h
  by_cases c : yP4 B L p < L
  · exact c
  · rw [if_neg c] at h
    omega
theorem zF3_t {B : Nat → Int} {L p : Nat} : (zF3 B L p).2.1 = 0 ∨ (zF3 B L p).2.1 = 1 := by
  unfold zF3
  exact yFs_t (Or.inl rfl)
theorem Z_m1e {x : Int32} (h : -1 ≤ x.toInt) : x = -1 ∨ 0 ≤ x.toInt := by
  by_cases c : x.toInt = -1
  · exact Or.inl (Int32.toInt_inj.mp c)
  · exact Or.inr (by omega)
theorem yO1_p {c : Int32} (h : c ∈ yO1) : 0 ≤ c.toInt ∧ c.toInt ≤ 255 := by
  have key : ∀ c, c ∈ yO1 → 0 ≤ c.toInt ∧ c.toInt ≤ 255 := by decide
  exact key c h
theorem yIdx_9 {B : Nat → Int} {L p : Nat} : yIdx B L p ≤ 9999 := by
  unfold yIdx
  by_cases c : yHasI B L p (yDe B L p)
  · rw [if_pos c]
    exact yNm_b
  · rw [if_neg c]
    exact Nat.zero_le _
theorem Z_rnC {K_F_VR_run_L27 : Int32 → Int32 → Int32 → Int32 → Int32 → Int32 → Int32 → Int32 → Int32 → Int32 → Int32 → Int32 → Int32 → Int32 → Int32 → Int32 → (Nat → Int32) → (Nat → Int32) → Int32 → (Nat → Int32) → (Int32 × Int32 × Int32 × Int32 × Int32 × Int32 × Int32 × Int32 × Int32 × Int32 × Int32 × Int32 × Int32 × Int32 × Int32 × Int32 × Int32 × Int32 × (Nat → Int32) × (Nat → Int32) × (Nat → Int32))} {t0_0 : Int32} {t0_1 : Int32} {t0_2 : Int32} {t0_3 : Int32} {t0_4 : Int32} {t0_5 : Int32} {t0_6 : Int32} {t0_7 : Int32} {t0_8 : Int32} {t0_9 : Int32} {t0_10 : Int32} {t0_11 : Int32} {t0_12 : Int32} {t0_13 : Int32} {t0_14 : Int32} {t0_15 : Int32} {t0_16 : Int32} {t0_17 : Int32} {t0_18 : Int32} {t0_19 : Int32} {t0_20 : Int32} {t0_21 : Int32} {t1_0 : (Nat → Int32)} {t2_0 : (Nat → Int32)} {t3_0 : (Nat → Int32)} {t4_0 : (Nat → Int64)} {t5_0 : (Nat → Int32)} {t6_0 : (Nat → Int32)} {t7_0 : (Nat → Int32)} {t8_0 : (Nat → Int32)} {lx62 : Int32} {lx63 : Int32} {lx64 : Int32} {lx65 : Int32} {lx66 : Int32} {lx67 : Int32} {lx68 : Int32} {lx69 : Int32} {lx70 : Int32} {lx71 : Int32} {lx72 : Int32} {lx73 : Int32} {lx74 : Int32} {lx75 : Int32} {lx76 : Int32} {lx77 : Int32} {lx78 : (Nat → Int32)} {lx79 : (Nat → Int32)} {lx80 : Int32} {lx81 : (Nat → Int32)} {lx114 : Int32} {lx115 : Int32} {lx116 : Int32} {lx117 : Int32} {lx118 : Int32} {lx119 : Int32} {lx120 : Int32} {lx121 : Int32} {lx122 : Int32} {lx123 : Int32} {lx124 : Int32} {lx125 : Int32} {lx126 : Int32} {lx127 : Int32} {lx128 : Int32} {lx129 : Int32} {lx130 : (Nat → Int32)} {lx131 : (Nat → Int32)} {q : List Nat} (hq : yRt lx125 lx130 q) (hq2 : q.length ≤ 4096) : ∀ (n : Nat) (lx159 : Int32) (lx160 : Int32) (lx161 : (Nat → Int32)), ∀ (a : Nat) (out : List Nat), lx159.toInt = (a : Int) → a ≤ q.length → q.length < n + a → yRt lx160 lx161 out → out.length ≤ 4096 + a → ∃ s row, yRt s row (out ++ q.drop a) ∧ (F_VR_run_L145 K_F_VR_run_L27 t0_0 t0_1 t0_2 t0_3 t0_4 t0_5 t0_6 t0_7 t0_8 t0_9 t0_10 t0_11 t0_12 t0_13 t0_14 t0_15 t0_16 t0_17 t0_18 t0_19 t0_20 t0_21 t1_0 t2_0 t3_0 t4_0 t5_0 t6_0 t7_0 t8_0 lx62 lx63 lx64 lx65 lx66 lx67 lx68 lx69 lx70 lx71 lx72 lx73 lx74 lx75 lx76 lx77 lx78 lx79 lx80 lx81 lx114 lx115 lx116 lx117 lx118 lx119 lx120 lx121 lx122 lx123 lx124 lx125 lx126 lx127 lx128 lx129 lx130 lx131 n lx159 lx160 lx161) = K_F_VR_run_L27 lx114 lx115 lx116 lx117 lx118 lx119 lx120 lx121 lx122 lx123 lx124 lx125 lx126 lx127 lx128 lx129 lx130 lx131 s row := by
  intro n
  induction n with
  | zero =>
    intro _ _ _ a _ _ q1 q2
    omega
  | succ n ih =>
    intro lx159 lx160 lx161 a out h1 h2 h3 h4 h5
    have ql := hq.1
    unfold F_VR_run_L145
    by_cases d : lx125 ≤ lx159
    · rw [if_pos d]
      have d' := q_leI d
      refine ⟨lx160, lx161, ?_, rfl⟩
      rw [List.drop_of_length_le (by omega), List.append_nil]
      exact h4
    · rw [if_neg d]
      have d' := q_nleI d
      have i1 : lx159.toNatClampNeg = a := by show lx159.toInt.toNat = _; omega
      have w := V_rt h4 (by omega) (hq.2 a (by omega))
      rw [i1]
      have dr : q.drop a = [q.getD a 0] ++ q.drop (a + 1) := by
        have al : a < q.length := by omega
        rw [List.drop_eq_getElem_cons al, List.getD_eq_getElem?_getD, List.getElem?_eq_getElem al]
        rfl
      rw [dr, ← List.append_assoc]
      exact ih _ _ _ (a + 1) _ (by rw [q_addI (y := 1) h1 rfl (by omega) (by omega)]; omega) (by omega) (by omega) w (by rw [List.length_append]; show out.length + 1 ≤ _; omega)
theorem Z_r120 {K_F_VR_run_L27 : Int32 → Int32 → Int32 → Int32 → Int32 → Int32 → Int32 → Int32 → Int32 → Int32 → Int32 → Int32 → Int32 → Int32 → Int32 → Int32 → (Nat → Int32) → (Nat → Int32) → Int32 → (Nat → Int32) → (Int32 × Int32 × Int32 × Int32 × Int32 × Int32 × Int32 × Int32 × Int32 × Int32 × Int32 × Int32 × Int32 × Int32 × Int32 × Int32 × Int32 × Int32 × (Nat → Int32) × (Nat → Int32) × (Nat → Int32))} {t0_0 : Int32} {t0_1 : Int32} {t0_2 : Int32} {t0_3 : Int32} {t0_4 : Int32} {t0_5 : Int32} {t0_6 : Int32} {t0_7 : Int32} {t0_8 : Int32} {t0_9 : Int32} {t0_10 : Int32} {t0_11 : Int32} {t0_12 : Int32} {t0_13 : Int32} {t0_14 : Int32} {t0_15 : Int32} {t0_16 : Int32} {t0_17 : Int32} {t0_18 : Int32} {t0_19 : Int32} {t0_20 : Int32} {t0_21 : Int32} {t1_0 : (Nat → Int32)} {t2_0 : (Nat → Int32)} {t3_0 : (Nat → Int32)} {t4_0 : (Nat → Int64)} {t5_0 : (Nat → Int32)} {t6_0 : (Nat → Int32)} {t7_0 : (Nat → Int32)} {t8_0 : (Nat → Int32)} {lx62 : Int32} {lx63 : Int32} {lx64 : Int32} {lx65 : Int32} {lx66 : Int32} {lx67 : Int32} {lx68 : Int32} {lx69 : Int32} {lx70 : Int32} {lx71 : Int32} {lx72 : Int32} {lx73 : Int32} {lx74 : Int32} {lx75 : Int32} {lx76 : Int32} {lx77 : Int32} {lx78 : (Nat → Int32)} {lx79 : (Nat → Int32)} {lx80 : Int32} {lx81 : (Nat → Int32)} {lx114 : Int32} {lx115 : Int32} {lx116 : Int32} {lx117 : Int32} {lx118 : Int32} {lx119 : Int32} {lx120 : Int32} {lx121 : Int32} {lx122 : Int32} {lx123 : Int32} {lx124 : Int32} {lx125 : Int32} {lx126 : Int32} {lx127 : Int32} {lx128 : Int32} {lx129 : Int32} {lx130 : (Nat → Int32)} {lx131 : (Nat → Int32)} {q out : List Nat} (hq : yRt lx125 lx130 q) (hq2 : q.length ≤ 20000) (ho : yRt lx80 lx81 out) (ho2 : out.length ≤ 4096) : (4096 < out.length + q.length ∧ QZ_run (F_VR_run_J120 K_F_VR_run_L27 t0_0 t0_1 t0_2 t0_3 t0_4 t0_5 t0_6 t0_7 t0_8 t0_9 t0_10 t0_11 t0_12 t0_13 t0_14 t0_15 t0_16 t0_17 t0_18 t0_19 t0_20 t0_21 t1_0 t2_0 t3_0 t4_0 t5_0 t6_0 t7_0 t8_0 lx62 lx63 lx64 lx65 lx66 lx67 lx68 lx69 lx70 lx71 lx72 lx73 lx74 lx75 lx76 lx77 lx78 lx79 lx80 lx81 lx114 lx115 lx116 lx117 lx118 lx119 lx120 lx121 lx122 lx123 lx124 lx125 lx126 lx127 lx128 lx129 lx130 lx131) 12 lx63.toInt out) ∨ (out.length + q.length ≤ 4096 ∧ ∃ s row, yRt s row (out ++ q) ∧ (F_VR_run_J120 K_F_VR_run_L27 t0_0 t0_1 t0_2 t0_3 t0_4 t0_5 t0_6 t0_7 t0_8 t0_9 t0_10 t0_11 t0_12 t0_13 t0_14 t0_15 t0_16 t0_17 t0_18 t0_19 t0_20 t0_21 t1_0 t2_0 t3_0 t4_0 t5_0 t6_0 t7_0 t8_0 lx62 lx63 lx64 lx65 lx66 lx67 lx68 lx69 lx70 lx71 lx72 lx73 lx74 lx75 lx76 lx77 lx78 lx79 lx80 lx81 lx114 lx115 lx116 lx117 lx118 lx119 lx120 lx121 lx122 lx123 lx124 lx125 lx126 lx127 lx128 lx129 lx130 lx131) = K_F_VR_run_L27 lx114 lx115 lx116 lx117 lx118 lx119 lx120 lx121 lx122 lx123 lx124 lx125 lx126 lx127 lx128 lx129 lx130 lx131 s row) := by
  have e0 : (0 : Int32).toInt = 0 := rfl
  have e4 : (4096 : Int32).toInt = 4096 := rfl
  have ad := q_addI ho.1 hq.1 (by omega) (by omega)
  unfold F_VR_run_J120
  by_cases c : lx80 + lx125 ≤ 4096
  · rw [if_pos c]
    have c' := q_leI c
    obtain ⟨s, row, w1, w2⟩ := Z_rnC (K_F_VR_run_L27 := K_F_VR_run_L27) (t0_0 := t0_0) (t0_1 := t0_1) (t0_2 := t0_2) (t0_3 := t0_3) (t0_4 := t0_4) (t0_5 := t0_5) (t0_6 := t0_6) (t0_7 := t0_7) (t0_8 := t0_8) (t0_9 := t0_9) (t0_10 := t0_10) (t0_11 := t0_11) (t0_12 := t0_12) (t0_13 := t0_13) (t0_14 := t0_14) (t0_15 := t0_15) (t0_16 := t0_16) (t0_17 := t0_17) (t0_18 := t0_18) (t0_19 := t0_19) (t0_20 := t0_20) (t0_21 := t0_21) (t1_0 := t1_0) (t2_0 := t2_0) (t3_0 := t3_0) (t4_0 := t4_0) (t5_0 := t5_0) (t6_0 := t6_0) (t7_0 := t7_0) (t8_0 := t8_0) (lx62 := lx62) (lx63 := lx63) (lx64 := lx64) (lx65 := lx65) (lx66 := lx66) (lx67 := lx67) (lx68 := lx68) (lx69 := lx69) (lx70 := lx70) (lx71 := lx71) (lx72 := lx72) (lx73 := lx73) (lx74 := lx74) (lx75 := lx75) (lx76 := lx76) (lx77 := lx77) (lx78 := lx78) (lx79 := lx79) (lx80 := lx80) (lx81 := lx81) (lx114 := lx114) (lx115 := lx115) (lx116 := lx116) (lx117 := lx117) (lx118 := lx118) (lx119 := lx119) (lx120 := lx120) (lx121 := lx121) (lx122 := lx122) (lx123 := lx123) (lx124 := lx124) (lx125 := lx125) (lx126 := lx126) (lx127 := lx127) (lx128 := lx128) (lx129 := lx129) (lx130 := lx130) (lx131 := lx131) hq (by omega) ((4096 - (0 : Int32).toInt).toNat + 1) 0 lx80 lx81 0 out rfl (by omega) (by rw [e0]; omega) ho (by omega)
    rw [List.drop_zero] at w1
    exact Or.inr ⟨by omega, s, row, w1, w2⟩
  · rw [if_neg c]
    have c' := q_nleI c
    exact Or.inl ⟨by omega, rfl, by decide, fun w => absurd w (by decide), fun _ => rfl⟩
theorem Z_rnL {t0_0 : Int32} {t0_1 : Int32} {t0_2 : Int32} {t0_3 : Int32} {t0_4 : Int32} {t0_5 : Int32} {t0_6 : Int32} {t0_7 : Int32} {t0_8 : Int32} {t0_9 : Int32} {t0_10 : Int32} {t0_11 : Int32} {t0_12 : Int32} {t0_13 : Int32} {t0_14 : Int32} {t0_15 : Int32} {t0_16 : Int32} {t0_17 : Int32} {t0_18 : Int32} {t0_19 : Int32} {t0_20 : Int32} {t0_21 : Int32} {t1_0 : (Nat → Int32)} {t2_0 : (Nat → Int32)} {t3_0 : (Nat → Int32)} {t4_0 : (Nat → Int64)} {t5_0 : (Nat → Int32)} {t6_0 : (Nat → Int32)} {t7_0 : (Nat → Int32)} {t8_0 : (Nat → Int32)} {L : Nat} {B : Nat → Int} {A : List yA} (hf : zFm t0_1 t1_0 L B) (hA : yRA t0_2 t2_0 t3_0 t4_0 t5_0 A) (hZ : ∀ i, i < 9 → 0 ≤ (t3_0 i).toInt ∧ (t3_0 i).toInt ≤ 64) : ∀ (n : Nat) (lx62 : Int32) (lx63 : Int32) (lx64 : Int32) (lx65 : Int32) (lx66 : Int32) (lx67 : Int32) (lx68 : Int32) (lx69 : Int32) (lx70 : Int32) (lx71 : Int32) (lx72 : Int32) (lx73 : Int32) (lx74 : Int32) (lx75 : Int32) (lx76 : Int32) (lx77 : Int32) (lx78 : (Nat → Int32)) (lx79 : (Nat → Int32)) (lx80 : Int32) (lx81 : (Nat → Int32)), ∀ (m p ord : Nat) (last : Int) (out : List Nat), lx62 = 0 → lx63.toInt = (p : Int) → p ≤ L → lx71.toInt = (ord : Int) → ord ≤ p → lx72.toInt = last → yRt lx80 lx81 out → out.length ≤ 4096 → L < m + p → m ≤ n → ∃ F pl o, zRun B L A m p ord last out F pl o ∧ QZ_run (F_VR_run_L27 t0_0 t0_1 t0_2 t0_3 t0_4 t0_5 t0_6 t0_7 t0_8 t0_9 t0_10 t0_11 t0_12 t0_13 t0_14 t0_15 t0_16 t0_17 t0_18 t0_19 t0_20 t0_21 t1_0 t2_0 t3_0 t4_0 t5_0 t6_0 t7_0 t8_0 n lx62 lx63 lx64 lx65 lx66 lx67 lx68 lx69 lx70 lx71 lx72 lx73 lx74 lx75 lx76 lx77 lx78 lx79 lx80 lx81) F pl o := by
  have e0 : (0 : Int32).toInt = 0 := rfl
  have e37 : (37 : Int32).toInt = 37 := rfl
  have hf1 := hf.1
  have hf2 := hf.2.1
  intro n
  induction n with
  | zero =>
    intro lx62 lx63 lx64 lx65 lx66 lx67 lx68 lx69 lx70 lx71 lx72 lx73 lx74 lx75 lx76 lx77 lx78 lx79 lx80 lx81 m p ord last out _ _ q1 _ _ _ _ _ q2 q3
    omega
  | succ n ih =>
    intro lx62 lx63 lx64 lx65 lx66 lx67 lx68 lx69 lx70 lx71 lx72 lx73 lx74 lx75 lx76 lx77 lx78 lx79 lx80 lx81 m p ord last out h62 h63 hp h71 hord h72 ho ho2 hm hn
    obtain ⟨k, rfl⟩ : ∃ k, m = k + 1 := ⟨m - 1, by omega⟩
    unfold F_VR_run_L27
    by_cases c : t0_1 ≤ lx63
    · rw [if_pos c]
      have c' := q_leI c
      refine ⟨0, 0, out, ?_, ?_, by decide, fun _ => ⟨ho, ho2⟩, fun w => absurd rfl w⟩
      · unfold zRun
        exact Or.inl ⟨by omega, rfl, rfl⟩
      · show lx62.toInt = 0
        rw [h62]
        rfl
    · rw [if_neg c]
      have c' := q_nleI c
      have pL : p < L := by omega
      have hb := hf.2.2.2 p pL
      have hr := Z_here (t0_0 := t0_0) (t0_1 := t0_1) (t0_2 := t0_2) (t0_3 := t0_3) (t0_4 := lx80) (t0_5 := lx62) (t0_6 := t0_6) (t0_7 := lx63) (t0_8 := lx64) (t0_9 := lx65) (t0_10 := lx66) (t0_11 := lx67) (t0_12 := lx68) (t0_13 := lx69) (t0_14 := lx70) (t0_15 := lx71) (t0_16 := lx72) (t0_17 := lx73) (t0_18 := lx74) (t0_19 := lx75) (t0_20 := lx76) (t0_21 := lx77) hf h63
      rw [if_pos pL] at hr
      have a1 : (lx63 + 1).toInt = ((p + 1 : Nat) : Int) := by rw [q_addI (y := 1) h63 rfl (by omega) (by omega)]; omega
      by_cases d : F_VR_here t0_0 t0_1 t0_2 t0_3 lx80 lx62 t0_6 lx63 lx64 lx65 lx66 lx67 lx68 lx69 lx70 lx71 lx72 lx73 lx74 lx75 lx76 lx77 t1_0 = 37
      · rw [if_pos d]
        rw [d] at hr
        have b37 : B p = 37 := by rw [← hr]; rfl
        have tk := Z_take (t0_0 := t0_0) (t0_1 := t0_1) (t0_2 := t0_2) (t0_3 := t0_3) (t0_4 := lx80) (t0_5 := lx62) (t0_6 := t0_6) (t0_7 := (lx63 + 1)) (t0_8 := lx64) (t0_9 := lx65) (t0_10 := lx66) (t0_11 := lx67) (t0_12 := lx68) (t0_13 := lx69) (t0_14 := lx70) (t0_15 := lx71) (t0_16 := lx72) (t0_17 := lx73) (t0_18 := lx74) (t0_19 := lx75) (t0_20 := lx76) (t0_21 := lx77) hf (show p + 1 ≤ L by omega) a1
        revert tk
        generalize F_VR_take t0_0 t0_1 t0_2 t0_3 lx80 lx62 t0_6 (lx63 + 1) lx64 lx65 lx66 lx67 lx68 lx69 lx70 lx71 lx72 lx73 lx74 lx75 lx76 lx77 t1_0 = q1
        intro tk
        obtain ⟨t1, t2, t3, t4, t5, t6, t7⟩ := tk
        have cb := zCv_b (p := p + 1) hf.2.2.2
        have wb := yWd_b (B := B) (L := L) (p := p + 1)
        have pb := yPc_b (B := B) (L := L) (p := p + 1)
        have p4 := yP4_b (B := B) (L := L) (p := p + 1) (by omega)
        have p3 := yP3_b (B := B) (L := L) (p := p + 1) (by omega)
        have p2 := zF3_b (B := B) (L := L) (p := p + 1) (by omega)
        have p1 := yP1_b (B := B) (L := L) (p := p + 1) (by omega)
        unfold F_VR_run_c96
        obtain ⟨lk, lo⟩ := Z_lookF (t0_0 := t0_0) (t0_1 := t0_1) (t0_2 := t0_2) (t0_3 := t0_3) (t0_4 := lx80) (t0_5 := lx62) (t0_6 := t0_6) (t0_7 := q1.1) (t0_8 := q1.2.1) (t0_9 := q1.2.2.1) (t0_10 := q1.2.2.2.1) (t0_11 := q1.2.2.2.2.1) (t0_12 := q1.2.2.2.2.2.1) (t0_13 := q1.2.2.2.2.2.2) (t0_14 := lx70) (t0_15 := lx71) (t0_16 := lx72) (t0_17 := lx73) (t0_18 := lx74) (t0_19 := lx75) (t0_20 := lx76) (t0_21 := lx77) (t1_0 := t2_0) (t2_0 := t3_0) (t3_0 := t4_0) (idx := yIdx B L (p + 1)) hA (by omega) (Z_m1e (by omega)) (Z_m1e (by omega)) (by rw [t4]; exact zF3_t) h71 (by omega) h72 t2 yIdx_9
        have e3 := t3
        have e4 := t4
        have e5 := zI32_e t5
        have e6 := zI32_e t6
        have e7 := zI32_e t7
        revert lk
        generalize F_VR_looked t0_0 t0_1 t0_2 t0_3 lx80 lx62 t0_6 q1.1 q1.2.1 q1.2.2.1 q1.2.2.2.1 q1.2.2.2.2.1 q1.2.2.2.2.2.1 q1.2.2.2.2.2.2 lx70 lx71 lx72 lx73 lx74 lx75 lx76 lx77 t2_0 t3_0 t4_0 = q2
        intro lk
        have fd : zFnd (zF3 B L (p + 1)).1 (zI32 (yWd B L (p + 1))) (zI32 (yPc B L (p + 1))) (zI32 (yCv B L (p + 1))) (zF3 B L (p + 1)).2.1 (yIdx B L (p + 1)) ord last A q2.1.toInt q2.2.1.toInt q2.2.2.1.toInt q2.2.2.2.toInt := by
          rw [← e3, ← e4, ← e5, ← e6, ← e7]
          exact lk
        have fp := zFnd_P fd
        unfold F_VR_run_c101
        by_cases e : q2.1 ≤ 0
        · rw [if_pos e]
          have e' := q_leI e
          have f0 : q2.1.toInt = 0 := by omega
          obtain ⟨b0, alt⟩ := zFnd_0 fd f0
          rw [← e3, ← e4, ← e5, ← e6, ← e7] at b0
          have cO := lo b0
          have cp := yO1_p cO
          have L4 := zCv_L (B := B) (L := L) (p := p + 1) (by omega)
          have hm2 : (zSm q1.2.2.2.2.2.2 = 37 ∨ zSm q1.2.2.2.2.2.2 = 110) ∨ ((∀ i, i < 9 → 0 ≤ (t3_0 i).toInt ∧ (t3_0 i).toInt ≤ 64) ∧ ∃ i : Nat, q2.2.1.toInt = (i : Int) ∧ i ≤ 8 ∧ zRa (t2_0 q2.2.1.toNatClampNeg) (t3_0 q2.2.1.toNatClampNeg) (t4_0 q2.2.1.toNatClampNeg) t5_0 i (A.getD (zWh (zF3 B L (p + 1)).1 (yIdx B L (p + 1)) ord last).toNat yA0) ∧ q1.2.2.2.2.2.2 ∈ yO1 ∧ zTk q1.2.2.2.2.2.2 (A.getD (zWh (zF3 B L (p + 1)).1 (yIdx B L (p + 1)) ord last).toNat yA0).1) := by
            rw [← e7] at alt
            rcases alt with ⟨x, _⟩ | ⟨_, x1, x2, x3, x4, _⟩
            · exact Or.inl (x.elim (fun w => Or.inl (by rw [w]; decide)) (fun w => Or.inr (by rw [w]; decide)))
            · have a9 := hA.2.1
              have z : q2.2.1.toNatClampNeg = (zWh (zF3 B L (p + 1)).1 (yIdx B L (p + 1)) ord last).toNat := by show q2.2.1.toInt.toNat = _; rw [x4]
              refine Or.inr ⟨hZ, (zWh (zF3 B L (p + 1)).1 (yIdx B L (p + 1)) ord last).toNat, by omega, by omega, ?_, cO, x3⟩
              rw [z]
              exact yRA_z hA (by omega)
          obtain ⟨q, mk1, mk2⟩ := Z_make (t0_0 := t0_0) (t0_1 := t0_1) (t0_2 := t0_2) (t0_3 := t0_3) (t0_4 := lx80) (t0_5 := q2.1) (t0_6 := t0_6) (t0_7 := q1.1) (t0_8 := q1.2.1) (t0_9 := q1.2.2.1) (t0_10 := q1.2.2.2.1) (t0_11 := q1.2.2.2.2.1) (t0_12 := q1.2.2.2.2.2.1) (t0_13 := q1.2.2.2.2.2.2) (t0_14 := q2.2.1) (t0_15 := q2.2.2.1) (t0_16 := q2.2.2.2) (t0_17 := lx73) (t0_18 := lx74) (t0_19 := lx75) (t0_20 := lx76) (t0_21 := lx77) (t1_0 := t2_0) (t2_0 := t3_0) (t3_0 := t4_0) (t4_0 := t5_0) (t5_0 := lx78) (t6_0 := lx79) t5 wb t6 pb cp hm2
          have mk3 := (T_VR_make (t0_0 := t0_0) (t0_1 := t0_1) (t0_2 := t0_2) (t0_3 := t0_3) (t0_4 := lx80) (t0_5 := q2.1) (t0_6 := t0_6) (t0_7 := q1.1) (t0_8 := q1.2.1) (t0_9 := q1.2.2.1) (t0_10 := q1.2.2.2.1) (t0_11 := q1.2.2.2.2.1) (t0_12 := q1.2.2.2.2.2.1) (t0_13 := q1.2.2.2.2.2.2) (t0_14 := q2.2.1) (t0_15 := q2.2.2.1) (t0_16 := q2.2.2.2) (t0_17 := lx73) (t0_18 := lx74) (t0_19 := lx75) (t0_20 := lx76) (t0_21 := lx77) (t1_0 := t2_0) (t2_0 := t3_0) (t3_0 := t4_0) (t4_0 := t5_0) (t5_0 := lx78) (t6_0 := lx79) hZ (by omega) (by omega) (by
            rw [Z_sm cp]
            intro n1 n2
            rcases hm2 with w | ⟨_, i, i1, i2, _⟩
            · exact absurd w (fun v => v.elim n1 n2)
            · omega)).2
          unfold Q_VR_make at mk3
          rw [e3, e7] at mk1
          have y1 : q2.1 = 0 := Int32.toInt_inj.mp f0
          revert mk2 mk3
          generalize F_VR_make t0_0 t0_1 t0_2 t0_3 lx80 q2.1 t0_6 q1.1 q1.2.1 q1.2.2.1 q1.2.2.2.1 q1.2.2.2.2.1 q1.2.2.2.2.2.1 q1.2.2.2.2.2.2 q2.2.1 q2.2.2.1 q2.2.2.2 lx73 lx74 lx75 lx76 lx77 t2_0 t3_0 t4_0 t5_0 lx78 lx79 = q3
          intro mk2 mk3
          unfold F_VR_run_c117
          have m21 := mk2.1
          rcases Z_r120 (lx62 := lx62) (lx63 := lx63) mk2 (by omega) ho ho2 with ⟨v1, v2⟩ | ⟨v1, s, row, v2, v3⟩
          · refine ⟨12, _, out, ?_, v2⟩
            unfold zRun
            exact Or.inr (Or.inr ⟨pL, b37, _, _, _, _, fd, Or.inr ⟨f0, q, mk1, Or.inl ⟨v1, rfl, h63⟩⟩⟩)
          · rw [v3]
            have o0 : 0 ≤ q2.2.2.1.toInt ∧ q2.2.2.1.toInt ≤ (ord : Int) + 1 := by
              rcases alt with ⟨_, x, _⟩ | ⟨_, _, _, _, _, x, _⟩
              · omega
              · rw [x]
                unfold zOr
                split <;> omega
            obtain ⟨F, pl, o, z1, z2⟩ := ih q2.1 q1.1 _ _ _ _ _ _ _ q2.2.2.1 q2.2.2.2 _ _ _ _ _ _ _ s row k (yP4 B L (p + 1) + 1) q2.2.2.1.toInt.toNat q2.2.2.2.toInt (out ++ q) y1 (t1 L4) (by omega) (by omega) (by omega) rfl v2 (by rw [List.length_append]; exact v1) (by omega) (by omega)
            refine ⟨F, pl, o, ?_, z2⟩
            unfold zRun
            exact Or.inr (Or.inr ⟨pL, b37, _, _, _, _, fd, Or.inr ⟨f0, q, mk1, Or.inr ⟨v1, z1⟩⟩⟩)
        · rw [if_neg e]
          have e' := q_nleI e
          refine ⟨q2.1.toInt, lx63.toInt, out, ?_, rfl, by omega, fun w => by omega, fun _ => rfl⟩
          unfold zRun
          exact Or.inr (Or.inr ⟨pL, b37, _, _, _, _, fd, Or.inl ⟨by omega, rfl, h63⟩⟩)
      · rw [if_neg d]
        have b37 : B p ≠ 37 := by
          intro w
          exact d (Int32.toInt_inj.mp (by rw [hr, w]; rfl))
        have hr2 := Z_here (t0_0 := t0_0) (t0_1 := t0_1) (t0_2 := t0_2) (t0_3 := t0_3) (t0_4 := lx80) (t0_5 := lx62) (t0_6 := t0_6) (t0_7 := lx63) (t0_8 := lx64) (t0_9 := lx65) (t0_10 := lx66) (t0_11 := lx67) (t0_12 := lx68) (t0_13 := lx69) (t0_14 := lx70) (t0_15 := lx71) (t0_16 := lx72) (t0_17 := 1) (t0_18 := lx74) (t0_19 := lx75) (t0_20 := lx76) (t0_21 := lx77) hf h63
        rw [if_pos pL] at hr2
        have pc : yRt 1 (upd lx78 (0 : Int32).toNatClampNeg (F_VR_here t0_0 t0_1 t0_2 t0_3 lx80 lx62 t0_6 lx63 lx64 lx65 lx66 lx67 lx68 lx69 lx70 lx71 lx72 1 lx74 lx75 lx76 lx77 t1_0)) [(B p).toNat] := by
          refine ⟨rfl, fun i hi => ?_⟩
          have i0 : i = 0 := by
            have : i < 1 := hi
            omega
          subst i0
          show (F_VR_here t0_0 t0_1 t0_2 t0_3 lx80 lx62 t0_6 lx63 lx64 lx65 lx66 lx67 lx68 lx69 lx70 lx71 lx72 1 lx74 lx75 lx76 lx77 t1_0).toInt = ((B p).toNat : Int)
          rw [hr2]
          omega
        rcases Z_r120 (lx62 := lx62) (lx63 := lx63) pc (by show 1 ≤ 20000; decide) ho ho2 with ⟨v1, v2⟩ | ⟨v1, s, row, v2, v3⟩
        · refine ⟨12, _, out, ?_, v2⟩
          unfold zRun
          exact Or.inr (Or.inl ⟨pL, b37, Or.inl ⟨v1, rfl, h63⟩⟩)
        · rw [v3]
          obtain ⟨F, pl, o, z1, z2⟩ := ih lx62 (lx63 + 1) _ _ _ _ _ _ _ lx71 lx72 _ _ _ _ _ _ _ s row k (p + 1) ord last (out ++ [(B p).toNat]) h62 a1 (by omega) h71 (by omega) h72 v2 (by rw [List.length_append]; exact v1) (by omega) (by omega)
          refine ⟨F, pl, o, ?_, z2⟩
          unfold zRun
          exact Or.inr (Or.inl ⟨pL, b37, Or.inr ⟨v1, z1⟩⟩)

