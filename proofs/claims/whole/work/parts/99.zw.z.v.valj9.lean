/-! values, for whole: the printer's run -/
theorem yCA_z {n : Int32} {kd : Nat → Int32} {nu : Nat → Int64} {sc : Nat → Int32} {tx : Nat → Int32 × (Nat → Int64)} {A : List yA} (h : yCA n kd nu sc tx A) {i : Nat} (hi : i < A.length) : zCa (kd i) (nu i) (sc i) (tx i) (A.getD i yA0) := h.2.2 i hi
theorem V_rnL {t0_0 : Int32} {t1_0 : (Nat → Int64)} {t2_0 : Int32} {t3_0 : (Nat → Int64)} {t4_0 : Int32} {t4_1 : Int32} {t4_2 : Int32} {t4_3 : Int32} {t5_0 : (Nat → Int32)} {t6_0 : (Nat → Int64)} {t7_0 : (Nat → Int32)} {t8_0 : Int32} {t8_1 : Int32} {t9_0 : (Nat → Int32)} {t10_0 : Int32} {t11_0 : (Nat → Int64)} {t12_0 : Int32} {t12_1 : Int32} {t12_2 : Int32} {t12_3 : Int32} {t12_4 : Int32} {t12_5 : Int32} {t12_6 : Int32} {t13_0 : Int32} {t14_0 : (Nat → Int64)} {t15_0 : Int32} {t16_0 : (Nat → Int64)} {t17_0 : Int32} {t18_0 : (Nat → Int64)} {t19_0 : Int32} {t20_0 : (Nat → Int64)} {t21_0 : Int32} {t22_0 : (Nat → Int64)} {t23_0 : Int32} {t24_0 : (Nat → Int64)} {t25_0 : Int32} {t26_0 : (Nat → Int64)} {t27_0 : Int32} {t28_0 : (Nat → Int64)} {t29_0 : Int32} {t30_0 : (Nat → Int64)} {L : Nat} {A : List yA} (hL : t0_0.toInt = (L : Int)) (hL2 : L ≤ 256) (hA : yCA t4_0 t5_0 t6_0 t7_0 (yTx9 t13_0 t14_0 t15_0 t16_0 t17_0 t18_0 t19_0 t20_0 t21_0 t22_0 t23_0 t24_0 t25_0 t26_0 t27_0 t28_0 t29_0 t30_0) A) : ∀ (n : Nat) (lx111 : Int32) (lx112 : Int32) (lx113 : Int32) (lx114 : (Nat → Int64)) (lx115 : Int32) (lx116 : Int32) (lx117 : Int32) (lx118 : Int32) (lx119 : Int32) (lx120 : Int32) (lx121 : (Nat → Int32)) (lx122 : Int32) (lx123 : (Nat → Int64)) (lx124 : Int32) (lx125 : Int32) (lx126 : Int32) (lx127 : Int32) (lx128 : Int32) (lx129 : Int32) (lx130 : Int32), ∀ (m p ord : Nat) (last : Int) (out : List Nat), (0 ≤ lx111.toInt ∧ lx111.toInt ≤ (p : Int)) → lx112.toInt = (p : Int) → p ≤ L → yShl 11008 lx113 lx114 out → out.length ≤ 4096 → t4_0 = lx115 → lx117.toInt = (ord : Int) → ord ≤ p → lx118.toInt = last → L < m + p → m ≤ n → ∃ F pl o, zRun (ySB t1_0) L A m p ord last out F pl o ∧ QV_run (F_Pri_run_L18 t0_0 t1_0 t2_0 t3_0 t4_0 t4_1 t4_2 t4_3 t5_0 t6_0 t7_0 t8_0 t8_1 t9_0 t10_0 t11_0 t12_0 t12_1 t12_2 t12_3 t12_4 t12_5 t12_6 t13_0 t14_0 t15_0 t16_0 t17_0 t18_0 t19_0 t20_0 t21_0 t22_0 t23_0 t24_0 t25_0 t26_0 t27_0 t28_0 t29_0 t30_0 n lx111 lx112 lx113 lx114 lx115 lx116 lx117 lx118 lx119 lx120 lx121 lx122 lx123 lx124 lx125 lx126 lx127 lx128 lx129 lx130) t4_0 F pl o := by
  have e0 : (0 : Int32).toInt = 0 := rfl
  have e1 : (1 : Int32).toInt = 1 := rfl
  have e37 : (37 : Int32).toInt = 37 := rfl
  have e256 : (256 : Int32).toInt = 256 := rfl
  have bB : ∀ i, i < L → 0 ≤ ySB t1_0 i ∧ ySB t1_0 i ≤ 255 := by
    intro i _
    have : ySh t1_0 i < 256 := Nat.mod_lt _ (by decide)
    unfold ySB
    omega
  intro n
  induction n with
  | zero =>
    intro lx111 lx112 lx113 lx114 lx115 lx116 lx117 lx118 lx119 lx120 lx121 lx122 lx123 lx124 lx125 lx126 lx127 lx128 lx129 lx130 m p ord last out _ _ q1 _ _ _ _ _ _ q2 q3
    omega
  | succ n ih =>
    intro lx111 lx112 lx113 lx114 lx115 lx116 lx117 lx118 lx119 lx120 lx121 lx122 lx123 lx124 lx125 lx126 lx127 lx128 lx129 lx130 m p ord last out h111 h112 hp ho ho2 h115 h117 hord h118 hm hn
    obtain ⟨k, rfl⟩ : ∃ k, m = k + 1 := ⟨m - 1, by omega⟩
    have c11 : (lx111 + 1).toInt = lx111.toInt + 1 := q_addI rfl e1 (by omega) (by omega)
    unfold F_Pri_run_L18
    by_cases c0 : 256 < lx111
    · have := q_ltI c0
      omega
    rw [if_neg c0]
    by_cases c : t0_0 ≤ lx112
    · rw [if_pos c]
      have c' := q_leI c
      refine ⟨0, 0, out, ?_, h115.symm, by decide, fun _ => ⟨ho.1, ho, ho2⟩, fun w => absurd rfl w⟩
      unfold zRun
      exact Or.inl ⟨by omega, rfl, rfl⟩
    · rw [if_neg c]
      have c' := q_nleI c
      have pL : p < L := by omega
      have hb := bB p pL
      have at0 := y_atR (x := lx112) (t := t1_0) hL (by omega) h112
      rw [if_pos pL, ← y_atpE] at at0
      have a1 : (lx112 + 1).toInt = ((p + 1 : Nat) : Int) := by rw [q_addI h112 e1 (by omega) (by omega)]; omega
      have bl : yShl 4104 (F_She_clear 4104 513 1000000 lx122) lx123 [] := ⟨rfl, fun i hi => absurd hi (Nat.not_lt_zero _)⟩
      by_cases d : F_She_at_p 4100 513 4100 lx112.toInt64 t0_0 t1_0 = 37
      · rw [if_pos d]
        rw [d] at at0
        have b37 : ySB t1_0 p = 37 := by rw [← at0]; rfl
        have tk := V_parse (x2 := lx112) (t0_0 := lx124) (t0_1 := lx125) (t0_2 := lx126) (t0_3 := lx127) (t0_4 := lx128) (t0_5 := lx129) (t0_6 := lx130) (t1_0 := t0_0) (t2_0 := t1_0) hL (by omega) pL h112
        revert tk
        generalize F_Dir_parse lx112 lx124 lx125 lx126 lx127 lx128 lx129 lx130 t0_0 t1_0 = q1
        intro tk
        obtain ⟨t1, t2, t3, t4, t5, t6, t7⟩ := tk
        have cb := zCv_b (p := p + 1) bB
        have wb := yWd_b (B := ySB t1_0) (L := L) (p := p + 1)
        have pb := yPc_b (B := ySB t1_0) (L := L) (p := p + 1)
        have p4 := yP4_b (B := ySB t1_0) (L := L) (p := p + 1) (by omega)
        have p3 := yP3_b (B := ySB t1_0) (L := L) (p := p + 1) (by omega)
        have p2 := zF3_b (B := ySB t1_0) (L := L) (p := p + 1) (by omega)
        have p1 := yP1_b (B := ySB t1_0) (L := L) (p := p + 1) (by omega)
        have e3 := zI32_e t3
        have e4 := zI32_e t4
        have e5 := zI32_e t5
        unfold F_Pri_run_c75
        obtain ⟨wh, fq, f1, f2⟩ := Z_find (t0_0 := lx115) (t0_1 := -1) (t0_2 := lx117) (t0_3 := lx118) (t1_0 := t5_0) (t2_0 := t6_0) (t3_0 := t7_0) (t4_0 := q1.1) (t4_1 := q1.2.1) (t4_2 := q1.2.2.1) (t4_3 := q1.2.2.2.1) (t4_4 := q1.2.2.2.2.1) (t4_5 := q1.2.2.2.2.2.1) (t4_6 := q1.2.2.2.2.2.2) (idx := yIdx (ySB t1_0) L (p + 1)) (by rw [← h115]; exact hA) h117 (by omega) h118 t1 yIdx_9 (by omega) (V_bsO (by omega))
        revert fq f1 f2
        generalize F_Pri_findFault lx115 (-1) lx117 lx118 t5_0 t6_0 t7_0 q1.1 q1.2.1 q1.2.2.1 q1.2.2.2.1 q1.2.2.2.2.1 q1.2.2.2.2.2.1 q1.2.2.2.2.2.2 = q2
        intro fq f1 f2
        have fd : zFnd (zF3 (ySB t1_0) L (p + 1)).1 (zI32 (yWd (ySB t1_0) L (p + 1))) (zI32 (yPc (ySB t1_0) L (p + 1))) (zI32 (yCv (ySB t1_0) L (p + 1))) (zF3 (ySB t1_0) L (p + 1)).2.1 (yIdx (ySB t1_0) L (p + 1)) ord last A q2.1.toInt wh q2.2.2.2.1.toInt q2.2.2.2.2.toInt := by
          rw [← t2, ← t7, ← e3, ← e4, ← e5]
          exact fq
        have fp := zFnd_P fd
        unfold F_Pri_run_c88
        by_cases e : q2.1 = 0
        · rw [if_pos e]
          have f0 : q2.1.toInt = 0 := by rw [e]; rfl
          obtain ⟨b0, alt⟩ := zFnd_0 fd f0
          rw [← t2, ← t7, ← e3, ← e4, ← e5] at b0
          have cO := V_bsO (by omega) b0
          have cp := yO1_p cO
          have L4 := zCv_L (B := ySB t1_0) (L := L) (p := p + 1) (by omega)
          have body : (F_Pri_writeBody q2.2.1 q2.2.2.1 q2.2.2.2.1 q2.2.2.2.2 t5_0 t6_0 t7_0 lx119 lx120 lx121 (F_She_clear 4104 513 1000000 lx122) lx123 q1.1 q1.2.1 q1.2.2.1 q1.2.2.2.1 q1.2.2.2.2.1 q1.2.2.2.2.2.1 q1.2.2.2.2.2.2 t13_0 t14_0 t15_0 t16_0 t17_0 t18_0 t19_0 t20_0 t21_0 t22_0 t23_0 t24_0 t25_0 t26_0 t27_0 t28_0 t29_0 t30_0).1 = q2.2.1 ∧ (F_Pri_writeBody q2.2.1 q2.2.2.1 q2.2.2.2.1 q2.2.2.2.2 t5_0 t6_0 t7_0 lx119 lx120 lx121 (F_She_clear 4104 513 1000000 lx122) lx123 q1.1 q1.2.1 q1.2.2.1 q1.2.2.2.1 q1.2.2.2.2.1 q1.2.2.2.2.2.1 q1.2.2.2.2.2.2 t13_0 t14_0 t15_0 t16_0 t17_0 t18_0 t19_0 t20_0 t21_0 t22_0 t23_0 t24_0 t25_0 t26_0 t27_0 t28_0 t29_0 t30_0).2.2.1 = q2.2.2.2.1 ∧ (F_Pri_writeBody q2.2.1 q2.2.2.1 q2.2.2.2.1 q2.2.2.2.2 t5_0 t6_0 t7_0 lx119 lx120 lx121 (F_She_clear 4104 513 1000000 lx122) lx123 q1.1 q1.2.1 q1.2.2.1 q1.2.2.2.1 q1.2.2.2.2.1 q1.2.2.2.2.2.1 q1.2.2.2.2.2.2 t13_0 t14_0 t15_0 t16_0 t17_0 t18_0 t19_0 t20_0 t21_0 t22_0 t23_0 t24_0 t25_0 t26_0 t27_0 t28_0 t29_0 t30_0).2.2.2.1 = q2.2.2.2.2 ∧ QV_bd q1.2.2.2.2.1 q1.2.1 (yPc (ySB t1_0) L (p + 1)) (A.getD (zWh (zF3 (ySB t1_0) L (p + 1)).1 (yIdx (ySB t1_0) L (p + 1)) ord last).toNat yA0) (F_Pri_writeBody q2.2.1 q2.2.2.1 q2.2.2.2.1 q2.2.2.2.2 t5_0 t6_0 t7_0 lx119 lx120 lx121 (F_She_clear 4104 513 1000000 lx122) lx123 q1.1 q1.2.1 q1.2.2.1 q1.2.2.2.1 q1.2.2.2.2.1 q1.2.2.2.2.2.1 q1.2.2.2.2.2.2 t13_0 t14_0 t15_0 t16_0 t17_0 t18_0 t19_0 t20_0 t21_0 t22_0 t23_0 t24_0 t25_0 t26_0 t27_0 t28_0 t29_0 t30_0).2.1 (F_Pri_writeBody q2.2.1 q2.2.2.1 q2.2.2.2.1 q2.2.2.2.2 t5_0 t6_0 t7_0 lx119 lx120 lx121 (F_She_clear 4104 513 1000000 lx122) lx123 q1.1 q1.2.1 q1.2.2.1 q1.2.2.2.1 q1.2.2.2.2.1 q1.2.2.2.2.2.1 q1.2.2.2.2.2.2 t13_0 t14_0 t15_0 t16_0 t17_0 t18_0 t19_0 t20_0 t21_0 t22_0 t23_0 t24_0 t25_0 t26_0 t27_0 t28_0 t29_0 t30_0).2.2.2.2.2.2.2.1 (F_Pri_writeBody q2.2.1 q2.2.2.1 q2.2.2.2.1 q2.2.2.2.2 t5_0 t6_0 t7_0 lx119 lx120 lx121 (F_She_clear 4104 513 1000000 lx122) lx123 q1.1 q1.2.1 q1.2.2.1 q1.2.2.2.1 q1.2.2.2.2.1 q1.2.2.2.2.2.1 q1.2.2.2.2.2.2 t13_0 t14_0 t15_0 t16_0 t17_0 t18_0 t19_0 t20_0 t21_0 t22_0 t23_0 t24_0 t25_0 t26_0 t27_0 t28_0 t29_0 t30_0).2.2.2.2.2.2.2.2 := by
            by_cases s7 : zSm q1.2.2.2.2.1 = 37 ∨ zSm q1.2.2.2.2.1 = 110
            · exact V_body0 (t0_0 := q2.2.1) (t0_1 := q2.2.2.1) (t0_2 := q2.2.2.2.1) (t0_3 := q2.2.2.2.2) (t1_0 := t5_0) (t2_0 := t6_0) (t3_0 := t7_0) (t4_0 := lx119) (t4_1 := lx120) (t5_0 := lx121) (t6_0 := F_She_clear 4104 513 1000000 lx122) (t7_0 := lx123) (t8_0 := q1.1) (t8_1 := q1.2.1) (t8_2 := q1.2.2.1) (t8_3 := q1.2.2.2.1) (t8_4 := q1.2.2.2.2.1) (t8_5 := q1.2.2.2.2.2.1) (t8_6 := q1.2.2.2.2.2.2) (t9_0 := t13_0) (t10_0 := t14_0) (t11_0 := t15_0) (t12_0 := t16_0) (t13_0 := t17_0) (t14_0 := t18_0) (t15_0 := t19_0) (t16_0 := t20_0) (t17_0 := t21_0) (t18_0 := t22_0) (t19_0 := t23_0) (t20_0 := t24_0) (t21_0 := t25_0) (t22_0 := t26_0) (t23_0 := t27_0) (t24_0 := t28_0) (t25_0 := t29_0) (t26_0 := t30_0) f2 cp bl s7
            · rw [← e5] at alt
              rcases alt with ⟨x, _⟩ | ⟨_, x1, x2, x3, x4, x5, x6⟩
              · exact absurd (x.elim (fun w => Or.inl (by rw [w]; decide)) (fun w => Or.inr (by rw [w]; decide))) s7
              · have a9 := hA.2.1
                have z : q2.2.2.2.2.toNatClampNeg = (zWh (zF3 (ySB t1_0) L (p + 1)).1 (yIdx (ySB t1_0) L (p + 1)) ord last).toNat := by show q2.2.2.2.2.toInt.toNat = _; rw [x6]
                have za := yCA_z hA (i := (zWh (zF3 (ySB t1_0) L (p + 1)).1 (yIdx (ySB t1_0) L (p + 1)) ord last).toNat) (by omega)
                rw [← z] at za
                refine V_body (t0_0 := q2.2.1) (t0_1 := q2.2.2.1) (t0_2 := q2.2.2.2.1) (t0_3 := q2.2.2.2.2) (t1_0 := t5_0) (t2_0 := t6_0) (t3_0 := t7_0) (t4_0 := lx119) (t4_1 := lx120) (t5_0 := lx121) (t6_0 := F_She_clear 4104 513 1000000 lx122) (t7_0 := lx123) (t8_0 := q1.1) (t8_1 := q1.2.1) (t8_2 := q1.2.2.1) (t8_3 := q1.2.2.2.1) (t8_4 := q1.2.2.2.2.1) (t8_5 := q1.2.2.2.2.2.1) (t8_6 := q1.2.2.2.2.2.2) (t9_0 := t13_0) (t10_0 := t14_0) (t11_0 := t15_0) (t12_0 := t16_0) (t13_0 := t17_0) (t14_0 := t18_0) (t15_0 := t19_0) (t16_0 := t20_0) (t17_0 := t21_0) (t18_0 := t22_0) (t19_0 := t23_0) (t20_0 := t24_0) (t21_0 := t25_0) (t22_0 := t26_0) (t23_0 := t27_0) (t24_0 := t28_0) (t25_0 := t29_0) (t26_0 := t30_0) (i := (zWh (zF3 (ySB t1_0) L (p + 1)).1 (yIdx (ySB t1_0) L (p + 1)) ord last).toNat) f2 (by omega) (by omega) ?_ t4 pb cp bl cO x3 s7
                rw [← z]
                exact za
          have awA : ¬ (zSm q1.2.2.2.2.1 = 37 ∨ zSm q1.2.2.2.2.1 = 110) → yAw (A.getD (zWh (zF3 (ySB t1_0) L (p + 1)).1 (yIdx (ySB t1_0) L (p + 1)) ord last).toNat yA0) := by
            intro s7
            rw [← e5] at alt
            rcases alt with ⟨x, _⟩ | ⟨_, x1, x2, _⟩
            · exact absurd (x.elim (fun w => Or.inl (by rw [w]; decide)) (fun w => Or.inr (by rw [w]; decide))) s7
            · exact (yCA_z hA (i := (zWh (zF3 (ySB t1_0) L (p + 1)).1 (yIdx (ySB t1_0) L (p + 1)) ord last).toNat) (by omega)).2.2.2.2
          revert body
          generalize F_Pri_writeBody q2.2.1 q2.2.2.1 q2.2.2.2.1 q2.2.2.2.2 t5_0 t6_0 t7_0 lx119 lx120 lx121 (F_She_clear 4104 513 1000000 lx122) lx123 q1.1 q1.2.1 q1.2.2.1 q1.2.2.2.1 q1.2.2.2.2.1 q1.2.2.2.2.2.1 q1.2.2.2.2.2.2 t13_0 t14_0 t15_0 t16_0 t17_0 t18_0 t19_0 t20_0 t21_0 t22_0 t23_0 t24_0 t25_0 t26_0 t27_0 t28_0 t29_0 t30_0 = q3
          intro body
          obtain ⟨g1, g2, g3, t, f, pd, g4, g5, g6⟩ := body
          have tl := zBdT_b (x12 := q1.2.2.2.1) g4 awA t4 pb
          have ctl : (zCut (zSm q1.2.2.2.2.1) (yPc (ySB t1_0) L (p + 1)) t).length ≤ 20000 := by
            unfold zCut
            repeat' split
            all_goals first | exact tl | (rw [List.length_take]; omega)
          unfold F_Pri_run_c99
          have hfr : (q3.2.1 = -1 ∧ pd = 0) ∨ (q3.2.1.toInt = (f : Int) ∧ f ≤ (zCut (zSm q1.2.2.2.2.1) (yPc (ySB t1_0) L (p + 1)) t).length ∧ pd = (if q1.2.1 &&& 8 = 0 then 0 else 1) ∧ (q1.2.1 &&& 8 ≠ 0 → q1.2.1 &&& 1 = 0)) := by
            rcases g6 with w | w
            · exact Or.inl ⟨w.1, w.2.2⟩
            · exact Or.inr ⟨w.1, by rw [zCut_n w.2.2.1]; exact w.2.1, w.2.2.2, V_bs8 b0⟩
          have pc : zPc (zI32 (yCv (ySB t1_0) L (p + 1))) (zF3 (ySB t1_0) L (p + 1)).1 (yWd (ySB t1_0) L (p + 1)) (yPc (ySB t1_0) L (p + 1)) (A.getD (zWh (zF3 (ySB t1_0) L (p + 1)).1 (yIdx (ySB t1_0) L (p + 1)) ord last).toNat yA0) (zUp q1.2.2.2.2.1 (zWid (yWd (ySB t1_0) L (p + 1)) q1.2.1 pd f (zCut (zSm q1.2.2.2.2.1) (yPc (ySB t1_0) L (p + 1)) t))) := by
            rw [← t2, ← e5]
            exact ⟨t, f, pd, by rw [t2] at g4 ⊢; exact g4, rfl⟩
          have nn : q3.1 = t4_0 := by rw [g1, f1, h115]
          rcases V_r128 (lx111 := lx111) (lx112 := lx112) h112 (by omega) ho ho2 e g5 ctl t3 wb hfr with ⟨v1, v2⟩ | ⟨v1, s, row, v2, v3⟩
          · refine ⟨12, _, out, ?_, v2.1.trans nn, v2.2⟩
            unfold zRun
            exact Or.inr (Or.inr ⟨pL, b37, _, _, _, _, fd, Or.inr ⟨f0, _, pc, Or.inl ⟨v1, rfl, rfl⟩⟩⟩)
          · rw [v3]
            have o0 : 0 ≤ q2.2.2.2.1.toInt ∧ q2.2.2.2.1.toInt ≤ (ord : Int) + 1 := by
              rcases alt with ⟨_, x, _⟩ | ⟨_, _, _, _, _, x, _⟩
              · omega
              · rw [x]
                unfold zOr
                split <;> omega
            obtain ⟨F, pl, o, z1, z2⟩ := ih (lx111 + 1) q1.2.2.2.2.2.1 s row q3.1 _ q3.2.2.1 q3.2.2.2.1 _ _ _ _ _ _ _ _ _ _ _ _ k (yP4 (ySB t1_0) L (p + 1) + 1) q2.2.2.2.1.toInt.toNat q2.2.2.2.2.toInt _ (by omega) (by omega) (by omega) v2 (by rw [List.length_append]; exact v1) nn.symm (by rw [g2]; omega) (by omega) (by rw [g3]) (by omega) (by omega)
            refine ⟨F, pl, o, ?_, z2⟩
            unfold zRun
            exact Or.inr (Or.inr ⟨pL, b37, _, _, _, _, fd, Or.inr ⟨f0, _, pc, Or.inr ⟨v1, z1⟩⟩⟩)
        · rw [if_neg e]
          have fn : q2.1.toInt ≠ 0 := fun w => e (Int32.toInt_inj.mp w)
          unfold F_Pri_run_J128
          rw [if_neg e]
          refine ⟨q2.1.toInt, (p : Int), out, ?_, by rw [h115]; exact f1, by omega, fun w => absurd w fn, fun _ => ⟨?_, rfl⟩⟩
          · unfold zRun
            exact Or.inr (Or.inr ⟨pL, b37, _, _, _, _, fd, Or.inl ⟨fn, rfl, rfl⟩⟩)
          · show (-1000 * q2.1 - lx112).toInt = _
            exact q_subI (q_mulI (show (-1000 : Int32).toInt = -1000 from rfl) rfl (by omega) (by omega)) h112 (by omega) (by omega)
      · rw [if_neg d]
        have b37 : ySB t1_0 p ≠ 37 := by
          intro w
          exact d (Int32.toInt_inj.mp (by rw [at0, w]; rfl))
        have sp : F_Dir_setPlain lx124 lx125 lx126 lx127 lx128 lx129 lx130 t0_0 t1_0 = (lx124, 0, -1, lx127, -1, lx129, lx130) := rfl
        rw [sp]
        unfold F_Pri_run_c109
        have pa := V_paP4 (N := 513) (K := 1000000) (x2 := F_She_at_p 4100 513 4100 lx112.toInt64 t0_0 t1_0) (v := (ySB t1_0 p).toNat) bl (by decide) (by rw [at0]; omega) (by omega)
        rw [List.nil_append] at pa
        revert pa
        generalize F_She_add_p 4104 513 1000000 (F_She_at_p 4100 513 4100 lx112.toInt64 t0_0 t1_0) (F_She_clear 4104 513 1000000 lx122) lx123 = q3
        intro pa
        unfold F_Pri_run_c125
        have wz : zUp (-1) (zWid (-1) 0 0 0 [(ySB t1_0 p).toNat]) = [(ySB t1_0 p).toNat] := by
          rw [zWid_0 (by show (-1 : Int) ≤ 1; decide)]
          unfold zUp
          rw [if_pos (by decide)]
        have key := V_r128 (K_F_Pri_run_L18 := F_Pri_run_L18 t0_0 t1_0 t2_0 t3_0 t4_0 t4_1 t4_2 t4_3 t5_0 t6_0 t7_0 t8_0 t8_1 t9_0 t10_0 t11_0 t12_0 t12_1 t12_2 t12_3 t12_4 t12_5 t12_6 t13_0 t14_0 t15_0 t16_0 t17_0 t18_0 t19_0 t20_0 t21_0 t22_0 t23_0 t24_0 t25_0 t26_0 t27_0 t28_0 t29_0 t30_0 n) (t0_0 := t0_0) (t1_0 := t1_0) (t2_0 := t2_0) (t3_0 := t3_0) (t4_0 := t4_0) (t4_1 := t4_1) (t4_2 := t4_2) (t4_3 := t4_3) (t5_0 := t5_0) (t6_0 := t6_0) (t7_0 := t7_0) (t8_0 := t8_0) (t8_1 := t8_1) (t9_0 := t9_0) (t10_0 := t10_0) (t11_0 := t11_0) (t12_0 := t12_0) (t12_1 := t12_1) (t12_2 := t12_2) (t12_3 := t12_3) (t12_4 := t12_4) (t12_5 := t12_5) (t12_6 := t12_6) (t13_0 := t13_0) (t14_0 := t14_0) (t15_0 := t15_0) (t16_0 := t16_0) (t17_0 := t17_0) (t18_0 := t18_0) (t19_0 := t19_0) (t20_0 := t20_0) (t21_0 := t21_0) (t22_0 := t22_0) (t23_0 := t23_0) (t24_0 := t24_0) (t25_0 := t25_0) (t26_0 := t26_0) (t27_0 := t27_0) (t28_0 := t28_0) (t29_0 := t29_0) (t30_0 := t30_0) (lx111 := lx111) (lx112 := lx112) (lx113 := lx113) (lx114 := lx114) (lx115 := lx115) (lx116 := lx116) (lx117 := lx117) (lx118 := lx118) (lx119 := lx119) (lx120 := lx120) (lx121 := lx121) (lx122 := lx122) (lx123 := lx123) (lx124 := lx124) (lx125 := lx125) (lx126 := lx126) (lx127 := lx127) (lx128 := lx128) (lx129 := lx129) (lx130 := lx130) (lx219 := 0) (lx220 := lx112 + 1) (lx221 := lx115) (lx222 := -1) (lx223 := lx117) (lx224 := lx118) (lx225 := lx119) (lx226 := lx120) (lx227 := lx121) (lx228 := q3.1) (lx229 := q3.2) (lx230 := lx124) (lx231 := 0) (lx232 := -1) (lx233 := lx127) (lx234 := -1) (lx235 := lx129) (lx236 := lx130) (f := 0) (W := -1) (pd := 0) h112 (by omega) ho ho2 rfl pa (by show 1 ≤ 20000; decide) rfl (by decide) (Or.inl ⟨rfl, rfl⟩)
        rw [wz] at key
        rcases key with ⟨v1, v2⟩ | ⟨v1, s, row, v2, v3⟩
        · refine ⟨12, _, out, ?_, v2.1.trans h115.symm, v2.2⟩
          unfold zRun
          exact Or.inr (Or.inl ⟨pL, b37, Or.inl ⟨v1, rfl, rfl⟩⟩)
        · rw [v3]
          obtain ⟨F, pl, o, z1, z2⟩ := ih (lx111 + 1) (lx112 + 1) s row lx115 _ lx117 lx118 _ _ _ _ _ _ _ _ _ _ _ _ k (p + 1) ord last (out ++ [(ySB t1_0 p).toNat]) (by omega) a1 (by omega) v2 (by rw [List.length_append]; exact v1) h115 h117 (by omega) h118 (by omega) (by omega)
          refine ⟨F, pl, o, ?_, z2⟩
          unfold zRun
          exact Or.inr (Or.inl ⟨pL, b37, Or.inr ⟨v1, z1⟩⟩)

