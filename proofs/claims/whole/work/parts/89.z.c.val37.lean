/-! values: DecimalWork 4 -/
theorem T_dpJ {R : Int32} {R2 : Int32} {x4 : Int32} {x5 : Int32} {t0_0 : Int64} {t0_1 : Int32} {t1_0 : Int32} {t1_1 : Int32} {t2_0 : (Nat → Int32)} {t3_0 : Int32} {t3_1 : Int32} {t4_0 : (Nat → Int32)} {t5_0 : Int32} {t5_1 : Int32} {t6_0 : (Nat → Int32)} {t7_0 : Int32} {t7_1 : Int32} {t8_0 : (Nat → Int32)} {t9_0 : Int32} {t9_1 : Int32} {t10_0 : Int32} {t10_1 : Int32} {t11_0 : (Nat → Int32)} {t12_0 : Int32} {t12_1 : Int32} {t13_0 : Int32} {t13_1 : Int32} {t14_0 : (Nat → Int32)} {j69 : Int64} {lx74 : Int32} {a102 : Int32} {p153 : (Int64 × Int32 × Int32 × Int32 × (Nat → Int32) × Int32 × Int32 × (Nat → Int32) × Int32 × Int32 × (Nat → Int32) × Int32 × Int32 × (Nat → Int32))} {j180 : Int64} {y109 : Int32} {y111 : Int32} {y112 : Int32} {f113 : (Nat → Int32)} {y116 : Int32} {y117 : Int32} {f118 : (Nat → Int32)} {y121 : Int32} {y122 : Int32} {f123 : (Nat → Int32)} {y126 : Int32} {y127 : Int32} {f128 : (Nat → Int32)} {p200 : (Int32 × Int32 × Int32 × (Nat → Int32))} {y190 : Int32} {y191 : Int32} {f192 : (Nat → Int32)} {lx213 : Int64} {lx214 : Int32} {lx215 : Int32} {lx216 : Int32} {lx217 : (Nat → Int32)} {v vb : Int} {M : Nat} (h : bO 220 lx215 lx216 lx217 v) (hv : 0 ≤ v) (hM : bB M v) (hM2 : M + 1 ≤ 218) (i1 : bI 220 y116 y117 f118) (i2 : bI 220 y190 y191 f192) (hb : bO R2 y126 y127 f128 vb) : (S_DW_divideToPrecision_J141 R R2 x4 x5 t0_0 t0_1 t1_0 t1_1 t2_0 t3_0 t3_1 t4_0 t5_0 t5_1 t6_0 t7_0 t7_1 t8_0 t9_0 t9_1 t10_0 t10_1 t11_0 t12_0 t12_1 t13_0 t13_1 t14_0 j69 lx74 a102 p153 j180 y109 y111 y112 f113 y116 y117 f118 y121 y122 f123 y126 y127 f128 p200 y190 y191 f192 lx213 lx214 lx215 lx216 lx217) ∧ Dq (F_DW_divideToPrecision_J141 R R2 x4 x5 t0_0 t0_1 t1_0 t1_1 t2_0 t3_0 t3_1 t4_0 t5_0 t5_1 t6_0 t7_0 t7_1 t8_0 t9_0 t9_1 t10_0 t10_1 t11_0 t12_0 t12_1 t13_0 t13_1 t14_0 j69 lx74 a102 p153 j180 y109 y111 y112 f113 y116 y117 f118 y121 y122 f123 y126 y127 f128 p200 y190 y191 f192 lx213 lx214 lx215 lx216 lx217).1 (F_DW_divideToPrecision_J141 R R2 x4 x5 t0_0 t0_1 t1_0 t1_1 t2_0 t3_0 t3_1 t4_0 t5_0 t5_1 t6_0 t7_0 t7_1 t8_0 t9_0 t9_1 t10_0 t10_1 t11_0 t12_0 t12_1 t13_0 t13_1 t14_0 j69 lx74 a102 p153 j180 y109 y111 y112 f113 y116 y117 f118 y121 y122 f123 y126 y127 f128 p200 y190 y191 f192 lx213 lx214 lx215 lx216 lx217).2.2.2.1 (F_DW_divideToPrecision_J141 R R2 x4 x5 t0_0 t0_1 t1_0 t1_1 t2_0 t3_0 t3_1 t4_0 t5_0 t5_1 t6_0 t7_0 t7_1 t8_0 t9_0 t9_1 t10_0 t10_1 t11_0 t12_0 t12_1 t13_0 t13_1 t14_0 j69 lx74 a102 p153 j180 y109 y111 y112 f113 y116 y117 f118 y121 y122 f123 y126 y127 f128 p200 y190 y191 f192 lx213 lx214 lx215 lx216 lx217).2.2.2.2.1 (F_DW_divideToPrecision_J141 R R2 x4 x5 t0_0 t0_1 t1_0 t1_1 t2_0 t3_0 t3_1 t4_0 t5_0 t5_1 t6_0 t7_0 t7_1 t8_0 t9_0 t9_1 t10_0 t10_1 t11_0 t12_0 t12_1 t13_0 t13_1 t14_0 j69 lx74 a102 p153 j180 y109 y111 y112 f113 y116 y117 f118 y121 y122 f123 y126 y127 f128 p200 y190 y191 f192 lx213 lx214 lx215 lx216 lx217).2.2.2.2.2.1 ∧ G5 (bI 220) (bI 220) (bI 220) (bI 220) (bW R2 vb) (F_DW_divideToPrecision_J141 R R2 x4 x5 t0_0 t0_1 t1_0 t1_1 t2_0 t3_0 t3_1 t4_0 t5_0 t5_1 t6_0 t7_0 t7_1 t8_0 t9_0 t9_1 t10_0 t10_1 t11_0 t12_0 t12_1 t13_0 t13_1 t14_0 j69 lx74 a102 p153 j180 y109 y111 y112 f113 y116 y117 f118 y121 y122 f123 y126 y127 f128 p200 y190 y191 f192 lx213 lx214 lx215 lx216 lx217).2.2.2 := by
  have J : ∀ lx246 : Int32, S_DW_divideToPrecision_J163 R R2 x4 x5 t0_0 t0_1 t1_0 t1_1 t2_0 t3_0 t3_1 t4_0 t5_0 t5_1 t6_0 t7_0 t7_1 t8_0 t9_0 t9_1 t10_0 t10_1 t11_0 t12_0 t12_1 t13_0 t13_1 t14_0 j69 lx74 a102 p153 j180 y109 y111 y112 f113 y116 y117 f118 y121 y122 f123 y126 y127 f128 p200 y190 y191 f192 lx213 lx214 lx215 lx216 lx217 lx246 ∧ (fun p : Int32 × Int64 × Int32 × Int32 × Int32 × (Nat → Int32) × Int32 × Int32 × (Nat → Int32) × Int32 × Int32 × (Nat → Int32) × Int32 × Int32 × (Nat → Int32) × Int32 × Int32 × (Nat → Int32) => Dq p.1 p.2.2.2.1 p.2.2.2.2.1 p.2.2.2.2.2.1 ∧ G5 (bI 220) (bI 220) (bI 220) (bI 220) (bW R2 vb) p.2.2.2) (F_DW_divideToPrecision_J163 R R2 x4 x5 t0_0 t0_1 t1_0 t1_1 t2_0 t3_0 t3_1 t4_0 t5_0 t5_1 t6_0 t7_0 t7_1 t8_0 t9_0 t9_1 t10_0 t10_1 t11_0 t12_0 t12_1 t13_0 t13_1 t14_0 j69 lx74 a102 p153 j180 y109 y111 y112 f113 y116 y117 f118 y121 y122 f123 y126 y127 f128 p200 y190 y191 f192 lx213 lx214 lx215 lx216 lx217 lx246) := by
    intro lx246
    unfold S_DW_divideToPrecision_J163 F_DW_divideToPrecision_J163
    by_cases g : x4 = 0
    · rw [if_pos g, if_pos g]
      have r := T_shorten (x2 := lx246) (x3 := lx74) (x4 := j69) (x5 := 7) (t0_0 := lx213) (t0_1 := lx214) (t3_0 := y121) (t3_1 := y122) (t4_0 := f123) h hv hM hM2 i2
      exact ⟨trivial, Dq.mk r.1 r.2.1, r.2.1.I, i1, r.2.2.1, r.2.2.2, hb⟩
    · rw [if_neg g, if_neg g]
      have r := T_shorten (x2 := lx246) (x3 := lx74) (x4 := j69) (x5 := x5) (t0_0 := lx213) (t0_1 := lx214) (t3_0 := y121) (t3_1 := y122) (t4_0 := f123) h hv hM hM2 i2
      exact ⟨trivial, Dq.mk r.1 r.2.1, r.2.1.I, i1, r.2.2.1, r.2.2.2, hb⟩
  unfold S_DW_divideToPrecision_J141 F_DW_divideToPrecision_J141
  by_cases g : t10_1 = y127
  · rw [if_pos g, if_pos g]
    exact J 0
  · rw [if_neg g, if_neg g]
    exact J 1
theorem T_dpJ_a {R2 : Int32} {x4 : Int32} {x5 : Int32} {t0_0 : Int64} {t0_1 : Int32} {t1_0 : Int32} {t1_1 : Int32} {t2_0 : (Nat → Int32)} {t3_0 : Int32} {t3_1 : Int32} {t4_0 : (Nat → Int32)} {t5_0 : Int32} {t5_1 : Int32} {t6_0 : (Nat → Int32)} {t7_0 : Int32} {t7_1 : Int32} {t8_0 : (Nat → Int32)} {t9_0 : Int32} {t9_1 : Int32} {t10_0 : Int32} {t10_1 : Int32} {t11_0 : (Nat → Int32)} {j56 : Int64} {lx61 : Int32} {a86 : Int32} {p137 : (Int64 × Int32 × Int32 × Int32 × (Nat → Int32) × Int32 × Int32 × (Nat → Int32) × Int32 × Int32 × (Nat → Int32) × Int32 × Int32 × (Nat → Int32))} {j164 : Int64} {y93 : Int32} {y95 : Int32} {y96 : Int32} {f97 : (Nat → Int32)} {y100 : Int32} {y101 : Int32} {f102 : (Nat → Int32)} {y105 : Int32} {y106 : Int32} {f107 : (Nat → Int32)} {y110 : Int32} {y111 : Int32} {f112 : (Nat → Int32)} {p184 : (Int32 × Int32 × Int32 × (Nat → Int32))} {y174 : Int32} {y175 : Int32} {f176 : (Nat → Int32)} {lx197 : Int64} {lx198 : Int32} {lx199 : Int32} {lx200 : Int32} {lx201 : (Nat → Int32)} {v vb : Int} {M : Nat} (h : bO 220 lx199 lx200 lx201 v) (hv : 0 ≤ v) (hM : bB M v) (hM2 : M + 1 ≤ 218) (i1 : bI 220 y100 y101 f102) (i2 : bI 220 y174 y175 f176) (hb : bO R2 y110 y111 f112 vb) : (S_DW_divideToPrecision_a_J141 R2 x4 x5 t0_0 t0_1 t1_0 t1_1 t2_0 t3_0 t3_1 t4_0 t5_0 t5_1 t6_0 t7_0 t7_1 t8_0 t9_0 t9_1 t10_0 t10_1 t11_0 j56 lx61 a86 p137 j164 y93 y95 y96 f97 y100 y101 f102 y105 y106 f107 y110 y111 f112 p184 y174 y175 f176 lx197 lx198 lx199 lx200 lx201) ∧ Dq (F_DW_divideToPrecision_a_J141 R2 x4 x5 t0_0 t0_1 t1_0 t1_1 t2_0 t3_0 t3_1 t4_0 t5_0 t5_1 t6_0 t7_0 t7_1 t8_0 t9_0 t9_1 t10_0 t10_1 t11_0 j56 lx61 a86 p137 j164 y93 y95 y96 f97 y100 y101 f102 y105 y106 f107 y110 y111 f112 p184 y174 y175 f176 lx197 lx198 lx199 lx200 lx201).1 (F_DW_divideToPrecision_a_J141 R2 x4 x5 t0_0 t0_1 t1_0 t1_1 t2_0 t3_0 t3_1 t4_0 t5_0 t5_1 t6_0 t7_0 t7_1 t8_0 t9_0 t9_1 t10_0 t10_1 t11_0 j56 lx61 a86 p137 j164 y93 y95 y96 f97 y100 y101 f102 y105 y106 f107 y110 y111 f112 p184 y174 y175 f176 lx197 lx198 lx199 lx200 lx201).2.2.2.1 (F_DW_divideToPrecision_a_J141 R2 x4 x5 t0_0 t0_1 t1_0 t1_1 t2_0 t3_0 t3_1 t4_0 t5_0 t5_1 t6_0 t7_0 t7_1 t8_0 t9_0 t9_1 t10_0 t10_1 t11_0 j56 lx61 a86 p137 j164 y93 y95 y96 f97 y100 y101 f102 y105 y106 f107 y110 y111 f112 p184 y174 y175 f176 lx197 lx198 lx199 lx200 lx201).2.2.2.2.1 (F_DW_divideToPrecision_a_J141 R2 x4 x5 t0_0 t0_1 t1_0 t1_1 t2_0 t3_0 t3_1 t4_0 t5_0 t5_1 t6_0 t7_0 t7_1 t8_0 t9_0 t9_1 t10_0 t10_1 t11_0 j56 lx61 a86 p137 j164 y93 y95 y96 f97 y100 y101 f102 y105 y106 f107 y110 y111 f112 p184 y174 y175 f176 lx197 lx198 lx199 lx200 lx201).2.2.2.2.2.1 ∧ G5 (bI 220) (bI 220) (bI 220) (bI 220) (bW R2 vb) (F_DW_divideToPrecision_a_J141 R2 x4 x5 t0_0 t0_1 t1_0 t1_1 t2_0 t3_0 t3_1 t4_0 t5_0 t5_1 t6_0 t7_0 t7_1 t8_0 t9_0 t9_1 t10_0 t10_1 t11_0 j56 lx61 a86 p137 j164 y93 y95 y96 f97 y100 y101 f102 y105 y106 f107 y110 y111 f112 p184 y174 y175 f176 lx197 lx198 lx199 lx200 lx201).2.2.2 := by
  unfold S_DW_divideToPrecision_a_J141 F_DW_divideToPrecision_a_J141
  by_cases g : x4 = 0
  · rw [if_pos g, if_pos g]
    have r := T_shorten (x2 := 0) (x3 := lx61) (x4 := j56) (x5 := 7) (t0_0 := lx197) (t0_1 := lx198) (t3_0 := y105) (t3_1 := y106) (t4_0 := f107) h hv hM hM2 i2
    exact ⟨trivial, Dq.mk r.1 r.2.1, r.2.1.I, i1, r.2.2.1, r.2.2.2, hb⟩
  · rw [if_neg g, if_neg g]
    have r := T_shorten (x2 := 0) (x3 := lx61) (x4 := j56) (x5 := x5) (t0_0 := lx197) (t0_1 := lx198) (t3_0 := y105) (t3_1 := y106) (t4_0 := f107) h hv hM hM2 i2
    exact ⟨trivial, Dq.mk r.1 r.2.1, r.2.1.I, i1, r.2.2.1, r.2.2.2, hb⟩
theorem T_divideToPrecisionJ {R : Int32} {R2 : Int32} {x4 : Int32} {x5 : Int32} {t0_0 : Int64} {t0_1 : Int32} {t1_0 : Int32} {t1_1 : Int32} {t2_0 : (Nat → Int32)} {t3_0 : Int32} {t3_1 : Int32} {t4_0 : (Nat → Int32)} {t5_0 : Int32} {t5_1 : Int32} {t6_0 : (Nat → Int32)} {t7_0 : Int32} {t7_1 : Int32} {t8_0 : (Nat → Int32)} {t9_0 : Int32} {t9_1 : Int32} {t10_0 : Int32} {t10_1 : Int32} {t11_0 : (Nat → Int32)} {t12_0 : Int32} {t12_1 : Int32} {t13_0 : Int32} {t13_1 : Int32} {t14_0 : (Nat → Int32)} {j69 : Int64} {lx74 : Int32} {va vb : Int} (ha : dO R t10_0 t10_1 t11_0 t9_0 t9_1 va) (hb : dO R2 t13_0 t13_1 t14_0 t12_0 t12_1 vb) (hv : vb ≠ 0) (hx : 0 ≤ lx74.toInt) (hx2 : lx74.toInt ≤ 1000) (i2 : bI 220 t7_0 t7_1 t8_0) : (S_DW_divideToPrecision_J52 R R2 x4 x5 t0_0 t0_1 t1_0 t1_1 t2_0 t3_0 t3_1 t4_0 t5_0 t5_1 t6_0 t7_0 t7_1 t8_0 t9_0 t9_1 t10_0 t10_1 t11_0 t12_0 t12_1 t13_0 t13_1 t14_0 j69 lx74) ∧ Dq (F_DW_divideToPrecision_J52 R R2 x4 x5 t0_0 t0_1 t1_0 t1_1 t2_0 t3_0 t3_1 t4_0 t5_0 t5_1 t6_0 t7_0 t7_1 t8_0 t9_0 t9_1 t10_0 t10_1 t11_0 t12_0 t12_1 t13_0 t13_1 t14_0 j69 lx74).1 (F_DW_divideToPrecision_J52 R R2 x4 x5 t0_0 t0_1 t1_0 t1_1 t2_0 t3_0 t3_1 t4_0 t5_0 t5_1 t6_0 t7_0 t7_1 t8_0 t9_0 t9_1 t10_0 t10_1 t11_0 t12_0 t12_1 t13_0 t13_1 t14_0 j69 lx74).2.2.2.1 (F_DW_divideToPrecision_J52 R R2 x4 x5 t0_0 t0_1 t1_0 t1_1 t2_0 t3_0 t3_1 t4_0 t5_0 t5_1 t6_0 t7_0 t7_1 t8_0 t9_0 t9_1 t10_0 t10_1 t11_0 t12_0 t12_1 t13_0 t13_1 t14_0 j69 lx74).2.2.2.2.1 (F_DW_divideToPrecision_J52 R R2 x4 x5 t0_0 t0_1 t1_0 t1_1 t2_0 t3_0 t3_1 t4_0 t5_0 t5_1 t6_0 t7_0 t7_1 t8_0 t9_0 t9_1 t10_0 t10_1 t11_0 t12_0 t12_1 t13_0 t13_1 t14_0 j69 lx74).2.2.2.2.2.1 ∧ G5 (bI 220) (bI 220) (bI 220) (bI 220) (bW R2 vb) (F_DW_divideToPrecision_J52 R R2 x4 x5 t0_0 t0_1 t1_0 t1_1 t2_0 t3_0 t3_1 t4_0 t5_0 t5_1 t6_0 t7_0 t7_1 t8_0 t9_0 t9_1 t10_0 t10_1 t11_0 t12_0 t12_1 t13_0 t13_1 t14_0 j69 lx74).2.2.2 := by
  have e := e220
  obtain ⟨ha1, ⟨ca, ca1, ca2, ca3⟩, ha3, ha4⟩ := ha
  obtain ⟨hb1, ⟨cb, cb1, cb2, cb3⟩, hb3, hb4⟩ := hb
  have q1 : (lx74 + 1 : Int32).toInt = lx74.toInt + 1 := q_addI rfl v_e1 (by omega) (by omega)
  have q2 : (lx74 + 1 - t9_1 : Int32).toInt = lx74.toInt + 1 - (ca : Int) := q_subI q1 ca1 (by omega) (by omega)
  have q3 : (lx74 + 1 - t9_1 + t12_1 : Int32).toInt = lx74.toInt + 1 - (ca : Int) + (cb : Int) := q_addI q2 cb1 (by omega) (by omega)
  unfold S_DW_divideToPrecision_J52 F_DW_divideToPrecision_J52
  have d : S_DW_divideRaised R R2 (((lx74 + 1 : Int32) - t9_1 : Int32) + t12_1 : Int32) t0_0 t0_1 t1_0 t1_1 t2_0 t3_0 t3_1 t4_0 t5_0 t5_1 t6_0 t9_0 t9_1 t10_0 t10_1 t11_0 t12_0 t12_1 t13_0 t13_1 t14_0 ∧ (fun p => (p.2.1 = 0 ∨ p.2.1 = 1) ∧ G4 (bP 220 215) (bI 220) (bI 220) (bW R2 vb) p.2.2) (F_DW_divideRaised R R2 (((lx74 + 1 : Int32) - t9_1 : Int32) + t12_1 : Int32) t0_0 t0_1 t1_0 t1_1 t2_0 t3_0 t3_1 t4_0 t5_0 t5_1 t6_0 t9_0 t9_1 t10_0 t10_1 t11_0 t12_0 t12_1 t13_0 t13_1 t14_0) := T_divideRaised (M := 215) ha1 hb1 hv (v_rf ca2.2.1 ca3 (by rw [q3]; omega)) (by decide)
  refine v_owe d.1 ?_
  replace d := d.2
  generalize (F_DW_divideRaised R R2 (((lx74 + 1 : Int32) - t9_1 : Int32) + t12_1 : Int32) t0_0 t0_1 t1_0 t1_1 t2_0 t3_0 t3_1 t4_0 t5_0 t5_1 t6_0 t9_0 t9_1 t10_0 t10_1 t11_0 t12_0 t12_1 t13_0 t13_1 t14_0) = p153 at d ⊢
  unfold S_DW_divideToPrecision_c75 F_DW_divideToPrecision_c75
  obtain ⟨_, ⟨w, w1, w2, w3⟩, d2, d3, d4⟩ := d
  have h101 : (fun p => (∃ d : Nat, p.1.toInt = (d : Int) ∧ vF w d) ∧ G1 (bI 220) p.2) (F_Mil_countFigures (220 : Int32) t7_0 t7_1 t8_0 (p153.2.2.1 : Int32) (p153.2.2.2.1 : Int32) (p153.2.2.2.2.1 : (Nat → Int32))) := T_countFigures w3 w2 (by decide) i2
  generalize (F_Mil_countFigures (220 : Int32) t7_0 t7_1 t8_0 (p153.2.2.1 : Int32) (p153.2.2.2.1 : Int32) (p153.2.2.2.2.1 : (Nat → Int32))) = p200 at h101 ⊢
  unfold S_DW_divideToPrecision_c101 F_DW_divideToPrecision_c101
  by_cases g : p200.1 ≤ lx74 + 1
  · rw [if_pos g, if_pos g]
    exact T_dpJ w3 w1 w2 (by decide) d2 h101.2 d4
  · rw [if_neg g, if_neg g]
    obtain ⟨u, u1, u2, u3, u4⟩ := W_drop (x2 := 1) w3
    have h124 : (Gr1 (fun r => r = 0 ∨ r = 1) (bW 220 u)) (F_Big_dropFigures (220 : Int32) (1 : Int32) (p153.2.2.1 : Int32) (p153.2.2.2.1 : Int32) (p153.2.2.2.2.1 : (Nat → Int32))) := u4
    generalize (F_Big_dropFigures (220 : Int32) (1 : Int32) (p153.2.2.1 : Int32) (p153.2.2.2.1 : Int32) (p153.2.2.2.2.1 : (Nat → Int32))) = p414 at h124 ⊢
    unfold S_DW_divideToPrecision_c124 F_DW_divideToPrecision_c124
    exact T_dpJ h124.2 (u2 w1) (w2.le (by rw [u1]; exact Nat.div_le_self _ _)) (by decide) d2 h101.2 d4
theorem T_divideToPrecision_aJ {R2 : Int32} {x4 : Int32} {x5 : Int32} {t0_0 : Int64} {t0_1 : Int32} {t1_0 : Int32} {t1_1 : Int32} {t2_0 : (Nat → Int32)} {t3_0 : Int32} {t3_1 : Int32} {t4_0 : (Nat → Int32)} {t5_0 : Int32} {t5_1 : Int32} {t6_0 : (Nat → Int32)} {t7_0 : Int32} {t7_1 : Int32} {t8_0 : (Nat → Int32)} {t9_0 : Int32} {t9_1 : Int32} {t10_0 : Int32} {t10_1 : Int32} {t11_0 : (Nat → Int32)} {j56 : Int64} {lx61 : Int32} {va vb : Int} (ha : dO R2 t10_0 t10_1 t11_0 t9_0 t9_1 va) (hb : dO R2 t10_0 t10_1 t11_0 t9_0 t9_1 vb) (hv : vb ≠ 0) (hx : 0 ≤ lx61.toInt) (hx2 : lx61.toInt ≤ 1000) (i2 : bI 220 t7_0 t7_1 t8_0) : (S_DW_divideToPrecision_a_J52 R2 x4 x5 t0_0 t0_1 t1_0 t1_1 t2_0 t3_0 t3_1 t4_0 t5_0 t5_1 t6_0 t7_0 t7_1 t8_0 t9_0 t9_1 t10_0 t10_1 t11_0 j56 lx61) ∧ Dq (F_DW_divideToPrecision_a_J52 R2 x4 x5 t0_0 t0_1 t1_0 t1_1 t2_0 t3_0 t3_1 t4_0 t5_0 t5_1 t6_0 t7_0 t7_1 t8_0 t9_0 t9_1 t10_0 t10_1 t11_0 j56 lx61).1 (F_DW_divideToPrecision_a_J52 R2 x4 x5 t0_0 t0_1 t1_0 t1_1 t2_0 t3_0 t3_1 t4_0 t5_0 t5_1 t6_0 t7_0 t7_1 t8_0 t9_0 t9_1 t10_0 t10_1 t11_0 j56 lx61).2.2.2.1 (F_DW_divideToPrecision_a_J52 R2 x4 x5 t0_0 t0_1 t1_0 t1_1 t2_0 t3_0 t3_1 t4_0 t5_0 t5_1 t6_0 t7_0 t7_1 t8_0 t9_0 t9_1 t10_0 t10_1 t11_0 j56 lx61).2.2.2.2.1 (F_DW_divideToPrecision_a_J52 R2 x4 x5 t0_0 t0_1 t1_0 t1_1 t2_0 t3_0 t3_1 t4_0 t5_0 t5_1 t6_0 t7_0 t7_1 t8_0 t9_0 t9_1 t10_0 t10_1 t11_0 j56 lx61).2.2.2.2.2.1 ∧ G5 (bI 220) (bI 220) (bI 220) (bI 220) (bW R2 vb) (F_DW_divideToPrecision_a_J52 R2 x4 x5 t0_0 t0_1 t1_0 t1_1 t2_0 t3_0 t3_1 t4_0 t5_0 t5_1 t6_0 t7_0 t7_1 t8_0 t9_0 t9_1 t10_0 t10_1 t11_0 j56 lx61).2.2.2 := by
  have e := e220
  obtain ⟨ha1, ⟨ca, ca1, ca2, ca3⟩, ha3, ha4⟩ := ha
  obtain ⟨hb1, ⟨cb, cb1, cb2, cb3⟩, hb3, hb4⟩ := hb
  have q1 : (lx61 + 1 : Int32).toInt = lx61.toInt + 1 := q_addI rfl v_e1 (by omega) (by omega)
  have q2 : (lx61 + 1 - t9_1 : Int32).toInt = lx61.toInt + 1 - (ca : Int) := q_subI q1 ca1 (by omega) (by omega)
  have q3 : (lx61 + 1 - t9_1 + t9_1 : Int32).toInt = lx61.toInt + 1 - (ca : Int) + (cb : Int) := q_addI q2 cb1 (by omega) (by omega)
  unfold S_DW_divideToPrecision_a_J52 F_DW_divideToPrecision_a_J52
  have d : S_DW_divideRaised_a R2 (((lx61 + 1 : Int32) - t9_1 : Int32) + t9_1 : Int32) t0_0 t0_1 t1_0 t1_1 t2_0 t3_0 t3_1 t4_0 t5_0 t5_1 t6_0 t9_0 t9_1 t10_0 t10_1 t11_0 ∧ (fun p => (p.2.1 = 0 ∨ p.2.1 = 1) ∧ G4 (bP 220 215) (bI 220) (bI 220) (bW R2 vb) p.2.2) (F_DW_divideRaised_a R2 (((lx61 + 1 : Int32) - t9_1 : Int32) + t9_1 : Int32) t0_0 t0_1 t1_0 t1_1 t2_0 t3_0 t3_1 t4_0 t5_0 t5_1 t6_0 t9_0 t9_1 t10_0 t10_1 t11_0) := T_divideRaised_a (M := 215) ha1 hb1 hv (v_rf ca2.2.1 ca3 (by rw [q3]; omega)) (by decide)
  refine v_owe d.1 ?_
  replace d := d.2
  generalize (F_DW_divideRaised_a R2 (((lx61 + 1 : Int32) - t9_1 : Int32) + t9_1 : Int32) t0_0 t0_1 t1_0 t1_1 t2_0 t3_0 t3_1 t4_0 t5_0 t5_1 t6_0 t9_0 t9_1 t10_0 t10_1 t11_0) = p137 at d ⊢
  unfold S_DW_divideToPrecision_a_c75 F_DW_divideToPrecision_a_c75
  obtain ⟨_, ⟨w, w1, w2, w3⟩, d2, d3, d4⟩ := d
  have h101 : (fun p => (∃ d : Nat, p.1.toInt = (d : Int) ∧ vF w d) ∧ G1 (bI 220) p.2) (F_Mil_countFigures (220 : Int32) t7_0 t7_1 t8_0 (p137.2.2.1 : Int32) (p137.2.2.2.1 : Int32) (p137.2.2.2.2.1 : (Nat → Int32))) := T_countFigures w3 w2 (by decide) i2
  generalize (F_Mil_countFigures (220 : Int32) t7_0 t7_1 t8_0 (p137.2.2.1 : Int32) (p137.2.2.2.1 : Int32) (p137.2.2.2.2.1 : (Nat → Int32))) = p184 at h101 ⊢
  unfold S_DW_divideToPrecision_a_c101 F_DW_divideToPrecision_a_c101
  by_cases g : p184.1 ≤ lx61 + 1
  · rw [if_pos g, if_pos g]
    exact T_dpJ_a w3 w1 w2 (by decide) d2 h101.2 d4
  · rw [if_neg g, if_neg g]
    obtain ⟨u, u1, u2, u3, u4⟩ := W_drop (x2 := 1) w3
    have h124 : (Gr1 (fun r => r = 0 ∨ r = 1) (bW 220 u)) (F_Big_dropFigures (220 : Int32) (1 : Int32) (p137.2.2.1 : Int32) (p137.2.2.2.1 : Int32) (p137.2.2.2.2.1 : (Nat → Int32))) := u4
    generalize (F_Big_dropFigures (220 : Int32) (1 : Int32) (p137.2.2.1 : Int32) (p137.2.2.2.1 : Int32) (p137.2.2.2.2.1 : (Nat → Int32))) = p369 at h124 ⊢
    unfold S_DW_divideToPrecision_a_c124 F_DW_divideToPrecision_a_c124
    exact T_dpJ_a h124.2 (u2 w1) (w2.le (by rw [u1]; exact Nat.div_le_self _ _)) (by decide) d2 h101.2 d4
theorem T_divideToPrecision {R : Int32} {R2 : Int32} {x4 : Int32} {x5 : Int32} {t0_0 : Int64} {t0_1 : Int32} {t1_0 : Int32} {t1_1 : Int32} {t2_0 : (Nat → Int32)} {t3_0 : Int32} {t3_1 : Int32} {t4_0 : (Nat → Int32)} {t5_0 : Int32} {t5_1 : Int32} {t6_0 : (Nat → Int32)} {t7_0 : Int32} {t7_1 : Int32} {t8_0 : (Nat → Int32)} {t9_0 : Int32} {t9_1 : Int32} {t10_0 : Int32} {t10_1 : Int32} {t11_0 : (Nat → Int32)} {t12_0 : Int32} {t12_1 : Int32} {t13_0 : Int32} {t13_1 : Int32} {t14_0 : (Nat → Int32)} {va vb : Int} (ha : dO R t10_0 t10_1 t11_0 t9_0 t9_1 va) (hb : dO R2 t13_0 t13_1 t14_0 t12_0 t12_1 vb) (hv : vb ≠ 0) (hx : 0 ≤ x4.toInt) (hx2 : x4.toInt ≤ 1000) (i0 : bI 220 t3_0 t3_1 t4_0) (i1 : bI 220 t5_0 t5_1 t6_0) (i2 : bI 220 t7_0 t7_1 t8_0) : (S_DW_divideToPrecision R R2 x4 x5 t0_0 t0_1 t1_0 t1_1 t2_0 t3_0 t3_1 t4_0 t5_0 t5_1 t6_0 t7_0 t7_1 t8_0 t9_0 t9_1 t10_0 t10_1 t11_0 t12_0 t12_1 t13_0 t13_1 t14_0) ∧ Dq (F_DW_divideToPrecision R R2 x4 x5 t0_0 t0_1 t1_0 t1_1 t2_0 t3_0 t3_1 t4_0 t5_0 t5_1 t6_0 t7_0 t7_1 t8_0 t9_0 t9_1 t10_0 t10_1 t11_0 t12_0 t12_1 t13_0 t13_1 t14_0).1 (F_DW_divideToPrecision R R2 x4 x5 t0_0 t0_1 t1_0 t1_1 t2_0 t3_0 t3_1 t4_0 t5_0 t5_1 t6_0 t7_0 t7_1 t8_0 t9_0 t9_1 t10_0 t10_1 t11_0 t12_0 t12_1 t13_0 t13_1 t14_0).2.2.2.1 (F_DW_divideToPrecision R R2 x4 x5 t0_0 t0_1 t1_0 t1_1 t2_0 t3_0 t3_1 t4_0 t5_0 t5_1 t6_0 t7_0 t7_1 t8_0 t9_0 t9_1 t10_0 t10_1 t11_0 t12_0 t12_1 t13_0 t13_1 t14_0).2.2.2.2.1 (F_DW_divideToPrecision R R2 x4 x5 t0_0 t0_1 t1_0 t1_1 t2_0 t3_0 t3_1 t4_0 t5_0 t5_1 t6_0 t7_0 t7_1 t8_0 t9_0 t9_1 t10_0 t10_1 t11_0 t12_0 t12_1 t13_0 t13_1 t14_0).2.2.2.2.2.1 ∧ G5 (bI 220) (bI 220) (bI 220) (bI 220) (bW R2 vb) (F_DW_divideToPrecision R R2 x4 x5 t0_0 t0_1 t1_0 t1_1 t2_0 t3_0 t3_1 t4_0 t5_0 t5_1 t6_0 t7_0 t7_1 t8_0 t9_0 t9_1 t10_0 t10_1 t11_0 t12_0 t12_1 t13_0 t13_1 t14_0).2.2.2 := by
  unfold S_DW_divideToPrecision F_DW_divideToPrecision
  by_cases g : t10_0 = 0
  · rw [if_pos g, if_pos g]
    have h1 : bO 220 (F_Big_clear 220 t1_0 t1_1).1 (F_Big_clear 220 t1_0 t1_1).2 t2_0 0 := W_clear (by decide) (by decide)
    exact ⟨trivial, Or.inr ⟨rfl, h1.K (M := 0) (by show 0 < _; decide) (by decide)⟩, h1.I, i0, i1, i2, hb.1⟩
  · rw [if_neg g, if_neg g]
    by_cases g2 : x4 = 0
    · rw [if_pos g2, if_pos g2]
      exact T_divideToPrecisionJ ha hb hv (by decide) (by decide) i2
    · rw [if_neg g2, if_neg g2]
      exact T_divideToPrecisionJ ha hb hv hx hx2 i2
theorem T_divideToPrecision_a {R2 : Int32} {x4 : Int32} {x5 : Int32} {t0_0 : Int64} {t0_1 : Int32} {t1_0 : Int32} {t1_1 : Int32} {t2_0 : (Nat → Int32)} {t3_0 : Int32} {t3_1 : Int32} {t4_0 : (Nat → Int32)} {t5_0 : Int32} {t5_1 : Int32} {t6_0 : (Nat → Int32)} {t7_0 : Int32} {t7_1 : Int32} {t8_0 : (Nat → Int32)} {t9_0 : Int32} {t9_1 : Int32} {t10_0 : Int32} {t10_1 : Int32} {t11_0 : (Nat → Int32)} {va : Int} (ha : dO R2 t10_0 t10_1 t11_0 t9_0 t9_1 va) (hx : 0 ≤ x4.toInt) (hx2 : x4.toInt ≤ 1000) (i0 : bI 220 t3_0 t3_1 t4_0) (i1 : bI 220 t5_0 t5_1 t6_0) (i2 : bI 220 t7_0 t7_1 t8_0) : (S_DW_divideToPrecision_a R2 x4 x5 t0_0 t0_1 t1_0 t1_1 t2_0 t3_0 t3_1 t4_0 t5_0 t5_1 t6_0 t7_0 t7_1 t8_0 t9_0 t9_1 t10_0 t10_1 t11_0) ∧ Dq (F_DW_divideToPrecision_a R2 x4 x5 t0_0 t0_1 t1_0 t1_1 t2_0 t3_0 t3_1 t4_0 t5_0 t5_1 t6_0 t7_0 t7_1 t8_0 t9_0 t9_1 t10_0 t10_1 t11_0).1 (F_DW_divideToPrecision_a R2 x4 x5 t0_0 t0_1 t1_0 t1_1 t2_0 t3_0 t3_1 t4_0 t5_0 t5_1 t6_0 t7_0 t7_1 t8_0 t9_0 t9_1 t10_0 t10_1 t11_0).2.2.2.1 (F_DW_divideToPrecision_a R2 x4 x5 t0_0 t0_1 t1_0 t1_1 t2_0 t3_0 t3_1 t4_0 t5_0 t5_1 t6_0 t7_0 t7_1 t8_0 t9_0 t9_1 t10_0 t10_1 t11_0).2.2.2.2.1 (F_DW_divideToPrecision_a R2 x4 x5 t0_0 t0_1 t1_0 t1_1 t2_0 t3_0 t3_1 t4_0 t5_0 t5_1 t6_0 t7_0 t7_1 t8_0 t9_0 t9_1 t10_0 t10_1 t11_0).2.2.2.2.2.1 ∧ G5 (bI 220) (bI 220) (bI 220) (bI 220) (bW R2 va) (F_DW_divideToPrecision_a R2 x4 x5 t0_0 t0_1 t1_0 t1_1 t2_0 t3_0 t3_1 t4_0 t5_0 t5_1 t6_0 t7_0 t7_1 t8_0 t9_0 t9_1 t10_0 t10_1 t11_0).2.2.2 := by
  unfold S_DW_divideToPrecision_a F_DW_divideToPrecision_a
  by_cases g : t10_0 = 0
  · rw [if_pos g, if_pos g]
    have h1 : bO 220 (F_Big_clear 220 t1_0 t1_1).1 (F_Big_clear 220 t1_0 t1_1).2 t2_0 0 := W_clear (by decide) (by decide)
    exact ⟨trivial, Or.inr ⟨rfl, h1.K (M := 0) (by show 0 < _; decide) (by decide)⟩, h1.I, i0, i1, i2, ha.1⟩
  · rw [if_neg g, if_neg g]
    have hv : va ≠ 0 := fun h => g (ha.1.nil.mpr h)
    by_cases g2 : x4 = 0
    · rw [if_pos g2, if_pos g2]
      exact T_divideToPrecision_aJ ha ha hv (by decide) (by decide) i2
    · rw [if_neg g2, if_neg g2]
      exact T_divideToPrecision_aJ ha ha hv hx hx2 i2
theorem v_tdB {x : Int} : 2 * x.tdiv 2 ≤ x + 1 ∧ x - 1 ≤ 2 * x.tdiv 2 := by
  have h1 := Int.tmod_add_mul_tdiv x 2
  have h2 : x.tmod 2 = x - 2 * x.tdiv 2 := by omega
  rcases Int.le_total 0 x with h | h
  · have h3 := Int.tmod_nonneg 2 h
    have h4 := Int.tmod_lt_of_pos x (b := 2) (by decide)
    omega
  · have e : x = -(-x) := by omega
    have h3 := Int.tmod_nonneg (a := -x) 2 (by omega)
    have h4 := Int.tmod_lt_of_pos (-x) (b := 2) (by decide)
    have h5 : x.tmod 2 = -((-x).tmod 2) := by
      rw [← Int.neg_tmod, Int.neg_neg]
    omega
theorem v_fdW {x : Int32} (h : -1000000 ≤ x.toInt) (h2 : x.toInt ≤ 1000000) : x.toInt - 3 ≤ 2 * (F_jMath_floorDiv_III x 2).toInt ∧ 2 * (F_jMath_floorDiv_III x 2).toInt ≤ x.toInt + 1 := by
  have t := v_tdB (x := x.toInt)
  have e2 : (2 : Int32).toInt = 2 := rfl
  have d : (x / 2 : Int32).toInt = x.toInt.tdiv 2 := by
    rw [Int32.toInt_div, e2]
    exact Int.bmod_eq_of_le (by omega) (by omega)
  have d1 : (x / 2 - 1 : Int32).toInt = x.toInt.tdiv 2 - 1 := q_subI d v_e1 (by omega) (by omega)
  unfold F_jMath_floorDiv_III
  split
  · rw [d]
    omega
  · split
    · rw [d]
      omega
    · rw [d1]
      omega

theorem T_squareRoot {R : Int32} {x3 : Int32} {x4 : Int32} {t0_0 : Int64} {t0_1 : Int32} {t1_0 : Int32} {t1_1 : Int32} {t2_0 : (Nat → Int32)} {t3_0 : Int32} {t3_1 : Int32} {t4_0 : (Nat → Int32)} {t5_0 : Int32} {t5_1 : Int32} {t6_0 : (Nat → Int32)} {t7_0 : Int32} {t7_1 : Int32} {t8_0 : (Nat → Int32)} {t9_0 : Int32} {t9_1 : Int32} {t10_0 : (Nat → Int32)} {t11_0 : Int32} {t11_1 : Int32} {t12_0 : (Nat → Int32)} {t13_0 : Int32} {t13_1 : Int32} {t14_0 : (Nat → Int32)} {t15_0 : Int32} {t15_1 : Int32} {t16_0 : (Nat → Int32)} {t17_0 : Int32} {t17_1 : Int32} {t18_0 : Int32} {t18_1 : Int32} {t19_0 : (Nat → Int32)} {va : Int} (ha : dO R t18_0 t18_1 t19_0 t17_0 t17_1 va) (hva : 0 ≤ va) (hx : 1 ≤ x3.toInt) (hx2 : x3.toInt ≤ 1000) (i1 : bI 220 t3_0 t3_1 t4_0) (i2 : bI 220 t5_0 t5_1 t6_0) (i3 : bI 220 t7_0 t7_1 t8_0) (i4 : bI 220 t9_0 t9_1 t10_0) (i5 : bI 220 t11_0 t11_1 t12_0) (i6 : bI 220 t13_0 t13_1 t14_0) (i7 : bI 220 t15_0 t15_1 t16_0) : (S_DW_squareRoot R x3 x4 t0_0 t0_1 t1_0 t1_1 t2_0 t3_0 t3_1 t4_0 t5_0 t5_1 t6_0 t7_0 t7_1 t8_0 t9_0 t9_1 t10_0 t11_0 t11_1 t12_0 t13_0 t13_1 t14_0 t15_0 t15_1 t16_0 t17_0 t17_1 t18_0 t18_1 t19_0) ∧ Dq (F_DW_squareRoot R x3 x4 t0_0 t0_1 t1_0 t1_1 t2_0 t3_0 t3_1 t4_0 t5_0 t5_1 t6_0 t7_0 t7_1 t8_0 t9_0 t9_1 t10_0 t11_0 t11_1 t12_0 t13_0 t13_1 t14_0 t15_0 t15_1 t16_0 t17_0 t17_1 t18_0 t18_1 t19_0).1 (F_DW_squareRoot R x3 x4 t0_0 t0_1 t1_0 t1_1 t2_0 t3_0 t3_1 t4_0 t5_0 t5_1 t6_0 t7_0 t7_1 t8_0 t9_0 t9_1 t10_0 t11_0 t11_1 t12_0 t13_0 t13_1 t14_0 t15_0 t15_1 t16_0 t17_0 t17_1 t18_0 t18_1 t19_0).2.2.2.1 (F_DW_squareRoot R x3 x4 t0_0 t0_1 t1_0 t1_1 t2_0 t3_0 t3_1 t4_0 t5_0 t5_1 t6_0 t7_0 t7_1 t8_0 t9_0 t9_1 t10_0 t11_0 t11_1 t12_0 t13_0 t13_1 t14_0 t15_0 t15_1 t16_0 t17_0 t17_1 t18_0 t18_1 t19_0).2.2.2.2.1 (F_DW_squareRoot R x3 x4 t0_0 t0_1 t1_0 t1_1 t2_0 t3_0 t3_1 t4_0 t5_0 t5_1 t6_0 t7_0 t7_1 t8_0 t9_0 t9_1 t10_0 t11_0 t11_1 t12_0 t13_0 t13_1 t14_0 t15_0 t15_1 t16_0 t17_0 t17_1 t18_0 t18_1 t19_0).2.2.2.2.2.1 ∧ G8 (bI 220) (bI 220) (bI 220) (bI 220) (bI 220) (bI 220) (bI 220) (bI 220) (F_DW_squareRoot R x3 x4 t0_0 t0_1 t1_0 t1_1 t2_0 t3_0 t3_1 t4_0 t5_0 t5_1 t6_0 t7_0 t7_1 t8_0 t9_0 t9_1 t10_0 t11_0 t11_1 t12_0 t13_0 t13_1 t14_0 t15_0 t15_1 t16_0 t17_0 t17_1 t18_0 t18_1 t19_0).2.2.2 := by
  have e := e220
  have e2 : (2 : Int32).toInt = 2 := rfl
  obtain ⟨ha1, ⟨ca, ca1, ca2, ca3⟩, ha3, ha4⟩ := ha
  have c1' := ca2.1
  unfold S_DW_squareRoot F_DW_squareRoot
  by_cases g : t18_0 = 0
  · rw [if_pos g, if_pos g]
    have h1 : bO 220 (F_Big_clear 220 t1_0 t1_1).1 (F_Big_clear 220 t1_0 t1_1).2 t2_0 0 := W_clear (by decide) (by decide)
    exact ⟨trivial, Or.inr ⟨rfl, h1.K (M := 0) (by show 0 < _; decide) (by decide)⟩, h1.I, i1, i2, i3, i4, i5, i6, i7⟩
  rw [if_neg g, if_neg g]
  have q1 : (t17_1 - 1 : Int32).toInt = (ca : Int) - 1 := q_subI ca1 v_e1 (by omega) (by omega)
  have q2 : (t17_1 - 1 - t17_0 : Int32).toInt = (ca : Int) - 1 - t17_0.toInt := q_subI q1 rfl (by omega) (by omega)
  have q3 := v_fdW (x := t17_1 - 1 - t17_0) (by rw [q2]; omega) (by rw [q2]; omega)
  rw [q2] at q3
  have h1 : P1 220 va (F_Big_copy 220 R t1_0 t1_1 t2_0 t18_0 t18_1 t19_0) := W_copy ha1 ha1.fit (by decide)
  generalize F_Big_copy 220 R t1_0 t1_1 t2_0 t18_0 t18_1 t19_0 = p133 at h1 ⊢
  generalize F_jMath_floorDiv_III (t17_1 - 1 - t17_0) 2 = fd at q3 ⊢
  generalize F_jMath_floorDiv_III t17_0 2 = a84
  have q4 : (x3 - 1 : Int32).toInt = x3.toInt - 1 := q_subI rfl v_e1 (by omega) (by omega)
  have q5 : (x3 - 1 - fd : Int32).toInt = x3.toInt - 1 - fd.toInt := q_subI q4 rfl (by omega) (by omega)
  have q6 : ((x3 - 1 - fd : Int32).toInt64.toInt32).toInt = x3.toInt - 1 - fd.toInt := by
    have := q_i2l q5
    rw [s_l2i (by omega) (by omega), this]
  generalize (x3 - 1 - fd : Int32).toInt64 = j104 at q6 ⊢
  have q7 : (j104.toInt32 + 1 : Int32).toInt = x3.toInt - 1 - fd.toInt + 1 := q_addI q6 v_e1 (by omega) (by omega)
  have q8 : (2 * (j104.toInt32 + 1) : Int32).toInt = 2 * (x3.toInt - 1 - fd.toInt + 1) := q_mulI e2 q7 (by omega) (by omega)
  have q9 : (2 * (j104.toInt32 + 1) - t17_0 : Int32).toInt = 2 * (x3.toInt - 1 - fd.toInt + 1) - t17_0.toInt := q_subI q8 rfl (by omega) (by omega)
  generalize (2 * (j104.toInt32 + 1) - t17_0 : Int32) = a116 at q9 ⊢
  unfold S_DW_squareRoot_c90 F_DW_squareRoot_c90
  have m1 := v_rf (va := va) (x := a116) ca2.2.1 ca3 (by omega)
  have h2 := W_ten (M := 215) h1 (by decide) m1
  have b2 := v_abT m1
  have hn2 : 0 ≤ va * 10 ^ a116.toNatClampNeg := Int.mul_nonneg hva (Int.le_of_lt (v_t10 _))
  generalize va * 10 ^ a116.toNatClampNeg = w at h2 b2 hn2
  generalize F_Big_timesTen 220 a116 p133.1 p133.2.1 p133.2.2 = p156 at h2 ⊢
  unfold S_DW_squareRoot_c102 F_DW_squareRoot_c102
  obtain ⟨u, u1, u2, u3, u4, u5⟩ := W_drop (x2 := -a116) h2
  generalize F_Big_dropFigures 220 (-a116) p156.1 p156.2.1 p156.2.2 = p185 at u4 u5 ⊢
  have bu : bB 215 u := b2.le (by rw [u1]; exact Nat.div_le_self _ _)
  have un := u2 hn2
  unfold S_DW_squareRoot_c116 F_DW_squareRoot_c116
  have r := T_root (x3 := 2) (t0_0 := t7_0) (t0_1 := t7_1) (t1_0 := t8_0) u5 bu (by decide) (by decide) (by decide) (by decide) i2 i4 i5 i6 i1
  refine v_owe r.1 ?_
  replace r := r.2
  generalize F_Mil_root 220 2 t7_0 t7_1 t8_0 t5_0 t5_1 t6_0 t9_0 t9_1 t10_0 t11_0 t11_1 t12_0 t13_0 t13_1 t14_0 t3_0 t3_1 t4_0 p185.2.1 p185.2.2.1 p185.2.2.2 = p260 at r ⊢
  obtain ⟨⟨rv, r0, r1⟩, r2, r3, r4, r5, r6⟩ := r
  have rB : 0 ≤ rv ∧ bB 108 rv := by
    rcases r0 with ⟨h3, h4⟩ | ⟨h3, k, h4, h5⟩
    · rcases h4 with h4 | h4
      · rw [h3, h4]
        exact ⟨by decide, by show 0 < 2147483648 ^ 108; decide⟩
      · exact absurd h4 (by decide)
    · refine ⟨by omega, v_rB h4 ?_⟩
      have : k * 2 ≤ 31 * 215 + 2 - 1 := h5
      omega
  have sr := r1.sB rB.2
  unfold S_DW_squareRoot_c134 F_DW_squareRoot_c134
  have h3 : P1 220 (rv * rv) (F_Big_product 220 220 220 p260.2.2.2.2.2.2.2.2.2.1 p260.2.2.2.2.2.2.2.2.2.2.1 p260.2.2.2.2.2.2.2.2.2.2.2.1 p260.1 p260.2.1 p260.2.2.1 p260.1 p260.2.1 p260.2.2.1) := W_product r1 r1 (by decide) (by omega)
  generalize F_Big_product 220 220 220 p260.2.2.2.2.2.2.2.2.2.1 p260.2.2.2.2.2.2.2.2.2.2.1 p260.2.2.2.2.2.2.2.2.2.2.2.1 p260.1 p260.2.1 p260.2.2.1 p260.1 p260.2.1 p260.2.2.1 = p298 at h3 ⊢
  unfold S_DW_squareRoot_c158 F_DW_squareRoot_c158
  have fin : ∀ b : Int32, Dq (F_DW_shorten 0 x3 a84.toInt64 x4 j104 b (F_Big_copy 220 220 p185.2.1 p185.2.2.1 p185.2.2.2 p260.1 p260.2.1 p260.2.2.1).1 (F_Big_copy 220 220 p185.2.1 p185.2.2.1 p185.2.2.2 p260.1 p260.2.1 p260.2.2.1).2.1 (F_Big_copy 220 220 p185.2.1 p185.2.2.1 p185.2.2.2 p260.1 p260.2.1 p260.2.2.1).2.2 p298.1 p298.2.1 p298.2.2 t15_0 t15_1 t16_0).1 (F_DW_shorten 0 x3 a84.toInt64 x4 j104 b (F_Big_copy 220 220 p185.2.1 p185.2.2.1 p185.2.2.2 p260.1 p260.2.1 p260.2.2.1).1 (F_Big_copy 220 220 p185.2.1 p185.2.2.1 p185.2.2.2 p260.1 p260.2.1 p260.2.2.1).2.1 (F_Big_copy 220 220 p185.2.1 p185.2.2.1 p185.2.2.2 p260.1 p260.2.1 p260.2.2.1).2.2 p298.1 p298.2.1 p298.2.2 t15_0 t15_1 t16_0).2.2.2.1 (F_DW_shorten 0 x3 a84.toInt64 x4 j104 b (F_Big_copy 220 220 p185.2.1 p185.2.2.1 p185.2.2.2 p260.1 p260.2.1 p260.2.2.1).1 (F_Big_copy 220 220 p185.2.1 p185.2.2.1 p185.2.2.2 p260.1 p260.2.1 p260.2.2.1).2.1 (F_Big_copy 220 220 p185.2.1 p185.2.2.1 p185.2.2.2 p260.1 p260.2.1 p260.2.2.1).2.2 p298.1 p298.2.1 p298.2.2 t15_0 t15_1 t16_0).2.2.2.2.1 (F_DW_shorten 0 x3 a84.toInt64 x4 j104 b (F_Big_copy 220 220 p185.2.1 p185.2.2.1 p185.2.2.2 p260.1 p260.2.1 p260.2.2.1).1 (F_Big_copy 220 220 p185.2.1 p185.2.2.1 p185.2.2.2 p260.1 p260.2.1 p260.2.2.1).2.1 (F_Big_copy 220 220 p185.2.1 p185.2.2.1 p185.2.2.2 p260.1 p260.2.1 p260.2.2.1).2.2 p298.1 p298.2.1 p298.2.2 t15_0 t15_1 t16_0).2.2.2.2.2.1 ∧ G3 (bI 220) (bI 220) (bI 220) (F_DW_shorten 0 x3 a84.toInt64 x4 j104 b (F_Big_copy 220 220 p185.2.1 p185.2.2.1 p185.2.2.2 p260.1 p260.2.1 p260.2.2.1).1 (F_Big_copy 220 220 p185.2.1 p185.2.2.1 p185.2.2.2 p260.1 p260.2.1 p260.2.2.1).2.1 (F_Big_copy 220 220 p185.2.1 p185.2.2.1 p185.2.2.2 p260.1 p260.2.1 p260.2.2.1).2.2 p298.1 p298.2.1 p298.2.2 t15_0 t15_1 t16_0).2.2.2 := by
    intro b
    have h4 := W_copy (R := 220) (s := p185.2.1) (neg := p185.2.2.1) (f := p185.2.2.2) r1 r1.fit (by decide)
    have r7 := T_shorten (x2 := 0) (x3 := x3) (x4 := a84.toInt64) (x5 := x4) (t0_0 := j104) (t0_1 := b) (t3_0 := p298.1) (t3_1 := p298.2.1) (t4_0 := p298.2.2) h4 rB.1 rB.2 (by decide) i7
    exact ⟨Dq.mk r7.1 r7.2.1, r7.2.1.I, r7.2.2.1, r7.2.2.2⟩
  split
  · have f := fin (p185.1 ||| 0)
    exact ⟨trivial, f.1, f.2.1, r6, r2, trivial, r3, f.2.2.1, r5, f.2.2.2⟩
  · have f := fin (p185.1 ||| 1)
    exact ⟨trivial, f.1, f.2.1, r6, r2, trivial, r3, f.2.2.1, r5, f.2.2.2⟩
