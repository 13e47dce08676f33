/-! put of the reference: what it says of an exception -/
theorem nm_no2n {k r : Int32} (h : ¬ F_NM_no_IIZ k r = 0) : ¬ ((0 ≤ k.toInt ∧ k.toInt ≤ 3) ∧ 0 ≤ r.toInt ∧ r.toInt ≤ 9) := fun ⟨⟨a, b⟩, c, d⟩ => h (by
  have e3 : (3 : Int32).toInt = 3 := rfl
  have e0 : (0 : Int32).toInt = 0 := rfl
  unfold F_NM_no_IIZ
  rw [if_neg (fun z => by have := q_ltI z; omega), if_neg (fun z => by have := q_ltI z; omega)]
  have e : F_NM_no_IZ r = 0 := by
    unfold F_NM_no_IZ
    rw [if_neg (fun z => by have := q_ltI z; omega), if_pos (q_Ile (x := r.toInt) (y := 9) rfl (by decide) d)]
  rw [if_pos e])
def Q_mp (x2 x3 : Int32) (x4 : Int64) (p : Int32 × Int32 × Int32 × Int32 × Int32 × Int32 × Int32 × Int32 × (Nat → Int32) × (Nat → Int32) × (Nat → Int32) × Int32 × Int32 × Int32 × Int64 × Int32 × Int32 × Int32 × Int32 × Int32 × Int32 × Int32 × (Nat → Int32) × (Nat → Int32) × (Nat → Int32) × (Nat → Int32) × (Nat → Int32) × (Nat → Int64)) : Prop := p.1 = kPut x2 x3 x4
theorem M_put {x2 : Int32} {x3 : Int32} {x4 : Int64} {t0_0 : Int32} {t0_1 : Int32} {t0_2 : Int32} {t1_0 : Int32} {t1_1 : Int32} {t1_2 : Int32} {t1_3 : Int32} {t1_4 : Int32} {t1_5 : Int32} {t1_6 : Int32} {t2_0 : (Nat → Int32)} {t3_0 : (Nat → Int32)} {t4_0 : (Nat → Int32)} {t5_0 : Int32} {t5_1 : Int32} {t5_2 : Int32} {t5_3 : Int64} {t5_4 : Int32} {t5_5 : Int32} {t5_6 : Int32} {t5_7 : Int32} {t5_8 : Int32} {t5_9 : Int32} {t5_10 : Int32} {t6_0 : (Nat → Int32)} {t7_0 : (Nat → Int32)} {t8_0 : (Nat → Int32)} {t9_0 : (Nat → Int32)} {t10_0 : (Nat → Int32)} {t11_0 : (Nat → Int64)}  : Q_mp x2 x3 x4 (F_NM_put x2 x3 x4 t0_0 t0_1 t0_2 t1_0 t1_1 t1_2 t1_3 t1_4 t1_5 t1_6 t2_0 t3_0 t4_0 t5_0 t5_1 t5_2 t5_3 t5_4 t5_5 t5_6 t5_7 t5_8 t5_9 t5_10 t6_0 t7_0 t8_0 t9_0 t10_0 t11_0) := by
  unfold F_NM_put
  by_cases g1 : ((F_NM_no_IIZ x2 x3) : Int32) = (0 : Int32)
  ·
    rw [if_pos g1]
    have hr := nm_no2 g1
    by_cases g2 : x2 = (3 : Int32)
    ·
      rw [if_pos g2]
      have h3 := g2
      by_cases g3 : (lg_cmp ((x4.toUInt64 >>> ((32 : Int32).toInt64.toUInt64 &&& Int64.toUInt64 63)).toInt64 : Int64) 0 : Int32) = (0 : Int32)
      ·
        rw [if_pos g3]
        have hg := g3
        unfold F_NM_put_J27
        unfold F_NM_put_J28
        have g4 : ((0 : Int32) ≤ (0 : Int32)) := (by decide)
        rw [if_pos g4]
        by_cases g5 : x2 = (0 : Int32)
        ·
          rw [if_pos g5]
          generalize F_WR_put x3 x4 t1_0 t1_1 t1_2 t1_3 t1_4 t1_5 t1_6 t2_0 t3_0 t4_0 = p203 at *
          unfold F_NM_put_c49
          exact (show (0 : Int32) = kPut x2 x3 x4 from (if_pos ⟨hr, fun z => by first | exact hg | exact absurd z h3⟩).symm)
        ·
          rw [if_neg g5]
          by_cases g6 : x2 = (1 : Int32)
          ·
            rw [if_pos g6]
            generalize F_DR_put x3 x4 (0 : Int32) t5_0 t5_1 t5_2 t5_3 t5_4 t5_5 t5_6 t5_7 t5_8 t5_9 t5_10 t6_0 t7_0 t8_0 t9_0 t10_0 = p148 at *
            unfold F_NM_put_c67
            exact (show (0 : Int32) = kPut x2 x3 x4 from (if_pos ⟨hr, fun z => by first | exact hg | exact absurd z h3⟩).symm)
          ·
            rw [if_neg g6]
            exact (show (0 : Int32) = kPut x2 x3 x4 from (if_pos ⟨hr, fun z => by first | exact hg | exact absurd z h3⟩).symm)
      ·
        rw [if_neg g3]
        have hg := g3
        unfold F_NM_put_J23
        unfold F_NM_put_J28
        have g7 : ¬ ((1 : Int32) ≤ (0 : Int32)) := (by decide)
        rw [if_neg g7]
        exact (show (1 : Int32) = kPut x2 x3 x4 from (if_neg (fun z => by first | exact hr z.1 | exact hg (z.2 h3))).symm)
    ·
      rw [if_neg g2]
      have h3 := g2
      unfold F_NM_put_J27
      unfold F_NM_put_J28
      have g8 : ((0 : Int32) ≤ (0 : Int32)) := (by decide)
      rw [if_pos g8]
      by_cases g9 : x2 = (0 : Int32)
      ·
        rw [if_pos g9]
        generalize F_WR_put x3 x4 t1_0 t1_1 t1_2 t1_3 t1_4 t1_5 t1_6 t2_0 t3_0 t4_0 = p203 at *
        unfold F_NM_put_c49
        exact (show (0 : Int32) = kPut x2 x3 x4 from (if_pos ⟨hr, fun z => by first | exact hg | exact absurd z h3⟩).symm)
      ·
        rw [if_neg g9]
        by_cases g10 : x2 = (1 : Int32)
        ·
          rw [if_pos g10]
          generalize F_DR_put x3 x4 (0 : Int32) t5_0 t5_1 t5_2 t5_3 t5_4 t5_5 t5_6 t5_7 t5_8 t5_9 t5_10 t6_0 t7_0 t8_0 t9_0 t10_0 = p148 at *
          unfold F_NM_put_c67
          exact (show (0 : Int32) = kPut x2 x3 x4 from (if_pos ⟨hr, fun z => by first | exact hg | exact absurd z h3⟩).symm)
        ·
          rw [if_neg g10]
          exact (show (0 : Int32) = kPut x2 x3 x4 from (if_pos ⟨hr, fun z => by first | exact hg | exact absurd z h3⟩).symm)
  ·
    rw [if_neg g1]
    have hr := nm_no2n g1
    unfold F_NM_put_J23
    unfold F_NM_put_J28
    have g11 : ¬ ((1 : Int32) ≤ (0 : Int32)) := (by decide)
    rw [if_neg g11]
    exact (show (1 : Int32) = kPut x2 x3 x4 from (if_neg (fun z => by first | exact hr z.1 | exact hg (z.2 h3))).symm)
