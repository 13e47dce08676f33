/-! put: what its exception depends on -/
def kPut (x2 x3 : Int32) (x4 : Int64) : Int32 := if ((0 ≤ x2.toInt ∧ x2.toInt ≤ 3) ∧ 0 ≤ x3.toInt ∧ x3.toInt ≤ 9) ∧ (x2 = 3 → lg_cmp ((x4.toUInt64 >>> ((32 : Int32).toInt64.toUInt64 &&& Int64.toUInt64 63)).toInt64) 0 = 0) then 0 else 1
theorem k_nreg {k x : Int32} (h : ¬ F_NH_needRegister k x = 0) : F_NH_needRegister k x = 1 ∧ ¬ ((0 ≤ k.toInt ∧ k.toInt ≤ 3) ∧ 0 ≤ x.toInt ∧ x.toInt ≤ 9) := by
  refine ⟨(k_reg k x).resolve_left h, fun ⟨⟨a, b⟩, c, d⟩ => h ?_⟩
  unfold F_NH_needRegister
  have e3 : (3 : Int32).toInt = 3 := rfl
  have e0 : (0 : Int32).toInt = 0 := rfl
  have e9 : (9 : Int32).toInt = 9 := rfl
  rw [if_neg (fun z => by have := q_ltI z; omega), if_neg (fun z => by have := q_ltI z; omega)]
  have e : ¬ F_NH_isRegister x = 0 := by
    unfold F_NH_isRegister
    rw [if_neg (fun z => by have := q_ltI z; omega)]
    have e10 : (10 : Int32).toInt = 10 := rfl
    rw [if_neg (fun z => by have := q_leI z; omega)]
    decide
  rw [if_neg e, if_pos v_need1]
def Q_kp (x2 x3 : Int32) (x4 : Int64) (p : Int32 × Int32 × Int32 × (Nat → Int32) × Int32 × Int32 × (Nat → Int32) × (Nat → Int64) × (Nat → Int64) × Int32 × Int32 × (Nat → Int32) × Int32 × Int32 × Int32 × Int32 × (Nat → Int32)) : Prop := p.1 = kPut x2 x3 x4
theorem K_put {x2 : Int32} {x3 : Int32} {x4 : Int64} {t0_0 : Int64} {t0_1 : Int32} {t1_0 : Int32} {t1_1 : Int32} {t2_0 : (Nat → Int32)} {t3_0 : Int32} {t3_1 : Int32} {t4_0 : (Nat → Int32)} {t5_0 : (Nat → Int64)} {t6_0 : (Nat → Int64)} {t7_0 : Int32} {t7_1 : Int32} {t8_0 : (Nat → Int32)} {t9_0 : Int32} {t9_1 : Int32} {t10_0 : Int32} {t10_1 : Int32} {t11_0 : (Nat → Int32)}  : Q_kp x2 x3 x4 (F_NH_put x2 x3 x4 t0_0 t0_1 t1_0 t1_1 t2_0 t3_0 t3_1 t4_0 t5_0 t6_0 t7_0 t7_1 t8_0 t9_0 t9_1 t10_0 t10_1 t11_0) := by
  unfold F_NH_put
  by_cases g1 : (F_NH_needRegister x2 x3) = (0 : Int32)
  ·
    rw [if_pos g1]
    have hr := v_needReg g1
    by_cases g2 : x2 = (3 : Int32)
    ·
      rw [if_pos g2]
      have h3 := g2
      by_cases g3 : (lg_cmp ((x4.toUInt64 >>> ((32 : Int32).toInt64.toUInt64 &&& Int64.toUInt64 63)).toInt64 : Int64) 0 : Int32) = (0 : Int32)
      ·
        rw [if_pos g3]
        have hg := g3
        unfold F_NH_put_J19
        unfold F_NH_put_J24
        rw [if_pos v_need1]
        by_cases g4 : x2 = (0 : Int32)
        ·
          rw [if_pos g4]
          generalize F_Big_setLong (68 : Int32) x4 t7_0 t7_1 t8_0 = p213 at *
          unfold F_NH_put_c38
          exact (show (0 : Int32) = kPut x2 x3 x4 from (if_pos ⟨hr, fun z => by first | exact hg | exact absurd z h3⟩).symm)
        ·
          rw [if_neg g4]
          by_cases g5 : x2 = (1 : Int32)
          ·
            rw [if_pos g5]
            generalize F_Big_setLong (220 : Int32) x4 t1_0 t1_1 t2_0 = p128 at *
            unfold F_NH_put_c57
            generalize F_DW_settle (220 : Int32) (0 : Int64) (108 : Int32) t3_0 t3_1 t4_0 (p128.1 : Int32) (p128.2.1 : Int32) (p128.2.2 : (Nat → Int32)) t9_0 t9_1 t10_0 t10_1 t11_0 = p176 at *
            unfold F_NH_put_c78
            exact (show (0 : Int32) = kPut x2 x3 x4 from (if_pos ⟨hr, fun z => by first | exact hg | exact absurd z h3⟩).symm)
          ·
            rw [if_neg g5]
            by_cases g6 : x2 = (2 : Int32)
            ·
              rw [if_pos g6]
              exact (show (0 : Int32) = kPut x2 x3 x4 from (if_pos ⟨hr, fun z => by first | exact hg | exact absurd z h3⟩).symm)
            ·
              rw [if_neg g6]
              exact (show (0 : Int32) = kPut x2 x3 x4 from (if_pos ⟨hr, fun z => by first | exact hg | exact absurd z h3⟩).symm)
      ·
        rw [if_neg g3]
        have hg := g3
        unfold F_NH_put_J24
        have g7 : ¬ ((F_NH_need (0 : Int32)) = (0 : Int32)) := (by rw [v_need0]; decide)
        rw [if_neg g7]
        exact (show F_NH_need 0 = kPut x2 x3 x4 from v_need0.trans (if_neg (fun z => hg (z.2 h3))).symm)
    ·
      rw [if_neg g2]
      have h3 := g2
      unfold F_NH_put_J19
      unfold F_NH_put_J24
      rw [if_pos v_need1]
      by_cases g8 : x2 = (0 : Int32)
      ·
        rw [if_pos g8]
        generalize F_Big_setLong (68 : Int32) x4 t7_0 t7_1 t8_0 = p213 at *
        unfold F_NH_put_c38
        exact (show (0 : Int32) = kPut x2 x3 x4 from (if_pos ⟨hr, fun z => by first | exact hg | exact absurd z h3⟩).symm)
      ·
        rw [if_neg g8]
        by_cases g9 : x2 = (1 : Int32)
        ·
          rw [if_pos g9]
          generalize F_Big_setLong (220 : Int32) x4 t1_0 t1_1 t2_0 = p128 at *
          unfold F_NH_put_c57
          generalize F_DW_settle (220 : Int32) (0 : Int64) (108 : Int32) t3_0 t3_1 t4_0 (p128.1 : Int32) (p128.2.1 : Int32) (p128.2.2 : (Nat → Int32)) t9_0 t9_1 t10_0 t10_1 t11_0 = p176 at *
          unfold F_NH_put_c78
          exact (show (0 : Int32) = kPut x2 x3 x4 from (if_pos ⟨hr, fun z => by first | exact hg | exact absurd z h3⟩).symm)
        ·
          rw [if_neg g9]
          by_cases g10 : x2 = (2 : Int32)
          ·
            rw [if_pos g10]
            exact (show (0 : Int32) = kPut x2 x3 x4 from (if_pos ⟨hr, fun z => by first | exact hg | exact absurd z h3⟩).symm)
          ·
            rw [if_neg g10]
            exact (show (0 : Int32) = kPut x2 x3 x4 from (if_pos ⟨hr, fun z => by first | exact hg | exact absurd z h3⟩).symm)
  ·
    rw [if_neg g1]
    have hr := k_nreg g1
    exact (show F_NH_needRegister x2 x3 = kPut x2 x3 x4 from hr.1.trans (if_neg (fun z => hr.2 z.1)).symm)
