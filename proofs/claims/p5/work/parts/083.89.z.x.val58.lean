/-! what the printer owes; argument, format -/
def Q_choose (t0_0 t0_3 : Int32) (p : Int32 × Int32 × Int32 × Int32 × Int32) : Prop := p.2.1 = t0_0 ∧ p.2.2.2.2 = t0_3
theorem T_choose {t0_0 : Int32} {t0_1 : Int32} {t0_2 : Int32} {t0_3 : Int32} {t1_0 : (Nat → Int32)} {t2_0 : (Nat → Int64)} {t3_0 : (Nat → Int32)} {t4_0 : Int32} {t4_1 : Int32} {t4_2 : Int32} {t4_3 : Int32} {t4_4 : Int32} {t4_5 : Int32} {t4_6 : Int32}  : Q_choose t0_0 t0_3 (F_Pri_chooseArgument t0_0 t0_1 t0_2 t0_3 t1_0 t2_0 t3_0 t4_0 t4_1 t4_2 t4_3 t4_4 t4_5 t4_6) := by
  unfold F_Pri_chooseArgument
  by_cases g1 : ((F_Dir_has (64 : Int32) t4_0 t4_1 t4_2 t4_3 t4_4 t4_5 t4_6) : Int32) = (0 : Int32)
  ·
    rw [if_pos g1]
    by_cases g2 : t4_0 = (-1 : Int32)
    ·
      rw [if_pos g2]
      have g2i : t4_0.toInt = -1 := q_eqI g2
      exact ⟨rfl, rfl⟩
    ·
      rw [if_neg g2]
      have g2i : t4_0.toInt ≠ -1 := q_neI g2
      exact ⟨rfl, rfl⟩
  ·
    rw [if_neg g1]
    exact ⟨rfl, rfl⟩
def Q_fault (t0_0 z : Int32) (p : Int32 × Int32 × Int32 × Int32 × Int32) : Prop := p.2.1 = t0_0 ∧ (-1 ≤ p.2.2.2.2.toInt ∧ p.2.2.2.2.toInt ≤ 8) ∧ (p.1 = 0 → z = 0 → 0 ≤ p.2.2.2.2.toInt)
theorem T_fault {t0_0 : Int32} {t0_1 : Int32} {t0_2 : Int32} {t0_3 : Int32} {t1_0 : (Nat → Int32)} {t2_0 : (Nat → Int64)} {t3_0 : (Nat → Int32)} {t4_0 : Int32} {t4_1 : Int32} {t4_2 : Int32} {t4_3 : Int32} {t4_4 : Int32} {t4_5 : Int32} {t4_6 : Int32} (hc : 0 ≤ t0_0.toInt ∧ t0_0.toInt ≤ 9) (hl : -1 ≤ t0_3.toInt ∧ t0_3.toInt ≤ 8) : Q_fault t0_0 (F_Dir_isOneOf_7 t4_0 t4_1 t4_2 t4_3 t4_4 t4_5 t4_6) (F_Pri_findFault t0_0 t0_1 t0_2 t0_3 t1_0 t2_0 t3_0 t4_0 t4_1 t4_2 t4_3 t4_4 t4_5 t4_6) := by
  have e0 : (0 : Int32).toInt = 0 := rfl
  have e1 : (1 : Int32).toInt = 1 := rfl
  have em : (-1 : Int32).toInt = -1 := rfl
  unfold F_Pri_findFault
  by_cases g1 : ((F_Dir_fault t4_0 t4_1 t4_2 t4_3 t4_4 t4_5 t4_6) : Int32) = (0 : Int32)
  ·
    rw [if_pos g1]
    by_cases g2 : ((F_Dir_isOneOf_7 t4_0 t4_1 t4_2 t4_3 t4_4 t4_5 t4_6) : Int32) = (0 : Int32)
    ·
      rw [if_pos g2]
      have h3 := T_choose (t0_0 := t0_0) (t0_1 := t0_1) (t0_2 := t0_2) (t0_3 := t0_3) (t1_0 := t1_0) (t2_0 := t2_0) (t3_0 := t3_0) (t4_0 := t4_0) (t4_1 := t4_1) (t4_2 := t4_2) (t4_3 := t4_3) (t4_4 := t4_4) (t4_5 := t4_5) (t4_6 := t4_6) 
      generalize F_Pri_chooseArgument t0_0 t0_1 t0_2 t0_3 t1_0 t2_0 t3_0 t4_0 t4_1 t4_2 t4_3 t4_4 t4_5 t4_6 = p63 at h3 ⊢
      unfold Q_choose at h3
      have h1 := h3
      unfold F_Pri_findFault_c27
      by_cases g4 : (p63.1 : Int32) < (0 : Int32)
      ·
        rw [if_pos g4]
        (unfold Q_fault; dsimp only; first | exact ⟨rfl, hl, fun _ h => absurd h (by assumption)⟩ | exact ⟨rfl, hl, fun h => absurd h (by assumption)⟩ | exact ⟨h1.1, (by rw [h1.2]; exact hl), fun h => absurd h (by decide)⟩ | exact ⟨h1.1, (by omega), fun _ _ => (by omega)⟩ | exact ⟨h1.1, (by omega), fun h => absurd h (by decide)⟩)
      ·
        rw [if_neg g4]
        have g4i : 0 ≤ p63.1.toInt := q_nltI g4
        by_cases g5 : (p63.1 : Int32) < (p63.2.1 : Int32)
        ·
          rw [if_pos g5]
          have g5i : p63.1.toInt < t0_0.toInt := by have z := q_ltI g5; rw [h1.1] at z; exact z
          by_cases g6 : ((F_Pri_takesKind (t1_0 (p63.1 : Int32).toNatClampNeg : Int32) t4_0 t4_1 t4_2 t4_3 t4_4 t4_5 t4_6) : Int32) = (0 : Int32)
          ·
            rw [if_pos g6]
            (unfold Q_fault; dsimp only; first | exact ⟨rfl, hl, fun _ h => absurd h (by assumption)⟩ | exact ⟨rfl, hl, fun h => absurd h (by assumption)⟩ | exact ⟨h1.1, (by rw [h1.2]; exact hl), fun h => absurd h (by decide)⟩ | exact ⟨h1.1, (by omega), fun _ _ => (by omega)⟩ | exact ⟨h1.1, (by omega), fun h => absurd h (by decide)⟩)
          ·
            rw [if_neg g6]
            (unfold Q_fault; dsimp only; first | exact ⟨rfl, hl, fun _ h => absurd h (by assumption)⟩ | exact ⟨rfl, hl, fun h => absurd h (by assumption)⟩ | exact ⟨h1.1, (by rw [h1.2]; exact hl), fun h => absurd h (by decide)⟩ | exact ⟨h1.1, (by omega), fun _ _ => (by omega)⟩ | exact ⟨h1.1, (by omega), fun h => absurd h (by decide)⟩)
        ·
          rw [if_neg g5]
          (unfold Q_fault; dsimp only; first | exact ⟨rfl, hl, fun _ h => absurd h (by assumption)⟩ | exact ⟨rfl, hl, fun h => absurd h (by assumption)⟩ | exact ⟨h1.1, (by rw [h1.2]; exact hl), fun h => absurd h (by decide)⟩ | exact ⟨h1.1, (by omega), fun _ _ => (by omega)⟩ | exact ⟨h1.1, (by omega), fun h => absurd h (by decide)⟩)
    ·
      rw [if_neg g2]
      (unfold Q_fault; dsimp only; first | exact ⟨rfl, hl, fun _ h => absurd h (by assumption)⟩ | exact ⟨rfl, hl, fun h => absurd h (by assumption)⟩ | exact ⟨h1.1, (by rw [h1.2]; exact hl), fun h => absurd h (by decide)⟩ | exact ⟨h1.1, (by omega), fun _ _ => (by omega)⟩ | exact ⟨h1.1, (by omega), fun h => absurd h (by decide)⟩)
  ·
    rw [if_neg g1]
    (unfold Q_fault; dsimp only; first | exact ⟨rfl, hl, fun _ h => absurd h (by assumption)⟩ | exact ⟨rfl, hl, fun h => absurd h (by assumption)⟩ | exact ⟨h1.1, (by rw [h1.2]; exact hl), fun h => absurd h (by decide)⟩ | exact ⟨h1.1, (by omega), fun _ _ => (by omega)⟩ | exact ⟨h1.1, (by omega), fun h => absurd h (by decide)⟩)
def Q_writeSign (t0_0 t0_3 : Int32) (p : Int32 × Int32 × Int32 × Int32 × Int32 × (Nat → Int64)) : Prop := p.1 = t0_0 ∧ p.2.2.2.1 = t0_3
def Q_writeToBase (t0_0 t0_3 : Int32) (p : Int32 × Int32 × Int32 × Int32 × Int32 × (Nat → Int64)) : Prop := p.1 = t0_0 ∧ p.2.2.2.1 = t0_3
theorem T_writeSign {x2 : Int32} {t0_0 : Int32} {t0_1 : Int32} {t0_2 : Int32} {t0_3 : Int32} {t1_0 : Int32} {t2_0 : (Nat → Int64)} {t3_0 : Int32} {t3_1 : Int32} {t3_2 : Int32} {t3_3 : Int32} {t3_4 : Int32} {t3_5 : Int32} {t3_6 : Int32}  : Q_writeSign t0_0 t0_3 (F_Pri_writeSign x2 t0_0 t0_1 t0_2 t0_3 t1_0 t2_0 t3_0 t3_1 t3_2 t3_3 t3_4 t3_5 t3_6) := by
  unfold F_Pri_writeSign
  by_cases g1 : x2 = (0 : Int32)
  ·
    rw [if_pos g1]
    have g1i : x2.toInt = 0 := q_eqI g1
    by_cases g2 : ((F_Dir_has (4 : Int32) t3_0 t3_1 t3_2 t3_3 t3_4 t3_5 t3_6) : Int32) = (0 : Int32)
    ·
      rw [if_pos g2]
      by_cases g3 : ((F_Dir_has (128 : Int32) t3_0 t3_1 t3_2 t3_3 t3_4 t3_5 t3_6) : Int32) = (0 : Int32)
      ·
        rw [if_pos g3]
        exact ⟨rfl, rfl⟩
      ·
        rw [if_neg g3]
        generalize F_She_add_p (4104 : Int32) (513 : Int32) (1000000 : Int32) (32 : Int32) t1_0 t2_0 = p58
        unfold F_Pri_writeSign_c75
        exact ⟨rfl, rfl⟩
    ·
      rw [if_neg g2]
      generalize F_She_add_p (4104 : Int32) (513 : Int32) (1000000 : Int32) (43 : Int32) t1_0 t2_0 = p80
      unfold F_Pri_writeSign_c50
      exact ⟨rfl, rfl⟩
  ·
    rw [if_neg g1]
    have g1i : x2.toInt ≠ 0 := q_neI g1
    by_cases g4 : ((F_Dir_has (32 : Int32) t3_0 t3_1 t3_2 t3_3 t3_4 t3_5 t3_6) : Int32) = (0 : Int32)
    ·
      rw [if_pos g4]
      generalize F_She_add_p (4104 : Int32) (513 : Int32) (1000000 : Int32) (45 : Int32) t1_0 t2_0 = p111
      unfold F_Pri_writeSign_c27
      exact ⟨rfl, rfl⟩
    ·
      rw [if_neg g4]
      generalize F_She_add_p (4104 : Int32) (513 : Int32) (1000000 : Int32) (40 : Int32) t1_0 t2_0 = p133
      unfold F_Pri_writeSign_c27_4
      exact ⟨rfl, rfl⟩
theorem v_tbL110 {K_F_Pri_writeToBase_L78 : Int32 → (Int32 × Int32 × Int32 × Int32 × Int32 × (Nat → Int64))} {x2 : Int64} {t0_0 : Int32} {t0_1 : Int32} {t0_2 : Int32} {t0_3 : Int32} {t1_0 : Int32} {t2_0 : (Nat → Int64)} {t3_0 : Int32} {t3_1 : Int32} {t3_2 : Int32} {t3_3 : Int32} {t3_4 : Int32} {t3_5 : Int32} {t3_6 : Int32} {lx25 : Int32} {lx45 : Int32} {lx46 : (Nat → Int64)} {lx62 : Int32} {lx82 : Int32}  : ∀ (n : Nat) (lx105 : Int32) (lx106 : Int32) (lx107 : (Nat → Int64)), (lx105.toInt + 1 < (n : Int)) → (-1 ≤ lx105.toInt ∧ lx105.toInt ≤ 64) → Q_writeToBase t0_0 t0_3 (F_Pri_writeToBase_L110 K_F_Pri_writeToBase_L78 x2 t0_0 t0_1 t0_2 t0_3 t1_0 t2_0 t3_0 t3_1 t3_2 t3_3 t3_4 t3_5 t3_6 lx25 lx45 lx46 lx62 lx82 n lx105 lx106 lx107) := by
  intro n
  induction n with
  | zero => intro lx105 lx106 lx107 hm ha; exact absurd (show False by omega) id
  | succ n ih =>
    intro lx105 lx106 lx107 hm ha
    have e0 : (0 : Int32).toInt = 0 := rfl
    have e1 : (1 : Int32).toInt = 1 := rfl
    have em : (-1 : Int32).toInt = -1 := rfl
    rw [F_Pri_writeToBase_L110.eq_2]
    by_cases g1 : lx105 < (0 : Int32)
    ·
      rw [if_pos g1]
      have g1i : lx105.toInt < 0 := q_ltI g1
      exact ⟨rfl, rfl⟩
    ·
      rw [if_neg g1]
      have g1i : 0 ≤ lx105.toInt := q_nltI g1
      generalize F_She_add_p (4104 : Int32) (513 : Int32) (1000000 : Int32) ((F_jStr_charAt_19 ((((x2.toUInt64 >>> ((lx62 * lx105 : Int32).toInt64.toUInt64 &&& Int64.toUInt64 63)).toInt64 : Int64).toInt32 : Int32) &&& (((1 : Int32) <<< (lx62 &&& 31) : Int32) - 1 : Int32) : Int32)) : Int32) lx106 lx107 = p158
      unfold F_Pri_writeToBase_c139
      obtain ⟨a2, e3⟩ := q_nm (lx105 + (-1) : Int32)
      rw [e3]
      have a2i : a2.toInt = lx105.toInt + (-1) := by rw [← e3]; exact q_addI (x := lx105.toInt) (y := (-1)) rfl (by decide) (by omega) (by omega)
      exact ih _ _ _ (by first | assumption | omega | trivial | decide) (by first | assumption | omega | trivial | decide)
theorem v_tbL78 {x2 : Int64} {t0_0 : Int32} {t0_1 : Int32} {t0_2 : Int32} {t0_3 : Int32} {t1_0 : Int32} {t2_0 : (Nat → Int64)} {t3_0 : Int32} {t3_1 : Int32} {t3_2 : Int32} {t3_3 : Int32} {t3_4 : Int32} {t3_5 : Int32} {t3_6 : Int32} {lx25 : Int32} {lx45 : Int32} {lx46 : (Nat → Int64)} {lx62 : Int32}  : ∀ (n : Nat) (lx82 : Int32), (lx82.toInt < (n : Int)) → (0 ≤ lx82.toInt ∧ lx82.toInt ≤ 64) → Q_writeToBase t0_0 t0_3 (F_Pri_writeToBase_L78 x2 t0_0 t0_1 t0_2 t0_3 t1_0 t2_0 t3_0 t3_1 t3_2 t3_3 t3_4 t3_5 t3_6 lx25 lx45 lx46 lx62 n lx82) := by
  intro n
  induction n with
  | zero => intro lx82 hm ha; exact absurd (show False by omega) id
  | succ n ih =>
    intro lx82 hm ha
    have e0 : (0 : Int32).toInt = 0 := rfl
    have e1 : (1 : Int32).toInt = 1 := rfl
    have em : (-1 : Int32).toInt = -1 := rfl
    rw [F_Pri_writeToBase_L78.eq_2]
    by_cases g1 : lx82 ≤ (1 : Int32)
    ·
      rw [if_pos g1]
      have g1i : lx82.toInt ≤ 1 := q_leI g1
      unfold F_Pri_writeToBase_J104
      have e9 : (lx82 - 1 : Int32).toInt = lx82.toInt - 1 := q_subI (y := 1) rfl (by decide) (by omega) (by omega)
      exact v_tbL110 _ _ _ _ (by rw [e9]; omega) (by rw [e9]; omega)
    ·
      rw [if_neg g1]
      have g1i : 1 < lx82.toInt := q_nleI g1
      by_cases g2 : (lg_cmp ((x2.toUInt64 >>> ((lx62 * (lx82 - 1 : Int32) : Int32).toInt64.toUInt64 &&& Int64.toUInt64 63)).toInt64 : Int64) 0 : Int32) = (0 : Int32)
      ·
        rw [if_pos g2]
        obtain ⟨a3, e4⟩ := q_nm (lx82 + (-1) : Int32)
        rw [e4]
        have a3i : a3.toInt = lx82.toInt + (-1) := by rw [← e4]; exact q_addI (x := lx82.toInt) (y := (-1)) rfl (by decide) (by omega) (by omega)
        exact ih _ (by first | assumption | omega | trivial | decide) (by first | assumption | omega | trivial | decide)
      ·
        rw [if_neg g2]
        unfold F_Pri_writeToBase_J104
        have e9 : (lx82 - 1 : Int32).toInt = lx82.toInt - 1 := q_subI (y := 1) rfl (by decide) (by omega) (by omega)
        exact v_tbL110 _ _ _ _ (by rw [e9]; omega) (by rw [e9]; omega)
theorem T_writeToBase {x2 : Int64} {t0_0 : Int32} {t0_1 : Int32} {t0_2 : Int32} {t0_3 : Int32} {t1_0 : Int32} {t2_0 : (Nat → Int64)} {t3_0 : Int32} {t3_1 : Int32} {t3_2 : Int32} {t3_3 : Int32} {t3_4 : Int32} {t3_5 : Int32} {t3_6 : Int32}  : Q_writeToBase t0_0 t0_3 (F_Pri_writeToBase x2 t0_0 t0_1 t0_2 t0_3 t1_0 t2_0 t3_0 t3_1 t3_2 t3_3 t3_4 t3_5 t3_6) := by
  have e0 : (0 : Int32).toInt = 0 := rfl
  have e1 : (1 : Int32).toInt = 1 := rfl
  have em : (-1 : Int32).toInt = -1 := rfl
  unfold F_Pri_writeToBase
  by_cases g1 : t3_4 = (111 : Int32)
  ·
    rw [if_pos g1]
    have g1i : t3_4.toInt = 111 := q_eqI g1
    unfold F_Pri_writeToBase_J17
    by_cases g2 : ((F_Dir_has (2 : Int32) t3_0 t3_1 t3_2 t3_3 t3_4 t3_5 t3_6) : Int32) = (0 : Int32)
    ·
      rw [if_pos g2]
      unfold F_Pri_writeToBase_J47
      have g3 : ¬ ((1 : Int32) = (0 : Int32)) := (by decide)
      rw [if_neg g3]
      unfold F_Pri_writeToBase_J67
      exact v_tbL78 _ _ (by decide) (by decide)
    ·
      rw [if_neg g2]
      have g4 : ¬ ((1 : Int32) = (0 : Int32)) := (by decide)
      rw [if_neg g4]
      generalize F_She_addText_17 (4104 : Int32) (513 : Int32) (1000000 : Int32) t1_0 t2_0 = p227
      unfold F_Pri_writeToBase_c44_9
      unfold F_Pri_writeToBase_J47
      have g5 : ¬ ((1 : Int32) = (0 : Int32)) := (by decide)
      rw [if_neg g5]
      unfold F_Pri_writeToBase_J67
      exact v_tbL78 _ _ (by decide) (by decide)
  ·
    rw [if_neg g1]
    have g1i : t3_4.toInt ≠ 111 := q_neI g1
    unfold F_Pri_writeToBase_J17
    by_cases g6 : ((F_Dir_has (2 : Int32) t3_0 t3_1 t3_2 t3_3 t3_4 t3_5 t3_6) : Int32) = (0 : Int32)
    ·
      rw [if_pos g6]
      unfold F_Pri_writeToBase_J47
      have g7 : ((0 : Int32) = (0 : Int32)) := (by decide)
      rw [if_pos g7]
      unfold F_Pri_writeToBase_J67
      exact v_tbL78 _ _ (by decide) (by decide)
    ·
      rw [if_neg g6]
      have g8 : ((0 : Int32) = (0 : Int32)) := (by decide)
      rw [if_pos g8]
      generalize F_She_addText_18 (4104 : Int32) (513 : Int32) (1000000 : Int32) t1_0 t2_0 = p207
      unfold F_Pri_writeToBase_c44
      unfold F_Pri_writeToBase_J47
      have g9 : ((0 : Int32) = (0 : Int32)) := (by decide)
      rw [if_pos g9]
      unfold F_Pri_writeToBase_J67
      exact v_tbL78 _ _ (by decide) (by decide)
def Q_writeBody (t0_0 t0_3 : Int32) (p : Int32 × Int32 × Int32 × Int32 × Int32 × Int32 × (Nat → Int32) × Int32 × (Nat → Int64)) : Prop := p.1 = t0_0 ∧ p.2.2.2.1 = t0_3
theorem T_writeBody {t0_0 : Int32} {t0_1 : Int32} {t0_2 : Int32} {t0_3 : Int32} {t1_0 : (Nat → Int32)} {t2_0 : (Nat → Int64)} {t3_0 : (Nat → Int32)} {t4_0 : Int32} {t4_1 : Int32} {t5_0 : (Nat → Int32)} {t6_0 : Int32} {t7_0 : (Nat → Int64)} {t8_0 : Int32} {t8_1 : Int32} {t8_2 : Int32} {t8_3 : Int32} {t8_4 : Int32} {t8_5 : Int32} {t8_6 : Int32} {t9_0 : Int32} {t10_0 : (Nat → Int64)} {t11_0 : Int32} {t12_0 : (Nat → Int64)} {t13_0 : Int32} {t14_0 : (Nat → Int64)} {t15_0 : Int32} {t16_0 : (Nat → Int64)} {t17_0 : Int32} {t18_0 : (Nat → Int64)} {t19_0 : Int32} {t20_0 : (Nat → Int64)} {t21_0 : Int32} {t22_0 : (Nat → Int64)} {t23_0 : Int32} {t24_0 : (Nat → Int64)} {t25_0 : Int32} {t26_0 : (Nat → Int64)} (hs : F_Dir_isOneOf_7 t8_0 t8_1 t8_2 t8_3 t8_4 t8_5 t8_6 = 0 → 0 ≤ t0_3.toInt) : (S_Pri_writeBody t0_0 t0_1 t0_2 t0_3 t1_0 t2_0 t3_0 t4_0 t4_1 t5_0 t6_0 t7_0 t8_0 t8_1 t8_2 t8_3 t8_4 t8_5 t8_6 t9_0 t10_0 t11_0 t12_0 t13_0 t14_0 t15_0 t16_0 t17_0 t18_0 t19_0 t20_0 t21_0 t22_0 t23_0 t24_0 t25_0 t26_0) ∧ Q_writeBody t0_0 t0_3 (F_Pri_writeBody t0_0 t0_1 t0_2 t0_3 t1_0 t2_0 t3_0 t4_0 t4_1 t5_0 t6_0 t7_0 t8_0 t8_1 t8_2 t8_3 t8_4 t8_5 t8_6 t9_0 t10_0 t11_0 t12_0 t13_0 t14_0 t15_0 t16_0 t17_0 t18_0 t19_0 t20_0 t21_0 t22_0 t23_0 t24_0 t25_0 t26_0) := by
  have e0 : (0 : Int32).toInt = 0 := rfl
  have e1 : (1 : Int32).toInt = 1 := rfl
  have em : (-1 : Int32).toInt = -1 := rfl
  unfold S_Pri_writeBody F_Pri_writeBody
  by_cases g1 : ((F_Dir_isOneOf_7 t8_0 t8_1 t8_2 t8_3 t8_4 t8_5 t8_6) : Int32) = (0 : Int32)
  ·
    rw [if_pos g1, if_pos g1]
    refine v_cons (hs g1) ?_
    by_cases g2 : ((F_Dir_isOneOf_11 t8_0 t8_1 t8_2 t8_3 t8_4 t8_5 t8_6) : Int32) = (0 : Int32)
    ·
      rw [if_pos g2, if_pos g2]
      by_cases g3 : ((F_Dir_isOneOf_14 t8_0 t8_1 t8_2 t8_3 t8_4 t8_5 t8_6) : Int32) = (0 : Int32)
      ·
        rw [if_pos g3, if_pos g3]
        by_cases g4 : (t1_0 t0_3.toNatClampNeg : Int32) = (0 : Int32)
        ·
          rw [if_pos g4, if_pos g4]
          generalize F_She_addText_15 (4104 : Int32) (513 : Int32) (1000000 : Int32) t6_0 t7_0 = p390
          unfold S_Pri_writeBody_c152 F_Pri_writeBody_c152
          refine ⟨trivial, ?_⟩
          first | exact ⟨rfl, rfl⟩ | exact hsg | exact htb
        ·
          rw [if_neg g4, if_neg g4]
          by_cases g5 : (t1_0 t0_3.toNatClampNeg : Int32) = (2 : Int32)
          ·
            rw [if_pos g5, if_pos g5]
            generalize F_She_add_p (4104 : Int32) (513 : Int32) (1000000 : Int32) ((t2_0 t0_3.toNatClampNeg : Int64).toInt32 : Int32) t6_0 t7_0 = p370
            unfold S_Pri_writeBody_c177 F_Pri_writeBody_c177
            refine ⟨trivial, ?_⟩
            first | exact ⟨rfl, rfl⟩ | exact hsg | exact htb
          ·
            rw [if_neg g5, if_neg g5]
            by_cases g6 : ((F_Dir_isOneOf_16 t8_0 t8_1 t8_2 t8_3 t8_4 t8_5 t8_6) : Int32) = (0 : Int32)
            ·
              rw [if_pos g6, if_pos g6]
              by_cases g7 : (0 : Int32) ≤ (lg_cmp (t2_0 t0_3.toNatClampNeg : Int64) 0 : Int32)
              ·
                rw [if_pos g7, if_pos g7]
                unfold S_Pri_writeBody_J231 F_Pri_writeBody_J231
                have h8 := T_writeSign (x2 := (0 : Int32)) (t0_0 := t0_0) (t0_1 := t0_1) (t0_2 := t0_2) (t0_3 := t0_3) (t1_0 := t6_0) (t2_0 := t7_0) (t3_0 := t8_0) (t3_1 := t8_1) (t3_2 := t8_2) (t3_3 := t8_3) (t3_4 := t8_4) (t3_5 := t8_5) (t3_6 := t8_6) 
                generalize F_Pri_writeSign (0 : Int32) t0_0 t0_1 t0_2 t0_3 t6_0 t7_0 t8_0 t8_1 t8_2 t8_3 t8_4 t8_5 t8_6 = p194 at h8 ⊢
                have hsg := h8
                unfold S_Pri_writeBody_c231 F_Pri_writeBody_c231
                generalize F_Dig_fillLong (t2_0 (p194.2.2.2.1 : Int32).toNatClampNeg : Int64) (t3_0 (p194.2.2.2.1 : Int32).toNatClampNeg : Int32) t4_0 t4_1 t5_0 = p229
                unfold S_Pri_writeBody_c256 F_Pri_writeBody_c256
                generalize F_Pri_writeNumber (p229.1 : Int32) (p229.2.1 : Int32) (p229.2.2 : (Nat → Int32)) (p194.2.2.2.2.1 : Int32) (p194.2.2.2.2.2 : (Nat → Int64)) t8_0 t8_1 t8_2 t8_3 t8_4 t8_5 t8_6 = p264
                unfold S_Pri_writeBody_c260 F_Pri_writeBody_c260
                by_cases g9 : (0 : Int32) ≤ (lg_cmp (t2_0 (p194.2.2.2.1 : Int32).toNatClampNeg : Int64) 0 : Int32)
                ·
                  rw [if_pos g9, if_pos g9]
                  refine ⟨trivial, ?_⟩
                  first | exact ⟨rfl, rfl⟩ | exact hsg | exact htb
                ·
                  rw [if_neg g9, if_neg g9]
                  by_cases g10 : ((F_Dir_has (32 : Int32) t8_0 t8_1 t8_2 t8_3 t8_4 t8_5 t8_6) : Int32) = (0 : Int32)
                  ·
                    rw [if_pos g10, if_pos g10]
                    refine ⟨trivial, ?_⟩
                    first | exact ⟨rfl, rfl⟩ | exact hsg | exact htb
                  ·
                    rw [if_neg g10, if_neg g10]
                    generalize F_She_add_p (4104 : Int32) (513 : Int32) (1000000 : Int32) (41 : Int32) (p264.2.2.2.1 : Int32) (p264.2.2.2.2 : (Nat → Int64)) = p304
                    unfold S_Pri_writeBody_c295 F_Pri_writeBody_c295
                    refine ⟨trivial, ?_⟩
                    first | exact ⟨rfl, rfl⟩ | exact hsg | exact htb
              ·
                rw [if_neg g7, if_neg g7]
                unfold S_Pri_writeBody_J231 F_Pri_writeBody_J231
                have h11 := T_writeSign (x2 := (1 : Int32)) (t0_0 := t0_0) (t0_1 := t0_1) (t0_2 := t0_2) (t0_3 := t0_3) (t1_0 := t6_0) (t2_0 := t7_0) (t3_0 := t8_0) (t3_1 := t8_1) (t3_2 := t8_2) (t3_3 := t8_3) (t3_4 := t8_4) (t3_5 := t8_5) (t3_6 := t8_6) 
                generalize F_Pri_writeSign (1 : Int32) t0_0 t0_1 t0_2 t0_3 t6_0 t7_0 t8_0 t8_1 t8_2 t8_3 t8_4 t8_5 t8_6 = p194 at h11 ⊢
                have hsg := h11
                unfold S_Pri_writeBody_c231 F_Pri_writeBody_c231
                generalize F_Dig_fillLong (t2_0 (p194.2.2.2.1 : Int32).toNatClampNeg : Int64) (t3_0 (p194.2.2.2.1 : Int32).toNatClampNeg : Int32) t4_0 t4_1 t5_0 = p229
                unfold S_Pri_writeBody_c256 F_Pri_writeBody_c256
                generalize F_Pri_writeNumber (p229.1 : Int32) (p229.2.1 : Int32) (p229.2.2 : (Nat → Int32)) (p194.2.2.2.2.1 : Int32) (p194.2.2.2.2.2 : (Nat → Int64)) t8_0 t8_1 t8_2 t8_3 t8_4 t8_5 t8_6 = p264
                unfold S_Pri_writeBody_c260 F_Pri_writeBody_c260
                by_cases g12 : (0 : Int32) ≤ (lg_cmp (t2_0 (p194.2.2.2.1 : Int32).toNatClampNeg : Int64) 0 : Int32)
                ·
                  rw [if_pos g12, if_pos g12]
                  refine ⟨trivial, ?_⟩
                  first | exact ⟨rfl, rfl⟩ | exact hsg | exact htb
                ·
                  rw [if_neg g12, if_neg g12]
                  by_cases g13 : ((F_Dir_has (32 : Int32) t8_0 t8_1 t8_2 t8_3 t8_4 t8_5 t8_6) : Int32) = (0 : Int32)
                  ·
                    rw [if_pos g13, if_pos g13]
                    refine ⟨trivial, ?_⟩
                    first | exact ⟨rfl, rfl⟩ | exact hsg | exact htb
                  ·
                    rw [if_neg g13, if_neg g13]
                    generalize F_She_add_p (4104 : Int32) (513 : Int32) (1000000 : Int32) (41 : Int32) (p264.2.2.2.1 : Int32) (p264.2.2.2.2 : (Nat → Int64)) = p304
                    unfold S_Pri_writeBody_c295 F_Pri_writeBody_c295
                    refine ⟨trivial, ?_⟩
                    first | exact ⟨rfl, rfl⟩ | exact hsg | exact htb
            ·
              rw [if_neg g6, if_neg g6]
              have h14 := T_writeToBase (x2 := (t2_0 t0_3.toNatClampNeg : Int64)) (t0_0 := t0_0) (t0_1 := t0_1) (t0_2 := t0_2) (t0_3 := t0_3) (t1_0 := t6_0) (t2_0 := t7_0) (t3_0 := t8_0) (t3_1 := t8_1) (t3_2 := t8_2) (t3_3 := t8_3) (t3_4 := t8_4) (t3_5 := t8_5) (t3_6 := t8_6) 
              generalize F_Pri_writeToBase (t2_0 t0_3.toNatClampNeg : Int64) t0_0 t0_1 t0_2 t0_3 t6_0 t7_0 t8_0 t8_1 t8_2 t8_3 t8_4 t8_5 t8_6 = p342 at h14 ⊢
              have htb := h14
              unfold S_Pri_writeBody_c205 F_Pri_writeBody_c205
              refine ⟨trivial, ?_⟩
              first | exact ⟨rfl, rfl⟩ | exact hsg | exact htb
      ·
        rw [if_neg g3, if_neg g3]
        generalize F_Pri_writeAnything t0_3 t0_0 t0_1 t0_2 t0_3 t1_0 t2_0 t3_0 t4_0 t4_1 t5_0 t6_0 t7_0 t9_0 t10_0 t11_0 t12_0 t13_0 t14_0 t15_0 t16_0 t17_0 t18_0 t19_0 t20_0 t21_0 t22_0 t23_0 t24_0 t25_0 t26_0 = p423
        unfold S_Pri_writeBody_c132 F_Pri_writeBody_c132
        refine ⟨trivial, ?_⟩
        first | exact ⟨rfl, rfl⟩ | exact hsg | exact htb
    ·
      rw [if_neg g2, if_neg g2]
      by_cases g15 : (t1_0 t0_3.toNatClampNeg : Int32) = (0 : Int32)
      ·
        rw [if_pos g15, if_pos g15]
        unfold S_Pri_writeBody_J84 F_Pri_writeBody_J84
        unfold S_Pri_writeBody_J89 F_Pri_writeBody_J89
        have g16 : ¬ ((1 : Int32) = (0 : Int32)) := (by decide)
        rw [if_neg g16, if_neg g16]
        generalize F_She_addText_12 (4104 : Int32) (513 : Int32) (1000000 : Int32) t6_0 t7_0 = p522
        unfold S_Pri_writeBody_c105_12 F_Pri_writeBody_c105_12
        refine ⟨trivial, ?_⟩
        first | exact ⟨rfl, rfl⟩ | exact hsg | exact htb
      ·
        rw [if_neg g15, if_neg g15]
        by_cases g17 : (t1_0 t0_3.toNatClampNeg : Int32) = (1 : Int32)
        ·
          rw [if_pos g17, if_pos g17]
          by_cases g18 : (lg_cmp (t2_0 t0_3.toNatClampNeg : Int64) 0 : Int32) = (0 : Int32)
          ·
            rw [if_pos g18, if_pos g18]
            unfold S_Pri_writeBody_J84 F_Pri_writeBody_J84
            unfold S_Pri_writeBody_J89 F_Pri_writeBody_J89
            have g19 : ¬ ((1 : Int32) = (0 : Int32)) := (by decide)
            rw [if_neg g19, if_neg g19]
            generalize F_She_addText_12 (4104 : Int32) (513 : Int32) (1000000 : Int32) t6_0 t7_0 = p522
            unfold S_Pri_writeBody_c105_12 F_Pri_writeBody_c105_12
            refine ⟨trivial, ?_⟩
            first | exact ⟨rfl, rfl⟩ | exact hsg | exact htb
          ·
            rw [if_neg g18, if_neg g18]
            unfold S_Pri_writeBody_J88 F_Pri_writeBody_J88
            unfold S_Pri_writeBody_J89 F_Pri_writeBody_J89
            have g20 : ((0 : Int32) = (0 : Int32)) := (by decide)
            rw [if_pos g20, if_pos g20]
            generalize F_She_addText_13 (4104 : Int32) (513 : Int32) (1000000 : Int32) t6_0 t7_0 = p493
            unfold S_Pri_writeBody_c105 F_Pri_writeBody_c105
            refine ⟨trivial, ?_⟩
            first | exact ⟨rfl, rfl⟩ | exact hsg | exact htb
        ·
          rw [if_neg g17, if_neg g17]
          unfold S_Pri_writeBody_J88 F_Pri_writeBody_J88
          unfold S_Pri_writeBody_J89 F_Pri_writeBody_J89
          have g21 : ((0 : Int32) = (0 : Int32)) := (by decide)
          rw [if_pos g21, if_pos g21]
          generalize F_She_addText_13 (4104 : Int32) (513 : Int32) (1000000 : Int32) t6_0 t7_0 = p493
          unfold S_Pri_writeBody_c105 F_Pri_writeBody_c105
          refine ⟨trivial, ?_⟩
          first | exact ⟨rfl, rfl⟩ | exact hsg | exact htb
  ·
    rw [if_neg g1, if_neg g1]
    by_cases g22 : t8_4 = (110 : Int32)
    ·
      rw [if_pos g22, if_pos g22]
      have g22i : t8_4.toInt = 110 := q_eqI g22
      generalize F_She_add_p (4104 : Int32) (513 : Int32) (1000000 : Int32) (10 : Int32) t6_0 t7_0 = p653
      unfold S_Pri_writeBody_c35_16 F_Pri_writeBody_c35_16
      refine ⟨trivial, ?_⟩
      first | exact ⟨rfl, rfl⟩ | exact hsg | exact htb
    ·
      rw [if_neg g22, if_neg g22]
      have g22i : t8_4.toInt ≠ 110 := q_neI g22
      generalize F_She_add_p (4104 : Int32) (513 : Int32) (1000000 : Int32) (37 : Int32) t6_0 t7_0 = p633
      unfold S_Pri_writeBody_c35 F_Pri_writeBody_c35
      refine ⟨trivial, ?_⟩
      first | exact ⟨rfl, rfl⟩ | exact hsg | exact htb
theorem v_ruL {t0_0 : Int32} {t1_0 : (Nat → Int64)} {t2_0 : Int32} {t3_0 : (Nat → Int64)} {t4_0 : Int32} {t4_1 : Int32} {t4_2 : Int32} {t4_3 : Int32} {t5_0 : (Nat → Int32)} {t6_0 : (Nat → Int64)} {t7_0 : (Nat → Int32)} {t8_0 : Int32} {t8_1 : Int32} {t9_0 : (Nat → Int32)} {t10_0 : Int32} {t11_0 : (Nat → Int64)} {t12_0 : Int32} {t12_1 : Int32} {t12_2 : Int32} {t12_3 : Int32} {t12_4 : Int32} {t12_5 : Int32} {t12_6 : Int32} {t13_0 : Int32} {t14_0 : (Nat → Int64)} {t15_0 : Int32} {t16_0 : (Nat → Int64)} {t17_0 : Int32} {t18_0 : (Nat → Int64)} {t19_0 : Int32} {t20_0 : (Nat → Int64)} {t21_0 : Int32} {t22_0 : (Nat → Int64)} {t23_0 : Int32} {t24_0 : (Nat → Int64)} {t25_0 : Int32} {t26_0 : (Nat → Int64)} {t27_0 : Int32} {t28_0 : (Nat → Int64)} {t29_0 : Int32} {t30_0 : (Nat → Int64)}  : ∀ (n : Nat) (lx111 : Int32) (lx112 : Int32) (lx113 : Int32) (lx114 : (Nat → Int64)) (lx115 : Int32) (lx116 : Int32) (lx117 : Int32) (lx118 : Int32) (lx119 : Int32) (lx120 : Int32) (lx121 : (Nat → Int32)) (lx122 : Int32) (lx123 : (Nat → Int64)) (lx124 : Int32) (lx125 : Int32) (lx126 : Int32) (lx127 : Int32) (lx128 : Int32) (lx129 : Int32) (lx130 : Int32), (257 - lx111.toInt < (n : Int)) → (0 ≤ lx111.toInt ∧ lx111.toInt ≤ 257) → (0 ≤ lx115.toInt ∧ lx115.toInt ≤ 9) → (-1 ≤ lx118.toInt ∧ lx118.toInt ≤ 8) → (S_Pri_run_L18 t0_0 t1_0 t2_0 t3_0 t4_0 t4_1 t4_2 t4_3 t5_0 t6_0 t7_0 t8_0 t8_1 t9_0 t10_0 t11_0 t12_0 t12_1 t12_2 t12_3 t12_4 t12_5 t12_6 t13_0 t14_0 t15_0 t16_0 t17_0 t18_0 t19_0 t20_0 t21_0 t22_0 t23_0 t24_0 t25_0 t26_0 t27_0 t28_0 t29_0 t30_0 n lx111 lx112 lx113 lx114 lx115 lx116 lx117 lx118 lx119 lx120 lx121 lx122 lx123 lx124 lx125 lx126 lx127 lx128 lx129 lx130) := by
  intro n
  induction n with
  | zero => intro lx111 lx112 lx113 lx114 lx115 lx116 lx117 lx118 lx119 lx120 lx121 lx122 lx123 lx124 lx125 lx126 lx127 lx128 lx129 lx130 hm ha hc hl; exact absurd (show False by omega) id
  | succ n ih =>
    intro lx111 lx112 lx113 lx114 lx115 lx116 lx117 lx118 lx119 lx120 lx121 lx122 lx123 lx124 lx125 lx126 lx127 lx128 lx129 lx130 hm ha hc hl
    have e0 : (0 : Int32).toInt = 0 := rfl
    have e1 : (1 : Int32).toInt = 1 := rfl
    have em : (-1 : Int32).toInt = -1 := rfl
    rw [S_Pri_run_L18.eq_2]
    by_cases g1 : (256 : Int32) < lx111
    ·
      rw [if_pos g1]
      have g1i : 256 < lx111.toInt := q_ltI g1
      exact trivial
    ·
      rw [if_neg g1]
      have g1i : lx111.toInt ≤ 256 := q_nltI g1
      by_cases g2 : t0_0 ≤ lx112
      ·
        rw [if_pos g2]
        have g2i : t0_0.toInt ≤ lx112.toInt := q_leI g2
        exact trivial
      ·
        rw [if_neg g2]
        have g2i : lx112.toInt < t0_0.toInt := q_nleI g2
        refine And.intro (by omega) ?_
        refine And.intro (by omega) ?_
        refine And.intro (by omega) ?_
        refine And.intro (by omega) ?_
        by_cases g3 : ((F_She_at_p (4100 : Int32) (513 : Int32) (4100 : Int32) (lx112.toInt64 : Int64) t0_0 t1_0) : Int32) = (37 : Int32)
        ·
          rw [if_pos g3]
          generalize F_Dir_parse lx112 lx124 lx125 lx126 lx127 lx128 lx129 lx130 t0_0 t1_0 = p459
          unfold S_Pri_run_c75
          have h4 := T_fault (t0_0 := lx115) (t0_1 := (-1 : Int32)) (t0_2 := lx117) (t0_3 := lx118) (t1_0 := t5_0) (t2_0 := t6_0) (t3_0 := t7_0) (t4_0 := (p459.1 : Int32)) (t4_1 := (p459.2.1 : Int32)) (t4_2 := (p459.2.2.1 : Int32)) (t4_3 := (p459.2.2.2.1 : Int32)) (t4_4 := (p459.2.2.2.2.1 : Int32)) (t4_5 := (p459.2.2.2.2.2.1 : Int32)) (t4_6 := (p459.2.2.2.2.2.2 : Int32)) (by omega) (by omega)
          generalize F_Pri_findFault lx115 (-1 : Int32) lx117 lx118 t5_0 t6_0 t7_0 (p459.1 : Int32) (p459.2.1 : Int32) (p459.2.2.1 : Int32) (p459.2.2.2.1 : Int32) (p459.2.2.2.2.1 : Int32) (p459.2.2.2.2.2.1 : Int32) (p459.2.2.2.2.2.2 : Int32) = p494 at h4 ⊢
          unfold Q_fault at h4
          have hft := h4
          have hfc : p494.2.1.toInt = lx115.toInt := by rw [hft.1]
          unfold S_Pri_run_c88
          by_cases g5 : (p494.1 : Int32) = (0 : Int32)
          ·
            rw [if_pos g5]
            have g5i : p494.1.toInt = 0 := q_eqI g5
            have h6 := T_writeBody (t0_0 := (p494.2.1 : Int32)) (t0_1 := (p494.2.2.1 : Int32)) (t0_2 := (p494.2.2.2.1 : Int32)) (t0_3 := (p494.2.2.2.2 : Int32)) (t1_0 := t5_0) (t2_0 := t6_0) (t3_0 := t7_0) (t4_0 := lx119) (t4_1 := lx120) (t5_0 := lx121) (t6_0 := ((F_She_clear (4104 : Int32) (513 : Int32) (1000000 : Int32) lx122) : Int32)) (t7_0 := lx123) (t8_0 := (p459.1 : Int32)) (t8_1 := (p459.2.1 : Int32)) (t8_2 := (p459.2.2.1 : Int32)) (t8_3 := (p459.2.2.2.1 : Int32)) (t8_4 := (p459.2.2.2.2.1 : Int32)) (t8_5 := (p459.2.2.2.2.2.1 : Int32)) (t8_6 := (p459.2.2.2.2.2.2 : Int32)) (t9_0 := t13_0) (t10_0 := t14_0) (t11_0 := t15_0) (t12_0 := t16_0) (t13_0 := t17_0) (t14_0 := t18_0) (t15_0 := t19_0) (t16_0 := t20_0) (t17_0 := t21_0) (t18_0 := t22_0) (t19_0 := t23_0) (t20_0 := t24_0) (t21_0 := t25_0) (t22_0 := t26_0) (t23_0 := t27_0) (t24_0 := t28_0) (t25_0 := t29_0) (t26_0 := t30_0) (fun hz => hft.2.2 (by assumption) hz)
            refine v_oweS h6.1 ?_
            replace h6 := h6.2
            generalize F_Pri_writeBody (p494.2.1 : Int32) (p494.2.2.1 : Int32) (p494.2.2.2.1 : Int32) (p494.2.2.2.2 : Int32) t5_0 t6_0 t7_0 lx119 lx120 lx121 ((F_She_clear (4104 : Int32) (513 : Int32) (1000000 : Int32) lx122) : Int32) lx123 (p459.1 : Int32) (p459.2.1 : Int32) (p459.2.2.1 : Int32) (p459.2.2.2.1 : Int32) (p459.2.2.2.2.1 : Int32) (p459.2.2.2.2.2.1 : Int32) (p459.2.2.2.2.2.2 : Int32) t13_0 t14_0 t15_0 t16_0 t17_0 t18_0 t19_0 t20_0 t21_0 t22_0 t23_0 t24_0 t25_0 t26_0 t27_0 t28_0 t29_0 t30_0 = p548 at h6 ⊢
            unfold Q_writeBody at h6
            have hwc : p548.1.toInt = lx115.toInt := by rw [h6.1]; exact hfc
            have hwl := congrArg Int32.toInt h6.2
            unfold S_Pri_run_c99
            unfold S_Pri_run_J128
            rw [if_pos g5]
            by_cases g7 : (lx113 + (if (p548.2.2.2.2.2.2.2.1 : Int32) < (p459.2.2.1 : Int32) then (p459.2.2.1 : Int32) else (p548.2.2.2.2.2.2.2.1 : Int32) : Int32) : Int32) ≤ (4096 : Int32)
            ·
              rw [if_pos g7]
              generalize F_Pri_widen (p548.1 : Int32) (p548.2.1 : Int32) (p548.2.2.1 : Int32) (p548.2.2.2.1 : Int32) (p548.2.2.2.2.2.2.2.1 : Int32) (p548.2.2.2.2.2.2.2.2 : (Nat → Int64)) (p459.1 : Int32) (p459.2.1 : Int32) (p459.2.2.1 : Int32) (p459.2.2.2.1 : Int32) (p459.2.2.2.2.1 : Int32) (p459.2.2.2.2.2.1 : Int32) (p459.2.2.2.2.2.2 : Int32) lx113 lx114 = p337
              unfold S_Pri_run_c185
              obtain ⟨a8, e9⟩ := q_nm (lx111 + 1 : Int32)
              rw [e9]
              have a8i : a8.toInt = lx111.toInt + 1 := by rw [← e9]; exact q_addI (x := lx111.toInt) (y := 1) rfl (by decide) (by omega) (by omega)
              exact ih _ _ _ _ _ _ _ _ _ _ _ _ _ _ _ _ _ _ _ _ (by first | assumption | omega | trivial | decide) (by first | assumption | omega | trivial | decide) (by first | assumption | omega | trivial | decide) (by first | assumption | omega | trivial | decide)
            ·
              rw [if_neg g7]
              exact trivial
          ·
            rw [if_neg g5]
            have g5i : p494.1.toInt ≠ 0 := q_neI g5
            unfold S_Pri_run_J128
            rw [if_neg g5]
            exact trivial
        ·
          rw [if_neg g3]
          generalize F_Dir_setPlain lx124 lx125 lx126 lx127 lx128 lx129 lx130 t0_0 t1_0 = p391
          unfold S_Pri_run_c109
          generalize F_She_add_p (4104 : Int32) (513 : Int32) (1000000 : Int32) ((F_She_at_p (4100 : Int32) (513 : Int32) (4100 : Int32) (lx112.toInt64 : Int64) t0_0 t1_0) : Int32) ((F_She_clear (4104 : Int32) (513 : Int32) (1000000 : Int32) lx122) : Int32) lx123 = p426
          unfold S_Pri_run_c125
          unfold S_Pri_run_J128
          have g10 : ((0 : Int32) = (0 : Int32)) := (by decide)
          rw [if_pos g10]
          by_cases g11 : (lx113 + (if (p426.1 : Int32) < (p391.2.2.1 : Int32) then (p391.2.2.1 : Int32) else (p426.1 : Int32) : Int32) : Int32) ≤ (4096 : Int32)
          ·
            rw [if_pos g11]
            generalize F_Pri_widen lx115 (-1 : Int32) lx117 lx118 (p426.1 : Int32) (p426.2 : (Nat → Int64)) (p391.1 : Int32) (p391.2.1 : Int32) (p391.2.2.1 : Int32) (p391.2.2.2.1 : Int32) (p391.2.2.2.2.1 : Int32) (p391.2.2.2.2.2.1 : Int32) (p391.2.2.2.2.2.2 : Int32) lx113 lx114 = p337
            unfold S_Pri_run_c185
            obtain ⟨a12, e13⟩ := q_nm (lx111 + 1 : Int32)
            rw [e13]
            have a12i : a12.toInt = lx111.toInt + 1 := by rw [← e13]; exact q_addI (x := lx111.toInt) (y := 1) rfl (by decide) (by omega) (by omega)
            exact ih _ _ _ _ _ _ _ _ _ _ _ _ _ _ _ _ _ _ _ _ (by first | assumption | omega | trivial | decide) (by first | assumption | omega | trivial | decide) (by first | assumption | omega | trivial | decide) (by first | assumption | omega | trivial | decide)
          ·
            rw [if_neg g11]
            exact trivial
theorem T_run {t0_0 : Int32} {t1_0 : (Nat → Int64)} {t2_0 : Int32} {t3_0 : (Nat → Int64)} {t4_0 : Int32} {t4_1 : Int32} {t4_2 : Int32} {t4_3 : Int32} {t5_0 : (Nat → Int32)} {t6_0 : (Nat → Int64)} {t7_0 : (Nat → Int32)} {t8_0 : Int32} {t8_1 : Int32} {t9_0 : (Nat → Int32)} {t10_0 : Int32} {t11_0 : (Nat → Int64)} {t12_0 : Int32} {t12_1 : Int32} {t12_2 : Int32} {t12_3 : Int32} {t12_4 : Int32} {t12_5 : Int32} {t12_6 : Int32} {t13_0 : Int32} {t14_0 : (Nat → Int64)} {t15_0 : Int32} {t16_0 : (Nat → Int64)} {t17_0 : Int32} {t18_0 : (Nat → Int64)} {t19_0 : Int32} {t20_0 : (Nat → Int64)} {t21_0 : Int32} {t22_0 : (Nat → Int64)} {t23_0 : Int32} {t24_0 : (Nat → Int64)} {t25_0 : Int32} {t26_0 : (Nat → Int64)} {t27_0 : Int32} {t28_0 : (Nat → Int64)} {t29_0 : Int32} {t30_0 : (Nat → Int64)} (hc : 0 ≤ t4_0.toInt ∧ t4_0.toInt ≤ 9) : (S_Pri_run t0_0 t1_0 t2_0 t3_0 t4_0 t4_1 t4_2 t4_3 t5_0 t6_0 t7_0 t8_0 t8_1 t9_0 t10_0 t11_0 t12_0 t12_1 t12_2 t12_3 t12_4 t12_5 t12_6 t13_0 t14_0 t15_0 t16_0 t17_0 t18_0 t19_0 t20_0 t21_0 t22_0 t23_0 t24_0 t25_0 t26_0 t27_0 t28_0 t29_0 t30_0) := by
  have e0 : (0 : Int32).toInt = 0 := rfl
  have e1 : (1 : Int32).toInt = 1 := rfl
  have em : (-1 : Int32).toInt = -1 := rfl
  unfold S_Pri_run
  exact v_ruL _ _ _ _ _ _ _ _ _ _ _ _ _ _ _ _ _ _ _ _ _ (by decide) (by decide) hc (by decide)
theorem T_format {t0_0 : Int32} {t1_0 : (Nat → Int64)} {t2_0 : Int32} {t3_0 : (Nat → Int64)} {t4_0 : Int32} {t4_1 : Int32} {t4_2 : Int32} {t4_3 : Int32} {t5_0 : (Nat → Int32)} {t6_0 : (Nat → Int64)} {t7_0 : (Nat → Int32)} {t8_0 : Int32} {t8_1 : Int32} {t9_0 : (Nat → Int32)} {t10_0 : Int32} {t11_0 : (Nat → Int64)} {t12_0 : Int32} {t12_1 : Int32} {t12_2 : Int32} {t12_3 : Int32} {t12_4 : Int32} {t12_5 : Int32} {t12_6 : Int32} {t13_0 : Int32} {t14_0 : (Nat → Int64)} {t15_0 : Int32} {t16_0 : (Nat → Int64)} {t17_0 : Int32} {t18_0 : (Nat → Int64)} {t19_0 : Int32} {t20_0 : (Nat → Int64)} {t21_0 : Int32} {t22_0 : (Nat → Int64)} {t23_0 : Int32} {t24_0 : (Nat → Int64)} {t25_0 : Int32} {t26_0 : (Nat → Int64)} {t27_0 : Int32} {t28_0 : (Nat → Int64)} {t29_0 : Int32} {t30_0 : (Nat → Int64)} (hc : 0 ≤ t4_0.toInt ∧ t4_0.toInt ≤ 9) : (S_NH_format t0_0 t1_0 t2_0 t3_0 t4_0 t4_1 t4_2 t4_3 t5_0 t6_0 t7_0 t8_0 t8_1 t9_0 t10_0 t11_0 t12_0 t12_1 t12_2 t12_3 t12_4 t12_5 t12_6 t13_0 t14_0 t15_0 t16_0 t17_0 t18_0 t19_0 t20_0 t21_0 t22_0 t23_0 t24_0 t25_0 t26_0 t27_0 t28_0 t29_0 t30_0) := by
  have e0 : (0 : Int32).toInt = 0 := rfl
  have e1 : (1 : Int32).toInt = 1 := rfl
  have em : (-1 : Int32).toInt = -1 := rfl
  unfold S_NH_format
  by_cases g1 : t0_0 ≤ (256 : Int32)
  ·
    rw [if_pos g1]
    have g1i : t0_0.toInt ≤ 256 := q_leI g1
    have h2 := T_run (t0_0 := t0_0) (t1_0 := t1_0) (t2_0 := t2_0) (t3_0 := t3_0) (t4_0 := t4_0) (t4_1 := t4_1) (t4_2 := t4_2) (t4_3 := t4_3) (t5_0 := t5_0) (t6_0 := t6_0) (t7_0 := t7_0) (t8_0 := t8_0) (t8_1 := t8_1) (t9_0 := t9_0) (t10_0 := t10_0) (t11_0 := t11_0) (t12_0 := t12_0) (t12_1 := t12_1) (t12_2 := t12_2) (t12_3 := t12_3) (t12_4 := t12_4) (t12_5 := t12_5) (t12_6 := t12_6) (t13_0 := t13_0) (t14_0 := t14_0) (t15_0 := t15_0) (t16_0 := t16_0) (t17_0 := t17_0) (t18_0 := t18_0) (t19_0 := t19_0) (t20_0 := t20_0) (t21_0 := t21_0) (t22_0 := t22_0) (t23_0 := t23_0) (t24_0 := t24_0) (t25_0 := t25_0) (t26_0 := t26_0) (t27_0 := t27_0) (t28_0 := t28_0) (t29_0 := t29_0) (t30_0 := t30_0) hc
    refine v_oweS h2 ?_
    generalize F_Pri_run t0_0 t1_0 t2_0 t3_0 t4_0 t4_1 t4_2 t4_3 t5_0 t6_0 t7_0 t8_0 t8_1 t9_0 t10_0 t11_0 t12_0 t12_1 t12_2 t12_3 t12_4 t12_5 t12_6 t13_0 t14_0 t15_0 t16_0 t17_0 t18_0 t19_0 t20_0 t21_0 t22_0 t23_0 t24_0 t25_0 t26_0 t27_0 t28_0 t29_0 t30_0 = p147
    unfold S_NH_format_c32
    by_cases g3 : (p147.1 : Int32) < (0 : Int32)
    ·
      rw [if_pos g3]
      have g3i : p147.1.toInt < 0 := q_ltI g3
      exact trivial
    ·
      rw [if_neg g3]
      have g3i : 0 ≤ p147.1.toInt := q_nltI g3
      exact trivial
  ·
    rw [if_neg g1]
    have g1i : 256 < t0_0.toInt := q_nleI g1
    exact trivial
theorem T_addArgument {x2 : Int32} {x3 : Int32} {t0_0 : Int32} {t0_1 : Int32} {t0_2 : Int32} {t0_3 : Int32} {t1_0 : (Nat → Int32)} {t2_0 : (Nat → Int64)} {t3_0 : (Nat → Int32)} {t4_0 : Int32} {t5_0 : (Nat → Int64)} {t6_0 : Int32} {t7_0 : (Nat → Int64)} {t8_0 : Int32} {t9_0 : (Nat → Int64)} {t10_0 : Int32} {t11_0 : (Nat → Int64)} {t12_0 : Int32} {t13_0 : (Nat → Int64)} {t14_0 : Int32} {t15_0 : (Nat → Int64)} {t16_0 : Int32} {t17_0 : (Nat → Int64)} {t18_0 : Int32} {t19_0 : (Nat → Int64)} {t20_0 : Int32} {t21_0 : (Nat → Int64)} {t22_0 : Int32} {t23_0 : (Nat → Int64)} {t24_0 : Int32} {t24_1 : Int32} {t25_0 : (Nat → Int32)} {t26_0 : Int32} {t26_1 : Int32} {t27_0 : Int32} {t27_1 : Int32} {t28_0 : (Nat → Int32)} (h1 : x2.toInt < 2 → 0 ≤ x3.toInt ∧ x3.toInt ≤ 9) (h2 : x2.toInt = 7 → t4_0.toInt ≤ 64) (h3 : 0 ≤ x2.toInt ∧ x2.toInt ≤ 7 ∧ x2.toInt ≠ 2 ∧ x2.toInt ≠ 3) : (S_NH_addArgument x2 x3 t0_0 t0_1 t0_2 t0_3 t1_0 t2_0 t3_0 t4_0 t5_0 t6_0 t7_0 t8_0 t9_0 t10_0 t11_0 t12_0 t13_0 t14_0 t15_0 t16_0 t17_0 t18_0 t19_0 t20_0 t21_0 t22_0 t23_0 t24_0 t24_1 t25_0 t26_0 t26_1 t27_0 t27_1 t28_0) := by
  have e0 : (0 : Int32).toInt = 0 := rfl
  have e1 : (1 : Int32).toInt = 1 := rfl
  have em : (-1 : Int32).toInt = -1 := rfl
  unfold S_NH_addArgument
  by_cases g1 : x2 = (0 : Int32)
  ·
    rw [if_pos g1]
    have g1i : x2.toInt = 0 := q_eqI g1
    refine And.intro (by omega) ?_
    refine And.intro (by omega) ?_
    generalize F_Pri_addNumber (3 : Int32) ((F_Big_toLong (68 : Int32) t24_0 t24_1 t25_0) : Int64) (0 : Int32) t0_0 t0_1 t0_2 t0_3 t1_0 t2_0 t3_0 = p483
    unfold S_NH_addArgument_c19
    exact trivial
  ·
    rw [if_neg g1]
    have g1i : x2.toInt ≠ 0 := q_neI g1
    by_cases g2 : x2 = (1 : Int32)
    ·
      rw [if_pos g2]
      have g2i : x2.toInt = 1 := q_eqI g2
      refine And.intro (by omega) ?_
      refine And.intro (by omega) ?_
      generalize F_Pri_addNumber (5 : Int32) ((F_Big_toLong (108 : Int32) t27_0 t27_1 t28_0) : Int64) t26_0 t0_0 t0_1 t0_2 t0_3 t1_0 t2_0 t3_0 = p432
      unfold S_NH_addArgument_c56
      exact trivial
    ·
      rw [if_neg g2]
      have g2i : x2.toInt ≠ 1 := q_neI g2
      by_cases g3 : x2 = (4 : Int32)
      ·
        rw [if_pos g3]
        have g3i : x2.toInt = 4 := q_eqI g3
        generalize F_Pri_addNumber (0 : Int32) (0 : Int64) (0 : Int32) t0_0 t0_1 t0_2 t0_3 t1_0 t2_0 t3_0 = p378
        unfold S_NH_addArgument_c74
        exact trivial
      ·
        rw [if_neg g3]
        have g3i : x2.toInt ≠ 4 := q_neI g3
        by_cases g4 : x2 = (5 : Int32)
        ·
          rw [if_pos g4]
          have g4i : x2.toInt = 5 := q_eqI g4
          by_cases g5 : x3 = (0 : Int32)
          ·
            rw [if_pos g5]
            have g5i : x3.toInt = 0 := q_eqI g5
            generalize F_Pri_addNumber (1 : Int32) (0 : Int64) (0 : Int32) t0_0 t0_1 t0_2 t0_3 t1_0 t2_0 t3_0 = p337
            unfold S_NH_addArgument_c100_4
            exact trivial
          ·
            rw [if_neg g5]
            have g5i : x3.toInt ≠ 0 := q_neI g5
            generalize F_Pri_addNumber (1 : Int32) (1 : Int64) (0 : Int32) t0_0 t0_1 t0_2 t0_3 t1_0 t2_0 t3_0 = p297
            unfold S_NH_addArgument_c100
            exact trivial
        ·
          rw [if_neg g4]
          have g4i : x2.toInt ≠ 5 := q_neI g4
          by_cases g6 : x2 = (6 : Int32)
          ·
            rw [if_pos g6]
            have g6i : x2.toInt = 6 := q_eqI g6
            generalize F_Pri_addNumber (2 : Int32) (x3.toInt64 : Int64) (0 : Int32) t0_0 t0_1 t0_2 t0_3 t1_0 t2_0 t3_0 = p254
            unfold S_NH_addArgument_c120
            exact trivial
          ·
            rw [if_neg g6]
            have g6i : x2.toInt ≠ 6 := q_neI g6
            refine And.intro (by omega) ?_
            generalize F_Pri_addText t0_0 t0_1 t0_2 t0_3 t1_0 t2_0 t3_0 t4_0 t5_0 t6_0 t7_0 t8_0 t9_0 t10_0 t11_0 t12_0 t13_0 t14_0 t15_0 t16_0 t17_0 t18_0 t19_0 t20_0 t21_0 t22_0 t23_0 = p183
            unfold S_NH_addArgument_c130
            exact trivial
theorem T_argument {x2 : Int32} {x3 : Int32} {t0_0 : Int32} {t0_1 : Int32} {t0_2 : Int32} {t0_3 : Int32} {t1_0 : (Nat → Int32)} {t2_0 : (Nat → Int64)} {t3_0 : (Nat → Int32)} {t4_0 : Int32} {t5_0 : (Nat → Int64)} {t6_0 : Int32} {t7_0 : (Nat → Int64)} {t8_0 : Int32} {t9_0 : (Nat → Int64)} {t10_0 : Int32} {t11_0 : (Nat → Int64)} {t12_0 : Int32} {t13_0 : (Nat → Int64)} {t14_0 : Int32} {t15_0 : (Nat → Int64)} {t16_0 : Int32} {t17_0 : (Nat → Int64)} {t18_0 : Int32} {t19_0 : (Nat → Int64)} {t20_0 : Int32} {t21_0 : (Nat → Int64)} {t22_0 : Int32} {t23_0 : (Nat → Int64)} {t24_0 : Int32} {t24_1 : Int32} {t25_0 : (Nat → Int32)} {t26_0 : Int32} {t26_1 : Int32} {t27_0 : Int32} {t27_1 : Int32} {t28_0 : (Nat → Int32)}  : (S_NH_argument x2 x3 t0_0 t0_1 t0_2 t0_3 t1_0 t2_0 t3_0 t4_0 t5_0 t6_0 t7_0 t8_0 t9_0 t10_0 t11_0 t12_0 t13_0 t14_0 t15_0 t16_0 t17_0 t18_0 t19_0 t20_0 t21_0 t22_0 t23_0 t24_0 t24_1 t25_0 t26_0 t26_1 t27_0 t27_1 t28_0) := by
  have e0 : (0 : Int32).toInt = 0 := rfl
  have e1 : (1 : Int32).toInt = 1 := rfl
  have em : (-1 : Int32).toInt = -1 := rfl
  unfold S_NH_argument
  by_cases g1 : x2 = (0 : Int32)
  ·
    rw [if_pos g1]
    have g1i : x2.toInt = 0 := q_eqI g1
    unfold S_NH_argument_J20
    unfold S_NH_argument_J25
    have g2 : ((F_NH_need (1 : Int32)) = (0 : Int32)) := (by decide)
    rw [if_pos g2]
    by_cases g3 : (1 : Int32) < x2
    ·
      rw [if_pos g3]
      have g3i : 1 < x2.toInt := q_ltI g3
      unfold S_NH_argument_J40
      unfold S_NH_argument_J45
      have g4 : ((F_NH_need (1 : Int32)) = (0 : Int32)) := (by decide)
      rw [if_pos g4]
      by_cases g5 : x2 = (6 : Int32)
      ·
        rw [if_pos g5]
        have g5i : x2.toInt = 6 := q_eqI g5
        by_cases g6 : x3 < (0 : Int32)
        ·
          rw [if_pos g6]
          have g6i : x3.toInt < 0 := q_ltI g6
          unfold S_NH_argument_J69
          unfold S_NH_argument_J70
          have g7 : ¬ ((F_NH_need (0 : Int32)) = (0 : Int32)) := (by decide)
          rw [if_neg g7]
          exact trivial
        ·
          rw [if_neg g6]
          have g6i : 0 ≤ x3.toInt := q_nltI g6
          by_cases g8 : (255 : Int32) < x3
          ·
            rw [if_pos g8]
            have g8i : 255 < x3.toInt := q_ltI g8
            unfold S_NH_argument_J69
            unfold S_NH_argument_J70
            have g9 : ¬ ((F_NH_need (0 : Int32)) = (0 : Int32)) := (by decide)
            rw [if_neg g9]
            exact trivial
          ·
            rw [if_neg g8]
            have g8i : x3.toInt ≤ 255 := q_nltI g8
            unfold S_NH_argument_J65
            unfold S_NH_argument_J70
            have g10 : ((F_NH_need (1 : Int32)) = (0 : Int32)) := (by decide)
            rw [if_pos g10]
            by_cases g11 : x2 = (8 : Int32)
            ·
              rw [if_pos g11]
              have g11i : x2.toInt = 8 := q_eqI g11
              exact trivial
            ·
              rw [if_neg g11]
              have g11i : x2.toInt ≠ 8 := q_neI g11
              rw [if_pos g1]
              refine And.intro (by omega) ?_
              refine And.intro (by omega) ?_
              by_cases g12 : ((F_Big_fitsLong (68 : Int32) t24_0 t24_1 t25_0) : Int32) = (0 : Int32)
              ·
                rw [if_pos g12]
                unfold S_NH_argument_J110
                have g13 : ¬ ((F_NH_canHave (0 : Int32)) = (0 : Int32)) := (by decide)
                rw [if_neg g13]
                exact trivial
              ·
                rw [if_neg g12]
                unfold S_NH_argument_J105
                unfold S_NH_argument_J110
                have g14 : ((F_NH_canHave (1 : Int32)) = (0 : Int32)) := (by decide)
                rw [if_pos g14]
                by_cases g15 : x2 = (1 : Int32)
                ·
                  rw [if_pos g15]
                  have g15i : x2.toInt = 1 := q_eqI g15
                  refine And.intro (by omega) ?_
                  refine And.intro (by omega) ?_
                  by_cases g16 : ((F_Pri_canTake (108 : Int32) t26_0 t26_1 t27_0 t27_1 t28_0) : Int32) = (0 : Int32)
                  ·
                    rw [if_pos g16]
                    unfold S_NH_argument_J139
                    have g17 : ¬ ((F_NH_canHave (0 : Int32)) = (0 : Int32)) := (by decide)
                    rw [if_neg g17]
                    exact trivial
                  ·
                    rw [if_neg g16]
                    unfold S_NH_argument_J134
                    unfold S_NH_argument_J139
                    have g18 : ((F_NH_canHave (1 : Int32)) = (0 : Int32)) := (by decide)
                    rw [if_pos g18]
                    by_cases g19 : x2 = (7 : Int32)
                    ·
                      rw [if_pos g19]
                      have g19i : x2.toInt = 7 := q_eqI g19
                      by_cases g20 : t4_0 ≤ (64 : Int32)
                      ·
                        rw [if_pos g20]
                        have g20i : t4_0.toInt ≤ 64 := q_leI g20
                        unfold S_NH_argument_J171
                        by_cases g21 : t0_0 < (9 : Int32)
                        ·
                          rw [if_pos g21]
                          have g21i : t0_0.toInt < 9 := q_ltI g21
                          have h22 := T_addArgument (x2 := x2) (x3 := x3) (t0_0 := t0_0) (t0_1 := t0_1) (t0_2 := t0_2) (t0_3 := t0_3) (t1_0 := t1_0) (t2_0 := t2_0) (t3_0 := t3_0) (t4_0 := t4_0) (t5_0 := t5_0) (t6_0 := t6_0) (t7_0 := t7_0) (t8_0 := t8_0) (t9_0 := t9_0) (t10_0 := t10_0) (t11_0 := t11_0) (t12_0 := t12_0) (t13_0 := t13_0) (t14_0 := t14_0) (t15_0 := t15_0) (t16_0 := t16_0) (t17_0 := t17_0) (t18_0 := t18_0) (t19_0 := t19_0) (t20_0 := t20_0) (t21_0 := t21_0) (t22_0 := t22_0) (t23_0 := t23_0) (t24_0 := t24_0) (t24_1 := t24_1) (t25_0 := t25_0) (t26_0 := t26_0) (t26_1 := t26_1) (t27_0 := t27_0) (t27_1 := t27_1) (t28_0 := t28_0) (by omega) (by omega) (by omega)
                          refine v_oweS h22 ?_
                          generalize F_NH_addArgument x2 x3 t0_0 t0_1 t0_2 t0_3 t1_0 t2_0 t3_0 t4_0 t5_0 t6_0 t7_0 t8_0 t9_0 t10_0 t11_0 t12_0 t13_0 t14_0 t15_0 t16_0 t17_0 t18_0 t19_0 t20_0 t21_0 t22_0 t23_0 t24_0 t24_1 t25_0 t26_0 t26_1 t27_0 t27_1 t28_0 = p453
                          unfold S_NH_argument_c188
                          exact trivial
                        ·
                          rw [if_neg g21]
                          have g21i : 9 ≤ t0_0.toInt := q_nltI g21
                          exact trivial
                      ·
                        rw [if_neg g20]
                        have g20i : 64 < t4_0.toInt := q_nleI g20
                        exact trivial
                    ·
                      rw [if_neg g19]
                      have g19i : x2.toInt ≠ 7 := q_neI g19
                      unfold S_NH_argument_J171
                      by_cases g23 : t0_0 < (9 : Int32)
                      ·
                        rw [if_pos g23]
                        have g23i : t0_0.toInt < 9 := q_ltI g23
                        have h24 := T_addArgument (x2 := x2) (x3 := x3) (t0_0 := t0_0) (t0_1 := t0_1) (t0_2 := t0_2) (t0_3 := t0_3) (t1_0 := t1_0) (t2_0 := t2_0) (t3_0 := t3_0) (t4_0 := t4_0) (t5_0 := t5_0) (t6_0 := t6_0) (t7_0 := t7_0) (t8_0 := t8_0) (t9_0 := t9_0) (t10_0 := t10_0) (t11_0 := t11_0) (t12_0 := t12_0) (t13_0 := t13_0) (t14_0 := t14_0) (t15_0 := t15_0) (t16_0 := t16_0) (t17_0 := t17_0) (t18_0 := t18_0) (t19_0 := t19_0) (t20_0 := t20_0) (t21_0 := t21_0) (t22_0 := t22_0) (t23_0 := t23_0) (t24_0 := t24_0) (t24_1 := t24_1) (t25_0 := t25_0) (t26_0 := t26_0) (t26_1 := t26_1) (t27_0 := t27_0) (t27_1 := t27_1) (t28_0 := t28_0) (by omega) (by omega) (by omega)
                        refine v_oweS h24 ?_
                        generalize F_NH_addArgument x2 x3 t0_0 t0_1 t0_2 t0_3 t1_0 t2_0 t3_0 t4_0 t5_0 t6_0 t7_0 t8_0 t9_0 t10_0 t11_0 t12_0 t13_0 t14_0 t15_0 t16_0 t17_0 t18_0 t19_0 t20_0 t21_0 t22_0 t23_0 t24_0 t24_1 t25_0 t26_0 t26_1 t27_0 t27_1 t28_0 = p453
                        unfold S_NH_argument_c188
                        exact trivial
                      ·
                        rw [if_neg g23]
                        have g23i : 9 ≤ t0_0.toInt := q_nltI g23
                        exact trivial
                ·
                  rw [if_neg g15]
                  have g15i : x2.toInt ≠ 1 := q_neI g15
                  unfold S_NH_argument_J134
                  unfold S_NH_argument_J139
                  have g25 : ((F_NH_canHave (1 : Int32)) = (0 : Int32)) := (by decide)
                  rw [if_pos g25]
                  by_cases g26 : x2 = (7 : Int32)
                  ·
                    rw [if_pos g26]
                    have g26i : x2.toInt = 7 := q_eqI g26
                    by_cases g27 : t4_0 ≤ (64 : Int32)
                    ·
                      rw [if_pos g27]
                      have g27i : t4_0.toInt ≤ 64 := q_leI g27
                      unfold S_NH_argument_J171
                      by_cases g28 : t0_0 < (9 : Int32)
                      ·
                        rw [if_pos g28]
                        have g28i : t0_0.toInt < 9 := q_ltI g28
                        have h29 := T_addArgument (x2 := x2) (x3 := x3) (t0_0 := t0_0) (t0_1 := t0_1) (t0_2 := t0_2) (t0_3 := t0_3) (t1_0 := t1_0) (t2_0 := t2_0) (t3_0 := t3_0) (t4_0 := t4_0) (t5_0 := t5_0) (t6_0 := t6_0) (t7_0 := t7_0) (t8_0 := t8_0) (t9_0 := t9_0) (t10_0 := t10_0) (t11_0 := t11_0) (t12_0 := t12_0) (t13_0 := t13_0) (t14_0 := t14_0) (t15_0 := t15_0) (t16_0 := t16_0) (t17_0 := t17_0) (t18_0 := t18_0) (t19_0 := t19_0) (t20_0 := t20_0) (t21_0 := t21_0) (t22_0 := t22_0) (t23_0 := t23_0) (t24_0 := t24_0) (t24_1 := t24_1) (t25_0 := t25_0) (t26_0 := t26_0) (t26_1 := t26_1) (t27_0 := t27_0) (t27_1 := t27_1) (t28_0 := t28_0) (by omega) (by omega) (by omega)
                        refine v_oweS h29 ?_
                        generalize F_NH_addArgument x2 x3 t0_0 t0_1 t0_2 t0_3 t1_0 t2_0 t3_0 t4_0 t5_0 t6_0 t7_0 t8_0 t9_0 t10_0 t11_0 t12_0 t13_0 t14_0 t15_0 t16_0 t17_0 t18_0 t19_0 t20_0 t21_0 t22_0 t23_0 t24_0 t24_1 t25_0 t26_0 t26_1 t27_0 t27_1 t28_0 = p453
                        unfold S_NH_argument_c188
                        exact trivial
                      ·
                        rw [if_neg g28]
                        have g28i : 9 ≤ t0_0.toInt := q_nltI g28
                        exact trivial
                    ·
                      rw [if_neg g27]
                      have g27i : 64 < t4_0.toInt := q_nleI g27
                      exact trivial
                  ·
                    rw [if_neg g26]
                    have g26i : x2.toInt ≠ 7 := q_neI g26
                    unfold S_NH_argument_J171
                    by_cases g30 : t0_0 < (9 : Int32)
                    ·
                      rw [if_pos g30]
                      have g30i : t0_0.toInt < 9 := q_ltI g30
                      have h31 := T_addArgument (x2 := x2) (x3 := x3) (t0_0 := t0_0) (t0_1 := t0_1) (t0_2 := t0_2) (t0_3 := t0_3) (t1_0 := t1_0) (t2_0 := t2_0) (t3_0 := t3_0) (t4_0 := t4_0) (t5_0 := t5_0) (t6_0 := t6_0) (t7_0 := t7_0) (t8_0 := t8_0) (t9_0 := t9_0) (t10_0 := t10_0) (t11_0 := t11_0) (t12_0 := t12_0) (t13_0 := t13_0) (t14_0 := t14_0) (t15_0 := t15_0) (t16_0 := t16_0) (t17_0 := t17_0) (t18_0 := t18_0) (t19_0 := t19_0) (t20_0 := t20_0) (t21_0 := t21_0) (t22_0 := t22_0) (t23_0 := t23_0) (t24_0 := t24_0) (t24_1 := t24_1) (t25_0 := t25_0) (t26_0 := t26_0) (t26_1 := t26_1) (t27_0 := t27_0) (t27_1 := t27_1) (t28_0 := t28_0) (by omega) (by omega) (by omega)
                      refine v_oweS h31 ?_
                      generalize F_NH_addArgument x2 x3 t0_0 t0_1 t0_2 t0_3 t1_0 t2_0 t3_0 t4_0 t5_0 t6_0 t7_0 t8_0 t9_0 t10_0 t11_0 t12_0 t13_0 t14_0 t15_0 t16_0 t17_0 t18_0 t19_0 t20_0 t21_0 t22_0 t23_0 t24_0 t24_1 t25_0 t26_0 t26_1 t27_0 t27_1 t28_0 = p453
                      unfold S_NH_argument_c188
                      exact trivial
                    ·
                      rw [if_neg g30]
                      have g30i : 9 ≤ t0_0.toInt := q_nltI g30
                      exact trivial
      ·
        rw [if_neg g5]
        have g5i : x2.toInt ≠ 6 := q_neI g5
        unfold S_NH_argument_J65
        unfold S_NH_argument_J70
        have g32 : ((F_NH_need (1 : Int32)) = (0 : Int32)) := (by decide)
        rw [if_pos g32]
        by_cases g33 : x2 = (8 : Int32)
        ·
          rw [if_pos g33]
          have g33i : x2.toInt = 8 := q_eqI g33
          exact trivial
        ·
          rw [if_neg g33]
          have g33i : x2.toInt ≠ 8 := q_neI g33
          rw [if_pos g1]
          refine And.intro (by omega) ?_
          refine And.intro (by omega) ?_
          by_cases g34 : ((F_Big_fitsLong (68 : Int32) t24_0 t24_1 t25_0) : Int32) = (0 : Int32)
          ·
            rw [if_pos g34]
            unfold S_NH_argument_J110
            have g35 : ¬ ((F_NH_canHave (0 : Int32)) = (0 : Int32)) := (by decide)
            rw [if_neg g35]
            exact trivial
          ·
            rw [if_neg g34]
            unfold S_NH_argument_J105
            unfold S_NH_argument_J110
            have g36 : ((F_NH_canHave (1 : Int32)) = (0 : Int32)) := (by decide)
            rw [if_pos g36]
            by_cases g37 : x2 = (1 : Int32)
            ·
              rw [if_pos g37]
              have g37i : x2.toInt = 1 := q_eqI g37
              refine And.intro (by omega) ?_
              refine And.intro (by omega) ?_
              by_cases g38 : ((F_Pri_canTake (108 : Int32) t26_0 t26_1 t27_0 t27_1 t28_0) : Int32) = (0 : Int32)
              ·
                rw [if_pos g38]
                unfold S_NH_argument_J139
                have g39 : ¬ ((F_NH_canHave (0 : Int32)) = (0 : Int32)) := (by decide)
                rw [if_neg g39]
                exact trivial
              ·
                rw [if_neg g38]
                unfold S_NH_argument_J134
                unfold S_NH_argument_J139
                have g40 : ((F_NH_canHave (1 : Int32)) = (0 : Int32)) := (by decide)
                rw [if_pos g40]
                by_cases g41 : x2 = (7 : Int32)
                ·
                  rw [if_pos g41]
                  have g41i : x2.toInt = 7 := q_eqI g41
                  by_cases g42 : t4_0 ≤ (64 : Int32)
                  ·
                    rw [if_pos g42]
                    have g42i : t4_0.toInt ≤ 64 := q_leI g42
                    unfold S_NH_argument_J171
                    by_cases g43 : t0_0 < (9 : Int32)
                    ·
                      rw [if_pos g43]
                      have g43i : t0_0.toInt < 9 := q_ltI g43
                      have h44 := T_addArgument (x2 := x2) (x3 := x3) (t0_0 := t0_0) (t0_1 := t0_1) (t0_2 := t0_2) (t0_3 := t0_3) (t1_0 := t1_0) (t2_0 := t2_0) (t3_0 := t3_0) (t4_0 := t4_0) (t5_0 := t5_0) (t6_0 := t6_0) (t7_0 := t7_0) (t8_0 := t8_0) (t9_0 := t9_0) (t10_0 := t10_0) (t11_0 := t11_0) (t12_0 := t12_0) (t13_0 := t13_0) (t14_0 := t14_0) (t15_0 := t15_0) (t16_0 := t16_0) (t17_0 := t17_0) (t18_0 := t18_0) (t19_0 := t19_0) (t20_0 := t20_0) (t21_0 := t21_0) (t22_0 := t22_0) (t23_0 := t23_0) (t24_0 := t24_0) (t24_1 := t24_1) (t25_0 := t25_0) (t26_0 := t26_0) (t26_1 := t26_1) (t27_0 := t27_0) (t27_1 := t27_1) (t28_0 := t28_0) (by omega) (by omega) (by omega)
                      refine v_oweS h44 ?_
                      generalize F_NH_addArgument x2 x3 t0_0 t0_1 t0_2 t0_3 t1_0 t2_0 t3_0 t4_0 t5_0 t6_0 t7_0 t8_0 t9_0 t10_0 t11_0 t12_0 t13_0 t14_0 t15_0 t16_0 t17_0 t18_0 t19_0 t20_0 t21_0 t22_0 t23_0 t24_0 t24_1 t25_0 t26_0 t26_1 t27_0 t27_1 t28_0 = p453
                      unfold S_NH_argument_c188
                      exact trivial
                    ·
                      rw [if_neg g43]
                      have g43i : 9 ≤ t0_0.toInt := q_nltI g43
                      exact trivial
                  ·
                    rw [if_neg g42]
                    have g42i : 64 < t4_0.toInt := q_nleI g42
                    exact trivial
                ·
                  rw [if_neg g41]
                  have g41i : x2.toInt ≠ 7 := q_neI g41
                  unfold S_NH_argument_J171
                  by_cases g45 : t0_0 < (9 : Int32)
                  ·
                    rw [if_pos g45]
                    have g45i : t0_0.toInt < 9 := q_ltI g45
                    have h46 := T_addArgument (x2 := x2) (x3 := x3) (t0_0 := t0_0) (t0_1 := t0_1) (t0_2 := t0_2) (t0_3 := t0_3) (t1_0 := t1_0) (t2_0 := t2_0) (t3_0 := t3_0) (t4_0 := t4_0) (t5_0 := t5_0) (t6_0 := t6_0) (t7_0 := t7_0) (t8_0 := t8_0) (t9_0 := t9_0) (t10_0 := t10_0) (t11_0 := t11_0) (t12_0 := t12_0) (t13_0 := t13_0) (t14_0 := t14_0) (t15_0 := t15_0) (t16_0 := t16_0) (t17_0 := t17_0) (t18_0 := t18_0) (t19_0 := t19_0) (t20_0 := t20_0) (t21_0 := t21_0) (t22_0 := t22_0) (t23_0 := t23_0) (t24_0 := t24_0) (t24_1 := t24_1) (t25_0 := t25_0) (t26_0 := t26_0) (t26_1 := t26_1) (t27_0 := t27_0) (t27_1 := t27_1) (t28_0 := t28_0) (by omega) (by omega) (by omega)
                    refine v_oweS h46 ?_
                    generalize F_NH_addArgument x2 x3 t0_0 t0_1 t0_2 t0_3 t1_0 t2_0 t3_0 t4_0 t5_0 t6_0 t7_0 t8_0 t9_0 t10_0 t11_0 t12_0 t13_0 t14_0 t15_0 t16_0 t17_0 t18_0 t19_0 t20_0 t21_0 t22_0 t23_0 t24_0 t24_1 t25_0 t26_0 t26_1 t27_0 t27_1 t28_0 = p453
                    unfold S_NH_argument_c188
                    exact trivial
                  ·
                    rw [if_neg g45]
                    have g45i : 9 ≤ t0_0.toInt := q_nltI g45
                    exact trivial
            ·
              rw [if_neg g37]
              have g37i : x2.toInt ≠ 1 := q_neI g37
              unfold S_NH_argument_J134
              unfold S_NH_argument_J139
              have g47 : ((F_NH_canHave (1 : Int32)) = (0 : Int32)) := (by decide)
              rw [if_pos g47]
              by_cases g48 : x2 = (7 : Int32)
              ·
                rw [if_pos g48]
                have g48i : x2.toInt = 7 := q_eqI g48
                by_cases g49 : t4_0 ≤ (64 : Int32)
                ·
                  rw [if_pos g49]
                  have g49i : t4_0.toInt ≤ 64 := q_leI g49
                  unfold S_NH_argument_J171
                  by_cases g50 : t0_0 < (9 : Int32)
                  ·
                    rw [if_pos g50]
                    have g50i : t0_0.toInt < 9 := q_ltI g50
                    have h51 := T_addArgument (x2 := x2) (x3 := x3) (t0_0 := t0_0) (t0_1 := t0_1) (t0_2 := t0_2) (t0_3 := t0_3) (t1_0 := t1_0) (t2_0 := t2_0) (t3_0 := t3_0) (t4_0 := t4_0) (t5_0 := t5_0) (t6_0 := t6_0) (t7_0 := t7_0) (t8_0 := t8_0) (t9_0 := t9_0) (t10_0 := t10_0) (t11_0 := t11_0) (t12_0 := t12_0) (t13_0 := t13_0) (t14_0 := t14_0) (t15_0 := t15_0) (t16_0 := t16_0) (t17_0 := t17_0) (t18_0 := t18_0) (t19_0 := t19_0) (t20_0 := t20_0) (t21_0 := t21_0) (t22_0 := t22_0) (t23_0 := t23_0) (t24_0 := t24_0) (t24_1 := t24_1) (t25_0 := t25_0) (t26_0 := t26_0) (t26_1 := t26_1) (t27_0 := t27_0) (t27_1 := t27_1) (t28_0 := t28_0) (by omega) (by omega) (by omega)
                    refine v_oweS h51 ?_
                    generalize F_NH_addArgument x2 x3 t0_0 t0_1 t0_2 t0_3 t1_0 t2_0 t3_0 t4_0 t5_0 t6_0 t7_0 t8_0 t9_0 t10_0 t11_0 t12_0 t13_0 t14_0 t15_0 t16_0 t17_0 t18_0 t19_0 t20_0 t21_0 t22_0 t23_0 t24_0 t24_1 t25_0 t26_0 t26_1 t27_0 t27_1 t28_0 = p453
                    unfold S_NH_argument_c188
                    exact trivial
                  ·
                    rw [if_neg g50]
                    have g50i : 9 ≤ t0_0.toInt := q_nltI g50
                    exact trivial
                ·
                  rw [if_neg g49]
                  have g49i : 64 < t4_0.toInt := q_nleI g49
                  exact trivial
              ·
                rw [if_neg g48]
                have g48i : x2.toInt ≠ 7 := q_neI g48
                unfold S_NH_argument_J171
                by_cases g52 : t0_0 < (9 : Int32)
                ·
                  rw [if_pos g52]
                  have g52i : t0_0.toInt < 9 := q_ltI g52
                  have h53 := T_addArgument (x2 := x2) (x3 := x3) (t0_0 := t0_0) (t0_1 := t0_1) (t0_2 := t0_2) (t0_3 := t0_3) (t1_0 := t1_0) (t2_0 := t2_0) (t3_0 := t3_0) (t4_0 := t4_0) (t5_0 := t5_0) (t6_0 := t6_0) (t7_0 := t7_0) (t8_0 := t8_0) (t9_0 := t9_0) (t10_0 := t10_0) (t11_0 := t11_0) (t12_0 := t12_0) (t13_0 := t13_0) (t14_0 := t14_0) (t15_0 := t15_0) (t16_0 := t16_0) (t17_0 := t17_0) (t18_0 := t18_0) (t19_0 := t19_0) (t20_0 := t20_0) (t21_0 := t21_0) (t22_0 := t22_0) (t23_0 := t23_0) (t24_0 := t24_0) (t24_1 := t24_1) (t25_0 := t25_0) (t26_0 := t26_0) (t26_1 := t26_1) (t27_0 := t27_0) (t27_1 := t27_1) (t28_0 := t28_0) (by omega) (by omega) (by omega)
                  refine v_oweS h53 ?_
                  generalize F_NH_addArgument x2 x3 t0_0 t0_1 t0_2 t0_3 t1_0 t2_0 t3_0 t4_0 t5_0 t6_0 t7_0 t8_0 t9_0 t10_0 t11_0 t12_0 t13_0 t14_0 t15_0 t16_0 t17_0 t18_0 t19_0 t20_0 t21_0 t22_0 t23_0 t24_0 t24_1 t25_0 t26_0 t26_1 t27_0 t27_1 t28_0 = p453
                  unfold S_NH_argument_c188
                  exact trivial
                ·
                  rw [if_neg g52]
                  have g52i : 9 ≤ t0_0.toInt := q_nltI g52
                  exact trivial
    ·
      rw [if_neg g3]
      have g3i : x2.toInt ≤ 1 := q_nltI g3
      by_cases g54 : ((F_NH_isRegister x3) : Int32) = (0 : Int32)
      ·
        rw [if_pos g54]
        unfold S_NH_argument_J45
        have g55 : ¬ ((F_NH_need (0 : Int32)) = (0 : Int32)) := (by decide)
        rw [if_neg g55]
        exact trivial
      ·
        rw [if_neg g54]
        have g54r := v_isReg g54
        unfold S_NH_argument_J40
        unfold S_NH_argument_J45
        have g56 : ((F_NH_need (1 : Int32)) = (0 : Int32)) := (by decide)
        rw [if_pos g56]
        by_cases g57 : x2 = (6 : Int32)
        ·
          rw [if_pos g57]
          have g57i : x2.toInt = 6 := q_eqI g57
          by_cases g58 : x3 < (0 : Int32)
          ·
            rw [if_pos g58]
            have g58i : x3.toInt < 0 := q_ltI g58
            unfold S_NH_argument_J69
            unfold S_NH_argument_J70
            have g59 : ¬ ((F_NH_need (0 : Int32)) = (0 : Int32)) := (by decide)
            rw [if_neg g59]
            exact trivial
          ·
            rw [if_neg g58]
            have g58i : 0 ≤ x3.toInt := q_nltI g58
            by_cases g60 : (255 : Int32) < x3
            ·
              rw [if_pos g60]
              have g60i : 255 < x3.toInt := q_ltI g60
              unfold S_NH_argument_J69
              unfold S_NH_argument_J70
              have g61 : ¬ ((F_NH_need (0 : Int32)) = (0 : Int32)) := (by decide)
              rw [if_neg g61]
              exact trivial
            ·
              rw [if_neg g60]
              have g60i : x3.toInt ≤ 255 := q_nltI g60
              unfold S_NH_argument_J65
              unfold S_NH_argument_J70
              have g62 : ((F_NH_need (1 : Int32)) = (0 : Int32)) := (by decide)
              rw [if_pos g62]
              by_cases g63 : x2 = (8 : Int32)
              ·
                rw [if_pos g63]
                have g63i : x2.toInt = 8 := q_eqI g63
                exact trivial
              ·
                rw [if_neg g63]
                have g63i : x2.toInt ≠ 8 := q_neI g63
                rw [if_pos g1]
                refine And.intro (by omega) ?_
                refine And.intro (by omega) ?_
                by_cases g64 : ((F_Big_fitsLong (68 : Int32) t24_0 t24_1 t25_0) : Int32) = (0 : Int32)
                ·
                  rw [if_pos g64]
                  unfold S_NH_argument_J110
                  have g65 : ¬ ((F_NH_canHave (0 : Int32)) = (0 : Int32)) := (by decide)
                  rw [if_neg g65]
                  exact trivial
                ·
                  rw [if_neg g64]
                  unfold S_NH_argument_J105
                  unfold S_NH_argument_J110
                  have g66 : ((F_NH_canHave (1 : Int32)) = (0 : Int32)) := (by decide)
                  rw [if_pos g66]
                  by_cases g67 : x2 = (1 : Int32)
                  ·
                    rw [if_pos g67]
                    have g67i : x2.toInt = 1 := q_eqI g67
                    refine And.intro (by omega) ?_
                    refine And.intro (by omega) ?_
                    by_cases g68 : ((F_Pri_canTake (108 : Int32) t26_0 t26_1 t27_0 t27_1 t28_0) : Int32) = (0 : Int32)
                    ·
                      rw [if_pos g68]
                      unfold S_NH_argument_J139
                      have g69 : ¬ ((F_NH_canHave (0 : Int32)) = (0 : Int32)) := (by decide)
                      rw [if_neg g69]
                      exact trivial
                    ·
                      rw [if_neg g68]
                      unfold S_NH_argument_J134
                      unfold S_NH_argument_J139
                      have g70 : ((F_NH_canHave (1 : Int32)) = (0 : Int32)) := (by decide)
                      rw [if_pos g70]
                      by_cases g71 : x2 = (7 : Int32)
                      ·
                        rw [if_pos g71]
                        have g71i : x2.toInt = 7 := q_eqI g71
                        by_cases g72 : t4_0 ≤ (64 : Int32)
                        ·
                          rw [if_pos g72]
                          have g72i : t4_0.toInt ≤ 64 := q_leI g72
                          unfold S_NH_argument_J171
                          by_cases g73 : t0_0 < (9 : Int32)
                          ·
                            rw [if_pos g73]
                            have g73i : t0_0.toInt < 9 := q_ltI g73
                            have h74 := T_addArgument (x2 := x2) (x3 := x3) (t0_0 := t0_0) (t0_1 := t0_1) (t0_2 := t0_2) (t0_3 := t0_3) (t1_0 := t1_0) (t2_0 := t2_0) (t3_0 := t3_0) (t4_0 := t4_0) (t5_0 := t5_0) (t6_0 := t6_0) (t7_0 := t7_0) (t8_0 := t8_0) (t9_0 := t9_0) (t10_0 := t10_0) (t11_0 := t11_0) (t12_0 := t12_0) (t13_0 := t13_0) (t14_0 := t14_0) (t15_0 := t15_0) (t16_0 := t16_0) (t17_0 := t17_0) (t18_0 := t18_0) (t19_0 := t19_0) (t20_0 := t20_0) (t21_0 := t21_0) (t22_0 := t22_0) (t23_0 := t23_0) (t24_0 := t24_0) (t24_1 := t24_1) (t25_0 := t25_0) (t26_0 := t26_0) (t26_1 := t26_1) (t27_0 := t27_0) (t27_1 := t27_1) (t28_0 := t28_0) (by omega) (by omega) (by omega)
                            refine v_oweS h74 ?_
                            generalize F_NH_addArgument x2 x3 t0_0 t0_1 t0_2 t0_3 t1_0 t2_0 t3_0 t4_0 t5_0 t6_0 t7_0 t8_0 t9_0 t10_0 t11_0 t12_0 t13_0 t14_0 t15_0 t16_0 t17_0 t18_0 t19_0 t20_0 t21_0 t22_0 t23_0 t24_0 t24_1 t25_0 t26_0 t26_1 t27_0 t27_1 t28_0 = p453
                            unfold S_NH_argument_c188
                            exact trivial
                          ·
                            rw [if_neg g73]
                            have g73i : 9 ≤ t0_0.toInt := q_nltI g73
                            exact trivial
                        ·
                          rw [if_neg g72]
                          have g72i : 64 < t4_0.toInt := q_nleI g72
                          exact trivial
                      ·
                        rw [if_neg g71]
                        have g71i : x2.toInt ≠ 7 := q_neI g71
                        unfold S_NH_argument_J171
                        by_cases g75 : t0_0 < (9 : Int32)
                        ·
                          rw [if_pos g75]
                          have g75i : t0_0.toInt < 9 := q_ltI g75
                          have h76 := T_addArgument (x2 := x2) (x3 := x3) (t0_0 := t0_0) (t0_1 := t0_1) (t0_2 := t0_2) (t0_3 := t0_3) (t1_0 := t1_0) (t2_0 := t2_0) (t3_0 := t3_0) (t4_0 := t4_0) (t5_0 := t5_0) (t6_0 := t6_0) (t7_0 := t7_0) (t8_0 := t8_0) (t9_0 := t9_0) (t10_0 := t10_0) (t11_0 := t11_0) (t12_0 := t12_0) (t13_0 := t13_0) (t14_0 := t14_0) (t15_0 := t15_0) (t16_0 := t16_0) (t17_0 := t17_0) (t18_0 := t18_0) (t19_0 := t19_0) (t20_0 := t20_0) (t21_0 := t21_0) (t22_0 := t22_0) (t23_0 := t23_0) (t24_0 := t24_0) (t24_1 := t24_1) (t25_0 := t25_0) (t26_0 := t26_0) (t26_1 := t26_1) (t27_0 := t27_0) (t27_1 := t27_1) (t28_0 := t28_0) (by omega) (by omega) (by omega)
                          refine v_oweS h76 ?_
                          generalize F_NH_addArgument x2 x3 t0_0 t0_1 t0_2 t0_3 t1_0 t2_0 t3_0 t4_0 t5_0 t6_0 t7_0 t8_0 t9_0 t10_0 t11_0 t12_0 t13_0 t14_0 t15_0 t16_0 t17_0 t18_0 t19_0 t20_0 t21_0 t22_0 t23_0 t24_0 t24_1 t25_0 t26_0 t26_1 t27_0 t27_1 t28_0 = p453
                          unfold S_NH_argument_c188
                          exact trivial
                        ·
                          rw [if_neg g75]
                          have g75i : 9 ≤ t0_0.toInt := q_nltI g75
                          exact trivial
                  ·
                    rw [if_neg g67]
                    have g67i : x2.toInt ≠ 1 := q_neI g67
                    unfold S_NH_argument_J134
                    unfold S_NH_argument_J139
                    have g77 : ((F_NH_canHave (1 : Int32)) = (0 : Int32)) := (by decide)
                    rw [if_pos g77]
                    by_cases g78 : x2 = (7 : Int32)
                    ·
                      rw [if_pos g78]
                      have g78i : x2.toInt = 7 := q_eqI g78
                      by_cases g79 : t4_0 ≤ (64 : Int32)
                      ·
                        rw [if_pos g79]
                        have g79i : t4_0.toInt ≤ 64 := q_leI g79
                        unfold S_NH_argument_J171
                        by_cases g80 : t0_0 < (9 : Int32)
                        ·
                          rw [if_pos g80]
                          have g80i : t0_0.toInt < 9 := q_ltI g80
                          have h81 := T_addArgument (x2 := x2) (x3 := x3) (t0_0 := t0_0) (t0_1 := t0_1) (t0_2 := t0_2) (t0_3 := t0_3) (t1_0 := t1_0) (t2_0 := t2_0) (t3_0 := t3_0) (t4_0 := t4_0) (t5_0 := t5_0) (t6_0 := t6_0) (t7_0 := t7_0) (t8_0 := t8_0) (t9_0 := t9_0) (t10_0 := t10_0) (t11_0 := t11_0) (t12_0 := t12_0) (t13_0 := t13_0) (t14_0 := t14_0) (t15_0 := t15_0) (t16_0 := t16_0) (t17_0 := t17_0) (t18_0 := t18_0) (t19_0 := t19_0) (t20_0 := t20_0) (t21_0 := t21_0) (t22_0 := t22_0) (t23_0 := t23_0) (t24_0 := t24_0) (t24_1 := t24_1) (t25_0 := t25_0) (t26_0 := t26_0) (t26_1 := t26_1) (t27_0 := t27_0) (t27_1 := t27_1) (t28_0 := t28_0) (by omega) (by omega) (by omega)
                          refine v_oweS h81 ?_
                          generalize F_NH_addArgument x2 x3 t0_0 t0_1 t0_2 t0_3 t1_0 t2_0 t3_0 t4_0 t5_0 t6_0 t7_0 t8_0 t9_0 t10_0 t11_0 t12_0 t13_0 t14_0 t15_0 t16_0 t17_0 t18_0 t19_0 t20_0 t21_0 t22_0 t23_0 t24_0 t24_1 t25_0 t26_0 t26_1 t27_0 t27_1 t28_0 = p453
                          unfold S_NH_argument_c188
                          exact trivial
                        ·
                          rw [if_neg g80]
                          have g80i : 9 ≤ t0_0.toInt := q_nltI g80
                          exact trivial
                      ·
                        rw [if_neg g79]
                        have g79i : 64 < t4_0.toInt := q_nleI g79
                        exact trivial
                    ·
                      rw [if_neg g78]
                      have g78i : x2.toInt ≠ 7 := q_neI g78
                      unfold S_NH_argument_J171
                      by_cases g82 : t0_0 < (9 : Int32)
                      ·
                        rw [if_pos g82]
                        have g82i : t0_0.toInt < 9 := q_ltI g82
                        have h83 := T_addArgument (x2 := x2) (x3 := x3) (t0_0 := t0_0) (t0_1 := t0_1) (t0_2 := t0_2) (t0_3 := t0_3) (t1_0 := t1_0) (t2_0 := t2_0) (t3_0 := t3_0) (t4_0 := t4_0) (t5_0 := t5_0) (t6_0 := t6_0) (t7_0 := t7_0) (t8_0 := t8_0) (t9_0 := t9_0) (t10_0 := t10_0) (t11_0 := t11_0) (t12_0 := t12_0) (t13_0 := t13_0) (t14_0 := t14_0) (t15_0 := t15_0) (t16_0 := t16_0) (t17_0 := t17_0) (t18_0 := t18_0) (t19_0 := t19_0) (t20_0 := t20_0) (t21_0 := t21_0) (t22_0 := t22_0) (t23_0 := t23_0) (t24_0 := t24_0) (t24_1 := t24_1) (t25_0 := t25_0) (t26_0 := t26_0) (t26_1 := t26_1) (t27_0 := t27_0) (t27_1 := t27_1) (t28_0 := t28_0) (by omega) (by omega) (by omega)
                        refine v_oweS h83 ?_
                        generalize F_NH_addArgument x2 x3 t0_0 t0_1 t0_2 t0_3 t1_0 t2_0 t3_0 t4_0 t5_0 t6_0 t7_0 t8_0 t9_0 t10_0 t11_0 t12_0 t13_0 t14_0 t15_0 t16_0 t17_0 t18_0 t19_0 t20_0 t21_0 t22_0 t23_0 t24_0 t24_1 t25_0 t26_0 t26_1 t27_0 t27_1 t28_0 = p453
                        unfold S_NH_argument_c188
                        exact trivial
                      ·
                        rw [if_neg g82]
                        have g82i : 9 ≤ t0_0.toInt := q_nltI g82
                        exact trivial
        ·
          rw [if_neg g57]
          have g57i : x2.toInt ≠ 6 := q_neI g57
          unfold S_NH_argument_J65
          unfold S_NH_argument_J70
          have g84 : ((F_NH_need (1 : Int32)) = (0 : Int32)) := (by decide)
          rw [if_pos g84]
          by_cases g85 : x2 = (8 : Int32)
          ·
            rw [if_pos g85]
            have g85i : x2.toInt = 8 := q_eqI g85
            exact trivial
          ·
            rw [if_neg g85]
            have g85i : x2.toInt ≠ 8 := q_neI g85
            rw [if_pos g1]
            refine And.intro (by omega) ?_
            refine And.intro (by omega) ?_
            by_cases g86 : ((F_Big_fitsLong (68 : Int32) t24_0 t24_1 t25_0) : Int32) = (0 : Int32)
            ·
              rw [if_pos g86]
              unfold S_NH_argument_J110
              have g87 : ¬ ((F_NH_canHave (0 : Int32)) = (0 : Int32)) := (by decide)
              rw [if_neg g87]
              exact trivial
            ·
              rw [if_neg g86]
              unfold S_NH_argument_J105
              unfold S_NH_argument_J110
              have g88 : ((F_NH_canHave (1 : Int32)) = (0 : Int32)) := (by decide)
              rw [if_pos g88]
              by_cases g89 : x2 = (1 : Int32)
              ·
                rw [if_pos g89]
                have g89i : x2.toInt = 1 := q_eqI g89
                refine And.intro (by omega) ?_
                refine And.intro (by omega) ?_
                by_cases g90 : ((F_Pri_canTake (108 : Int32) t26_0 t26_1 t27_0 t27_1 t28_0) : Int32) = (0 : Int32)
                ·
                  rw [if_pos g90]
                  unfold S_NH_argument_J139
                  have g91 : ¬ ((F_NH_canHave (0 : Int32)) = (0 : Int32)) := (by decide)
                  rw [if_neg g91]
                  exact trivial
                ·
                  rw [if_neg g90]
                  unfold S_NH_argument_J134
                  unfold S_NH_argument_J139
                  have g92 : ((F_NH_canHave (1 : Int32)) = (0 : Int32)) := (by decide)
                  rw [if_pos g92]
                  by_cases g93 : x2 = (7 : Int32)
                  ·
                    rw [if_pos g93]
                    have g93i : x2.toInt = 7 := q_eqI g93
                    by_cases g94 : t4_0 ≤ (64 : Int32)
                    ·
                      rw [if_pos g94]
                      have g94i : t4_0.toInt ≤ 64 := q_leI g94
                      unfold S_NH_argument_J171
                      by_cases g95 : t0_0 < (9 : Int32)
                      ·
                        rw [if_pos g95]
                        have g95i : t0_0.toInt < 9 := q_ltI g95
                        have h96 := T_addArgument (x2 := x2) (x3 := x3) (t0_0 := t0_0) (t0_1 := t0_1) (t0_2 := t0_2) (t0_3 := t0_3) (t1_0 := t1_0) (t2_0 := t2_0) (t3_0 := t3_0) (t4_0 := t4_0) (t5_0 := t5_0) (t6_0 := t6_0) (t7_0 := t7_0) (t8_0 := t8_0) (t9_0 := t9_0) (t10_0 := t10_0) (t11_0 := t11_0) (t12_0 := t12_0) (t13_0 := t13_0) (t14_0 := t14_0) (t15_0 := t15_0) (t16_0 := t16_0) (t17_0 := t17_0) (t18_0 := t18_0) (t19_0 := t19_0) (t20_0 := t20_0) (t21_0 := t21_0) (t22_0 := t22_0) (t23_0 := t23_0) (t24_0 := t24_0) (t24_1 := t24_1) (t25_0 := t25_0) (t26_0 := t26_0) (t26_1 := t26_1) (t27_0 := t27_0) (t27_1 := t27_1) (t28_0 := t28_0) (by omega) (by omega) (by omega)
                        refine v_oweS h96 ?_
                        generalize F_NH_addArgument x2 x3 t0_0 t0_1 t0_2 t0_3 t1_0 t2_0 t3_0 t4_0 t5_0 t6_0 t7_0 t8_0 t9_0 t10_0 t11_0 t12_0 t13_0 t14_0 t15_0 t16_0 t17_0 t18_0 t19_0 t20_0 t21_0 t22_0 t23_0 t24_0 t24_1 t25_0 t26_0 t26_1 t27_0 t27_1 t28_0 = p453
                        unfold S_NH_argument_c188
                        exact trivial
                      ·
                        rw [if_neg g95]
                        have g95i : 9 ≤ t0_0.toInt := q_nltI g95
                        exact trivial
                    ·
                      rw [if_neg g94]
                      have g94i : 64 < t4_0.toInt := q_nleI g94
                      exact trivial
                  ·
                    rw [if_neg g93]
                    have g93i : x2.toInt ≠ 7 := q_neI g93
                    unfold S_NH_argument_J171
                    by_cases g97 : t0_0 < (9 : Int32)
                    ·
                      rw [if_pos g97]
                      have g97i : t0_0.toInt < 9 := q_ltI g97
                      have h98 := T_addArgument (x2 := x2) (x3 := x3) (t0_0 := t0_0) (t0_1 := t0_1) (t0_2 := t0_2) (t0_3 := t0_3) (t1_0 := t1_0) (t2_0 := t2_0) (t3_0 := t3_0) (t4_0 := t4_0) (t5_0 := t5_0) (t6_0 := t6_0) (t7_0 := t7_0) (t8_0 := t8_0) (t9_0 := t9_0) (t10_0 := t10_0) (t11_0 := t11_0) (t12_0 := t12_0) (t13_0 := t13_0) (t14_0 := t14_0) (t15_0 := t15_0) (t16_0 := t16_0) (t17_0 := t17_0) (t18_0 := t18_0) (t19_0 := t19_0) (t20_0 := t20_0) (t21_0 := t21_0) (t22_0 := t22_0) (t23_0 := t23_0) (t24_0 := t24_0) (t24_1 := t24_1) (t25_0 := t25_0) (t26_0 := t26_0) (t26_1 := t26_1) (t27_0 := t27_0) (t27_1 := t27_1) (t28_0 := t28_0) (by omega) (by omega) (by omega)
                      refine v_oweS h98 ?_
                      generalize F_NH_addArgument x2 x3 t0_0 t0_1 t0_2 t0_3 t1_0 t2_0 t3_0 t4_0 t5_0 t6_0 t7_0 t8_0 t9_0 t10_0 t11_0 t12_0 t13_0 t14_0 t15_0 t16_0 t17_0 t18_0 t19_0 t20_0 t21_0 t22_0 t23_0 t24_0 t24_1 t25_0 t26_0 t26_1 t27_0 t27_1 t28_0 = p453
                      unfold S_NH_argument_c188
                      exact trivial
                    ·
                      rw [if_neg g97]
                      have g97i : 9 ≤ t0_0.toInt := q_nltI g97
                      exact trivial
              ·
                rw [if_neg g89]
                have g89i : x2.toInt ≠ 1 := q_neI g89
                unfold S_NH_argument_J134
                unfold S_NH_argument_J139
                have g99 : ((F_NH_canHave (1 : Int32)) = (0 : Int32)) := (by decide)
                rw [if_pos g99]
                by_cases g100 : x2 = (7 : Int32)
                ·
                  rw [if_pos g100]
                  have g100i : x2.toInt = 7 := q_eqI g100
                  by_cases g101 : t4_0 ≤ (64 : Int32)
                  ·
                    rw [if_pos g101]
                    have g101i : t4_0.toInt ≤ 64 := q_leI g101
                    unfold S_NH_argument_J171
                    by_cases g102 : t0_0 < (9 : Int32)
                    ·
                      rw [if_pos g102]
                      have g102i : t0_0.toInt < 9 := q_ltI g102
                      have h103 := T_addArgument (x2 := x2) (x3 := x3) (t0_0 := t0_0) (t0_1 := t0_1) (t0_2 := t0_2) (t0_3 := t0_3) (t1_0 := t1_0) (t2_0 := t2_0) (t3_0 := t3_0) (t4_0 := t4_0) (t5_0 := t5_0) (t6_0 := t6_0) (t7_0 := t7_0) (t8_0 := t8_0) (t9_0 := t9_0) (t10_0 := t10_0) (t11_0 := t11_0) (t12_0 := t12_0) (t13_0 := t13_0) (t14_0 := t14_0) (t15_0 := t15_0) (t16_0 := t16_0) (t17_0 := t17_0) (t18_0 := t18_0) (t19_0 := t19_0) (t20_0 := t20_0) (t21_0 := t21_0) (t22_0 := t22_0) (t23_0 := t23_0) (t24_0 := t24_0) (t24_1 := t24_1) (t25_0 := t25_0) (t26_0 := t26_0) (t26_1 := t26_1) (t27_0 := t27_0) (t27_1 := t27_1) (t28_0 := t28_0) (by omega) (by omega) (by omega)
                      refine v_oweS h103 ?_
                      generalize F_NH_addArgument x2 x3 t0_0 t0_1 t0_2 t0_3 t1_0 t2_0 t3_0 t4_0 t5_0 t6_0 t7_0 t8_0 t9_0 t10_0 t11_0 t12_0 t13_0 t14_0 t15_0 t16_0 t17_0 t18_0 t19_0 t20_0 t21_0 t22_0 t23_0 t24_0 t24_1 t25_0 t26_0 t26_1 t27_0 t27_1 t28_0 = p453
                      unfold S_NH_argument_c188
                      exact trivial
                    ·
                      rw [if_neg g102]
                      have g102i : 9 ≤ t0_0.toInt := q_nltI g102
                      exact trivial
                  ·
                    rw [if_neg g101]
                    have g101i : 64 < t4_0.toInt := q_nleI g101
                    exact trivial
                ·
                  rw [if_neg g100]
                  have g100i : x2.toInt ≠ 7 := q_neI g100
                  unfold S_NH_argument_J171
                  by_cases g104 : t0_0 < (9 : Int32)
                  ·
                    rw [if_pos g104]
                    have g104i : t0_0.toInt < 9 := q_ltI g104
                    have h105 := T_addArgument (x2 := x2) (x3 := x3) (t0_0 := t0_0) (t0_1 := t0_1) (t0_2 := t0_2) (t0_3 := t0_3) (t1_0 := t1_0) (t2_0 := t2_0) (t3_0 := t3_0) (t4_0 := t4_0) (t5_0 := t5_0) (t6_0 := t6_0) (t7_0 := t7_0) (t8_0 := t8_0) (t9_0 := t9_0) (t10_0 := t10_0) (t11_0 := t11_0) (t12_0 := t12_0) (t13_0 := t13_0) (t14_0 := t14_0) (t15_0 := t15_0) (t16_0 := t16_0) (t17_0 := t17_0) (t18_0 := t18_0) (t19_0 := t19_0) (t20_0 := t20_0) (t21_0 := t21_0) (t22_0 := t22_0) (t23_0 := t23_0) (t24_0 := t24_0) (t24_1 := t24_1) (t25_0 := t25_0) (t26_0 := t26_0) (t26_1 := t26_1) (t27_0 := t27_0) (t27_1 := t27_1) (t28_0 := t28_0) (by omega) (by omega) (by omega)
                    refine v_oweS h105 ?_
                    generalize F_NH_addArgument x2 x3 t0_0 t0_1 t0_2 t0_3 t1_0 t2_0 t3_0 t4_0 t5_0 t6_0 t7_0 t8_0 t9_0 t10_0 t11_0 t12_0 t13_0 t14_0 t15_0 t16_0 t17_0 t18_0 t19_0 t20_0 t21_0 t22_0 t23_0 t24_0 t24_1 t25_0 t26_0 t26_1 t27_0 t27_1 t28_0 = p453
                    unfold S_NH_argument_c188
                    exact trivial
                  ·
                    rw [if_neg g104]
                    have g104i : 9 ≤ t0_0.toInt := q_nltI g104
                    exact trivial
  ·
    rw [if_neg g1]
    have g1i : x2.toInt ≠ 0 := q_neI g1
    by_cases g106 : x2 = (1 : Int32)
    ·
      rw [if_pos g106]
      have g106i : x2.toInt = 1 := q_eqI g106
      unfold S_NH_argument_J20
      unfold S_NH_argument_J25
      have g107 : ((F_NH_need (1 : Int32)) = (0 : Int32)) := (by decide)
      rw [if_pos g107]
      by_cases g108 : (1 : Int32) < x2
      ·
        rw [if_pos g108]
        have g108i : 1 < x2.toInt := q_ltI g108
        unfold S_NH_argument_J40
        unfold S_NH_argument_J45
        have g109 : ((F_NH_need (1 : Int32)) = (0 : Int32)) := (by decide)
        rw [if_pos g109]
        by_cases g110 : x2 = (6 : Int32)
        ·
          rw [if_pos g110]
          have g110i : x2.toInt = 6 := q_eqI g110
          by_cases g111 : x3 < (0 : Int32)
          ·
            rw [if_pos g111]
            have g111i : x3.toInt < 0 := q_ltI g111
            unfold S_NH_argument_J69
            unfold S_NH_argument_J70
            have g112 : ¬ ((F_NH_need (0 : Int32)) = (0 : Int32)) := (by decide)
            rw [if_neg g112]
            exact trivial
          ·
            rw [if_neg g111]
            have g111i : 0 ≤ x3.toInt := q_nltI g111
            by_cases g113 : (255 : Int32) < x3
            ·
              rw [if_pos g113]
              have g113i : 255 < x3.toInt := q_ltI g113
              unfold S_NH_argument_J69
              unfold S_NH_argument_J70
              have g114 : ¬ ((F_NH_need (0 : Int32)) = (0 : Int32)) := (by decide)
              rw [if_neg g114]
              exact trivial
            ·
              rw [if_neg g113]
              have g113i : x3.toInt ≤ 255 := q_nltI g113
              unfold S_NH_argument_J65
              unfold S_NH_argument_J70
              have g115 : ((F_NH_need (1 : Int32)) = (0 : Int32)) := (by decide)
              rw [if_pos g115]
              by_cases g116 : x2 = (8 : Int32)
              ·
                rw [if_pos g116]
                have g116i : x2.toInt = 8 := q_eqI g116
                exact trivial
              ·
                rw [if_neg g116]
                have g116i : x2.toInt ≠ 8 := q_neI g116
                rw [if_neg g1]
                unfold S_NH_argument_J105
                unfold S_NH_argument_J110
                have g117 : ((F_NH_canHave (1 : Int32)) = (0 : Int32)) := (by decide)
                rw [if_pos g117]
                rw [if_pos g106]
                refine And.intro (by omega) ?_
                refine And.intro (by omega) ?_
                by_cases g118 : ((F_Pri_canTake (108 : Int32) t26_0 t26_1 t27_0 t27_1 t28_0) : Int32) = (0 : Int32)
                ·
                  rw [if_pos g118]
                  unfold S_NH_argument_J139
                  have g119 : ¬ ((F_NH_canHave (0 : Int32)) = (0 : Int32)) := (by decide)
                  rw [if_neg g119]
                  exact trivial
                ·
                  rw [if_neg g118]
                  unfold S_NH_argument_J134
                  unfold S_NH_argument_J139
                  have g120 : ((F_NH_canHave (1 : Int32)) = (0 : Int32)) := (by decide)
                  rw [if_pos g120]
                  by_cases g121 : x2 = (7 : Int32)
                  ·
                    rw [if_pos g121]
                    have g121i : x2.toInt = 7 := q_eqI g121
                    by_cases g122 : t4_0 ≤ (64 : Int32)
                    ·
                      rw [if_pos g122]
                      have g122i : t4_0.toInt ≤ 64 := q_leI g122
                      unfold S_NH_argument_J171
                      by_cases g123 : t0_0 < (9 : Int32)
                      ·
                        rw [if_pos g123]
                        have g123i : t0_0.toInt < 9 := q_ltI g123
                        have h124 := T_addArgument (x2 := x2) (x3 := x3) (t0_0 := t0_0) (t0_1 := t0_1) (t0_2 := t0_2) (t0_3 := t0_3) (t1_0 := t1_0) (t2_0 := t2_0) (t3_0 := t3_0) (t4_0 := t4_0) (t5_0 := t5_0) (t6_0 := t6_0) (t7_0 := t7_0) (t8_0 := t8_0) (t9_0 := t9_0) (t10_0 := t10_0) (t11_0 := t11_0) (t12_0 := t12_0) (t13_0 := t13_0) (t14_0 := t14_0) (t15_0 := t15_0) (t16_0 := t16_0) (t17_0 := t17_0) (t18_0 := t18_0) (t19_0 := t19_0) (t20_0 := t20_0) (t21_0 := t21_0) (t22_0 := t22_0) (t23_0 := t23_0) (t24_0 := t24_0) (t24_1 := t24_1) (t25_0 := t25_0) (t26_0 := t26_0) (t26_1 := t26_1) (t27_0 := t27_0) (t27_1 := t27_1) (t28_0 := t28_0) (by omega) (by omega) (by omega)
                        refine v_oweS h124 ?_
                        generalize F_NH_addArgument x2 x3 t0_0 t0_1 t0_2 t0_3 t1_0 t2_0 t3_0 t4_0 t5_0 t6_0 t7_0 t8_0 t9_0 t10_0 t11_0 t12_0 t13_0 t14_0 t15_0 t16_0 t17_0 t18_0 t19_0 t20_0 t21_0 t22_0 t23_0 t24_0 t24_1 t25_0 t26_0 t26_1 t27_0 t27_1 t28_0 = p453
                        unfold S_NH_argument_c188
                        exact trivial
                      ·
                        rw [if_neg g123]
                        have g123i : 9 ≤ t0_0.toInt := q_nltI g123
                        exact trivial
                    ·
                      rw [if_neg g122]
                      have g122i : 64 < t4_0.toInt := q_nleI g122
                      exact trivial
                  ·
                    rw [if_neg g121]
                    have g121i : x2.toInt ≠ 7 := q_neI g121
                    unfold S_NH_argument_J171
                    by_cases g125 : t0_0 < (9 : Int32)
                    ·
                      rw [if_pos g125]
                      have g125i : t0_0.toInt < 9 := q_ltI g125
                      have h126 := T_addArgument (x2 := x2) (x3 := x3) (t0_0 := t0_0) (t0_1 := t0_1) (t0_2 := t0_2) (t0_3 := t0_3) (t1_0 := t1_0) (t2_0 := t2_0) (t3_0 := t3_0) (t4_0 := t4_0) (t5_0 := t5_0) (t6_0 := t6_0) (t7_0 := t7_0) (t8_0 := t8_0) (t9_0 := t9_0) (t10_0 := t10_0) (t11_0 := t11_0) (t12_0 := t12_0) (t13_0 := t13_0) (t14_0 := t14_0) (t15_0 := t15_0) (t16_0 := t16_0) (t17_0 := t17_0) (t18_0 := t18_0) (t19_0 := t19_0) (t20_0 := t20_0) (t21_0 := t21_0) (t22_0 := t22_0) (t23_0 := t23_0) (t24_0 := t24_0) (t24_1 := t24_1) (t25_0 := t25_0) (t26_0 := t26_0) (t26_1 := t26_1) (t27_0 := t27_0) (t27_1 := t27_1) (t28_0 := t28_0) (by omega) (by omega) (by omega)
                      refine v_oweS h126 ?_
                      generalize F_NH_addArgument x2 x3 t0_0 t0_1 t0_2 t0_3 t1_0 t2_0 t3_0 t4_0 t5_0 t6_0 t7_0 t8_0 t9_0 t10_0 t11_0 t12_0 t13_0 t14_0 t15_0 t16_0 t17_0 t18_0 t19_0 t20_0 t21_0 t22_0 t23_0 t24_0 t24_1 t25_0 t26_0 t26_1 t27_0 t27_1 t28_0 = p453
                      unfold S_NH_argument_c188
                      exact trivial
                    ·
                      rw [if_neg g125]
                      have g125i : 9 ≤ t0_0.toInt := q_nltI g125
                      exact trivial
        ·
          rw [if_neg g110]
          have g110i : x2.toInt ≠ 6 := q_neI g110
          unfold S_NH_argument_J65
          unfold S_NH_argument_J70
          have g127 : ((F_NH_need (1 : Int32)) = (0 : Int32)) := (by decide)
          rw [if_pos g127]
          by_cases g128 : x2 = (8 : Int32)
          ·
            rw [if_pos g128]
            have g128i : x2.toInt = 8 := q_eqI g128
            exact trivial
          ·
            rw [if_neg g128]
            have g128i : x2.toInt ≠ 8 := q_neI g128
            rw [if_neg g1]
            unfold S_NH_argument_J105
            unfold S_NH_argument_J110
            have g129 : ((F_NH_canHave (1 : Int32)) = (0 : Int32)) := (by decide)
            rw [if_pos g129]
            rw [if_pos g106]
            refine And.intro (by omega) ?_
            refine And.intro (by omega) ?_
            by_cases g130 : ((F_Pri_canTake (108 : Int32) t26_0 t26_1 t27_0 t27_1 t28_0) : Int32) = (0 : Int32)
            ·
              rw [if_pos g130]
              unfold S_NH_argument_J139
              have g131 : ¬ ((F_NH_canHave (0 : Int32)) = (0 : Int32)) := (by decide)
              rw [if_neg g131]
              exact trivial
            ·
              rw [if_neg g130]
              unfold S_NH_argument_J134
              unfold S_NH_argument_J139
              have g132 : ((F_NH_canHave (1 : Int32)) = (0 : Int32)) := (by decide)
              rw [if_pos g132]
              by_cases g133 : x2 = (7 : Int32)
              ·
                rw [if_pos g133]
                have g133i : x2.toInt = 7 := q_eqI g133
                by_cases g134 : t4_0 ≤ (64 : Int32)
                ·
                  rw [if_pos g134]
                  have g134i : t4_0.toInt ≤ 64 := q_leI g134
                  unfold S_NH_argument_J171
                  by_cases g135 : t0_0 < (9 : Int32)
                  ·
                    rw [if_pos g135]
                    have g135i : t0_0.toInt < 9 := q_ltI g135
                    have h136 := T_addArgument (x2 := x2) (x3 := x3) (t0_0 := t0_0) (t0_1 := t0_1) (t0_2 := t0_2) (t0_3 := t0_3) (t1_0 := t1_0) (t2_0 := t2_0) (t3_0 := t3_0) (t4_0 := t4_0) (t5_0 := t5_0) (t6_0 := t6_0) (t7_0 := t7_0) (t8_0 := t8_0) (t9_0 := t9_0) (t10_0 := t10_0) (t11_0 := t11_0) (t12_0 := t12_0) (t13_0 := t13_0) (t14_0 := t14_0) (t15_0 := t15_0) (t16_0 := t16_0) (t17_0 := t17_0) (t18_0 := t18_0) (t19_0 := t19_0) (t20_0 := t20_0) (t21_0 := t21_0) (t22_0 := t22_0) (t23_0 := t23_0) (t24_0 := t24_0) (t24_1 := t24_1) (t25_0 := t25_0) (t26_0 := t26_0) (t26_1 := t26_1) (t27_0 := t27_0) (t27_1 := t27_1) (t28_0 := t28_0) (by omega) (by omega) (by omega)
                    refine v_oweS h136 ?_
                    generalize F_NH_addArgument x2 x3 t0_0 t0_1 t0_2 t0_3 t1_0 t2_0 t3_0 t4_0 t5_0 t6_0 t7_0 t8_0 t9_0 t10_0 t11_0 t12_0 t13_0 t14_0 t15_0 t16_0 t17_0 t18_0 t19_0 t20_0 t21_0 t22_0 t23_0 t24_0 t24_1 t25_0 t26_0 t26_1 t27_0 t27_1 t28_0 = p453
                    unfold S_NH_argument_c188
                    exact trivial
                  ·
                    rw [if_neg g135]
                    have g135i : 9 ≤ t0_0.toInt := q_nltI g135
                    exact trivial
                ·
                  rw [if_neg g134]
                  have g134i : 64 < t4_0.toInt := q_nleI g134
                  exact trivial
              ·
                rw [if_neg g133]
                have g133i : x2.toInt ≠ 7 := q_neI g133
                unfold S_NH_argument_J171
                by_cases g137 : t0_0 < (9 : Int32)
                ·
                  rw [if_pos g137]
                  have g137i : t0_0.toInt < 9 := q_ltI g137
                  have h138 := T_addArgument (x2 := x2) (x3 := x3) (t0_0 := t0_0) (t0_1 := t0_1) (t0_2 := t0_2) (t0_3 := t0_3) (t1_0 := t1_0) (t2_0 := t2_0) (t3_0 := t3_0) (t4_0 := t4_0) (t5_0 := t5_0) (t6_0 := t6_0) (t7_0 := t7_0) (t8_0 := t8_0) (t9_0 := t9_0) (t10_0 := t10_0) (t11_0 := t11_0) (t12_0 := t12_0) (t13_0 := t13_0) (t14_0 := t14_0) (t15_0 := t15_0) (t16_0 := t16_0) (t17_0 := t17_0) (t18_0 := t18_0) (t19_0 := t19_0) (t20_0 := t20_0) (t21_0 := t21_0) (t22_0 := t22_0) (t23_0 := t23_0) (t24_0 := t24_0) (t24_1 := t24_1) (t25_0 := t25_0) (t26_0 := t26_0) (t26_1 := t26_1) (t27_0 := t27_0) (t27_1 := t27_1) (t28_0 := t28_0) (by omega) (by omega) (by omega)
                  refine v_oweS h138 ?_
                  generalize F_NH_addArgument x2 x3 t0_0 t0_1 t0_2 t0_3 t1_0 t2_0 t3_0 t4_0 t5_0 t6_0 t7_0 t8_0 t9_0 t10_0 t11_0 t12_0 t13_0 t14_0 t15_0 t16_0 t17_0 t18_0 t19_0 t20_0 t21_0 t22_0 t23_0 t24_0 t24_1 t25_0 t26_0 t26_1 t27_0 t27_1 t28_0 = p453
                  unfold S_NH_argument_c188
                  exact trivial
                ·
                  rw [if_neg g137]
                  have g137i : 9 ≤ t0_0.toInt := q_nltI g137
                  exact trivial
      ·
        rw [if_neg g108]
        have g108i : x2.toInt ≤ 1 := q_nltI g108
        by_cases g139 : ((F_NH_isRegister x3) : Int32) = (0 : Int32)
        ·
          rw [if_pos g139]
          unfold S_NH_argument_J45
          have g140 : ¬ ((F_NH_need (0 : Int32)) = (0 : Int32)) := (by decide)
          rw [if_neg g140]
          exact trivial
        ·
          rw [if_neg g139]
          have g139r := v_isReg g139
          unfold S_NH_argument_J40
          unfold S_NH_argument_J45
          have g141 : ((F_NH_need (1 : Int32)) = (0 : Int32)) := (by decide)
          rw [if_pos g141]
          by_cases g142 : x2 = (6 : Int32)
          ·
            rw [if_pos g142]
            have g142i : x2.toInt = 6 := q_eqI g142
            by_cases g143 : x3 < (0 : Int32)
            ·
              rw [if_pos g143]
              have g143i : x3.toInt < 0 := q_ltI g143
              unfold S_NH_argument_J69
              unfold S_NH_argument_J70
              have g144 : ¬ ((F_NH_need (0 : Int32)) = (0 : Int32)) := (by decide)
              rw [if_neg g144]
              exact trivial
            ·
              rw [if_neg g143]
              have g143i : 0 ≤ x3.toInt := q_nltI g143
              by_cases g145 : (255 : Int32) < x3
              ·
                rw [if_pos g145]
                have g145i : 255 < x3.toInt := q_ltI g145
                unfold S_NH_argument_J69
                unfold S_NH_argument_J70
                have g146 : ¬ ((F_NH_need (0 : Int32)) = (0 : Int32)) := (by decide)
                rw [if_neg g146]
                exact trivial
              ·
                rw [if_neg g145]
                have g145i : x3.toInt ≤ 255 := q_nltI g145
                unfold S_NH_argument_J65
                unfold S_NH_argument_J70
                have g147 : ((F_NH_need (1 : Int32)) = (0 : Int32)) := (by decide)
                rw [if_pos g147]
                by_cases g148 : x2 = (8 : Int32)
                ·
                  rw [if_pos g148]
                  have g148i : x2.toInt = 8 := q_eqI g148
                  exact trivial
                ·
                  rw [if_neg g148]
                  have g148i : x2.toInt ≠ 8 := q_neI g148
                  rw [if_neg g1]
                  unfold S_NH_argument_J105
                  unfold S_NH_argument_J110
                  have g149 : ((F_NH_canHave (1 : Int32)) = (0 : Int32)) := (by decide)
                  rw [if_pos g149]
                  rw [if_pos g106]
                  refine And.intro (by omega) ?_
                  refine And.intro (by omega) ?_
                  by_cases g150 : ((F_Pri_canTake (108 : Int32) t26_0 t26_1 t27_0 t27_1 t28_0) : Int32) = (0 : Int32)
                  ·
                    rw [if_pos g150]
                    unfold S_NH_argument_J139
                    have g151 : ¬ ((F_NH_canHave (0 : Int32)) = (0 : Int32)) := (by decide)
                    rw [if_neg g151]
                    exact trivial
                  ·
                    rw [if_neg g150]
                    unfold S_NH_argument_J134
                    unfold S_NH_argument_J139
                    have g152 : ((F_NH_canHave (1 : Int32)) = (0 : Int32)) := (by decide)
                    rw [if_pos g152]
                    by_cases g153 : x2 = (7 : Int32)
                    ·
                      rw [if_pos g153]
                      have g153i : x2.toInt = 7 := q_eqI g153
                      by_cases g154 : t4_0 ≤ (64 : Int32)
                      ·
                        rw [if_pos g154]
                        have g154i : t4_0.toInt ≤ 64 := q_leI g154
                        unfold S_NH_argument_J171
                        by_cases g155 : t0_0 < (9 : Int32)
                        ·
                          rw [if_pos g155]
                          have g155i : t0_0.toInt < 9 := q_ltI g155
                          have h156 := T_addArgument (x2 := x2) (x3 := x3) (t0_0 := t0_0) (t0_1 := t0_1) (t0_2 := t0_2) (t0_3 := t0_3) (t1_0 := t1_0) (t2_0 := t2_0) (t3_0 := t3_0) (t4_0 := t4_0) (t5_0 := t5_0) (t6_0 := t6_0) (t7_0 := t7_0) (t8_0 := t8_0) (t9_0 := t9_0) (t10_0 := t10_0) (t11_0 := t11_0) (t12_0 := t12_0) (t13_0 := t13_0) (t14_0 := t14_0) (t15_0 := t15_0) (t16_0 := t16_0) (t17_0 := t17_0) (t18_0 := t18_0) (t19_0 := t19_0) (t20_0 := t20_0) (t21_0 := t21_0) (t22_0 := t22_0) (t23_0 := t23_0) (t24_0 := t24_0) (t24_1 := t24_1) (t25_0 := t25_0) (t26_0 := t26_0) (t26_1 := t26_1) (t27_0 := t27_0) (t27_1 := t27_1) (t28_0 := t28_0) (by omega) (by omega) (by omega)
                          refine v_oweS h156 ?_
                          generalize F_NH_addArgument x2 x3 t0_0 t0_1 t0_2 t0_3 t1_0 t2_0 t3_0 t4_0 t5_0 t6_0 t7_0 t8_0 t9_0 t10_0 t11_0 t12_0 t13_0 t14_0 t15_0 t16_0 t17_0 t18_0 t19_0 t20_0 t21_0 t22_0 t23_0 t24_0 t24_1 t25_0 t26_0 t26_1 t27_0 t27_1 t28_0 = p453
                          unfold S_NH_argument_c188
                          exact trivial
                        ·
                          rw [if_neg g155]
                          have g155i : 9 ≤ t0_0.toInt := q_nltI g155
                          exact trivial
                      ·
                        rw [if_neg g154]
                        have g154i : 64 < t4_0.toInt := q_nleI g154
                        exact trivial
                    ·
                      rw [if_neg g153]
                      have g153i : x2.toInt ≠ 7 := q_neI g153
                      unfold S_NH_argument_J171
                      by_cases g157 : t0_0 < (9 : Int32)
                      ·
                        rw [if_pos g157]
                        have g157i : t0_0.toInt < 9 := q_ltI g157
                        have h158 := T_addArgument (x2 := x2) (x3 := x3) (t0_0 := t0_0) (t0_1 := t0_1) (t0_2 := t0_2) (t0_3 := t0_3) (t1_0 := t1_0) (t2_0 := t2_0) (t3_0 := t3_0) (t4_0 := t4_0) (t5_0 := t5_0) (t6_0 := t6_0) (t7_0 := t7_0) (t8_0 := t8_0) (t9_0 := t9_0) (t10_0 := t10_0) (t11_0 := t11_0) (t12_0 := t12_0) (t13_0 := t13_0) (t14_0 := t14_0) (t15_0 := t15_0) (t16_0 := t16_0) (t17_0 := t17_0) (t18_0 := t18_0) (t19_0 := t19_0) (t20_0 := t20_0) (t21_0 := t21_0) (t22_0 := t22_0) (t23_0 := t23_0) (t24_0 := t24_0) (t24_1 := t24_1) (t25_0 := t25_0) (t26_0 := t26_0) (t26_1 := t26_1) (t27_0 := t27_0) (t27_1 := t27_1) (t28_0 := t28_0) (by omega) (by omega) (by omega)
                        refine v_oweS h158 ?_
                        generalize F_NH_addArgument x2 x3 t0_0 t0_1 t0_2 t0_3 t1_0 t2_0 t3_0 t4_0 t5_0 t6_0 t7_0 t8_0 t9_0 t10_0 t11_0 t12_0 t13_0 t14_0 t15_0 t16_0 t17_0 t18_0 t19_0 t20_0 t21_0 t22_0 t23_0 t24_0 t24_1 t25_0 t26_0 t26_1 t27_0 t27_1 t28_0 = p453
                        unfold S_NH_argument_c188
                        exact trivial
                      ·
                        rw [if_neg g157]
                        have g157i : 9 ≤ t0_0.toInt := q_nltI g157
                        exact trivial
          ·
            rw [if_neg g142]
            have g142i : x2.toInt ≠ 6 := q_neI g142
            unfold S_NH_argument_J65
            unfold S_NH_argument_J70
            have g159 : ((F_NH_need (1 : Int32)) = (0 : Int32)) := (by decide)
            rw [if_pos g159]
            by_cases g160 : x2 = (8 : Int32)
            ·
              rw [if_pos g160]
              have g160i : x2.toInt = 8 := q_eqI g160
              exact trivial
            ·
              rw [if_neg g160]
              have g160i : x2.toInt ≠ 8 := q_neI g160
              rw [if_neg g1]
              unfold S_NH_argument_J105
              unfold S_NH_argument_J110
              have g161 : ((F_NH_canHave (1 : Int32)) = (0 : Int32)) := (by decide)
              rw [if_pos g161]
              rw [if_pos g106]
              refine And.intro (by omega) ?_
              refine And.intro (by omega) ?_
              by_cases g162 : ((F_Pri_canTake (108 : Int32) t26_0 t26_1 t27_0 t27_1 t28_0) : Int32) = (0 : Int32)
              ·
                rw [if_pos g162]
                unfold S_NH_argument_J139
                have g163 : ¬ ((F_NH_canHave (0 : Int32)) = (0 : Int32)) := (by decide)
                rw [if_neg g163]
                exact trivial
              ·
                rw [if_neg g162]
                unfold S_NH_argument_J134
                unfold S_NH_argument_J139
                have g164 : ((F_NH_canHave (1 : Int32)) = (0 : Int32)) := (by decide)
                rw [if_pos g164]
                by_cases g165 : x2 = (7 : Int32)
                ·
                  rw [if_pos g165]
                  have g165i : x2.toInt = 7 := q_eqI g165
                  by_cases g166 : t4_0 ≤ (64 : Int32)
                  ·
                    rw [if_pos g166]
                    have g166i : t4_0.toInt ≤ 64 := q_leI g166
                    unfold S_NH_argument_J171
                    by_cases g167 : t0_0 < (9 : Int32)
                    ·
                      rw [if_pos g167]
                      have g167i : t0_0.toInt < 9 := q_ltI g167
                      have h168 := T_addArgument (x2 := x2) (x3 := x3) (t0_0 := t0_0) (t0_1 := t0_1) (t0_2 := t0_2) (t0_3 := t0_3) (t1_0 := t1_0) (t2_0 := t2_0) (t3_0 := t3_0) (t4_0 := t4_0) (t5_0 := t5_0) (t6_0 := t6_0) (t7_0 := t7_0) (t8_0 := t8_0) (t9_0 := t9_0) (t10_0 := t10_0) (t11_0 := t11_0) (t12_0 := t12_0) (t13_0 := t13_0) (t14_0 := t14_0) (t15_0 := t15_0) (t16_0 := t16_0) (t17_0 := t17_0) (t18_0 := t18_0) (t19_0 := t19_0) (t20_0 := t20_0) (t21_0 := t21_0) (t22_0 := t22_0) (t23_0 := t23_0) (t24_0 := t24_0) (t24_1 := t24_1) (t25_0 := t25_0) (t26_0 := t26_0) (t26_1 := t26_1) (t27_0 := t27_0) (t27_1 := t27_1) (t28_0 := t28_0) (by omega) (by omega) (by omega)
                      refine v_oweS h168 ?_
                      generalize F_NH_addArgument x2 x3 t0_0 t0_1 t0_2 t0_3 t1_0 t2_0 t3_0 t4_0 t5_0 t6_0 t7_0 t8_0 t9_0 t10_0 t11_0 t12_0 t13_0 t14_0 t15_0 t16_0 t17_0 t18_0 t19_0 t20_0 t21_0 t22_0 t23_0 t24_0 t24_1 t25_0 t26_0 t26_1 t27_0 t27_1 t28_0 = p453
                      unfold S_NH_argument_c188
                      exact trivial
                    ·
                      rw [if_neg g167]
                      have g167i : 9 ≤ t0_0.toInt := q_nltI g167
                      exact trivial
                  ·
                    rw [if_neg g166]
                    have g166i : 64 < t4_0.toInt := q_nleI g166
                    exact trivial
                ·
                  rw [if_neg g165]
                  have g165i : x2.toInt ≠ 7 := q_neI g165
                  unfold S_NH_argument_J171
                  by_cases g169 : t0_0 < (9 : Int32)
                  ·
                    rw [if_pos g169]
                    have g169i : t0_0.toInt < 9 := q_ltI g169
                    have h170 := T_addArgument (x2 := x2) (x3 := x3) (t0_0 := t0_0) (t0_1 := t0_1) (t0_2 := t0_2) (t0_3 := t0_3) (t1_0 := t1_0) (t2_0 := t2_0) (t3_0 := t3_0) (t4_0 := t4_0) (t5_0 := t5_0) (t6_0 := t6_0) (t7_0 := t7_0) (t8_0 := t8_0) (t9_0 := t9_0) (t10_0 := t10_0) (t11_0 := t11_0) (t12_0 := t12_0) (t13_0 := t13_0) (t14_0 := t14_0) (t15_0 := t15_0) (t16_0 := t16_0) (t17_0 := t17_0) (t18_0 := t18_0) (t19_0 := t19_0) (t20_0 := t20_0) (t21_0 := t21_0) (t22_0 := t22_0) (t23_0 := t23_0) (t24_0 := t24_0) (t24_1 := t24_1) (t25_0 := t25_0) (t26_0 := t26_0) (t26_1 := t26_1) (t27_0 := t27_0) (t27_1 := t27_1) (t28_0 := t28_0) (by omega) (by omega) (by omega)
                    refine v_oweS h170 ?_
                    generalize F_NH_addArgument x2 x3 t0_0 t0_1 t0_2 t0_3 t1_0 t2_0 t3_0 t4_0 t5_0 t6_0 t7_0 t8_0 t9_0 t10_0 t11_0 t12_0 t13_0 t14_0 t15_0 t16_0 t17_0 t18_0 t19_0 t20_0 t21_0 t22_0 t23_0 t24_0 t24_1 t25_0 t26_0 t26_1 t27_0 t27_1 t28_0 = p453
                    unfold S_NH_argument_c188
                    exact trivial
                  ·
                    rw [if_neg g169]
                    have g169i : 9 ≤ t0_0.toInt := q_nltI g169
                    exact trivial
    ·
      rw [if_neg g106]
      have g106i : x2.toInt ≠ 1 := q_neI g106
      by_cases g171 : x2 < (4 : Int32)
      ·
        rw [if_pos g171]
        have g171i : x2.toInt < 4 := q_ltI g171
        unfold S_NH_argument_J24
        unfold S_NH_argument_J25
        have g172 : ¬ ((F_NH_need (0 : Int32)) = (0 : Int32)) := (by decide)
        rw [if_neg g172]
        exact trivial
      ·
        rw [if_neg g171]
        have g171i : 4 ≤ x2.toInt := q_nltI g171
        by_cases g173 : (8 : Int32) < x2
        ·
          rw [if_pos g173]
          have g173i : 8 < x2.toInt := q_ltI g173
          unfold S_NH_argument_J24
          unfold S_NH_argument_J25
          have g174 : ¬ ((F_NH_need (0 : Int32)) = (0 : Int32)) := (by decide)
          rw [if_neg g174]
          exact trivial
        ·
          rw [if_neg g173]
          have g173i : x2.toInt ≤ 8 := q_nltI g173
          unfold S_NH_argument_J20
          unfold S_NH_argument_J25
          have g175 : ((F_NH_need (1 : Int32)) = (0 : Int32)) := (by decide)
          rw [if_pos g175]
          by_cases g176 : (1 : Int32) < x2
          ·
            rw [if_pos g176]
            have g176i : 1 < x2.toInt := q_ltI g176
            unfold S_NH_argument_J40
            unfold S_NH_argument_J45
            have g177 : ((F_NH_need (1 : Int32)) = (0 : Int32)) := (by decide)
            rw [if_pos g177]
            by_cases g178 : x2 = (6 : Int32)
            ·
              rw [if_pos g178]
              have g178i : x2.toInt = 6 := q_eqI g178
              by_cases g179 : x3 < (0 : Int32)
              ·
                rw [if_pos g179]
                have g179i : x3.toInt < 0 := q_ltI g179
                unfold S_NH_argument_J69
                unfold S_NH_argument_J70
                have g180 : ¬ ((F_NH_need (0 : Int32)) = (0 : Int32)) := (by decide)
                rw [if_neg g180]
                exact trivial
              ·
                rw [if_neg g179]
                have g179i : 0 ≤ x3.toInt := q_nltI g179
                by_cases g181 : (255 : Int32) < x3
                ·
                  rw [if_pos g181]
                  have g181i : 255 < x3.toInt := q_ltI g181
                  unfold S_NH_argument_J69
                  unfold S_NH_argument_J70
                  have g182 : ¬ ((F_NH_need (0 : Int32)) = (0 : Int32)) := (by decide)
                  rw [if_neg g182]
                  exact trivial
                ·
                  rw [if_neg g181]
                  have g181i : x3.toInt ≤ 255 := q_nltI g181
                  unfold S_NH_argument_J65
                  unfold S_NH_argument_J70
                  have g183 : ((F_NH_need (1 : Int32)) = (0 : Int32)) := (by decide)
                  rw [if_pos g183]
                  by_cases g184 : x2 = (8 : Int32)
                  ·
                    rw [if_pos g184]
                    have g184i : x2.toInt = 8 := q_eqI g184
                    exact trivial
                  ·
                    rw [if_neg g184]
                    have g184i : x2.toInt ≠ 8 := q_neI g184
                    rw [if_neg g1]
                    unfold S_NH_argument_J105
                    unfold S_NH_argument_J110
                    have g185 : ((F_NH_canHave (1 : Int32)) = (0 : Int32)) := (by decide)
                    rw [if_pos g185]
                    rw [if_neg g106]
                    unfold S_NH_argument_J134
                    unfold S_NH_argument_J139
                    have g186 : ((F_NH_canHave (1 : Int32)) = (0 : Int32)) := (by decide)
                    rw [if_pos g186]
                    by_cases g187 : x2 = (7 : Int32)
                    ·
                      rw [if_pos g187]
                      have g187i : x2.toInt = 7 := q_eqI g187
                      by_cases g188 : t4_0 ≤ (64 : Int32)
                      ·
                        rw [if_pos g188]
                        have g188i : t4_0.toInt ≤ 64 := q_leI g188
                        unfold S_NH_argument_J171
                        by_cases g189 : t0_0 < (9 : Int32)
                        ·
                          rw [if_pos g189]
                          have g189i : t0_0.toInt < 9 := q_ltI g189
                          have h190 := T_addArgument (x2 := x2) (x3 := x3) (t0_0 := t0_0) (t0_1 := t0_1) (t0_2 := t0_2) (t0_3 := t0_3) (t1_0 := t1_0) (t2_0 := t2_0) (t3_0 := t3_0) (t4_0 := t4_0) (t5_0 := t5_0) (t6_0 := t6_0) (t7_0 := t7_0) (t8_0 := t8_0) (t9_0 := t9_0) (t10_0 := t10_0) (t11_0 := t11_0) (t12_0 := t12_0) (t13_0 := t13_0) (t14_0 := t14_0) (t15_0 := t15_0) (t16_0 := t16_0) (t17_0 := t17_0) (t18_0 := t18_0) (t19_0 := t19_0) (t20_0 := t20_0) (t21_0 := t21_0) (t22_0 := t22_0) (t23_0 := t23_0) (t24_0 := t24_0) (t24_1 := t24_1) (t25_0 := t25_0) (t26_0 := t26_0) (t26_1 := t26_1) (t27_0 := t27_0) (t27_1 := t27_1) (t28_0 := t28_0) (by omega) (by omega) (by omega)
                          refine v_oweS h190 ?_
                          generalize F_NH_addArgument x2 x3 t0_0 t0_1 t0_2 t0_3 t1_0 t2_0 t3_0 t4_0 t5_0 t6_0 t7_0 t8_0 t9_0 t10_0 t11_0 t12_0 t13_0 t14_0 t15_0 t16_0 t17_0 t18_0 t19_0 t20_0 t21_0 t22_0 t23_0 t24_0 t24_1 t25_0 t26_0 t26_1 t27_0 t27_1 t28_0 = p453
                          unfold S_NH_argument_c188
                          exact trivial
                        ·
                          rw [if_neg g189]
                          have g189i : 9 ≤ t0_0.toInt := q_nltI g189
                          exact trivial
                      ·
                        rw [if_neg g188]
                        have g188i : 64 < t4_0.toInt := q_nleI g188
                        exact trivial
                    ·
                      rw [if_neg g187]
                      have g187i : x2.toInt ≠ 7 := q_neI g187
                      unfold S_NH_argument_J171
                      by_cases g191 : t0_0 < (9 : Int32)
                      ·
                        rw [if_pos g191]
                        have g191i : t0_0.toInt < 9 := q_ltI g191
                        have h192 := T_addArgument (x2 := x2) (x3 := x3) (t0_0 := t0_0) (t0_1 := t0_1) (t0_2 := t0_2) (t0_3 := t0_3) (t1_0 := t1_0) (t2_0 := t2_0) (t3_0 := t3_0) (t4_0 := t4_0) (t5_0 := t5_0) (t6_0 := t6_0) (t7_0 := t7_0) (t8_0 := t8_0) (t9_0 := t9_0) (t10_0 := t10_0) (t11_0 := t11_0) (t12_0 := t12_0) (t13_0 := t13_0) (t14_0 := t14_0) (t15_0 := t15_0) (t16_0 := t16_0) (t17_0 := t17_0) (t18_0 := t18_0) (t19_0 := t19_0) (t20_0 := t20_0) (t21_0 := t21_0) (t22_0 := t22_0) (t23_0 := t23_0) (t24_0 := t24_0) (t24_1 := t24_1) (t25_0 := t25_0) (t26_0 := t26_0) (t26_1 := t26_1) (t27_0 := t27_0) (t27_1 := t27_1) (t28_0 := t28_0) (by omega) (by omega) (by omega)
                        refine v_oweS h192 ?_
                        generalize F_NH_addArgument x2 x3 t0_0 t0_1 t0_2 t0_3 t1_0 t2_0 t3_0 t4_0 t5_0 t6_0 t7_0 t8_0 t9_0 t10_0 t11_0 t12_0 t13_0 t14_0 t15_0 t16_0 t17_0 t18_0 t19_0 t20_0 t21_0 t22_0 t23_0 t24_0 t24_1 t25_0 t26_0 t26_1 t27_0 t27_1 t28_0 = p453
                        unfold S_NH_argument_c188
                        exact trivial
                      ·
                        rw [if_neg g191]
                        have g191i : 9 ≤ t0_0.toInt := q_nltI g191
                        exact trivial
            ·
              rw [if_neg g178]
              have g178i : x2.toInt ≠ 6 := q_neI g178
              unfold S_NH_argument_J65
              unfold S_NH_argument_J70
              have g193 : ((F_NH_need (1 : Int32)) = (0 : Int32)) := (by decide)
              rw [if_pos g193]
              by_cases g194 : x2 = (8 : Int32)
              ·
                rw [if_pos g194]
                have g194i : x2.toInt = 8 := q_eqI g194
                exact trivial
              ·
                rw [if_neg g194]
                have g194i : x2.toInt ≠ 8 := q_neI g194
                rw [if_neg g1]
                unfold S_NH_argument_J105
                unfold S_NH_argument_J110
                have g195 : ((F_NH_canHave (1 : Int32)) = (0 : Int32)) := (by decide)
                rw [if_pos g195]
                rw [if_neg g106]
                unfold S_NH_argument_J134
                unfold S_NH_argument_J139
                have g196 : ((F_NH_canHave (1 : Int32)) = (0 : Int32)) := (by decide)
                rw [if_pos g196]
                by_cases g197 : x2 = (7 : Int32)
                ·
                  rw [if_pos g197]
                  have g197i : x2.toInt = 7 := q_eqI g197
                  by_cases g198 : t4_0 ≤ (64 : Int32)
                  ·
                    rw [if_pos g198]
                    have g198i : t4_0.toInt ≤ 64 := q_leI g198
                    unfold S_NH_argument_J171
                    by_cases g199 : t0_0 < (9 : Int32)
                    ·
                      rw [if_pos g199]
                      have g199i : t0_0.toInt < 9 := q_ltI g199
                      have h200 := T_addArgument (x2 := x2) (x3 := x3) (t0_0 := t0_0) (t0_1 := t0_1) (t0_2 := t0_2) (t0_3 := t0_3) (t1_0 := t1_0) (t2_0 := t2_0) (t3_0 := t3_0) (t4_0 := t4_0) (t5_0 := t5_0) (t6_0 := t6_0) (t7_0 := t7_0) (t8_0 := t8_0) (t9_0 := t9_0) (t10_0 := t10_0) (t11_0 := t11_0) (t12_0 := t12_0) (t13_0 := t13_0) (t14_0 := t14_0) (t15_0 := t15_0) (t16_0 := t16_0) (t17_0 := t17_0) (t18_0 := t18_0) (t19_0 := t19_0) (t20_0 := t20_0) (t21_0 := t21_0) (t22_0 := t22_0) (t23_0 := t23_0) (t24_0 := t24_0) (t24_1 := t24_1) (t25_0 := t25_0) (t26_0 := t26_0) (t26_1 := t26_1) (t27_0 := t27_0) (t27_1 := t27_1) (t28_0 := t28_0) (by omega) (by omega) (by omega)
                      refine v_oweS h200 ?_
                      generalize F_NH_addArgument x2 x3 t0_0 t0_1 t0_2 t0_3 t1_0 t2_0 t3_0 t4_0 t5_0 t6_0 t7_0 t8_0 t9_0 t10_0 t11_0 t12_0 t13_0 t14_0 t15_0 t16_0 t17_0 t18_0 t19_0 t20_0 t21_0 t22_0 t23_0 t24_0 t24_1 t25_0 t26_0 t26_1 t27_0 t27_1 t28_0 = p453
                      unfold S_NH_argument_c188
                      exact trivial
                    ·
                      rw [if_neg g199]
                      have g199i : 9 ≤ t0_0.toInt := q_nltI g199
                      exact trivial
                  ·
                    rw [if_neg g198]
                    have g198i : 64 < t4_0.toInt := q_nleI g198
                    exact trivial
                ·
                  rw [if_neg g197]
                  have g197i : x2.toInt ≠ 7 := q_neI g197
                  unfold S_NH_argument_J171
                  by_cases g201 : t0_0 < (9 : Int32)
                  ·
                    rw [if_pos g201]
                    have g201i : t0_0.toInt < 9 := q_ltI g201
                    have h202 := T_addArgument (x2 := x2) (x3 := x3) (t0_0 := t0_0) (t0_1 := t0_1) (t0_2 := t0_2) (t0_3 := t0_3) (t1_0 := t1_0) (t2_0 := t2_0) (t3_0 := t3_0) (t4_0 := t4_0) (t5_0 := t5_0) (t6_0 := t6_0) (t7_0 := t7_0) (t8_0 := t8_0) (t9_0 := t9_0) (t10_0 := t10_0) (t11_0 := t11_0) (t12_0 := t12_0) (t13_0 := t13_0) (t14_0 := t14_0) (t15_0 := t15_0) (t16_0 := t16_0) (t17_0 := t17_0) (t18_0 := t18_0) (t19_0 := t19_0) (t20_0 := t20_0) (t21_0 := t21_0) (t22_0 := t22_0) (t23_0 := t23_0) (t24_0 := t24_0) (t24_1 := t24_1) (t25_0 := t25_0) (t26_0 := t26_0) (t26_1 := t26_1) (t27_0 := t27_0) (t27_1 := t27_1) (t28_0 := t28_0) (by omega) (by omega) (by omega)
                    refine v_oweS h202 ?_
                    generalize F_NH_addArgument x2 x3 t0_0 t0_1 t0_2 t0_3 t1_0 t2_0 t3_0 t4_0 t5_0 t6_0 t7_0 t8_0 t9_0 t10_0 t11_0 t12_0 t13_0 t14_0 t15_0 t16_0 t17_0 t18_0 t19_0 t20_0 t21_0 t22_0 t23_0 t24_0 t24_1 t25_0 t26_0 t26_1 t27_0 t27_1 t28_0 = p453
                    unfold S_NH_argument_c188
                    exact trivial
                  ·
                    rw [if_neg g201]
                    have g201i : 9 ≤ t0_0.toInt := q_nltI g201
                    exact trivial
          ·
            rw [if_neg g176]
            have g176i : x2.toInt ≤ 1 := q_nltI g176
            by_cases g203 : ((F_NH_isRegister x3) : Int32) = (0 : Int32)
            ·
              rw [if_pos g203]
              unfold S_NH_argument_J45
              have g204 : ¬ ((F_NH_need (0 : Int32)) = (0 : Int32)) := (by decide)
              rw [if_neg g204]
              exact trivial
            ·
              rw [if_neg g203]
              have g203r := v_isReg g203
              unfold S_NH_argument_J40
              unfold S_NH_argument_J45
              have g205 : ((F_NH_need (1 : Int32)) = (0 : Int32)) := (by decide)
              rw [if_pos g205]
              by_cases g206 : x2 = (6 : Int32)
              ·
                rw [if_pos g206]
                have g206i : x2.toInt = 6 := q_eqI g206
                by_cases g207 : x3 < (0 : Int32)
                ·
                  rw [if_pos g207]
                  have g207i : x3.toInt < 0 := q_ltI g207
                  unfold S_NH_argument_J69
                  unfold S_NH_argument_J70
                  have g208 : ¬ ((F_NH_need (0 : Int32)) = (0 : Int32)) := (by decide)
                  rw [if_neg g208]
                  exact trivial
                ·
                  rw [if_neg g207]
                  have g207i : 0 ≤ x3.toInt := q_nltI g207
                  by_cases g209 : (255 : Int32) < x3
                  ·
                    rw [if_pos g209]
                    have g209i : 255 < x3.toInt := q_ltI g209
                    unfold S_NH_argument_J69
                    unfold S_NH_argument_J70
                    have g210 : ¬ ((F_NH_need (0 : Int32)) = (0 : Int32)) := (by decide)
                    rw [if_neg g210]
                    exact trivial
                  ·
                    rw [if_neg g209]
                    have g209i : x3.toInt ≤ 255 := q_nltI g209
                    unfold S_NH_argument_J65
                    unfold S_NH_argument_J70
                    have g211 : ((F_NH_need (1 : Int32)) = (0 : Int32)) := (by decide)
                    rw [if_pos g211]
                    by_cases g212 : x2 = (8 : Int32)
                    ·
                      rw [if_pos g212]
                      have g212i : x2.toInt = 8 := q_eqI g212
                      exact trivial
                    ·
                      rw [if_neg g212]
                      have g212i : x2.toInt ≠ 8 := q_neI g212
                      rw [if_neg g1]
                      unfold S_NH_argument_J105
                      unfold S_NH_argument_J110
                      have g213 : ((F_NH_canHave (1 : Int32)) = (0 : Int32)) := (by decide)
                      rw [if_pos g213]
                      rw [if_neg g106]
                      unfold S_NH_argument_J134
                      unfold S_NH_argument_J139
                      have g214 : ((F_NH_canHave (1 : Int32)) = (0 : Int32)) := (by decide)
                      rw [if_pos g214]
                      by_cases g215 : x2 = (7 : Int32)
                      ·
                        rw [if_pos g215]
                        have g215i : x2.toInt = 7 := q_eqI g215
                        by_cases g216 : t4_0 ≤ (64 : Int32)
                        ·
                          rw [if_pos g216]
                          have g216i : t4_0.toInt ≤ 64 := q_leI g216
                          unfold S_NH_argument_J171
                          by_cases g217 : t0_0 < (9 : Int32)
                          ·
                            rw [if_pos g217]
                            have g217i : t0_0.toInt < 9 := q_ltI g217
                            have h218 := T_addArgument (x2 := x2) (x3 := x3) (t0_0 := t0_0) (t0_1 := t0_1) (t0_2 := t0_2) (t0_3 := t0_3) (t1_0 := t1_0) (t2_0 := t2_0) (t3_0 := t3_0) (t4_0 := t4_0) (t5_0 := t5_0) (t6_0 := t6_0) (t7_0 := t7_0) (t8_0 := t8_0) (t9_0 := t9_0) (t10_0 := t10_0) (t11_0 := t11_0) (t12_0 := t12_0) (t13_0 := t13_0) (t14_0 := t14_0) (t15_0 := t15_0) (t16_0 := t16_0) (t17_0 := t17_0) (t18_0 := t18_0) (t19_0 := t19_0) (t20_0 := t20_0) (t21_0 := t21_0) (t22_0 := t22_0) (t23_0 := t23_0) (t24_0 := t24_0) (t24_1 := t24_1) (t25_0 := t25_0) (t26_0 := t26_0) (t26_1 := t26_1) (t27_0 := t27_0) (t27_1 := t27_1) (t28_0 := t28_0) (by omega) (by omega) (by omega)
                            refine v_oweS h218 ?_
                            generalize F_NH_addArgument x2 x3 t0_0 t0_1 t0_2 t0_3 t1_0 t2_0 t3_0 t4_0 t5_0 t6_0 t7_0 t8_0 t9_0 t10_0 t11_0 t12_0 t13_0 t14_0 t15_0 t16_0 t17_0 t18_0 t19_0 t20_0 t21_0 t22_0 t23_0 t24_0 t24_1 t25_0 t26_0 t26_1 t27_0 t27_1 t28_0 = p453
                            unfold S_NH_argument_c188
                            exact trivial
                          ·
                            rw [if_neg g217]
                            have g217i : 9 ≤ t0_0.toInt := q_nltI g217
                            exact trivial
                        ·
                          rw [if_neg g216]
                          have g216i : 64 < t4_0.toInt := q_nleI g216
                          exact trivial
                      ·
                        rw [if_neg g215]
                        have g215i : x2.toInt ≠ 7 := q_neI g215
                        unfold S_NH_argument_J171
                        by_cases g219 : t0_0 < (9 : Int32)
                        ·
                          rw [if_pos g219]
                          have g219i : t0_0.toInt < 9 := q_ltI g219
                          have h220 := T_addArgument (x2 := x2) (x3 := x3) (t0_0 := t0_0) (t0_1 := t0_1) (t0_2 := t0_2) (t0_3 := t0_3) (t1_0 := t1_0) (t2_0 := t2_0) (t3_0 := t3_0) (t4_0 := t4_0) (t5_0 := t5_0) (t6_0 := t6_0) (t7_0 := t7_0) (t8_0 := t8_0) (t9_0 := t9_0) (t10_0 := t10_0) (t11_0 := t11_0) (t12_0 := t12_0) (t13_0 := t13_0) (t14_0 := t14_0) (t15_0 := t15_0) (t16_0 := t16_0) (t17_0 := t17_0) (t18_0 := t18_0) (t19_0 := t19_0) (t20_0 := t20_0) (t21_0 := t21_0) (t22_0 := t22_0) (t23_0 := t23_0) (t24_0 := t24_0) (t24_1 := t24_1) (t25_0 := t25_0) (t26_0 := t26_0) (t26_1 := t26_1) (t27_0 := t27_0) (t27_1 := t27_1) (t28_0 := t28_0) (by omega) (by omega) (by omega)
                          refine v_oweS h220 ?_
                          generalize F_NH_addArgument x2 x3 t0_0 t0_1 t0_2 t0_3 t1_0 t2_0 t3_0 t4_0 t5_0 t6_0 t7_0 t8_0 t9_0 t10_0 t11_0 t12_0 t13_0 t14_0 t15_0 t16_0 t17_0 t18_0 t19_0 t20_0 t21_0 t22_0 t23_0 t24_0 t24_1 t25_0 t26_0 t26_1 t27_0 t27_1 t28_0 = p453
                          unfold S_NH_argument_c188
                          exact trivial
                        ·
                          rw [if_neg g219]
                          have g219i : 9 ≤ t0_0.toInt := q_nltI g219
                          exact trivial
              ·
                rw [if_neg g206]
                have g206i : x2.toInt ≠ 6 := q_neI g206
                unfold S_NH_argument_J65
                unfold S_NH_argument_J70
                have g221 : ((F_NH_need (1 : Int32)) = (0 : Int32)) := (by decide)
                rw [if_pos g221]
                by_cases g222 : x2 = (8 : Int32)
                ·
                  rw [if_pos g222]
                  have g222i : x2.toInt = 8 := q_eqI g222
                  exact trivial
                ·
                  rw [if_neg g222]
                  have g222i : x2.toInt ≠ 8 := q_neI g222
                  rw [if_neg g1]
                  unfold S_NH_argument_J105
                  unfold S_NH_argument_J110
                  have g223 : ((F_NH_canHave (1 : Int32)) = (0 : Int32)) := (by decide)
                  rw [if_pos g223]
                  rw [if_neg g106]
                  unfold S_NH_argument_J134
                  unfold S_NH_argument_J139
                  have g224 : ((F_NH_canHave (1 : Int32)) = (0 : Int32)) := (by decide)
                  rw [if_pos g224]
                  by_cases g225 : x2 = (7 : Int32)
                  ·
                    rw [if_pos g225]
                    have g225i : x2.toInt = 7 := q_eqI g225
                    by_cases g226 : t4_0 ≤ (64 : Int32)
                    ·
                      rw [if_pos g226]
                      have g226i : t4_0.toInt ≤ 64 := q_leI g226
                      unfold S_NH_argument_J171
                      by_cases g227 : t0_0 < (9 : Int32)
                      ·
                        rw [if_pos g227]
                        have g227i : t0_0.toInt < 9 := q_ltI g227
                        have h228 := T_addArgument (x2 := x2) (x3 := x3) (t0_0 := t0_0) (t0_1 := t0_1) (t0_2 := t0_2) (t0_3 := t0_3) (t1_0 := t1_0) (t2_0 := t2_0) (t3_0 := t3_0) (t4_0 := t4_0) (t5_0 := t5_0) (t6_0 := t6_0) (t7_0 := t7_0) (t8_0 := t8_0) (t9_0 := t9_0) (t10_0 := t10_0) (t11_0 := t11_0) (t12_0 := t12_0) (t13_0 := t13_0) (t14_0 := t14_0) (t15_0 := t15_0) (t16_0 := t16_0) (t17_0 := t17_0) (t18_0 := t18_0) (t19_0 := t19_0) (t20_0 := t20_0) (t21_0 := t21_0) (t22_0 := t22_0) (t23_0 := t23_0) (t24_0 := t24_0) (t24_1 := t24_1) (t25_0 := t25_0) (t26_0 := t26_0) (t26_1 := t26_1) (t27_0 := t27_0) (t27_1 := t27_1) (t28_0 := t28_0) (by omega) (by omega) (by omega)
                        refine v_oweS h228 ?_
                        generalize F_NH_addArgument x2 x3 t0_0 t0_1 t0_2 t0_3 t1_0 t2_0 t3_0 t4_0 t5_0 t6_0 t7_0 t8_0 t9_0 t10_0 t11_0 t12_0 t13_0 t14_0 t15_0 t16_0 t17_0 t18_0 t19_0 t20_0 t21_0 t22_0 t23_0 t24_0 t24_1 t25_0 t26_0 t26_1 t27_0 t27_1 t28_0 = p453
                        unfold S_NH_argument_c188
                        exact trivial
                      ·
                        rw [if_neg g227]
                        have g227i : 9 ≤ t0_0.toInt := q_nltI g227
                        exact trivial
                    ·
                      rw [if_neg g226]
                      have g226i : 64 < t4_0.toInt := q_nleI g226
                      exact trivial
                  ·
                    rw [if_neg g225]
                    have g225i : x2.toInt ≠ 7 := q_neI g225
                    unfold S_NH_argument_J171
                    by_cases g229 : t0_0 < (9 : Int32)
                    ·
                      rw [if_pos g229]
                      have g229i : t0_0.toInt < 9 := q_ltI g229
                      have h230 := T_addArgument (x2 := x2) (x3 := x3) (t0_0 := t0_0) (t0_1 := t0_1) (t0_2 := t0_2) (t0_3 := t0_3) (t1_0 := t1_0) (t2_0 := t2_0) (t3_0 := t3_0) (t4_0 := t4_0) (t5_0 := t5_0) (t6_0 := t6_0) (t7_0 := t7_0) (t8_0 := t8_0) (t9_0 := t9_0) (t10_0 := t10_0) (t11_0 := t11_0) (t12_0 := t12_0) (t13_0 := t13_0) (t14_0 := t14_0) (t15_0 := t15_0) (t16_0 := t16_0) (t17_0 := t17_0) (t18_0 := t18_0) (t19_0 := t19_0) (t20_0 := t20_0) (t21_0 := t21_0) (t22_0 := t22_0) (t23_0 := t23_0) (t24_0 := t24_0) (t24_1 := t24_1) (t25_0 := t25_0) (t26_0 := t26_0) (t26_1 := t26_1) (t27_0 := t27_0) (t27_1 := t27_1) (t28_0 := t28_0) (by omega) (by omega) (by omega)
                      refine v_oweS h230 ?_
                      generalize F_NH_addArgument x2 x3 t0_0 t0_1 t0_2 t0_3 t1_0 t2_0 t3_0 t4_0 t5_0 t6_0 t7_0 t8_0 t9_0 t10_0 t11_0 t12_0 t13_0 t14_0 t15_0 t16_0 t17_0 t18_0 t19_0 t20_0 t21_0 t22_0 t23_0 t24_0 t24_1 t25_0 t26_0 t26_1 t27_0 t27_1 t28_0 = p453
                      unfold S_NH_argument_c188
                      exact trivial
                    ·
                      rw [if_neg g229]
                      have g229i : 9 ≤ t0_0.toInt := q_nltI g229
                      exact trivial

