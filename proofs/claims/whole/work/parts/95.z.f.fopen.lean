/-! FloatRows: open, add, number, digits, power -/
theorem fl_lz {a : Int64} (g : lg_cmp a 0 = 0) : a.toInt = 0 := by
  have c := s_lcmp (a := a) (b := 0)
  rw [g] at c
  have e0 : (0 : Int32).toInt = 0 := rfl
  have e1 : (0 : Int64).toInt = 0 := rfl
  omega
theorem fl_lnz {a : Int64} (g : ¬ lg_cmp a 0 = 0) : a.toInt ≠ 0 := fun h => g (by
  have e : a = 0 := Int64.toInt_inj.mp (by rw [h]; rfl)
  rw [e]; rfl)
theorem fl_fin {a b c d : Int32} {e : Int64} {f g : Int32} {h : Int64} {i : Int32} {j : Int64} {k : Int32} (z : ¬ F_FR_isFinite a b c d e f g h i j k = 0) : d.toInt < g.toInt := by
  unfold F_FR_isFinite at z
  by_cases y : g ≤ d
  · rw [if_pos y] at z; exact absurd rfl z
  · exact q_nleI y
theorem fl_o1 {x : Int64} : 0 ≤ (x &&& (((1 : Int64) <<< ((52 : Int32).toInt64 &&& 63)) - 1)).toInt ∧ (x &&& (((1 : Int64) <<< ((52 : Int32).toInt64 &&& 63)) - 1)).toInt < 9007199254740992 := by
  have a := s_andJ (x := x) (m := ((1 : Int64) <<< ((52 : Int32).toInt64 &&& 63)) - 1) (by decide)
  have e : (((1 : Int64) <<< ((52 : Int32).toInt64 &&& 63)) - 1).toInt = 4503599627370495 := by decide
  omega
theorem fl_o2 {x : Int64} : 0 ≤ (x &&& (((1 : Int64) <<< ((23 : Int32).toInt64 &&& 63)) - 1)).toInt ∧ (x &&& (((1 : Int64) <<< ((23 : Int32).toInt64 &&& 63)) - 1)).toInt < 9007199254740992 := by
  have a := s_andJ (x := x) (m := ((1 : Int64) <<< ((23 : Int32).toInt64 &&& 63)) - 1) (by decide)
  have e : (((1 : Int64) <<< ((23 : Int32).toInt64 &&& 63)) - 1).toInt = 8388607 := by decide
  omega
theorem fl_o3 {x : Int64} : 0 ≤ ((x &&& (((1 : Int64) <<< ((52 : Int32).toInt64 &&& 63)) - 1)) + ((1 : Int64) <<< ((52 : Int32).toInt64 &&& 63))).toInt ∧ ((x &&& (((1 : Int64) <<< ((52 : Int32).toInt64 &&& 63)) - 1)) + ((1 : Int64) <<< ((52 : Int32).toInt64 &&& 63))).toInt < 9007199254740992 := by
  have a := s_andJ (x := x) (m := ((1 : Int64) <<< ((52 : Int32).toInt64 &&& 63)) - 1) (by decide)
  have e : (((1 : Int64) <<< ((52 : Int32).toInt64 &&& 63)) - 1).toInt = 4503599627370495 := by decide
  have e2 : ((1 : Int64) <<< ((52 : Int32).toInt64 &&& 63)).toInt = 4503599627370496 := by decide
  generalize (x &&& (((1 : Int64) <<< ((52 : Int32).toInt64 &&& 63)) - 1)) = y at a ⊢
  generalize ((1 : Int64) <<< ((52 : Int32).toInt64 &&& 63)) = w at *
  have e3 : (y + w).toInt = y.toInt + 4503599627370496 := q_addL rfl e2 (by omega) (by omega)
  omega
theorem fl_o4 {x : Int64} : 0 ≤ ((x &&& (((1 : Int64) <<< ((23 : Int32).toInt64 &&& 63)) - 1)) + ((1 : Int64) <<< ((23 : Int32).toInt64 &&& 63))).toInt ∧ ((x &&& (((1 : Int64) <<< ((23 : Int32).toInt64 &&& 63)) - 1)) + ((1 : Int64) <<< ((23 : Int32).toInt64 &&& 63))).toInt < 9007199254740992 := by
  have a := s_andJ (x := x) (m := ((1 : Int64) <<< ((23 : Int32).toInt64 &&& 63)) - 1) (by decide)
  have e : (((1 : Int64) <<< ((23 : Int32).toInt64 &&& 63)) - 1).toInt = 8388607 := by decide
  have e2 : ((1 : Int64) <<< ((23 : Int32).toInt64 &&& 63)).toInt = 8388608 := by decide
  generalize (x &&& (((1 : Int64) <<< ((23 : Int32).toInt64 &&& 63)) - 1)) = y at a ⊢
  generalize ((1 : Int64) <<< ((23 : Int32).toInt64 &&& 63)) = w at *
  have e3 : (y + w).toInt = y.toInt + 8388608 := q_addL rfl e2 (by omega) (by omega)
  omega
theorem fl_exp {a : Int32} {k : Int32} (ha : 0 ≤ a.toInt ∧ a.toInt ≤ 2047) (hk : 0 ≤ k.toInt ∧ k.toInt ≤ 2000) : (a - k : Int32).toInt = a.toInt - k.toInt := q_subI rfl rfl (by omega) (by omega)
def Q_FR_open (t0_0 t0_1 : Int32) (p : Int32 × Int32 × Int32 × Int32 × Int64 × Int32 × Int32 × Int64 × Int32 × Int64 × Int32) : Prop := p.1 = t0_0 ∧ p.2.1 = t0_1 ∧ (0 ≤ p.2.2.2.2.2.2.2.1.toInt ∧ p.2.2.2.2.2.2.2.1.toInt < 9007199254740992) ∧ (-1074 ≤ p.2.2.2.2.2.2.2.2.1.toInt ∧ p.2.2.2.2.2.2.2.2.1.toInt ≤ 972) ∧ (p.2.2.2.1.toInt < p.2.2.2.2.2.2.1.toInt → p.2.2.2.2.2.2.2.2.1.toInt ≤ 971) ∧ (0 ≤ p.2.2.2.2.2.1.toInt ∧ p.2.2.2.2.2.1.toInt ≤ 52)
theorem T_FR_open {x2 : Int64} {x3 : Int32} {t0_0 : Int32} {t0_1 : Int32} {t0_2 : Int32} {t0_3 : Int32} {t0_4 : Int64} {t0_5 : Int32} {t0_6 : Int32} {t0_7 : Int64} {t0_8 : Int32} {t0_9 : Int64} {t0_10 : Int32}  : Q_FR_open t0_0 t0_1 (F_FR_open x2 x3 t0_0 t0_1 t0_2 t0_3 t0_4 t0_5 t0_6 t0_7 t0_8 t0_9 t0_10) := by
  have e0 : (0 : Int32).toInt = 0 := rfl
  have e1 : (1 : Int32).toInt = 1 := rfl
  have eL0 : (0 : Int64).toInt = 0 := rfl
  unfold F_FR_open
  by_cases g1 : x3 = (0 : Int32)
  ·
    rw [if_pos g1]
    have g1i : x3.toInt = 0 := q_eqI g1
    unfold F_FR_open_J12
    rw [if_pos g1]
    unfold F_FR_open_J29
    rw [if_pos g1]
    unfold F_FR_open_J45
    by_cases g2 : (lg_cmp (((x2.toUInt64 >>> ((63 : Int32).toInt64.toUInt64 &&& Int64.toUInt64 63)).toInt64 : Int64) &&& 1 : Int64) 1 : Int32) = (0 : Int32)
    ·
      rw [if_pos g2]
      unfold F_FR_open_J58
      by_cases g3 : ((((x2.toUInt64 >>> ((52 : Int32).toInt64.toUInt64 &&& Int64.toUInt64 63)).toInt64 : Int64).toInt32 : Int32) &&& (2047 : Int32) : Int32) = (0 : Int32)
      ·
        rw [if_pos g3]
        obtain ⟨a72, e4⟩ := q_nm (((((x2.toUInt64 >>> ((52 : Int32).toInt64.toUInt64 &&& Int64.toUInt64 63)).toInt64 : Int64).toInt32 : Int32) &&& (2047 : Int32) : Int32) : Int32)
        rw [e4]
        have a72b : 0 ≤ a72.toInt ∧ a72.toInt ≤ (2047 : Int32).toInt := by rw [← e4]; exact s_and (by decide)
        have a72c : (2047 : Int32).toInt = 2047 := rfl
        unfold F_FR_open_J117
        by_cases g5 : a72 = (0 : Int32)
        ·
          rw [if_pos g5]
          have g5i := q_eqI g5
          rw [if_pos g1]
          (unfold Q_FR_open; dsimp only; first | exact ⟨rfl, rfl, fl_o1, ⟨by decide, by decide⟩, fun _ => by decide, ⟨by decide, by decide⟩⟩ | (have ek := fl_exp (a := a72) (k := 1075) ⟨by omega, by omega⟩ (by decide); have ek2 : (1075 : Int32).toInt = 1075 := rfl; rw [ek]; exact ⟨rfl, rfl, fl_o1, ⟨by omega, by omega⟩, fun h => by omega, ⟨by decide, by decide⟩⟩))
        ·
          rw [if_neg g5]
          have g5i := q_neI g5
          rw [if_pos g1]
          (unfold Q_FR_open; dsimp only; first | exact ⟨rfl, rfl, fl_o1, ⟨by decide, by decide⟩, fun _ => by decide, ⟨by decide, by decide⟩⟩ | (have ek := fl_exp (a := a72) (k := 1075) ⟨by omega, by omega⟩ (by decide); have ek2 : (1075 : Int32).toInt = 1075 := rfl; rw [ek]; exact ⟨rfl, rfl, fl_o1, ⟨by omega, by omega⟩, fun h => by omega, ⟨by decide, by decide⟩⟩))
      ·
        rw [if_neg g3]
        obtain ⟨a72, e6⟩ := q_nm (((((x2.toUInt64 >>> ((52 : Int32).toInt64.toUInt64 &&& Int64.toUInt64 63)).toInt64 : Int64).toInt32 : Int32) &&& (2047 : Int32) : Int32) : Int32)
        rw [e6]
        have a72b : 0 ≤ a72.toInt ∧ a72.toInt ≤ (2047 : Int32).toInt := by rw [← e6]; exact s_and (by decide)
        have a72c : (2047 : Int32).toInt = 2047 := rfl
        unfold F_FR_open_J117
        by_cases g7 : a72 = (0 : Int32)
        ·
          rw [if_pos g7]
          have g7i := q_eqI g7
          rw [if_pos g1]
          (unfold Q_FR_open; dsimp only; first | exact ⟨rfl, rfl, fl_o3, ⟨by decide, by decide⟩, fun _ => by decide, ⟨by decide, by decide⟩⟩ | (have ek := fl_exp (a := a72) (k := 1075) ⟨by omega, by omega⟩ (by decide); have ek2 : (1075 : Int32).toInt = 1075 := rfl; rw [ek]; exact ⟨rfl, rfl, fl_o3, ⟨by omega, by omega⟩, fun h => by omega, ⟨by decide, by decide⟩⟩))
        ·
          rw [if_neg g7]
          have g7i := q_neI g7
          rw [if_pos g1]
          (unfold Q_FR_open; dsimp only; first | exact ⟨rfl, rfl, fl_o3, ⟨by decide, by decide⟩, fun _ => by decide, ⟨by decide, by decide⟩⟩ | (have ek := fl_exp (a := a72) (k := 1075) ⟨by omega, by omega⟩ (by decide); have ek2 : (1075 : Int32).toInt = 1075 := rfl; rw [ek]; exact ⟨rfl, rfl, fl_o3, ⟨by omega, by omega⟩, fun h => by omega, ⟨by decide, by decide⟩⟩))
    ·
      rw [if_neg g2]
      unfold F_FR_open_J58
      by_cases g8 : ((((x2.toUInt64 >>> ((52 : Int32).toInt64.toUInt64 &&& Int64.toUInt64 63)).toInt64 : Int64).toInt32 : Int32) &&& (2047 : Int32) : Int32) = (0 : Int32)
      ·
        rw [if_pos g8]
        obtain ⟨a72, e9⟩ := q_nm (((((x2.toUInt64 >>> ((52 : Int32).toInt64.toUInt64 &&& Int64.toUInt64 63)).toInt64 : Int64).toInt32 : Int32) &&& (2047 : Int32) : Int32) : Int32)
        rw [e9]
        have a72b : 0 ≤ a72.toInt ∧ a72.toInt ≤ (2047 : Int32).toInt := by rw [← e9]; exact s_and (by decide)
        have a72c : (2047 : Int32).toInt = 2047 := rfl
        unfold F_FR_open_J117
        by_cases g10 : a72 = (0 : Int32)
        ·
          rw [if_pos g10]
          have g10i := q_eqI g10
          rw [if_pos g1]
          (unfold Q_FR_open; dsimp only; first | exact ⟨rfl, rfl, fl_o1, ⟨by decide, by decide⟩, fun _ => by decide, ⟨by decide, by decide⟩⟩ | (have ek := fl_exp (a := a72) (k := 1075) ⟨by omega, by omega⟩ (by decide); have ek2 : (1075 : Int32).toInt = 1075 := rfl; rw [ek]; exact ⟨rfl, rfl, fl_o1, ⟨by omega, by omega⟩, fun h => by omega, ⟨by decide, by decide⟩⟩))
        ·
          rw [if_neg g10]
          have g10i := q_neI g10
          rw [if_pos g1]
          (unfold Q_FR_open; dsimp only; first | exact ⟨rfl, rfl, fl_o1, ⟨by decide, by decide⟩, fun _ => by decide, ⟨by decide, by decide⟩⟩ | (have ek := fl_exp (a := a72) (k := 1075) ⟨by omega, by omega⟩ (by decide); have ek2 : (1075 : Int32).toInt = 1075 := rfl; rw [ek]; exact ⟨rfl, rfl, fl_o1, ⟨by omega, by omega⟩, fun h => by omega, ⟨by decide, by decide⟩⟩))
      ·
        rw [if_neg g8]
        obtain ⟨a72, e11⟩ := q_nm (((((x2.toUInt64 >>> ((52 : Int32).toInt64.toUInt64 &&& Int64.toUInt64 63)).toInt64 : Int64).toInt32 : Int32) &&& (2047 : Int32) : Int32) : Int32)
        rw [e11]
        have a72b : 0 ≤ a72.toInt ∧ a72.toInt ≤ (2047 : Int32).toInt := by rw [← e11]; exact s_and (by decide)
        have a72c : (2047 : Int32).toInt = 2047 := rfl
        unfold F_FR_open_J117
        by_cases g12 : a72 = (0 : Int32)
        ·
          rw [if_pos g12]
          have g12i := q_eqI g12
          rw [if_pos g1]
          (unfold Q_FR_open; dsimp only; first | exact ⟨rfl, rfl, fl_o3, ⟨by decide, by decide⟩, fun _ => by decide, ⟨by decide, by decide⟩⟩ | (have ek := fl_exp (a := a72) (k := 1075) ⟨by omega, by omega⟩ (by decide); have ek2 : (1075 : Int32).toInt = 1075 := rfl; rw [ek]; exact ⟨rfl, rfl, fl_o3, ⟨by omega, by omega⟩, fun h => by omega, ⟨by decide, by decide⟩⟩))
        ·
          rw [if_neg g12]
          have g12i := q_neI g12
          rw [if_pos g1]
          (unfold Q_FR_open; dsimp only; first | exact ⟨rfl, rfl, fl_o3, ⟨by decide, by decide⟩, fun _ => by decide, ⟨by decide, by decide⟩⟩ | (have ek := fl_exp (a := a72) (k := 1075) ⟨by omega, by omega⟩ (by decide); have ek2 : (1075 : Int32).toInt = 1075 := rfl; rw [ek]; exact ⟨rfl, rfl, fl_o3, ⟨by omega, by omega⟩, fun h => by omega, ⟨by decide, by decide⟩⟩))
  ·
    rw [if_neg g1]
    have g1i : x3.toInt ≠ 0 := q_neI g1
    unfold F_FR_open_J12
    rw [if_neg g1]
    unfold F_FR_open_J29
    rw [if_neg g1]
    unfold F_FR_open_J45
    by_cases g13 : (lg_cmp (((x2.toUInt64 >>> ((31 : Int32).toInt64.toUInt64 &&& Int64.toUInt64 63)).toInt64 : Int64) &&& 1 : Int64) 1 : Int32) = (0 : Int32)
    ·
      rw [if_pos g13]
      unfold F_FR_open_J58
      by_cases g14 : ((((x2.toUInt64 >>> ((23 : Int32).toInt64.toUInt64 &&& Int64.toUInt64 63)).toInt64 : Int64).toInt32 : Int32) &&& (255 : Int32) : Int32) = (0 : Int32)
      ·
        rw [if_pos g14]
        obtain ⟨a72, e15⟩ := q_nm (((((x2.toUInt64 >>> ((23 : Int32).toInt64.toUInt64 &&& Int64.toUInt64 63)).toInt64 : Int64).toInt32 : Int32) &&& (255 : Int32) : Int32) : Int32)
        rw [e15]
        have a72b : 0 ≤ a72.toInt ∧ a72.toInt ≤ (255 : Int32).toInt := by rw [← e15]; exact s_and (by decide)
        have a72c : (255 : Int32).toInt = 255 := rfl
        unfold F_FR_open_J117
        by_cases g16 : a72 = (0 : Int32)
        ·
          rw [if_pos g16]
          have g16i := q_eqI g16
          rw [if_neg g1]
          (unfold Q_FR_open; dsimp only; first | exact ⟨rfl, rfl, fl_o2, ⟨by decide, by decide⟩, fun _ => by decide, ⟨by decide, by decide⟩⟩ | (have ek := fl_exp (a := a72) (k := 150) ⟨by omega, by omega⟩ (by decide); have ek2 : (150 : Int32).toInt = 150 := rfl; rw [ek]; exact ⟨rfl, rfl, fl_o2, ⟨by omega, by omega⟩, fun h => by omega, ⟨by decide, by decide⟩⟩))
        ·
          rw [if_neg g16]
          have g16i := q_neI g16
          rw [if_neg g1]
          (unfold Q_FR_open; dsimp only; first | exact ⟨rfl, rfl, fl_o2, ⟨by decide, by decide⟩, fun _ => by decide, ⟨by decide, by decide⟩⟩ | (have ek := fl_exp (a := a72) (k := 150) ⟨by omega, by omega⟩ (by decide); have ek2 : (150 : Int32).toInt = 150 := rfl; rw [ek]; exact ⟨rfl, rfl, fl_o2, ⟨by omega, by omega⟩, fun h => by omega, ⟨by decide, by decide⟩⟩))
      ·
        rw [if_neg g14]
        obtain ⟨a72, e17⟩ := q_nm (((((x2.toUInt64 >>> ((23 : Int32).toInt64.toUInt64 &&& Int64.toUInt64 63)).toInt64 : Int64).toInt32 : Int32) &&& (255 : Int32) : Int32) : Int32)
        rw [e17]
        have a72b : 0 ≤ a72.toInt ∧ a72.toInt ≤ (255 : Int32).toInt := by rw [← e17]; exact s_and (by decide)
        have a72c : (255 : Int32).toInt = 255 := rfl
        unfold F_FR_open_J117
        by_cases g18 : a72 = (0 : Int32)
        ·
          rw [if_pos g18]
          have g18i := q_eqI g18
          rw [if_neg g1]
          (unfold Q_FR_open; dsimp only; first | exact ⟨rfl, rfl, fl_o4, ⟨by decide, by decide⟩, fun _ => by decide, ⟨by decide, by decide⟩⟩ | (have ek := fl_exp (a := a72) (k := 150) ⟨by omega, by omega⟩ (by decide); have ek2 : (150 : Int32).toInt = 150 := rfl; rw [ek]; exact ⟨rfl, rfl, fl_o4, ⟨by omega, by omega⟩, fun h => by omega, ⟨by decide, by decide⟩⟩))
        ·
          rw [if_neg g18]
          have g18i := q_neI g18
          rw [if_neg g1]
          (unfold Q_FR_open; dsimp only; first | exact ⟨rfl, rfl, fl_o4, ⟨by decide, by decide⟩, fun _ => by decide, ⟨by decide, by decide⟩⟩ | (have ek := fl_exp (a := a72) (k := 150) ⟨by omega, by omega⟩ (by decide); have ek2 : (150 : Int32).toInt = 150 := rfl; rw [ek]; exact ⟨rfl, rfl, fl_o4, ⟨by omega, by omega⟩, fun h => by omega, ⟨by decide, by decide⟩⟩))
    ·
      rw [if_neg g13]
      unfold F_FR_open_J58
      by_cases g19 : ((((x2.toUInt64 >>> ((23 : Int32).toInt64.toUInt64 &&& Int64.toUInt64 63)).toInt64 : Int64).toInt32 : Int32) &&& (255 : Int32) : Int32) = (0 : Int32)
      ·
        rw [if_pos g19]
        obtain ⟨a72, e20⟩ := q_nm (((((x2.toUInt64 >>> ((23 : Int32).toInt64.toUInt64 &&& Int64.toUInt64 63)).toInt64 : Int64).toInt32 : Int32) &&& (255 : Int32) : Int32) : Int32)
        rw [e20]
        have a72b : 0 ≤ a72.toInt ∧ a72.toInt ≤ (255 : Int32).toInt := by rw [← e20]; exact s_and (by decide)
        have a72c : (255 : Int32).toInt = 255 := rfl
        unfold F_FR_open_J117
        by_cases g21 : a72 = (0 : Int32)
        ·
          rw [if_pos g21]
          have g21i := q_eqI g21
          rw [if_neg g1]
          (unfold Q_FR_open; dsimp only; first | exact ⟨rfl, rfl, fl_o2, ⟨by decide, by decide⟩, fun _ => by decide, ⟨by decide, by decide⟩⟩ | (have ek := fl_exp (a := a72) (k := 150) ⟨by omega, by omega⟩ (by decide); have ek2 : (150 : Int32).toInt = 150 := rfl; rw [ek]; exact ⟨rfl, rfl, fl_o2, ⟨by omega, by omega⟩, fun h => by omega, ⟨by decide, by decide⟩⟩))
        ·
          rw [if_neg g21]
          have g21i := q_neI g21
          rw [if_neg g1]
          (unfold Q_FR_open; dsimp only; first | exact ⟨rfl, rfl, fl_o2, ⟨by decide, by decide⟩, fun _ => by decide, ⟨by decide, by decide⟩⟩ | (have ek := fl_exp (a := a72) (k := 150) ⟨by omega, by omega⟩ (by decide); have ek2 : (150 : Int32).toInt = 150 := rfl; rw [ek]; exact ⟨rfl, rfl, fl_o2, ⟨by omega, by omega⟩, fun h => by omega, ⟨by decide, by decide⟩⟩))
      ·
        rw [if_neg g19]
        obtain ⟨a72, e22⟩ := q_nm (((((x2.toUInt64 >>> ((23 : Int32).toInt64.toUInt64 &&& Int64.toUInt64 63)).toInt64 : Int64).toInt32 : Int32) &&& (255 : Int32) : Int32) : Int32)
        rw [e22]
        have a72b : 0 ≤ a72.toInt ∧ a72.toInt ≤ (255 : Int32).toInt := by rw [← e22]; exact s_and (by decide)
        have a72c : (255 : Int32).toInt = 255 := rfl
        unfold F_FR_open_J117
        by_cases g23 : a72 = (0 : Int32)
        ·
          rw [if_pos g23]
          have g23i := q_eqI g23
          rw [if_neg g1]
          (unfold Q_FR_open; dsimp only; first | exact ⟨rfl, rfl, fl_o4, ⟨by decide, by decide⟩, fun _ => by decide, ⟨by decide, by decide⟩⟩ | (have ek := fl_exp (a := a72) (k := 150) ⟨by omega, by omega⟩ (by decide); have ek2 : (150 : Int32).toInt = 150 := rfl; rw [ek]; exact ⟨rfl, rfl, fl_o4, ⟨by omega, by omega⟩, fun h => by omega, ⟨by decide, by decide⟩⟩))
        ·
          rw [if_neg g23]
          have g23i := q_neI g23
          rw [if_neg g1]
          (unfold Q_FR_open; dsimp only; first | exact ⟨rfl, rfl, fl_o4, ⟨by decide, by decide⟩, fun _ => by decide, ⟨by decide, by decide⟩⟩ | (have ek := fl_exp (a := a72) (k := 150) ⟨by omega, by omega⟩ (by decide); have ek2 : (150 : Int32).toInt = 150 := rfl; rw [ek]; exact ⟨rfl, rfl, fl_o4, ⟨by omega, by omega⟩, fun h => by omega, ⟨by decide, by decide⟩⟩))
def Q_FR_add (t0_1 t0_3 t0_5 t0_6 : Int32) (t0_7 : Int64) (t0_8 : Int32) (t0_9 : Int64) (t0_10 : Int32) (p : Int32 × Int32 × Int32 × Int32 × Int64 × Int32 × Int32 × Int64 × Int32 × Int64 × Int32 × (Nat → Int32)) : Prop := p.2.1.toInt = t0_1.toInt + 1 ∧ p.2.2.2.1 = t0_3 ∧ p.2.2.2.2.2.1.toInt = t0_5.toInt ∧ p.2.2.2.2.2.2.1 = t0_6 ∧ p.2.2.2.2.2.2.2.1 = t0_7 ∧ p.2.2.2.2.2.2.2.2.1.toInt = t0_8.toInt ∧ p.2.2.2.2.2.2.2.2.2.1 = t0_9 ∧ p.2.2.2.2.2.2.2.2.2.2.1.toInt = t0_10.toInt
theorem T_FR_add {x2 : Int32} {t0_0 : Int32} {t0_1 : Int32} {t0_2 : Int32} {t0_3 : Int32} {t0_4 : Int64} {t0_5 : Int32} {t0_6 : Int32} {t0_7 : Int64} {t0_8 : Int32} {t0_9 : Int64} {t0_10 : Int32} {t1_0 : (Nat → Int32)} (hL : 0 ≤ t0_1.toInt ∧ t0_1.toInt ≤ 1599) : (S_FR_add x2 t0_0 t0_1 t0_2 t0_3 t0_4 t0_5 t0_6 t0_7 t0_8 t0_9 t0_10 t1_0) ∧ Q_FR_add t0_1 t0_3 t0_5 t0_6 t0_7 t0_8 t0_9 t0_10 (F_FR_add x2 t0_0 t0_1 t0_2 t0_3 t0_4 t0_5 t0_6 t0_7 t0_8 t0_9 t0_10 t1_0) := by
  have e0 : (0 : Int32).toInt = 0 := rfl
  have e1 : (1 : Int32).toInt = 1 := rfl
  have eL0 : (0 : Int64).toInt = 0 := rfl
  unfold S_FR_add F_FR_add
  refine v_cons (by omega) ?_
  refine v_cons (by omega) ?_
  refine ⟨trivial, ?_⟩
  (unfold Q_FR_add; dsimp only; exact ⟨q_addI (y := 1) rfl (by decide) (by omega) (by omega), rfl, rfl, rfl, rfl, rfl, rfl, rfl⟩)
def Q_FR_begin (t0_1 t0_3 t0_5 t0_6 : Int32) (t0_7 : Int64) (t0_8 : Int32) (t0_9 : Int64) (t0_10 : Int32) (p : Int32 × Int32 × Int32 × Int32 × Int64 × Int32 × Int32 × Int64 × Int32 × Int64 × Int32 × (Nat → Int32)) : Prop := (0 ≤ p.2.1.toInt ∧ p.2.1.toInt ≤ 1) ∧ p.2.2.2.1 = t0_3 ∧ p.2.2.2.2.2.1.toInt = t0_5.toInt ∧ p.2.2.2.2.2.2.1 = t0_6 ∧ p.2.2.2.2.2.2.2.1 = t0_7 ∧ p.2.2.2.2.2.2.2.2.1.toInt = t0_8.toInt ∧ p.2.2.2.2.2.2.2.2.2.1 = t0_9 ∧ p.2.2.2.2.2.2.2.2.2.2.1.toInt = t0_10.toInt
theorem T_FR_begin {t0_0 : Int32} {t0_1 : Int32} {t0_2 : Int32} {t0_3 : Int32} {t0_4 : Int64} {t0_5 : Int32} {t0_6 : Int32} {t0_7 : Int64} {t0_8 : Int32} {t0_9 : Int64} {t0_10 : Int32} {t1_0 : (Nat → Int32)}  : (S_FR_begin t0_0 t0_1 t0_2 t0_3 t0_4 t0_5 t0_6 t0_7 t0_8 t0_9 t0_10 t1_0) ∧ Q_FR_begin t0_1 t0_3 t0_5 t0_6 t0_7 t0_8 t0_9 t0_10 (F_FR_begin t0_0 t0_1 t0_2 t0_3 t0_4 t0_5 t0_6 t0_7 t0_8 t0_9 t0_10 t1_0) := by
  have e0 : (0 : Int32).toInt = 0 := rfl
  have e1 : (1 : Int32).toInt = 1 := rfl
  have eL0 : (0 : Int64).toInt = 0 := rfl
  unfold S_FR_begin F_FR_begin
  by_cases g1 : t0_2 = (0 : Int32)
  ·
    rw [if_pos g1, if_pos g1]
    refine ⟨trivial, ?_⟩
    (unfold Q_FR_begin; dsimp only; first | exact ⟨⟨by decide, by decide⟩, rfl, rfl, rfl, rfl, rfl, rfl, rfl⟩ | exact ⟨⟨by omega, by omega⟩, by assumption, by assumption, by assumption, by assumption, by assumption, by assumption, by assumption⟩)
  ·
    rw [if_neg g1, if_neg g1]
    have h2 := T_FR_add (x2 := (45 : Int32)) (t0_0 := t0_0) (t0_1 := (0 : Int32)) (t0_2 := t0_2) (t0_3 := t0_3) (t0_4 := t0_4) (t0_5 := t0_5) (t0_6 := t0_6) (t0_7 := t0_7) (t0_8 := t0_8) (t0_9 := t0_9) (t0_10 := t0_10) (t1_0 := t1_0) ⟨by first | omega | decide, by first | omega | decide⟩
    with_reducible refine v_owe h2.1 ?_
    replace h2 := h2.2
    generalize F_FR_add (45 : Int32) t0_0 (0 : Int32) t0_2 t0_3 t0_4 t0_5 t0_6 t0_7 t0_8 t0_9 t0_10 t1_0 = p65 at *
    unfold Q_FR_add at h2
    obtain ⟨h21, h23, h25, h26, h27, h28, h29, h2x⟩ := h2
    have h29i := congrArg Int64.toInt h29
    have h27i := congrArg Int64.toInt h27
    unfold S_FR_begin_c15 F_FR_begin_c15
    refine ⟨trivial, ?_⟩
    (unfold Q_FR_begin; dsimp only; first | exact ⟨⟨by decide, by decide⟩, rfl, rfl, rfl, rfl, rfl, rfl, rfl⟩ | exact ⟨⟨by omega, by omega⟩, by assumption, by assumption, by assumption, by assumption, by assumption, by assumption, by assumption⟩)
theorem T_FR_hexadecimalFigure {x2 : Int64} {t0_0 : Int32} {t0_1 : Int32} {t0_2 : Int32} {t0_3 : Int32} {t0_4 : Int64} {t0_5 : Int32} {t0_6 : Int32} {t0_7 : Int64} {t0_8 : Int32} {t0_9 : Int64} {t0_10 : Int32} {t1_0 : (Nat → Int32)} (hL : 0 ≤ t0_1.toInt ∧ t0_1.toInt ≤ 1599) : (S_FR_hexadecimalFigure x2 t0_0 t0_1 t0_2 t0_3 t0_4 t0_5 t0_6 t0_7 t0_8 t0_9 t0_10 t1_0) ∧ Q_FR_add t0_1 t0_3 t0_5 t0_6 t0_7 t0_8 t0_9 t0_10 (F_FR_hexadecimalFigure x2 t0_0 t0_1 t0_2 t0_3 t0_4 t0_5 t0_6 t0_7 t0_8 t0_9 t0_10 t1_0) := by
  have e0 : (0 : Int32).toInt = 0 := rfl
  have e1 : (1 : Int32).toInt = 1 := rfl
  have eL0 : (0 : Int64).toInt = 0 := rfl
  unfold S_FR_hexadecimalFigure F_FR_hexadecimalFigure
  by_cases g1 : (0 : Int32) ≤ (lg_cmp x2 10 : Int32)
  ·
    rw [if_pos g1, if_pos g1]
    have g1l := g_lc5 g1
    have h2 := T_FR_add (x2 := (((97 + x2 : Int64) - 10 : Int64).toInt32 : Int32)) (t0_0 := t0_0) (t0_1 := t0_1) (t0_2 := t0_2) (t0_3 := t0_3) (t0_4 := t0_4) (t0_5 := t0_5) (t0_6 := t0_6) (t0_7 := t0_7) (t0_8 := t0_8) (t0_9 := t0_9) (t0_10 := t0_10) (t1_0 := t1_0) ⟨by first | omega | decide, by first | omega | decide⟩
    with_reducible refine v_owe h2.1 ?_
    replace h2 := h2.2
    generalize F_FR_add (((97 + x2 : Int64) - 10 : Int64).toInt32 : Int32) t0_0 t0_1 t0_2 t0_3 t0_4 t0_5 t0_6 t0_7 t0_8 t0_9 t0_10 t1_0 = p71 at *
    unfold Q_FR_add at h2
    obtain ⟨h21, h23, h25, h26, h27, h28, h29, h2x⟩ := h2
    have h29i := congrArg Int64.toInt h29
    have h27i := congrArg Int64.toInt h27
    unfold S_FR_hexadecimalFigure_c27 F_FR_hexadecimalFigure_c27
    refine ⟨trivial, ?_⟩
    (unfold Q_FR_add; dsimp only; exact ⟨by omega, by assumption, by assumption, by assumption, by assumption, by assumption, by assumption, by assumption⟩)
  ·
    rw [if_neg g1, if_neg g1]
    have g1l := g_lc6 g1
    have h3 := T_FR_add (x2 := ((48 + x2 : Int64).toInt32 : Int32)) (t0_0 := t0_0) (t0_1 := t0_1) (t0_2 := t0_2) (t0_3 := t0_3) (t0_4 := t0_4) (t0_5 := t0_5) (t0_6 := t0_6) (t0_7 := t0_7) (t0_8 := t0_8) (t0_9 := t0_9) (t0_10 := t0_10) (t1_0 := t1_0) ⟨by first | omega | decide, by first | omega | decide⟩
    with_reducible refine v_owe h3.1 ?_
    replace h3 := h3.2
    generalize F_FR_add ((48 + x2 : Int64).toInt32 : Int32) t0_0 t0_1 t0_2 t0_3 t0_4 t0_5 t0_6 t0_7 t0_8 t0_9 t0_10 t1_0 = p139 at *
    unfold Q_FR_add at h3
    obtain ⟨h31, h33, h35, h36, h37, h38, h39, h3x⟩ := h3
    have h39i := congrArg Int64.toInt h39
    have h37i := congrArg Int64.toInt h37
    unfold S_FR_hexadecimalFigure_c27_2 F_FR_hexadecimalFigure_c27_2
    refine ⟨trivial, ?_⟩
    (unfold Q_FR_add; dsimp only; exact ⟨by omega, by assumption, by assumption, by assumption, by assumption, by assumption, by assumption, by assumption⟩)
def Q_FR_name (p : Int32 × Int32 × Int32 × Int32 × Int64 × Int32 × Int32 × Int64 × Int32 × Int64 × Int32 × (Nat → Int32)) : Prop := 0 ≤ p.2.1.toInt ∧ p.2.1.toInt ≤ 9
theorem vf_nm {t0_0 : Int32} {t0_1 : Int32} {t0_2 : Int32} {t0_3 : Int32} {t0_4 : Int64} {t0_5 : Int32} {t0_6 : Int32} {t0_7 : Int64} {t0_8 : Int32} {t0_9 : Int64} {t0_10 : Int32} {t1_0 : (Nat → Int32)} {p65 : (Int32 × Int32 × Int32 × Int32 × Int64 × Int32 × Int32 × Int64 × Int32 × Int64 × Int32 × (Nat → Int32))}  : ∀ (n : Nat) (lx85 : Int32) (lx86 : Int32) (lx87 : Int32) (lx88 : Int32) (lx89 : Int32) (lx90 : Int64) (lx91 : Int32) (lx92 : Int32) (lx93 : Int64) (lx94 : Int32) (lx95 : Int64) (lx96 : Int32) (lx97 : (Nat → Int32)), (0 ≤ lx85.toInt ∧ lx85.toInt ≤ 8) → (8 - lx85.toInt < (n : Int)) → (0 ≤ lx87.toInt ∧ lx87.toInt ≤ lx85.toInt + 1) → (S_FR_name_L43 t0_0 t0_1 t0_2 t0_3 t0_4 t0_5 t0_6 t0_7 t0_8 t0_9 t0_10 t1_0 p65 n lx85 lx86 lx87 lx88 lx89 lx90 lx91 lx92 lx93 lx94 lx95 lx96 lx97) ∧ Q_FR_name (F_FR_name_L43 t0_0 t0_1 t0_2 t0_3 t0_4 t0_5 t0_6 t0_7 t0_8 t0_9 t0_10 t1_0 p65 n lx85 lx86 lx87 lx88 lx89 lx90 lx91 lx92 lx93 lx94 lx95 lx96 lx97) := by
  intro n
  induction n with
  | zero => intro lx85 lx86 lx87 lx88 lx89 lx90 lx91 lx92 lx93 lx94 lx95 lx96 lx97 h0 hm h1; exact absurd (show False by omega) id
  | succ n ih =>
    intro lx85 lx86 lx87 lx88 lx89 lx90 lx91 lx92 lx93 lx94 lx95 lx96 lx97 h0 hm h1
    have e0 : (0 : Int32).toInt = 0 := rfl
    have e1 : (1 : Int32).toInt = 1 := rfl
    have eL0 : (0 : Int64).toInt = 0 := rfl
    rw [S_FR_name_L43.eq_2, F_FR_name_L43.eq_2]
    by_cases g1 : (8 : Int32) ≤ lx85
    ·
      rw [if_pos g1, if_pos g1]
      have g1i : 8 ≤ lx85.toInt := q_leI g1
      refine ⟨trivial, ?_⟩
      (unfold Q_FR_name; dsimp only; exact ⟨by omega, by omega⟩)
    ·
      rw [if_neg g1, if_neg g1]
      have g1i : lx85.toInt < 8 := q_nleI g1
      have h2 := T_FR_add (x2 := ((((8751735898823355977 : Int64) >>> ((8 * lx85 : Int32).toInt64 &&& 63) : Int64) &&& 255 : Int64).toInt32 : Int32)) (t0_0 := lx86) (t0_1 := lx87) (t0_2 := lx88) (t0_3 := lx89) (t0_4 := lx90) (t0_5 := lx91) (t0_6 := lx92) (t0_7 := lx93) (t0_8 := lx94) (t0_9 := lx95) (t0_10 := lx96) (t1_0 := lx97) ⟨by first | omega | decide, by first | omega | decide⟩
      with_reducible refine v_owe h2.1 ?_
      replace h2 := h2.2
      generalize F_FR_add ((((8751735898823355977 : Int64) >>> ((8 * lx85 : Int32).toInt64 &&& 63) : Int64) &&& 255 : Int64).toInt32 : Int32) lx86 lx87 lx88 lx89 lx90 lx91 lx92 lx93 lx94 lx95 lx96 lx97 = p188 at *
      unfold Q_FR_add at h2
      obtain ⟨h21, h23, h25, h26, h27, h28, h29, h2x⟩ := h2
      have h29i := congrArg Int64.toInt h29
      have h27i := congrArg Int64.toInt h27
      unfold S_FR_name_c61 F_FR_name_c61
      obtain ⟨a3, e4⟩ := q_nm (lx85 + 1 : Int32)
      rw [e4]
      have a3i : a3.toInt = lx85.toInt + 1 := by rw [← e4]; exact q_addI (x := lx85.toInt) (y := 1) rfl (by decide) (by omega) (by omega)
      exact ih _ _ _ _ _ _ _ _ _ _ _ _ _ ⟨by omega, by omega⟩ (by omega) ⟨by omega, by omega⟩
theorem T_FR_name {t0_0 : Int32} {t0_1 : Int32} {t0_2 : Int32} {t0_3 : Int32} {t0_4 : Int64} {t0_5 : Int32} {t0_6 : Int32} {t0_7 : Int64} {t0_8 : Int32} {t0_9 : Int64} {t0_10 : Int32} {t1_0 : (Nat → Int32)}  : (S_FR_name t0_0 t0_1 t0_2 t0_3 t0_4 t0_5 t0_6 t0_7 t0_8 t0_9 t0_10 t1_0) ∧ Q_FR_name (F_FR_name t0_0 t0_1 t0_2 t0_3 t0_4 t0_5 t0_6 t0_7 t0_8 t0_9 t0_10 t1_0) := by
  have e0 : (0 : Int32).toInt = 0 := rfl
  have e1 : (1 : Int32).toInt = 1 := rfl
  have eL0 : (0 : Int64).toInt = 0 := rfl
  unfold S_FR_name F_FR_name
  by_cases g1 : (lg_cmp t0_4 0 : Int32) = (0 : Int32)
  ·
    rw [if_pos g1, if_pos g1]
    have g1z := fl_lz g1
    have h2 := T_FR_begin (t0_0 := t0_0) (t0_1 := (0 : Int32)) (t0_2 := t0_2) (t0_3 := t0_3) (t0_4 := t0_4) (t0_5 := t0_5) (t0_6 := t0_6) (t0_7 := t0_7) (t0_8 := t0_8) (t0_9 := t0_9) (t0_10 := t0_10) (t1_0 := t1_0) 
    with_reducible refine v_owe h2.1 ?_
    replace h2 := h2.2
    generalize F_FR_begin t0_0 (0 : Int32) t0_2 t0_3 t0_4 t0_5 t0_6 t0_7 t0_8 t0_9 t0_10 t1_0 = p65 at *
    unfold Q_FR_begin at h2
    obtain ⟨h21, h23, h25, h26, h27, h28, h29, h2x⟩ := h2
    have h29i := congrArg Int64.toInt h29
    have h27i := congrArg Int64.toInt h27
    unfold S_FR_name_c34 F_FR_name_c34
    exact vf_nm _ _ _ _ _ _ _ _ _ _ _ _ _ _ ⟨by decide, by decide⟩ (by decide) ⟨by omega, by omega⟩
  ·
    rw [if_neg g1, if_neg g1]
    have g1z := fl_lnz g1
    have h3 := T_FR_add (x2 := (78 : Int32)) (t0_0 := t0_0) (t0_1 := (0 : Int32)) (t0_2 := t0_2) (t0_3 := t0_3) (t0_4 := t0_4) (t0_5 := t0_5) (t0_6 := t0_6) (t0_7 := t0_7) (t0_8 := t0_8) (t0_9 := t0_9) (t0_10 := t0_10) (t1_0 := t1_0) ⟨by first | omega | decide, by first | omega | decide⟩
    with_reducible refine v_owe h3.1 ?_
    replace h3 := h3.2
    generalize F_FR_add (78 : Int32) t0_0 (0 : Int32) t0_2 t0_3 t0_4 t0_5 t0_6 t0_7 t0_8 t0_9 t0_10 t1_0 = p254 at *
    unfold Q_FR_add at h3
    obtain ⟨h31, h33, h35, h36, h37, h38, h39, h3x⟩ := h3
    have h39i := congrArg Int64.toInt h39
    have h37i := congrArg Int64.toInt h37
    unfold S_FR_name_c17 F_FR_name_c17
    have h4 := T_FR_add (x2 := (97 : Int32)) (t0_0 := (p254.1 : Int32)) (t0_1 := (p254.2.1 : Int32)) (t0_2 := (p254.2.2.1 : Int32)) (t0_3 := (p254.2.2.2.1 : Int32)) (t0_4 := (p254.2.2.2.2.1 : Int64)) (t0_5 := (p254.2.2.2.2.2.1 : Int32)) (t0_6 := (p254.2.2.2.2.2.2.1 : Int32)) (t0_7 := (p254.2.2.2.2.2.2.2.1 : Int64)) (t0_8 := (p254.2.2.2.2.2.2.2.2.1 : Int32)) (t0_9 := (p254.2.2.2.2.2.2.2.2.2.1 : Int64)) (t0_10 := (p254.2.2.2.2.2.2.2.2.2.2.1 : Int32)) (t1_0 := (p254.2.2.2.2.2.2.2.2.2.2.2 : (Nat → Int32))) ⟨by first | omega | decide, by first | omega | decide⟩
    with_reducible refine v_owe h4.1 ?_
    replace h4 := h4.2
    generalize F_FR_add (97 : Int32) (p254.1 : Int32) (p254.2.1 : Int32) (p254.2.2.1 : Int32) (p254.2.2.2.1 : Int32) (p254.2.2.2.2.1 : Int64) (p254.2.2.2.2.2.1 : Int32) (p254.2.2.2.2.2.2.1 : Int32) (p254.2.2.2.2.2.2.2.1 : Int64) (p254.2.2.2.2.2.2.2.2.1 : Int32) (p254.2.2.2.2.2.2.2.2.2.1 : Int64) (p254.2.2.2.2.2.2.2.2.2.2.1 : Int32) (p254.2.2.2.2.2.2.2.2.2.2.2 : (Nat → Int32)) = p316 at *
    unfold Q_FR_add at h4
    obtain ⟨h41, h43, h45, h46, h47, h48, h49, h4x⟩ := h4
    have h49i := congrArg Int64.toInt h49
    have h47i := congrArg Int64.toInt h47
    unfold S_FR_name_c23 F_FR_name_c23
    have h5 := T_FR_add (x2 := (78 : Int32)) (t0_0 := (p316.1 : Int32)) (t0_1 := (p316.2.1 : Int32)) (t0_2 := (p316.2.2.1 : Int32)) (t0_3 := (p316.2.2.2.1 : Int32)) (t0_4 := (p316.2.2.2.2.1 : Int64)) (t0_5 := (p316.2.2.2.2.2.1 : Int32)) (t0_6 := (p316.2.2.2.2.2.2.1 : Int32)) (t0_7 := (p316.2.2.2.2.2.2.2.1 : Int64)) (t0_8 := (p316.2.2.2.2.2.2.2.2.1 : Int32)) (t0_9 := (p316.2.2.2.2.2.2.2.2.2.1 : Int64)) (t0_10 := (p316.2.2.2.2.2.2.2.2.2.2.1 : Int32)) (t1_0 := (p316.2.2.2.2.2.2.2.2.2.2.2 : (Nat → Int32))) ⟨by first | omega | decide, by first | omega | decide⟩
    with_reducible refine v_owe h5.1 ?_
    replace h5 := h5.2
    generalize F_FR_add (78 : Int32) (p316.1 : Int32) (p316.2.1 : Int32) (p316.2.2.1 : Int32) (p316.2.2.2.1 : Int32) (p316.2.2.2.2.1 : Int64) (p316.2.2.2.2.2.1 : Int32) (p316.2.2.2.2.2.2.1 : Int32) (p316.2.2.2.2.2.2.2.1 : Int64) (p316.2.2.2.2.2.2.2.2.1 : Int32) (p316.2.2.2.2.2.2.2.2.2.1 : Int64) (p316.2.2.2.2.2.2.2.2.2.2.1 : Int32) (p316.2.2.2.2.2.2.2.2.2.2.2 : (Nat → Int32)) = p378 at *
    unfold Q_FR_add at h5
    obtain ⟨h51, h53, h55, h56, h57, h58, h59, h5x⟩ := h5
    have h59i := congrArg Int64.toInt h59
    have h57i := congrArg Int64.toInt h57
    unfold S_FR_name_c29 F_FR_name_c29
    refine ⟨trivial, ?_⟩
    (unfold Q_FR_name; dsimp only; exact ⟨by omega, by omega⟩)
def Q_FR_number (t0_1 : Int32) (p : Int32 × Int32 × Int32 × Int32 × Int64 × Int32 × Int32 × Int64 × Int32 × Int64 × Int32 × (Nat → Int32)) : Prop := t0_1.toInt ≤ p.2.1.toInt ∧ p.2.1.toInt ≤ t0_1.toInt + 4
def flTen (t : Int) : Prop := t = 1 ∨ t = 10 ∨ t = 100 ∨ t = 1000
theorem fl_n10 {x t : Int32} (hx : 0 ≤ x.toInt ∧ x.toInt ≤ 9999) (ht : flTen t.toInt) (g : ¬ (x / t) ≤ 9) : t.toInt ≤ 100 ∧ (t * 10 : Int32).toInt = t.toInt * 10 := by
  have g2 := q_nleI g
  have e9 : (9 : Int32).toInt = 9 := rfl
  have hp : 0 < t.toInt := by rcases ht with h | h | h | h <;> omega
  have e : (x / t).toInt = x.toInt / t.toInt := q_divI rfl rfl hx.1 hp
  rw [e] at g2
  have h1 : t.toInt ≤ 100 := by
    rcases ht with h | h | h | h <;> rw [h] at g2 <;> omega
  exact ⟨h1, q_mulI (y := 10) rfl (by decide) (by omega) (by omega)⟩
theorem fl_t10 {t : Int32} (h : 0 ≤ t.toInt) : (t / 10).toInt = t.toInt / 10 := q_divI rfl (by decide) h (by decide)
theorem vf_nu2 {K_F_FR_number_L2 : Int32 → (Int32 × Int32 × Int32 × Int32 × Int64 × Int32 × Int32 × Int64 × Int32 × Int64 × Int32 × (Nat → Int32))} {x2 : Int32} {t0_0 : Int32} {t0_1 : Int32} {t0_2 : Int32} {t0_3 : Int32} {t0_4 : Int64} {t0_5 : Int32} {t0_6 : Int32} {t0_7 : Int64} {t0_8 : Int32} {t0_9 : Int64} {t0_10 : Int32} {t1_0 : (Nat → Int32)} {lx18 : Int32} {K_S_FR_number_L2 : Int32 → Prop} (hx : 0 ≤ x2.toInt ∧ x2.toInt ≤ 9999) (hL : 0 ≤ t0_1.toInt ∧ t0_1.toInt ≤ 1596) : ∀ (n : Nat) (lx31 : Int32) (lx32 : Int32) (lx33 : Int32) (lx34 : Int32) (lx35 : Int32) (lx36 : Int64) (lx37 : Int32) (lx38 : Int32) (lx39 : Int64) (lx40 : Int32) (lx41 : Int64) (lx42 : Int32) (lx43 : (Nat → Int32)), ((lx31.toInt = 1000 ∧ lx33.toInt ≤ t0_1.toInt) ∨ (lx31.toInt = 100 ∧ lx33.toInt ≤ t0_1.toInt + 1) ∨ (lx31.toInt = 10 ∧ lx33.toInt ≤ t0_1.toInt + 2) ∨ (lx31.toInt = 1 ∧ lx33.toInt ≤ t0_1.toInt + 3) ∨ (lx31.toInt = 0 ∧ lx33.toInt ≤ t0_1.toInt + 4)) → (lx31.toInt < (n : Int)) → (t0_1.toInt ≤ lx33.toInt) → (S_FR_number_L18 K_S_FR_number_L2 x2 t0_0 t0_1 t0_2 t0_3 t0_4 t0_5 t0_6 t0_7 t0_8 t0_9 t0_10 t1_0 lx18 n lx31 lx32 lx33 lx34 lx35 lx36 lx37 lx38 lx39 lx40 lx41 lx42 lx43) ∧ Q_FR_number t0_1 (F_FR_number_L18 K_F_FR_number_L2 x2 t0_0 t0_1 t0_2 t0_3 t0_4 t0_5 t0_6 t0_7 t0_8 t0_9 t0_10 t1_0 lx18 n lx31 lx32 lx33 lx34 lx35 lx36 lx37 lx38 lx39 lx40 lx41 lx42 lx43) := by
  intro n
  induction n with
  | zero => intro lx31 lx32 lx33 lx34 lx35 lx36 lx37 lx38 lx39 lx40 lx41 lx42 lx43 h0 hm h1; exact absurd (show False by omega) id
  | succ n ih =>
    intro lx31 lx32 lx33 lx34 lx35 lx36 lx37 lx38 lx39 lx40 lx41 lx42 lx43 h0 hm h1
    have e0 : (0 : Int32).toInt = 0 := rfl
    have e1 : (1 : Int32).toInt = 1 := rfl
    have eL0 : (0 : Int64).toInt = 0 := rfl
    rw [S_FR_number_L18.eq_2, F_FR_number_L18.eq_2]
    by_cases g1 : lx31 ≤ (0 : Int32)
    ·
      rw [if_pos g1, if_pos g1]
      have g1i : lx31.toInt ≤ 0 := q_leI g1
      refine ⟨trivial, ?_⟩
      (unfold Q_FR_number; dsimp only; exact ⟨by omega, by omega⟩)
    ·
      rw [if_neg g1, if_neg g1]
      have g1i : 0 < lx31.toInt := q_nleI g1
      have h2 := T_FR_add (x2 := (48 + ((x2 / lx31 : Int32) - (x2 / lx31 : Int32) / 10 * 10 : Int32) : Int32)) (t0_0 := lx32) (t0_1 := lx33) (t0_2 := lx34) (t0_3 := lx35) (t0_4 := lx36) (t0_5 := lx37) (t0_6 := lx38) (t0_7 := lx39) (t0_8 := lx40) (t0_9 := lx41) (t0_10 := lx42) (t1_0 := lx43) ⟨by first | omega | decide, by first | omega | decide⟩
      with_reducible refine v_owe h2.1 ?_
      replace h2 := h2.2
      generalize F_FR_add (48 + ((x2 / lx31 : Int32) - (x2 / lx31 : Int32) / 10 * 10 : Int32) : Int32) lx32 lx33 lx34 lx35 lx36 lx37 lx38 lx39 lx40 lx41 lx42 lx43 = p128 at *
      unfold Q_FR_add at h2
      obtain ⟨h21, h23, h25, h26, h27, h28, h29, h2x⟩ := h2
      have h29i := congrArg Int64.toInt h29
      have h27i := congrArg Int64.toInt h27
      unfold S_FR_number_c32 F_FR_number_c32
      have q := fl_t10 (t := lx31) (by omega); exact ih _ _ _ _ _ _ _ _ _ _ _ _ _ (by omega) (by omega) (by omega)
theorem vf_nu1 {x2 : Int32} {t0_0 : Int32} {t0_1 : Int32} {t0_2 : Int32} {t0_3 : Int32} {t0_4 : Int64} {t0_5 : Int32} {t0_6 : Int32} {t0_7 : Int64} {t0_8 : Int32} {t0_9 : Int64} {t0_10 : Int32} {t1_0 : (Nat → Int32)} (hx : 0 ≤ x2.toInt ∧ x2.toInt ≤ 9999) (hL : 0 ≤ t0_1.toInt ∧ t0_1.toInt ≤ 1596) : ∀ (n : Nat) (lx18 : Int32), ((lx18.toInt = 1 ∧ 4 ≤ (n : Int)) ∨ (lx18.toInt = 10 ∧ 3 ≤ (n : Int)) ∨ (lx18.toInt = 100 ∧ 2 ≤ (n : Int)) ∨ (lx18.toInt = 1000 ∧ 1 ≤ (n : Int))) → (S_FR_number_L2 x2 t0_0 t0_1 t0_2 t0_3 t0_4 t0_5 t0_6 t0_7 t0_8 t0_9 t0_10 t1_0 n lx18) ∧ Q_FR_number t0_1 (F_FR_number_L2 x2 t0_0 t0_1 t0_2 t0_3 t0_4 t0_5 t0_6 t0_7 t0_8 t0_9 t0_10 t1_0 n lx18) := by
  intro n
  induction n with
  | zero => intro lx18 h0; exact absurd (show False by omega) id
  | succ n ih =>
    intro lx18 h0
    have e0 : (0 : Int32).toInt = 0 := rfl
    have e1 : (1 : Int32).toInt = 1 := rfl
    have eL0 : (0 : Int64).toInt = 0 := rfl
    rw [S_FR_number_L2.eq_2, F_FR_number_L2.eq_2]
    refine v_cons (by omega) ?_
    by_cases g1 : (x2 / lx18 : Int32) ≤ (9 : Int32)
    ·
      rw [if_pos g1, if_pos g1]
      exact vf_nu2 hx hL _ _ _ _ _ _ _ _ _ _ _ _ _ _ (by omega) (by omega) (by omega)
    ·
      rw [if_neg g1, if_neg g1]
      have tn := fl_n10 hx (by unfold flTen; omega) g1
      exact ih _ (by omega)
theorem T_FR_number {x2 : Int32} {t0_0 : Int32} {t0_1 : Int32} {t0_2 : Int32} {t0_3 : Int32} {t0_4 : Int64} {t0_5 : Int32} {t0_6 : Int32} {t0_7 : Int64} {t0_8 : Int32} {t0_9 : Int64} {t0_10 : Int32} {t1_0 : (Nat → Int32)} (hx : 0 ≤ x2.toInt ∧ x2.toInt ≤ 9999) (hL : 0 ≤ t0_1.toInt ∧ t0_1.toInt ≤ 1596) : (S_FR_number x2 t0_0 t0_1 t0_2 t0_3 t0_4 t0_5 t0_6 t0_7 t0_8 t0_9 t0_10 t1_0) ∧ Q_FR_number t0_1 (F_FR_number x2 t0_0 t0_1 t0_2 t0_3 t0_4 t0_5 t0_6 t0_7 t0_8 t0_9 t0_10 t1_0) := by
  have e0 : (0 : Int32).toInt = 0 := rfl
  have e1 : (1 : Int32).toInt = 1 := rfl
  have eL0 : (0 : Int64).toInt = 0 := rfl
  unfold S_FR_number F_FR_number
  exact vf_nu1 hx hL _ _ (by decide)
def Q_FR_shortestTop (t0_10 : Int32) (p : Int32) : Prop := t0_10.toInt - 1080 ≤ p.toInt ∧ p.toInt ≤ t0_10.toInt - 1062
theorem fl_q10 {v : Int64} (h : 0 ≤ v.toInt) : (v / 10).toInt = v.toInt / 10 := v_divL (y := 10) h (by decide)
theorem fl_p10b {v : Int} {m : Nat} (b : v < 10 ^ m) (h : 9 < v) : 2 ≤ m ∧ v / 10 < 10 ^ (m - 1) := by
  have m2 : 2 ≤ m := by
    by_cases c : m = 0
    · rw [c, Int.pow_zero] at b; omega
    · by_cases d : m = 1
      · rw [d] at b; have e : (10 : Int) ^ 1 = 10 := by decide
        omega
      · omega
  refine ⟨m2, ?_⟩
  have p : (10 : Int) ^ m = 10 ^ (m - 1) * 10 := by rw [← fl_pw, show m - 1 + 1 = m by omega]
  rw [p] at b
  generalize (10 : Int) ^ (m - 1) = P at *
  omega
theorem vf_st {t0_0 : Int32} {t0_1 : Int32} {t0_2 : Int32} {t0_3 : Int32} {t0_4 : Int64} {t0_5 : Int32} {t0_6 : Int32} {t0_7 : Int64} {t0_8 : Int32} {t0_9 : Int64} {t0_10 : Int32} (hS9 : 1 ≤ t0_9.toInt ∧ t0_9.toInt ≤ 1000000000000000000) (hS10 : 0 ≤ t0_10.toInt ∧ t0_10.toInt ≤ 1500) : ∀ (n : Nat) (lx18 : Int64) (lx19 : Int32), (1 ≤ lx18.toInt ∧ lx18.toInt ≤ 1000000000000000000) → (∃ m : Nat, 1 ≤ m ∧ m ≤ n ∧ lx18.toInt < 10 ^ m ∧ (m : Int) + lx19.toInt ≤ t0_10.toInt - 1061) → (t0_10.toInt - 1080 ≤ lx19.toInt) → (S_FR_shortestTop_L14 t0_0 t0_1 t0_2 t0_3 t0_4 t0_5 t0_6 t0_7 t0_8 t0_9 t0_10 n lx18 lx19) ∧ Q_FR_shortestTop t0_10 (F_FR_shortestTop_L14 t0_0 t0_1 t0_2 t0_3 t0_4 t0_5 t0_6 t0_7 t0_8 t0_9 t0_10 n lx18 lx19) := by
  intro n
  induction n with
  | zero => intro lx18 lx19 h1 hm h2; obtain ⟨m, a, b, -⟩ := hm; omega
  | succ n ih =>
    intro lx18 lx19 h1 hm h2
    have e0 : (0 : Int32).toInt = 0 := rfl
    have e1 : (1 : Int32).toInt = 1 := rfl
    have eL0 : (0 : Int64).toInt = 0 := rfl
    have e9 : (9 : Int64).toInt = 9 := rfl
    have h18 : lx19.toInt ≤ t0_10.toInt - 1062 := by obtain ⟨m, a, b, c, d⟩ := hm; omega
    rw [S_FR_shortestTop_L14.eq_2, F_FR_shortestTop_L14.eq_2]
    by_cases g1 : (lg_cmp lx18 9 : Int32) ≤ (0 : Int32)
    ·
      rw [if_pos g1, if_pos g1]
      have g1l := g_lc3 g1
      refine ⟨trivial, ?_⟩
      exact ⟨h2, h18⟩
    ·
      rw [if_neg g1, if_neg g1]
      have g1l := g_lc4 g1
      obtain ⟨a2, e3⟩ := q_nm (lx19 + 1 : Int32)
      rw [e3]
      have a2i : a2.toInt = lx19.toInt + 1 := by rw [← e3]; exact q_addI (x := lx19.toInt) (y := 1) rfl (by decide) (by omega) (by omega)
      have q := fl_q10 (v := lx18) (by omega); obtain ⟨m, a, b, c, d⟩ := hm; have mp := fl_p10b c (by omega); exact ih _ _ ⟨by omega, by omega⟩ ⟨m - 1, by omega, by omega, by rw [q]; exact mp.2, by omega⟩ (by omega)
theorem T_FR_shortestTop {t0_0 : Int32} {t0_1 : Int32} {t0_2 : Int32} {t0_3 : Int32} {t0_4 : Int64} {t0_5 : Int32} {t0_6 : Int32} {t0_7 : Int64} {t0_8 : Int32} {t0_9 : Int64} {t0_10 : Int32} (hS9 : 1 ≤ t0_9.toInt ∧ t0_9.toInt ≤ 1000000000000000000) (hS10 : 0 ≤ t0_10.toInt ∧ t0_10.toInt ≤ 1500) : (S_FR_shortestTop t0_0 t0_1 t0_2 t0_3 t0_4 t0_5 t0_6 t0_7 t0_8 t0_9 t0_10) ∧ Q_FR_shortestTop t0_10 (F_FR_shortestTop t0_0 t0_1 t0_2 t0_3 t0_4 t0_5 t0_6 t0_7 t0_8 t0_9 t0_10) := by
  have e0 : (0 : Int32).toInt = 0 := rfl
  have e1 : (1 : Int32).toInt = 1 := rfl
  have eL0 : (0 : Int64).toInt = 0 := rfl
  unfold S_FR_shortestTop F_FR_shortestTop
  have e5 : (t0_10 - 1080 : Int32).toInt = t0_10.toInt - 1080 := q_subI (y := 1080) rfl (by decide) (by omega) (by omega); exact vf_st hS9 hS10 _ _ _ hS9 ⟨19, by decide, by decide, Int.lt_of_le_of_lt hS9.2 (by decide), by omega⟩ (by omega)
theorem T_FR_isBelow {x2 : Int32} {t0_0 : Int32} {t0_1 : Int32} {t0_2 : Int32} {t0_3 : Int32} {t0_4 : Int64} {t0_5 : Int32} {t0_6 : Int32} {t0_7 : Int64} {t0_8 : Int32} {t0_9 : Int64} {t0_10 : Int32} {t1_0 : (Nat → Int32)} (hw : flW t1_0) (hn : flNz t1_0) : (S_FR_isBelow x2 t0_0 t0_1 t0_2 t0_3 t0_4 t0_5 t0_6 t0_7 t0_8 t0_9 t0_10 t1_0) := by
  have e0 : (0 : Int32).toInt = 0 := rfl
  have e1 : (1 : Int32).toInt = 1 := rfl
  have eL0 : (0 : Int64).toInt = 0 := rfl
  unfold S_FR_isBelow
  have h1 := T_FR_top (t0_0 := t0_0) (t0_1 := t0_1) (t0_2 := t0_2) (t0_3 := t0_3) (t0_4 := t0_4) (t0_5 := t0_5) (t0_6 := t0_6) (t0_7 := t0_7) (t0_8 := t0_8) (t0_9 := t0_9) (t0_10 := t0_10) (t1_0 := t1_0) (by with_reducible assumption) (by with_reducible assumption)
  have h1q := h1.2
  with_reducible refine v_oweS h1.1 ?_
  by_cases g2 : (x2 + 1080 : Int32) ≤ ((F_FR_top t0_0 t0_1 t0_2 t0_3 t0_4 t0_5 t0_6 t0_7 t0_8 t0_9 t0_10 t1_0) : Int32)
  ·
    rw [if_pos g2]
    exact trivial
  ·
    rw [if_neg g2]
    exact trivial
theorem fl_pw8 {a : Int32} (h : 0 ≤ a.toInt ∧ a.toInt ≤ 1500) : -1080 ≤ (a - 1080 : Int32).toInt ∧ (a - 1080 : Int32).toInt ≤ 420 := by
  have e5 : (a - 1080 : Int32).toInt = a.toInt - 1080 := q_subI (y := 1080) rfl (by decide) (by omega) (by omega)
  omega
def Q_FR_digits (p : Int64 × Int32 × Int32 × Int32 × Int32 × Int64 × Int32 × Int32 × Int64 × Int32 × Int64 × Int32 × (Nat → Int32) × (Nat → Int32) × (Nat → Int32) × (Nat → Int32) × (Nat → Int32) × (Nat → Int32)) : Prop := 0 ≤ p.1.toInt ∧ p.1.toInt ≤ 1000000000000000000
theorem T_FR_digits {x2 : Int64} {x3 : Int32} {t0_0 : Int32} {t0_1 : Int32} {t0_2 : Int32} {t0_3 : Int32} {t0_4 : Int64} {t0_5 : Int32} {t0_6 : Int32} {t0_7 : Int64} {t0_8 : Int32} {t0_9 : Int64} {t0_10 : Int32} {t1_0 : (Nat → Int32)} {t2_0 : (Nat → Int32)} {t3_0 : (Nat → Int32)} {t4_0 : (Nat → Int32)} {t5_0 : (Nat → Int32)} {t6_0 : (Nat → Int32)}  : (S_FR_digits x2 x3 t0_0 t0_1 t0_2 t0_3 t0_4 t0_5 t0_6 t0_7 t0_8 t0_9 t0_10 t1_0 t2_0 t3_0 t4_0 t5_0 t6_0) ∧ Q_FR_digits (F_FR_digits x2 x3 t0_0 t0_1 t0_2 t0_3 t0_4 t0_5 t0_6 t0_7 t0_8 t0_9 t0_10 t1_0 t2_0 t3_0 t4_0 t5_0 t6_0) := by
  have e0 : (0 : Int32).toInt = 0 := rfl
  have e1 : (1 : Int32).toInt = 1 := rfl
  have eL0 : (0 : Int64).toInt = 0 := rfl
  unfold S_FR_digits F_FR_digits
  by_cases g1 : x3 = (0 : Int32)
  ·
    rw [if_pos g1, if_pos g1]
    have g1i : x3.toInt = 0 := q_eqI g1
    unfold S_FR_digits_J18 F_FR_digits_J18
    unfold S_FR_digits_J19 F_FR_digits_J19
    have h2 := T_FR_open (x2 := x2) (x3 := (0 : Int32)) (t0_0 := t0_0) (t0_1 := t0_1) (t0_2 := t0_2) (t0_3 := t0_3) (t0_4 := t0_4) (t0_5 := t0_5) (t0_6 := t0_6) (t0_7 := t0_7) (t0_8 := t0_8) (t0_9 := t0_9) (t0_10 := t0_10) 
    generalize F_FR_open x2 (0 : Int32) t0_0 t0_1 t0_2 t0_3 t0_4 t0_5 t0_6 t0_7 t0_8 t0_9 t0_10 = p85 at *
    unfold Q_FR_open at h2
    obtain ⟨h2a, h2b, h27, h28, h2f, h25⟩ := h2
    have op7 := h27
    have op8 := h28
    have opf := h2f
    unfold S_FR_digits_c19 F_FR_digits_c19
    by_cases g3 : ((F_FR_isWrong x2 x3) : Int32) = (0 : Int32)
    ·
      rw [if_pos g3, if_pos g3]
      by_cases g4 : ((F_FR_isFinite (p85.1 : Int32) (p85.2.1 : Int32) (p85.2.2.1 : Int32) (p85.2.2.2.1 : Int32) (p85.2.2.2.2.1 : Int64) (p85.2.2.2.2.2.1 : Int32) (p85.2.2.2.2.2.2.1 : Int32) (p85.2.2.2.2.2.2.2.1 : Int64) (p85.2.2.2.2.2.2.2.2.1 : Int32) (p85.2.2.2.2.2.2.2.2.2.1 : Int64) (p85.2.2.2.2.2.2.2.2.2.2 : Int32)) : Int32) = (0 : Int32)
      ·
        rw [if_pos g4, if_pos g4]
        unfold S_FR_digits_J47 F_FR_digits_J47
        have g5 : ((0 : Int32) < (2 : Int32)) := (by decide)
        rw [if_pos g5, if_pos g5]
        refine ⟨trivial, ?_⟩
        (unfold Q_FR_digits; dsimp only; first | exact ⟨by decide, by decide⟩ | exact ⟨by omega, by omega⟩ | exact fl_pw8 (by assumption))
      ·
        rw [if_neg g4, if_neg g4]
        have fin := fl_fin g4
        unfold S_FR_digits_J47 F_FR_digits_J47
        have g6 : ¬ ((0 : Int32) < (0 : Int32)) := (by decide)
        rw [if_neg g6, if_neg g6]
        by_cases g7 : (lg_cmp (p85.2.2.2.2.2.2.2.1 : Int64) 0 : Int32) = (0 : Int32)
        ·
          rw [if_pos g7, if_pos g7]
          have g7z := fl_lz g7
          refine ⟨trivial, ?_⟩
          (unfold Q_FR_digits; dsimp only; first | exact ⟨by decide, by decide⟩ | exact ⟨by omega, by omega⟩ | exact fl_pw8 (by assumption))
        ·
          rw [if_neg g7, if_neg g7]
          have g7z := fl_lnz g7
          have h8 := T_FR_findShortest (t0_0 := (0 : Int32)) (t0_1 := (p85.2.1 : Int32)) (t0_2 := (p85.2.2.1 : Int32)) (t0_3 := (p85.2.2.2.1 : Int32)) (t0_4 := (p85.2.2.2.2.1 : Int64)) (t0_5 := (p85.2.2.2.2.2.1 : Int32)) (t0_6 := (p85.2.2.2.2.2.2.1 : Int32)) (t0_7 := (p85.2.2.2.2.2.2.2.1 : Int64)) (t0_8 := (p85.2.2.2.2.2.2.2.2.1 : Int32)) (t0_9 := (p85.2.2.2.2.2.2.2.2.2.1 : Int64)) (t0_10 := (p85.2.2.2.2.2.2.2.2.2.2 : Int32)) (t1_0 := t1_0) (t2_0 := t2_0) (t3_0 := t3_0) (t4_0 := t4_0) (t5_0 := t5_0) (t6_0 := t6_0) ⟨by omega, by omega⟩ ⟨by omega, by omega⟩
          with_reducible refine v_owe h8.1 ?_
          replace h8 := h8.2
          generalize F_FR_findShortest (0 : Int32) (p85.2.1 : Int32) (p85.2.2.1 : Int32) (p85.2.2.2.1 : Int32) (p85.2.2.2.2.1 : Int64) (p85.2.2.2.2.2.1 : Int32) (p85.2.2.2.2.2.2.1 : Int32) (p85.2.2.2.2.2.2.2.1 : Int64) (p85.2.2.2.2.2.2.2.2.1 : Int32) (p85.2.2.2.2.2.2.2.2.2.1 : Int64) (p85.2.2.2.2.2.2.2.2.2.2 : Int32) t1_0 t2_0 t3_0 t4_0 t5_0 t6_0 = p183 at *
          unfold Q_FR_findShortest at h8
          obtain ⟨h8a, h8b, h8c, h8d, h8e, h8f, h8g, h8h, h8i, h89, h810, h8w, h8n⟩ := h8
          have h8bi := congrArg Int32.toInt h8b
          have hw := h8w
          have hn := h8n
          unfold S_FR_digits_c69 F_FR_digits_c69
          refine ⟨trivial, ?_⟩
          (unfold Q_FR_digits; dsimp only; first | exact ⟨by decide, by decide⟩ | exact ⟨by omega, by omega⟩ | exact fl_pw8 (by assumption))
    ·
      rw [if_neg g3, if_neg g3]
      unfold S_FR_digits_J47 F_FR_digits_J47
      have g9 : ((0 : Int32) < (1 : Int32)) := (by decide)
      rw [if_pos g9, if_pos g9]
      refine ⟨trivial, ?_⟩
      (unfold Q_FR_digits; dsimp only; first | exact ⟨by decide, by decide⟩ | exact ⟨by omega, by omega⟩ | exact fl_pw8 (by assumption))
  ·
    rw [if_neg g1, if_neg g1]
    have g1i : x3.toInt ≠ 0 := q_neI g1
    by_cases g10 : ((F_FR_isWrong x2 x3) : Int32) = (0 : Int32)
    ·
      rw [if_pos g10, if_pos g10]
      unfold S_FR_digits_J19 F_FR_digits_J19
      have h11 := T_FR_open (x2 := x2) (x3 := (1 : Int32)) (t0_0 := t0_0) (t0_1 := t0_1) (t0_2 := t0_2) (t0_3 := t0_3) (t0_4 := t0_4) (t0_5 := t0_5) (t0_6 := t0_6) (t0_7 := t0_7) (t0_8 := t0_8) (t0_9 := t0_9) (t0_10 := t0_10) 
      generalize F_FR_open x2 (1 : Int32) t0_0 t0_1 t0_2 t0_3 t0_4 t0_5 t0_6 t0_7 t0_8 t0_9 t0_10 = p85 at *
      unfold Q_FR_open at h11
      obtain ⟨h11a, h11b, h117, h118, h11f, h115⟩ := h11
      have op7 := h117
      have op8 := h118
      have opf := h11f
      unfold S_FR_digits_c19 F_FR_digits_c19
      rw [if_pos g10, if_pos g10]
      by_cases g12 : ((F_FR_isFinite (p85.1 : Int32) (p85.2.1 : Int32) (p85.2.2.1 : Int32) (p85.2.2.2.1 : Int32) (p85.2.2.2.2.1 : Int64) (p85.2.2.2.2.2.1 : Int32) (p85.2.2.2.2.2.2.1 : Int32) (p85.2.2.2.2.2.2.2.1 : Int64) (p85.2.2.2.2.2.2.2.2.1 : Int32) (p85.2.2.2.2.2.2.2.2.2.1 : Int64) (p85.2.2.2.2.2.2.2.2.2.2 : Int32)) : Int32) = (0 : Int32)
      ·
        rw [if_pos g12, if_pos g12]
        unfold S_FR_digits_J47 F_FR_digits_J47
        have g13 : ((0 : Int32) < (2 : Int32)) := (by decide)
        rw [if_pos g13, if_pos g13]
        refine ⟨trivial, ?_⟩
        (unfold Q_FR_digits; dsimp only; first | exact ⟨by decide, by decide⟩ | exact ⟨by omega, by omega⟩ | exact fl_pw8 (by assumption))
      ·
        rw [if_neg g12, if_neg g12]
        have fin := fl_fin g12
        unfold S_FR_digits_J47 F_FR_digits_J47
        have g14 : ¬ ((0 : Int32) < (0 : Int32)) := (by decide)
        rw [if_neg g14, if_neg g14]
        by_cases g15 : (lg_cmp (p85.2.2.2.2.2.2.2.1 : Int64) 0 : Int32) = (0 : Int32)
        ·
          rw [if_pos g15, if_pos g15]
          have g15z := fl_lz g15
          refine ⟨trivial, ?_⟩
          (unfold Q_FR_digits; dsimp only; first | exact ⟨by decide, by decide⟩ | exact ⟨by omega, by omega⟩ | exact fl_pw8 (by assumption))
        ·
          rw [if_neg g15, if_neg g15]
          have g15z := fl_lnz g15
          have h16 := T_FR_findShortest (t0_0 := (0 : Int32)) (t0_1 := (p85.2.1 : Int32)) (t0_2 := (p85.2.2.1 : Int32)) (t0_3 := (p85.2.2.2.1 : Int32)) (t0_4 := (p85.2.2.2.2.1 : Int64)) (t0_5 := (p85.2.2.2.2.2.1 : Int32)) (t0_6 := (p85.2.2.2.2.2.2.1 : Int32)) (t0_7 := (p85.2.2.2.2.2.2.2.1 : Int64)) (t0_8 := (p85.2.2.2.2.2.2.2.2.1 : Int32)) (t0_9 := (p85.2.2.2.2.2.2.2.2.2.1 : Int64)) (t0_10 := (p85.2.2.2.2.2.2.2.2.2.2 : Int32)) (t1_0 := t1_0) (t2_0 := t2_0) (t3_0 := t3_0) (t4_0 := t4_0) (t5_0 := t5_0) (t6_0 := t6_0) ⟨by omega, by omega⟩ ⟨by omega, by omega⟩
          with_reducible refine v_owe h16.1 ?_
          replace h16 := h16.2
          generalize F_FR_findShortest (0 : Int32) (p85.2.1 : Int32) (p85.2.2.1 : Int32) (p85.2.2.2.1 : Int32) (p85.2.2.2.2.1 : Int64) (p85.2.2.2.2.2.1 : Int32) (p85.2.2.2.2.2.2.1 : Int32) (p85.2.2.2.2.2.2.2.1 : Int64) (p85.2.2.2.2.2.2.2.2.1 : Int32) (p85.2.2.2.2.2.2.2.2.2.1 : Int64) (p85.2.2.2.2.2.2.2.2.2.2 : Int32) t1_0 t2_0 t3_0 t4_0 t5_0 t6_0 = p183 at *
          unfold Q_FR_findShortest at h16
          obtain ⟨h16a, h16b, h16c, h16d, h16e, h16f, h16g, h16h, h16i, h169, h1610, h16w, h16n⟩ := h16
          have h16bi := congrArg Int32.toInt h16b
          have hw := h16w
          have hn := h16n
          unfold S_FR_digits_c69 F_FR_digits_c69
          refine ⟨trivial, ?_⟩
          (unfold Q_FR_digits; dsimp only; first | exact ⟨by decide, by decide⟩ | exact ⟨by omega, by omega⟩ | exact fl_pw8 (by assumption))
    ·
      rw [if_neg g10, if_neg g10]
      unfold S_FR_digits_J18 F_FR_digits_J18
      unfold S_FR_digits_J19 F_FR_digits_J19
      have h17 := T_FR_open (x2 := x2) (x3 := (0 : Int32)) (t0_0 := t0_0) (t0_1 := t0_1) (t0_2 := t0_2) (t0_3 := t0_3) (t0_4 := t0_4) (t0_5 := t0_5) (t0_6 := t0_6) (t0_7 := t0_7) (t0_8 := t0_8) (t0_9 := t0_9) (t0_10 := t0_10) 
      generalize F_FR_open x2 (0 : Int32) t0_0 t0_1 t0_2 t0_3 t0_4 t0_5 t0_6 t0_7 t0_8 t0_9 t0_10 = p85 at *
      unfold Q_FR_open at h17
      obtain ⟨h17a, h17b, h177, h178, h17f, h175⟩ := h17
      have op7 := h177
      have op8 := h178
      have opf := h17f
      unfold S_FR_digits_c19 F_FR_digits_c19
      rw [if_neg g10, if_neg g10]
      unfold S_FR_digits_J47 F_FR_digits_J47
      have g18 : ((0 : Int32) < (1 : Int32)) := (by decide)
      rw [if_pos g18, if_pos g18]
      refine ⟨trivial, ?_⟩
      (unfold Q_FR_digits; dsimp only; first | exact ⟨by decide, by decide⟩ | exact ⟨by omega, by omega⟩ | exact fl_pw8 (by assumption))
def Q_FR_power (p : Int32 × Int32 × Int32 × Int32 × Int32 × Int64 × Int32 × Int32 × Int64 × Int32 × Int64 × Int32 × (Nat → Int32) × (Nat → Int32) × (Nat → Int32) × (Nat → Int32) × (Nat → Int32) × (Nat → Int32)) : Prop := -1080 ≤ p.1.toInt ∧ p.1.toInt ≤ 420
theorem T_FR_power {x2 : Int64} {x3 : Int32} {t0_0 : Int32} {t0_1 : Int32} {t0_2 : Int32} {t0_3 : Int32} {t0_4 : Int64} {t0_5 : Int32} {t0_6 : Int32} {t0_7 : Int64} {t0_8 : Int32} {t0_9 : Int64} {t0_10 : Int32} {t1_0 : (Nat → Int32)} {t2_0 : (Nat → Int32)} {t3_0 : (Nat → Int32)} {t4_0 : (Nat → Int32)} {t5_0 : (Nat → Int32)} {t6_0 : (Nat → Int32)}  : (S_FR_power x2 x3 t0_0 t0_1 t0_2 t0_3 t0_4 t0_5 t0_6 t0_7 t0_8 t0_9 t0_10 t1_0 t2_0 t3_0 t4_0 t5_0 t6_0) ∧ Q_FR_power (F_FR_power x2 x3 t0_0 t0_1 t0_2 t0_3 t0_4 t0_5 t0_6 t0_7 t0_8 t0_9 t0_10 t1_0 t2_0 t3_0 t4_0 t5_0 t6_0) := by
  have e0 : (0 : Int32).toInt = 0 := rfl
  have e1 : (1 : Int32).toInt = 1 := rfl
  have eL0 : (0 : Int64).toInt = 0 := rfl
  unfold S_FR_power F_FR_power
  by_cases g1 : x3 = (0 : Int32)
  ·
    rw [if_pos g1, if_pos g1]
    have g1i : x3.toInt = 0 := q_eqI g1
    unfold S_FR_power_J18 F_FR_power_J18
    unfold S_FR_power_J19 F_FR_power_J19
    have h2 := T_FR_open (x2 := x2) (x3 := (0 : Int32)) (t0_0 := t0_0) (t0_1 := t0_1) (t0_2 := t0_2) (t0_3 := t0_3) (t0_4 := t0_4) (t0_5 := t0_5) (t0_6 := t0_6) (t0_7 := t0_7) (t0_8 := t0_8) (t0_9 := t0_9) (t0_10 := t0_10) 
    generalize F_FR_open x2 (0 : Int32) t0_0 t0_1 t0_2 t0_3 t0_4 t0_5 t0_6 t0_7 t0_8 t0_9 t0_10 = p85 at *
    unfold Q_FR_open at h2
    obtain ⟨h2a, h2b, h27, h28, h2f, h25⟩ := h2
    have op7 := h27
    have op8 := h28
    have opf := h2f
    unfold S_FR_power_c19 F_FR_power_c19
    by_cases g3 : ((F_FR_isWrong x2 x3) : Int32) = (0 : Int32)
    ·
      rw [if_pos g3, if_pos g3]
      by_cases g4 : ((F_FR_isFinite (p85.1 : Int32) (p85.2.1 : Int32) (p85.2.2.1 : Int32) (p85.2.2.2.1 : Int32) (p85.2.2.2.2.1 : Int64) (p85.2.2.2.2.2.1 : Int32) (p85.2.2.2.2.2.2.1 : Int32) (p85.2.2.2.2.2.2.2.1 : Int64) (p85.2.2.2.2.2.2.2.2.1 : Int32) (p85.2.2.2.2.2.2.2.2.2.1 : Int64) (p85.2.2.2.2.2.2.2.2.2.2 : Int32)) : Int32) = (0 : Int32)
      ·
        rw [if_pos g4, if_pos g4]
        unfold S_FR_power_J47 F_FR_power_J47
        have g5 : ((0 : Int32) < (2 : Int32)) := (by decide)
        rw [if_pos g5, if_pos g5]
        refine ⟨trivial, ?_⟩
        (unfold Q_FR_power; dsimp only; first | exact ⟨by decide, by decide⟩ | exact ⟨by omega, by omega⟩ | exact fl_pw8 (by assumption))
      ·
        rw [if_neg g4, if_neg g4]
        have fin := fl_fin g4
        unfold S_FR_power_J47 F_FR_power_J47
        have g6 : ¬ ((0 : Int32) < (0 : Int32)) := (by decide)
        rw [if_neg g6, if_neg g6]
        by_cases g7 : (lg_cmp (p85.2.2.2.2.2.2.2.1 : Int64) 0 : Int32) = (0 : Int32)
        ·
          rw [if_pos g7, if_pos g7]
          have g7z := fl_lz g7
          refine ⟨trivial, ?_⟩
          (unfold Q_FR_power; dsimp only; first | exact ⟨by decide, by decide⟩ | exact ⟨by omega, by omega⟩ | exact fl_pw8 (by assumption))
        ·
          rw [if_neg g7, if_neg g7]
          have g7z := fl_lnz g7
          have h8 := T_FR_findShortest (t0_0 := (0 : Int32)) (t0_1 := (p85.2.1 : Int32)) (t0_2 := (p85.2.2.1 : Int32)) (t0_3 := (p85.2.2.2.1 : Int32)) (t0_4 := (p85.2.2.2.2.1 : Int64)) (t0_5 := (p85.2.2.2.2.2.1 : Int32)) (t0_6 := (p85.2.2.2.2.2.2.1 : Int32)) (t0_7 := (p85.2.2.2.2.2.2.2.1 : Int64)) (t0_8 := (p85.2.2.2.2.2.2.2.2.1 : Int32)) (t0_9 := (p85.2.2.2.2.2.2.2.2.2.1 : Int64)) (t0_10 := (p85.2.2.2.2.2.2.2.2.2.2 : Int32)) (t1_0 := t1_0) (t2_0 := t2_0) (t3_0 := t3_0) (t4_0 := t4_0) (t5_0 := t5_0) (t6_0 := t6_0) ⟨by omega, by omega⟩ ⟨by omega, by omega⟩
          with_reducible refine v_owe h8.1 ?_
          replace h8 := h8.2
          generalize F_FR_findShortest (0 : Int32) (p85.2.1 : Int32) (p85.2.2.1 : Int32) (p85.2.2.2.1 : Int32) (p85.2.2.2.2.1 : Int64) (p85.2.2.2.2.2.1 : Int32) (p85.2.2.2.2.2.2.1 : Int32) (p85.2.2.2.2.2.2.2.1 : Int64) (p85.2.2.2.2.2.2.2.2.1 : Int32) (p85.2.2.2.2.2.2.2.2.2.1 : Int64) (p85.2.2.2.2.2.2.2.2.2.2 : Int32) t1_0 t2_0 t3_0 t4_0 t5_0 t6_0 = p183 at *
          unfold Q_FR_findShortest at h8
          obtain ⟨h8a, h8b, h8c, h8d, h8e, h8f, h8g, h8h, h8i, h89, h810, h8w, h8n⟩ := h8
          have h8bi := congrArg Int32.toInt h8b
          have hw := h8w
          have hn := h8n
          unfold S_FR_power_c69 F_FR_power_c69
          refine ⟨trivial, ?_⟩
          (unfold Q_FR_power; dsimp only; first | exact ⟨by decide, by decide⟩ | exact ⟨by omega, by omega⟩ | exact fl_pw8 (by assumption))
    ·
      rw [if_neg g3, if_neg g3]
      unfold S_FR_power_J47 F_FR_power_J47
      have g9 : ((0 : Int32) < (1 : Int32)) := (by decide)
      rw [if_pos g9, if_pos g9]
      refine ⟨trivial, ?_⟩
      (unfold Q_FR_power; dsimp only; first | exact ⟨by decide, by decide⟩ | exact ⟨by omega, by omega⟩ | exact fl_pw8 (by assumption))
  ·
    rw [if_neg g1, if_neg g1]
    have g1i : x3.toInt ≠ 0 := q_neI g1
    by_cases g10 : ((F_FR_isWrong x2 x3) : Int32) = (0 : Int32)
    ·
      rw [if_pos g10, if_pos g10]
      unfold S_FR_power_J19 F_FR_power_J19
      have h11 := T_FR_open (x2 := x2) (x3 := (1 : Int32)) (t0_0 := t0_0) (t0_1 := t0_1) (t0_2 := t0_2) (t0_3 := t0_3) (t0_4 := t0_4) (t0_5 := t0_5) (t0_6 := t0_6) (t0_7 := t0_7) (t0_8 := t0_8) (t0_9 := t0_9) (t0_10 := t0_10) 
      generalize F_FR_open x2 (1 : Int32) t0_0 t0_1 t0_2 t0_3 t0_4 t0_5 t0_6 t0_7 t0_8 t0_9 t0_10 = p85 at *
      unfold Q_FR_open at h11
      obtain ⟨h11a, h11b, h117, h118, h11f, h115⟩ := h11
      have op7 := h117
      have op8 := h118
      have opf := h11f
      unfold S_FR_power_c19 F_FR_power_c19
      rw [if_pos g10, if_pos g10]
      by_cases g12 : ((F_FR_isFinite (p85.1 : Int32) (p85.2.1 : Int32) (p85.2.2.1 : Int32) (p85.2.2.2.1 : Int32) (p85.2.2.2.2.1 : Int64) (p85.2.2.2.2.2.1 : Int32) (p85.2.2.2.2.2.2.1 : Int32) (p85.2.2.2.2.2.2.2.1 : Int64) (p85.2.2.2.2.2.2.2.2.1 : Int32) (p85.2.2.2.2.2.2.2.2.2.1 : Int64) (p85.2.2.2.2.2.2.2.2.2.2 : Int32)) : Int32) = (0 : Int32)
      ·
        rw [if_pos g12, if_pos g12]
        unfold S_FR_power_J47 F_FR_power_J47
        have g13 : ((0 : Int32) < (2 : Int32)) := (by decide)
        rw [if_pos g13, if_pos g13]
        refine ⟨trivial, ?_⟩
        (unfold Q_FR_power; dsimp only; first | exact ⟨by decide, by decide⟩ | exact ⟨by omega, by omega⟩ | exact fl_pw8 (by assumption))
      ·
        rw [if_neg g12, if_neg g12]
        have fin := fl_fin g12
        unfold S_FR_power_J47 F_FR_power_J47
        have g14 : ¬ ((0 : Int32) < (0 : Int32)) := (by decide)
        rw [if_neg g14, if_neg g14]
        by_cases g15 : (lg_cmp (p85.2.2.2.2.2.2.2.1 : Int64) 0 : Int32) = (0 : Int32)
        ·
          rw [if_pos g15, if_pos g15]
          have g15z := fl_lz g15
          refine ⟨trivial, ?_⟩
          (unfold Q_FR_power; dsimp only; first | exact ⟨by decide, by decide⟩ | exact ⟨by omega, by omega⟩ | exact fl_pw8 (by assumption))
        ·
          rw [if_neg g15, if_neg g15]
          have g15z := fl_lnz g15
          have h16 := T_FR_findShortest (t0_0 := (0 : Int32)) (t0_1 := (p85.2.1 : Int32)) (t0_2 := (p85.2.2.1 : Int32)) (t0_3 := (p85.2.2.2.1 : Int32)) (t0_4 := (p85.2.2.2.2.1 : Int64)) (t0_5 := (p85.2.2.2.2.2.1 : Int32)) (t0_6 := (p85.2.2.2.2.2.2.1 : Int32)) (t0_7 := (p85.2.2.2.2.2.2.2.1 : Int64)) (t0_8 := (p85.2.2.2.2.2.2.2.2.1 : Int32)) (t0_9 := (p85.2.2.2.2.2.2.2.2.2.1 : Int64)) (t0_10 := (p85.2.2.2.2.2.2.2.2.2.2 : Int32)) (t1_0 := t1_0) (t2_0 := t2_0) (t3_0 := t3_0) (t4_0 := t4_0) (t5_0 := t5_0) (t6_0 := t6_0) ⟨by omega, by omega⟩ ⟨by omega, by omega⟩
          with_reducible refine v_owe h16.1 ?_
          replace h16 := h16.2
          generalize F_FR_findShortest (0 : Int32) (p85.2.1 : Int32) (p85.2.2.1 : Int32) (p85.2.2.2.1 : Int32) (p85.2.2.2.2.1 : Int64) (p85.2.2.2.2.2.1 : Int32) (p85.2.2.2.2.2.2.1 : Int32) (p85.2.2.2.2.2.2.2.1 : Int64) (p85.2.2.2.2.2.2.2.2.1 : Int32) (p85.2.2.2.2.2.2.2.2.2.1 : Int64) (p85.2.2.2.2.2.2.2.2.2.2 : Int32) t1_0 t2_0 t3_0 t4_0 t5_0 t6_0 = p183 at *
          unfold Q_FR_findShortest at h16
          obtain ⟨h16a, h16b, h16c, h16d, h16e, h16f, h16g, h16h, h16i, h169, h1610, h16w, h16n⟩ := h16
          have h16bi := congrArg Int32.toInt h16b
          have hw := h16w
          have hn := h16n
          unfold S_FR_power_c69 F_FR_power_c69
          refine ⟨trivial, ?_⟩
          (unfold Q_FR_power; dsimp only; first | exact ⟨by decide, by decide⟩ | exact ⟨by omega, by omega⟩ | exact fl_pw8 (by assumption))
    ·
      rw [if_neg g10, if_neg g10]
      unfold S_FR_power_J18 F_FR_power_J18
      unfold S_FR_power_J19 F_FR_power_J19
      have h17 := T_FR_open (x2 := x2) (x3 := (0 : Int32)) (t0_0 := t0_0) (t0_1 := t0_1) (t0_2 := t0_2) (t0_3 := t0_3) (t0_4 := t0_4) (t0_5 := t0_5) (t0_6 := t0_6) (t0_7 := t0_7) (t0_8 := t0_8) (t0_9 := t0_9) (t0_10 := t0_10) 
      generalize F_FR_open x2 (0 : Int32) t0_0 t0_1 t0_2 t0_3 t0_4 t0_5 t0_6 t0_7 t0_8 t0_9 t0_10 = p85 at *
      unfold Q_FR_open at h17
      obtain ⟨h17a, h17b, h177, h178, h17f, h175⟩ := h17
      have op7 := h177
      have op8 := h178
      have opf := h17f
      unfold S_FR_power_c19 F_FR_power_c19
      rw [if_neg g10, if_neg g10]
      unfold S_FR_power_J47 F_FR_power_J47
      have g18 : ((0 : Int32) < (1 : Int32)) := (by decide)
      rw [if_pos g18, if_pos g18]
      refine ⟨trivial, ?_⟩
      (unfold Q_FR_power; dsimp only; first | exact ⟨by decide, by decide⟩ | exact ⟨by omega, by omega⟩ | exact fl_pw8 (by assumption))
