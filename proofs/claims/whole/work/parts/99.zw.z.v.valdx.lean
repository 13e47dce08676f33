/-! values, for whole: the reference's floats written to figures, from the call on -/
theorem yHead_0 {a b al : Nat} : yHead 0 a al 0 = yHead 0 b al 0 := by
  have f : ∀ z : Int, yFz 0 z = 0 := fun z => by
    unfold yFz
    split
    · rfl
    · unfold yLo
      rw [Nat.zero_div]
  have g : ∀ (n : Nat) (z w : Int), yDz 0 z n = yDz 0 w n := by
    intro n
    induction n with
    | zero =>
      intro z w
      rfl
    | succ n ih =>
      intro z w
      show (48 + yFz 0 z) :: yDz 0 (z - 1) n = (48 + yFz 0 w) :: yDz 0 (w - 1) n
      rw [f, f, ih (z - 1) (w - 1)]
  unfold yHead
  rw [f, f, g (al - 1) ((a : Int) - 2) ((b : Int) - 2)]
theorem y_lo1 {a : Nat} : yLo (10 ^ a) a = 1 := by
  unfold yLo
  rw [Nat.div_self (Nat.pow_pos (by decide))]
/-- of al figures, or a one and zeros -/
theorem y_scW {md : Int32} {u c al d W : Nat} (hu : yDt u c) (hc : al < c) (hal : 1 ≤ al) (hW : W = u / 10 ^ (c - al) + yOut md u (c - al)) (hd : yDt W d) : d = al ∨ (d = al + 1 ∧ W = 10 ^ al) := by
  have q : yDt (u / 10 ^ (c - al)) al := y_dvT (by rw [show al + (c - al) = c from by omega]; exact hu)
  have q1 := q.1
  have q2 := q.2 (by omega)
  unfold yLt10 at q1 q2
  rcases yOut_01 (md := md) (N := u) (m := c - al) with o | o
  · rw [o, Nat.add_zero] at hW
    rw [hW] at hd
    exact Or.inl (yDt_U hd q)
  · rw [o] at hW
    rcases Nat.lt_or_ge W (10 ^ al) with g | g
    · refine Or.inl (yDt_U hd ⟨g, fun _ w => ?_⟩)
      unfold yLt10 at w
      generalize u / 10 ^ (c - al) = r at *
      generalize 10 ^ (al - 1) = m at *
      omega
    · have e : W = 10 ^ al := by
        generalize u / 10 ^ (c - al) = r at *
        generalize 10 ^ al = m at *
        omega
      refine Or.inr ⟨yDt_U hd ?_, e⟩
      rw [e]
      refine ⟨Nat.pow_lt_pow_right (by decide) (Nat.lt_succ_self _), fun _ w => ?_⟩
      unfold yLt10 at w
      rw [show al + 1 - 1 = al from rfl] at w
      exact Nat.lt_irrefl _ w
theorem V_sc107 {x2 : Int64} {x3 : Int32} {x4 : Int32} {x5 : Int32} {t0_0 : Int32} {t0_1 : Int32} {t0_2 : Int32} {t0_3 : Int32} {t0_4 : Int64} {t0_5 : Int32} {t0_6 : Int32} {t0_7 : Int64} {t0_8 : Int32} {t0_9 : Int64} {t0_10 : Int32} {t1_0 : (Nat → Int32)} {t2_0 : (Nat → Int32)} {t3_0 : (Nat → Int32)} {t4_0 : (Nat → Int32)} {t5_0 : (Nat → Int32)} {lx29 : Int32} {p81 : (Int32 × Int32 × Int32 × Int32 × Int64 × Int32 × Int32 × Int64 × Int32 × Int64 × Int32)} {y47 : Int32} {y48 : Int32} {y49 : Int32} {y50 : Int32} {y51 : Int64} {y52 : Int32} {y53 : Int32} {y54 : Int64} {y55 : Int32} {y56 : Int64} {y57 : Int32} {lx106 : Int32} {p136 : ((Nat → Int32) × (Nat → Int32) × (Nat → Int32))} {f128 : (Nat → Int32)} {f130 : (Nat → Int32)} {f132 : (Nat → Int32)} {lx149 : Int32} {V t al dY sg N k : Nat} (hkk : k = t + 1 - al) (hv : yRw f132 V) (hV : V < 10 ^ 1390) (h1 : lx149.toInt = (t : Int)) (ht : t ≤ 1389) (h4 : x4.toInt = (al : Int)) (hal1 : 1 ≤ al) (hal : al ≤ 800) (hmd : 0 ≤ x5.toInt ∧ x5.toInt ≤ 3) (hs : yMin (¬ y49 = 0) = yMin (sg = 1)) (hN : y54.toInt = (N : Int)) (hd : yDt ((V / 10 ^ k + yOut x5 V k) * 10 ^ k) dY) (h : (dY = t + 1) ∨ (dY = t + 2 ∧ N ≠ 0 ∧ yLo ((V / 10 ^ k + yOut x5 V k) * 10 ^ k) (t + 1) = 1) ∨ (dY = 0 ∧ N = 0)) : (F_FR_scientific_J107 x2 x3 x4 x5 t0_0 t0_1 t0_2 t0_3 t0_4 t0_5 t0_6 t0_7 t0_8 t0_9 t0_10 t1_0 t2_0 t3_0 t4_0 t5_0 lx29 p81 y47 y48 y49 y50 y51 y52 y53 y54 y55 y56 y57 lx106 p136 f128 f130 f132 lx149).2.1 = lx106 ∧ yRt (F_FR_scientific_J107 x2 x3 x4 x5 t0_0 t0_1 t0_2 t0_3 t0_4 t0_5 t0_6 t0_7 t0_8 t0_9 t0_10 t1_0 t2_0 t3_0 t4_0 t5_0 lx29 p81 y47 y48 y49 y50 y51 y52 y53 y54 y55 y56 y57 lx106 p136 f128 f130 f132 lx149).1 (F_FR_scientific_J107 x2 x3 x4 x5 t0_0 t0_1 t0_2 t0_3 t0_4 t0_5 t0_6 t0_7 t0_8 t0_9 t0_10 t1_0 t2_0 t3_0 t4_0 t5_0 lx29 p81 y47 y48 y49 y50 y51 y52 y53 y54 y55 y56 y57 lx106 p136 f128 f130 f132 lx149).2.2.2.2.2.2.2.2.2.2.2.2.2.2.2.2 (yMin (sg = 1) ++ (yHead ((V / 10 ^ k + yOut x5 V k) * 10 ^ k) (if N = 0 then t + 1 else dY) al 0 ++ yE2 (((if N = 0 then t + 1 else dY : Nat) : Int) - 1 - 1080))) := by
  have e1 : (1 : Int32).toInt = 1 := rfl
  have e0 : (0 : Int32).toInt = 0 := rfl
  have a := q_addI (q_subI h1 h4 (by omega) (by omega)) e1 (by omega) (by omega)
  unfold F_FR_scientific_J107
  by_cases g : 0 ≤ lx149 - x4 + 1
  · rw [if_pos g]
    have g := q_leI g
    exact V_sc130 hv hV (by rw [a]; omega) (by omega) h1 (by omega) h4 hal1 hal hmd hs hN hd h
  · rw [if_neg g]
    have g := q_nleI g
    have k0 : k = 0 := by omega
    exact V_sc130 hv hV (by rw [k0]; rfl) (by omega) h1 (by omega) h4 hal1 hal hmd hs hN hd h
theorem V_sc85 {x2 : Int64} {x3 : Int32} {x4 : Int32} {x5 : Int32} {t0_0 : Int32} {t0_1 : Int32} {t0_2 : Int32} {t0_3 : Int32} {t0_4 : Int64} {t0_5 : Int32} {t0_6 : Int32} {t0_7 : Int64} {t0_8 : Int32} {t0_9 : Int64} {t0_10 : Int32} {t1_0 : (Nat → Int32)} {t2_0 : (Nat → Int32)} {t3_0 : (Nat → Int32)} {t4_0 : (Nat → Int32)} {t5_0 : (Nat → Int32)} {lx29 : Int32} {p81 : (Int32 × Int32 × Int32 × Int32 × Int64 × Int32 × Int32 × Int64 × Int32 × Int64 × Int32)} {y47 : Int32} {y48 : Int32} {y49 : Int32} {y50 : Int32} {y51 : Int64} {y52 : Int32} {y53 : Int32} {y54 : Int64} {y55 : Int32} {y56 : Int64} {y57 : Int32} {lx106 : Int32} {p136 : ((Nat → Int32) × (Nat → Int32) × (Nat → Int32))} {V al sg N u s c W d : Nat} (hv : yRw p136.2.2 V) (hq : Q_FR_setValue y54 p136) (hV : V < 10 ^ 1390) (huV : V = u * 10 ^ (1080 - s)) (hs0 : s ≤ 1074) (hu : yDt u c) (hNu : N = 0 ↔ u = 0) (h4 : x4.toInt = (al : Int)) (hal1 : 1 ≤ al) (hal : al ≤ 800) (hmd : 0 ≤ x5.toInt ∧ x5.toInt ≤ 3) (hs : yMin (¬ y49 = 0) = yMin (sg = 1)) (hN : y54.toInt = (N : Int)) (hW : W = yRk x5 u c (al : Int)) (hd : yDt W d) : (F_FR_scientific_c85 x2 x3 x4 x5 t0_0 t0_1 t0_2 t0_3 t0_4 t0_5 t0_6 t0_7 t0_8 t0_9 t0_10 t1_0 t2_0 t3_0 t4_0 t5_0 lx29 p81 y47 y48 y49 y50 y51 y52 y53 y54 y55 y56 y57 lx106 p136).2.1 = lx106 ∧ yRt (F_FR_scientific_c85 x2 x3 x4 x5 t0_0 t0_1 t0_2 t0_3 t0_4 t0_5 t0_6 t0_7 t0_8 t0_9 t0_10 t1_0 t2_0 t3_0 t4_0 t5_0 lx29 p81 y47 y48 y49 y50 y51 y52 y53 y54 y55 y56 y57 lx106 p136).1 (F_FR_scientific_c85 x2 x3 x4 x5 t0_0 t0_1 t0_2 t0_3 t0_4 t0_5 t0_6 t0_7 t0_8 t0_9 t0_10 t1_0 t2_0 t3_0 t4_0 t5_0 lx29 p81 y47 y48 y49 y50 y51 y52 y53 y54 y55 y56 y57 lx106 p136).2.2.2.2.2.2.2.2.2.2.2.2.2.2.2.2 (yMin (sg = 1) ++ ySct u s c W d al) := by
  have e0L : (0 : Int64).toInt = 0 := rfl
  unfold F_FR_scientific_c85
  by_cases z : lg_cmp y54 0 = 0
  · rw [if_pos z]
    have z := g_lcz z
    have n0 : N = 0 := by omega
    have uz := hNu.mp n0
    have V0 : V = 0 := by rw [huV, uz, Nat.zero_mul]
    have c0 : c = 0 := by
      rw [uz] at hu
      exact yDt_z hu
    have W0 : W = 0 := by
      rw [hW]
      unfold yRk
      rw [if_pos (by omega), uz, Nat.zero_mul]
    have Y0 : ∀ k, (V / 10 ^ k + yOut x5 V k) * 10 ^ k = 0 := fun k => by
      rw [V0, yOut_d (Nat.zero_mod _), Nat.zero_div, Nat.add_zero, Nat.zero_mul]
    have r := V_sc107 (x2 := x2) (x3 := x3) (t0_0 := t0_0) (t0_1 := t0_1) (t0_2 := t0_2) (t0_3 := t0_3) (t0_4 := t0_4) (t0_5 := t0_5) (t0_6 := t0_6) (t0_7 := t0_7) (t0_8 := t0_8) (t0_9 := t0_9) (t0_10 := t0_10) (t1_0 := t1_0) (t2_0 := t2_0) (t3_0 := t3_0) (t4_0 := t4_0) (t5_0 := t5_0) (lx29 := lx29) (p81 := p81) (y47 := y47) (y48 := y48) (y50 := y50) (y51 := y51) (y52 := y52) (y53 := y53) (y55 := y55) (y56 := y56) (y57 := y57) (lx106 := lx106) (p136 := p136) (f128 := p136.1) (f130 := p136.2.1) (lx149 := 1080) (t := 1080) (dY := 0) (k := 1080 + 1 - al) rfl hv hV rfl (by omega) h4 hal1 hal hmd hs hN (by rw [Y0]; exact ⟨(by show 0 < 10 ^ 0; decide), fun q => absurd rfl q⟩) (Or.inr (Or.inr ⟨rfl, n0⟩))
    rw [Y0, if_pos n0] at r
    unfold ySct
    rw [if_pos uz, W0, yHead_0 (a := d) (b := 1080 + 1)]
    exact r
  · rw [if_neg z]
    have n0 : N ≠ 0 := fun q => z (y_lcE.mpr (by rw [hN, q]; rfl))
    have un : u ≠ 0 := fun q => n0 (hNu.mpr q)
    have tq := (T_FR_top (t0_0 := lx106) (t0_1 := y48) (t0_2 := y49) (t0_3 := y50) (t0_4 := y51) (t0_5 := y52) (t0_6 := y53) (t0_7 := y54) (t0_8 := y55) (t0_9 := y56) (t0_10 := y57) hq.1 (hq.2 (by omega))).2
    obtain ⟨t, t1, t2, t3, t4⟩ := y_topV hv tq
    have dV : yDt V (t + 1) := ⟨t4, fun _ w => absurd t3 (Nat.not_le.mpr w)⟩
    have dV2 : yDt V (c + (1080 - s)) := by
      rw [huV]
      exact yDt_sc hu un
    have tc := yDt_U dV dV2
    have c1 : c ≠ 0 := fun q => un (by
      have := hu.1
      rw [q] at this
      unfold yLt10 at this
      rw [Nat.pow_zero] at this
      omega)
    have fin : ∀ (Y dY : Nat), (V / 10 ^ (t + 1 - al) + yOut x5 V (t + 1 - al)) * 10 ^ (t + 1 - al) = Y → yDt Y dY → ((dY = t + 1) ∨ (dY = t + 2 ∧ yLo Y (t + 1) = 1)) → yHead Y dY al 0 ++ yE2 ((dY : Int) - 1 - 1080) = ySct u s c W d al → (F_FR_scientific_J107 x2 x3 x4 x5 t0_0 t0_1 t0_2 t0_3 t0_4 t0_5 t0_6 t0_7 t0_8 t0_9 t0_10 t1_0 t2_0 t3_0 t4_0 t5_0 lx29 p81 y47 y48 y49 y50 y51 y52 y53 y54 y55 y56 y57 lx106 p136 p136.1 p136.2.1 p136.2.2 (F_FR_top lx106 y48 y49 y50 y51 y52 y53 y54 y55 y56 y57 p136.2.2)).2.1 = lx106 ∧ yRt (F_FR_scientific_J107 x2 x3 x4 x5 t0_0 t0_1 t0_2 t0_3 t0_4 t0_5 t0_6 t0_7 t0_8 t0_9 t0_10 t1_0 t2_0 t3_0 t4_0 t5_0 lx29 p81 y47 y48 y49 y50 y51 y52 y53 y54 y55 y56 y57 lx106 p136 p136.1 p136.2.1 p136.2.2 (F_FR_top lx106 y48 y49 y50 y51 y52 y53 y54 y55 y56 y57 p136.2.2)).1 (F_FR_scientific_J107 x2 x3 x4 x5 t0_0 t0_1 t0_2 t0_3 t0_4 t0_5 t0_6 t0_7 t0_8 t0_9 t0_10 t1_0 t2_0 t3_0 t4_0 t5_0 lx29 p81 y47 y48 y49 y50 y51 y52 y53 y54 y55 y56 y57 lx106 p136 p136.1 p136.2.1 p136.2.2 (F_FR_top lx106 y48 y49 y50 y51 y52 y53 y54 y55 y56 y57 p136.2.2)).2.2.2.2.2.2.2.2.2.2.2.2.2.2.2.2 (yMin (sg = 1) ++ ySct u s c W d al) := by
      intro Y dY hY hdY hh he
      have r := V_sc107 (x2 := x2) (x3 := x3) (t0_0 := t0_0) (t0_1 := t0_1) (t0_2 := t0_2) (t0_3 := t0_3) (t0_4 := t0_4) (t0_5 := t0_5) (t0_6 := t0_6) (t0_7 := t0_7) (t0_8 := t0_8) (t0_9 := t0_9) (t0_10 := t0_10) (t1_0 := t1_0) (t2_0 := t2_0) (t3_0 := t3_0) (t4_0 := t4_0) (t5_0 := t5_0) (lx29 := lx29) (p81 := p81) (y47 := y47) (y48 := y48) (y50 := y50) (y51 := y51) (y52 := y52) (y53 := y53) (y55 := y55) (y56 := y56) (y57 := y57) (lx106 := lx106) (p136 := p136) (f128 := p136.1) (f130 := p136.2.1) (t := t) (dY := dY) (k := t + 1 - al) rfl hv hV t1 (by omega) h4 hal1 hal hmd hs hN (by rw [hY]; exact hdY) (by rw [hY]; exact hh.elim Or.inl (fun q => Or.inr (Or.inl ⟨q.1, n0, q.2⟩)))
      rw [hY, if_neg n0, he] at r
      exact r
    by_cases g : c ≤ al
    · have hW2 : W = u * 10 ^ (al - c) := by
        rw [hW]
        unfold yRk
        rw [if_pos (by omega), show ((al : Int) - c).toNat = al - c from by omega]
      have dd : d = c + (al - c) := by
        rw [hW2] at hd
        exact yDt_U hd (yDt_sc hu un)
      have Y : (V / 10 ^ (t + 1 - al) + yOut x5 V (t + 1 - al)) * 10 ^ (t + 1 - al) = V := by
        obtain ⟨a, ha⟩ : ∃ a, 1080 - s = a + (t + 1 - al) := ⟨1080 - s - (t + 1 - al), by omega⟩
        have e : V = u * 10 ^ a * 10 ^ (t + 1 - al) := by
          rw [huV, ha, Nat.pow_add, Nat.mul_assoc]
        rw [yOut_d (by rw [e]; exact Nat.mul_mod_left _ _), Nat.add_zero]
        exact Nat.div_mul_cancel ⟨u * 10 ^ a, by rw [e, Nat.mul_comm]⟩
      refine fin V (t + 1) Y dV (Or.inl rfl) ?_
      unfold ySct
      rw [if_neg un, hW2, dd, yHead_sc, tc, huV, yHead_sc, show ((c + (1080 - s) : Nat) : Int) - 1 - 1080 = ((c + (al - c) : Nat) : Int) - 1 + c - al - s from by omega]
    · have hW2 : W = u / 10 ^ (c - al) + yOut x5 u (c - al) := by
        rw [hW]
        unfold yRk
        rw [if_neg (by omega), show ((c : Int) - al).toNat = c - al from by omega]
      have kk : t + 1 - al = (c - al) + (1080 - s) := by omega
      have Y : (V / 10 ^ (t + 1 - al) + yOut x5 V (t + 1 - al)) * 10 ^ (t + 1 - al) = W * 10 ^ ((c - al) + (1080 - s)) := by
        rw [kk, huV, yOut_sc, Nat.pow_add 10 (c - al), Nat.mul_div_mul_right _ _ (Nat.pow_pos (by decide)), ← hW2]
      have Wn : W ≠ 0 := by
        have ge := (y_ge10 (i := c - al) hu).mpr (by omega)
        have p := Nat.div_pos ge (Nat.pow_pos (by decide))
        rw [hW2]
        generalize u / 10 ^ (c - al) = r at p ⊢
        omega
      have dY := yDt_sc (z := (c - al) + (1080 - s)) hd Wn
      refine fin _ _ Y dY ?_ ?_
      · rcases y_scW hu (by omega) hal1 hW2 hd with q | ⟨q, w⟩
        · exact Or.inl (by omega)
        · refine Or.inr ⟨by omega, ?_⟩
          rw [show t + 1 = al + ((c - al) + (1080 - s)) from by omega, yLo_sc, w]
          exact y_lo1
      · unfold ySct
        rw [if_neg un, yHead_sc, show ((d + ((c - al) + (1080 - s)) : Nat) : Int) - 1 - 1080 = (d : Int) - 1 + c - al - s from by omega]
