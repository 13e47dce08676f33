/-! values, for whole: the class's decimalText -/
theorem y_fd3 {x : Int32} (h : -1000000 ≤ x.toInt) (h2 : x.toInt ≤ 1000000) : (F_jMath_floorDiv_III x 3).toInt = x.toInt / 3 := by
  have e3 : (3 : Int32).toInt = 3 := rfl
  have e1 : (1 : Int32).toInt = 1 := rfl
  have e0 : (0 : Int32).toInt = 0 := rfl
  have hs : (x ^^^ 3 : Int32).toInt < 0 ↔ x.toInt < 0 := by
    have a : (x ^^^ 3 : Int32).toBitVec.msb = decide ((x ^^^ 3 : Int32).toBitVec.toInt < 0) := BitVec.msb_eq_toInt
    have b : x.toBitVec.msb = decide (x.toBitVec.toInt < 0) := BitVec.msb_eq_toInt
    have c : (x ^^^ 3 : Int32).toBitVec.msb = x.toBitVec.msb := by
      rw [Int32.toBitVec_xor, BitVec.msb_xor, show (3 : Int32).toBitVec.msb = false from by decide, Bool.xor_false]
    rw [a, b] at c
    constructor
    · intro k
      have : decide ((x ^^^ 3 : Int32).toBitVec.toInt < 0) = true := decide_eq_true k
      rw [this] at c
      exact of_decide_eq_true c.symm
    · intro k
      have : decide (x.toBitVec.toInt < 0) = true := decide_eq_true k
      rw [this] at c
      exact of_decide_eq_true c
  unfold F_jMath_floorDiv_III
  by_cases g : (0 : Int32) ≤ (x ^^^ 3)
  · rw [if_pos g]
    have g := q_leI g
    exact q_divI rfl e3 (by omega) (by omega)
  · rw [if_neg g]
    have g := q_nleI g
    rcases n_divI (a := x) e3 (by omega) with ⟨k, _⟩ | ⟨k, k1, k2⟩
    · omega
    · have m := q_mulI (a := x / 3) (b := 3) rfl e3 (by omega) (by omega)
      by_cases w : (x / 3 * 3) = x
      · rw [if_pos w]
        rw [w] at m
        omega
      · rw [if_neg w]
        have : (x / 3 * 3 : Int32).toInt ≠ x.toInt := fun e => w (Int32.toInt_inj.mp e)
        rw [q_subI rfl e1 (by omega) (by omega)]
        omega
/-- how many figures a number below 100000 has -/
def yCt5 (n : Nat) : Nat := if n = 0 then 0 else if n < 10 then 1 else if n < 100 then 2 else if n < 1000 then 3 else if n < 10000 then 4 else 5
theorem yCt5_t {n : Nat} (h : n < 100000) : yDt n (yCt5 n) := by
  unfold yCt5 yDt yLt10
  by_cases h0 : n = 0
  · rw [if_pos h0]
    exact ⟨by rw [h0]; decide, fun k => absurd rfl k⟩
  · rw [if_neg h0]
    by_cases h1 : n < 10
    · rw [if_pos h1]
      exact ⟨h1, fun _ k => h0 (by have : n < 1 := k; omega)⟩
    · rw [if_neg h1]
      by_cases h2 : n < 100
      · rw [if_pos h2]
        exact ⟨h2, fun _ k => h1 k⟩
      · rw [if_neg h2]
        by_cases h3 : n < 1000
        · rw [if_pos h3]
          exact ⟨h3, fun _ k => h2 k⟩
        · rw [if_neg h3]
          by_cases h4 : n < 10000
          · rw [if_pos h4]
            exact ⟨h4, fun _ k => h3 k⟩
          · rw [if_neg h4]
            exact ⟨h, fun _ k => h4 k⟩
/-- a power of 10: its letter, its sign, its figures -/
def yE (p : Int) : List Nat := (69 :: ySgn p) ++ yDs (max (yCt5 p.natAbs) 1) p.natAbs
theorem V_wE {x2 : Int32} {t0_0 : Int32} {t1_0 : (Nat → Int64)} {l : List Nat} (h : yPa t0_0 t1_0 l) (hl : l.length < 800000000) (h2 : -99999 ≤ x2.toInt ∧ x2.toInt ≤ 99999) : yPa (F_Wri_writePower x2 t0_0 t1_0).1 (F_Wri_writePower x2 t0_0 t1_0).2 (l ++ yE x2.toInt) := by
  have := V_wPow h hl h2 (yCt5_t (n := x2.toInt.natAbs) (by omega))
  rw [List.append_assoc] at this
  exact this
/-- by threes: the power, the figures before the point, all figures -/
def yT3 (z : Prop) [Decidable z] (t : Int) (c : Nat) : Int × Nat × Nat := if z then (-(3 * ((-t) / 3)), 1, (1 + -(3 * ((-t) / 3)) - t).toNat) else (3 * (t / 3), (t - 3 * (t / 3) + 1).toNat, c)
def yThr (N d c : Nat) (t : Int) : List Nat := ySpl N d (yT3 (d = 0) t c).2.1 0 (max (yT3 (d = 0) t c).2.1 (yT3 (d = 0) t c).2.2) ++ (if (yT3 (d = 0) t c).1 = 0 then [] else yE (yT3 (d = 0) t c).1)
theorem V_w71 {x2 : Int32} {x3 : Int32} {t0_0 : Int32} {t1_0 : (Nat → Int64)} {t2_0 : Int32} {t2_1 : Int32} {t3_0 : (Nat → Int32)} {lx15 : Int32} {lx28 : Int32} {lx39 : Int32} {lx50 : Int32} {N0 d be al : Nat} {p : Int} (h : yDgc t2_0 t3_0 N0 d) (hp : lx28.toInt = p) (hpb : -50000 ≤ p ∧ p ≤ 50000) (hx : lx39.toInt = (be : Int)) (hy : lx50.toInt = (al : Int)) (ha : al ≤ 9000) (hb : be ≤ 9000) {l : List Nat} (hm : yPa t0_0 t1_0 l) (hl : l.length < 700000000) : yPa (F_Wri_writeByThrees_J71 x2 x3 t0_0 t1_0 t2_0 t2_1 t3_0 lx15 lx28 lx39 lx50).1 (F_Wri_writeByThrees_J71 x2 x3 t0_0 t1_0 t2_0 t2_1 t3_0 lx15 lx28 lx39 lx50).2 (l ++ (ySpl N0 d be 0 (max be al) ++ (if p = 0 then [] else yE p))) := by
  unfold F_Wri_writeByThrees_J71
  have s1 := V_wSplit (N := 1376) (K := 1000000) (t0_1 := t2_1) rfl h hx hy ha hb hm (by omega)
  revert s1
  generalize F_Dig_writeSplit 11008 1376 1000000 lx39 lx50 t2_0 t2_1 t3_0 t0_0 t1_0 = q
  intro s1
  unfold F_Wri_writeByThrees_c85
  have sl : ∀ m k, (ySpl N0 d be k m).length ≤ 2 * m := by
    intro m
    induction m with
    | zero => intro k; exact Nat.le_refl _
    | succ m ih =>
      intro k
      have := ih (k + 1)
      show ((if k = be then [46] else []) ++ ((48 + yFz N0 ((d : Int) - 1 - (k : Int))) :: ySpl N0 d be (k + 1) m)).length ≤ _
      rw [List.length_append, List.length_cons]
      have : (if k = be then [46] else ([] : List Nat)).length ≤ 1 := by
        split
        · exact Nat.le_refl _
        · exact Nat.zero_le _
      omega
  have sl0 := sl (max be al) 0
  by_cases z : lx28 = 0
  · rw [if_pos z]
    rw [z] at hp
    have e0 : (0 : Int32).toInt = 0 := rfl
    rw [if_pos (by omega), List.append_nil]
    exact s1
  · rw [if_neg z]
    have pz : p ≠ 0 := fun e => z (Int32.toInt_inj.mp (by rw [hp, e]; rfl))
    rw [if_neg pz]
    have w := V_wE (x2 := lx28) s1 (by rw [List.length_append]; omega) (by omega)
    rw [hp] at w
    revert w
    generalize F_Wri_writePower lx28 q.1 q.2 = r
    intro w
    unfold F_Wri_writeByThrees_c96
    rw [← List.append_assoc]
    exact w
theorem V_wThr {x2 : Int32} {x3 : Int32} {t0_0 : Int32} {t1_0 : (Nat → Int64)} {t2_0 : Int32} {t2_1 : Int32} {t3_0 : (Nat → Int32)} {N0 d c : Nat} (h : yDgc t2_0 t3_0 N0 d) (hx : x2.toInt = (c : Int)) (hc : c ≤ 1000) (ht : -20000 ≤ x3.toInt ∧ x3.toInt ≤ 20000) {l : List Nat} (hm : yPa t0_0 t1_0 l) (hl : l.length < 700000000) : yPa (F_Wri_writeByThrees x2 x3 t0_0 t1_0 t2_0 t2_1 t3_0).1 (F_Wri_writeByThrees x2 x3 t0_0 t1_0 t2_0 t2_1 t3_0).2 (l ++ yThr N0 d c x3.toInt) := by
  have e0 : (0 : Int32).toInt = 0 := rfl
  have e1 : (1 : Int32).toInt = 1 := rfl
  have e3 : (3 : Int32).toInt = 3 := rfl
  have em3 : (-3 : Int32).toInt = -3 := rfl
  have fd := y_fd3 (x := x3) (by omega) (by omega)
  have ng := q_negI (a := x3) rfl (by omega)
  have fn := y_fd3 (x := -x3) (by omega) (by omega)
  rw [ng] at fn
  unfold F_Wri_writeByThrees yThr yT3
  by_cases z : t2_0 = 0
  · rw [if_pos z]
    have dz : d = 0 := by
      have := h.1
      rw [z, e0] at this
      omega
    unfold F_Wri_writeByThrees_J15
    rw [if_neg (show ¬ (1 : Int32) = 0 by decide)]
    unfold F_Wri_writeByThrees_J39
    rw [if_neg (show ¬ (1 : Int32) = 0 by decide)]
    unfold F_Wri_writeByThrees_J55
    rw [if_neg (show ¬ (1 : Int32) = 0 by decide)]
    rw [if_pos dz]
    have m := q_mulI em3 fn (by omega) (by omega)
    have m2 : (-3 * F_jMath_floorDiv_III (-x3) 3 : Int32).toInt = -(3 * ((-x3.toInt) / 3)) := by
      rw [m]
      omega
    have a1 := q_addI e1 m2 (by omega) (by omega)
    have a2 := q_subI a1 (rfl : x3.toInt = x3.toInt) (by omega) (by omega)
    exact V_w71 h m2 (by omega) e1 (by rw [a2]; show _ = ((1 + -(3 * ((-x3.toInt) / 3)) - x3.toInt).toNat : Int); omega) (by show (1 + -(3 * ((-x3.toInt) / 3)) - x3.toInt).toNat ≤ 9000; omega) (by decide) hm hl
  · rw [if_neg z]
    have dz : ¬ d = 0 := fun e => z (Int32.toInt_inj.mp (by rw [h.1, e]; rfl))
    unfold F_Wri_writeByThrees_J15
    rw [if_pos (show (0 : Int32) = 0 from rfl)]
    unfold F_Wri_writeByThrees_J39
    rw [if_pos (show (0 : Int32) = 0 from rfl)]
    unfold F_Wri_writeByThrees_J55
    rw [if_pos (show (0 : Int32) = 0 from rfl)]
    rw [if_neg dz]
    have m := q_mulI e3 fd (by omega) (by omega)
    have a1 := q_subI (rfl : x3.toInt = x3.toInt) m (by omega) (by omega)
    have a2 := q_addI a1 e1 (by omega) (by omega)
    exact V_w71 h m (by omega) (by rw [a2]; show _ = ((x3.toInt - 3 * (x3.toInt / 3) + 1).toNat : Int); omega) hx (by show c ≤ 9000; omega) (by show (x3.toInt - 3 * (x3.toInt / 3) + 1).toNat ≤ 9000; omega) hm hl
