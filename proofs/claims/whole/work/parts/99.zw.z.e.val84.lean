/-! values, for whole: what the reference tells of a whole, but its low 64 bits -/
def sTell (x : Int32) (v : Int) : Int := if x = 1 then (if v = 0 then 0 else if 0 < v then 1 else -1) else if x = 2 then (tLen v (if v < 0 then 1 else 0) 2048 : Int) else if x = 3 then (tCnt v (if v < 0 then 1 else 0) 2048 : Int) else (if 0 ≤ tLow v 2048 then tLow v 2048 else -1)
theorem V_tlJ {x2 x3 t0_0 t0_1 t0_2 t0_3 t0_4 t0_5 t0_6 : Int32} {t1_0 t2_0 : Nat → Int32} {lx27 lx51 : Int32} {W : Nat → Int} {g : Int} (hr : wRv t1_0 t2_0 W) (hx2 : 0 ≤ x2.toInt ∧ x2.toInt ≤ 10) (hg : lx51.toInt = g) (hgv : g = if W x2.toNatClampNeg < 0 then 1 else 0) (h3 : x3 ≠ 1) : (F_WR_told_J127 x2 x3 t0_0 t0_1 t0_2 t0_3 t0_4 t0_5 t0_6 t1_0 t2_0 lx27 lx51).2.1 = lx27 ∧ (F_WR_told_J127 x2 x3 t0_0 t0_1 t0_2 t0_3 t0_4 t0_5 t0_6 t1_0 t2_0 lx27 lx51).1.toInt = sTell x3 (W x2.toNatClampNeg) := by
  have e0L : (0 : Int64).toInt = 0 := rfl
  have eM : (-1 : Int64).toInt = -1 := rfl
  have r := V_tlL (x3 := x3) (t0_0 := t0_0) (t0_1 := t0_1) (t0_2 := t0_2) (t0_3 := t0_3) (t0_4 := t0_4) (t0_5 := t0_5) (t0_6 := t0_6) (lx27 := lx27) hr hx2 hg (((2047 : Int32).toInt - ((-1))).toNat + 1) 2047 (-1) 0 0 2048 rfl (Nat.le_refl _) (by decide) (Int.le_refl _) (by decide)
  unfold F_WR_told_J127
  refine ⟨r.1, r.2.trans ?_⟩
  rw [sTell, if_neg h3, ← hgv, e0L, eM, if_pos rfl, Int.zero_add]
theorem V_WR_told {x2 x3 t0_0 t0_1 t0_2 t0_3 t0_4 t0_5 t0_6 : Int32} {t1_0 t2_0 : Nat → Int32} {W : Nat → Int} (hr : wRv t1_0 t2_0 W) (hx2 : 0 ≤ x2.toInt ∧ x2.toInt ≤ 10) (h3 : 1 ≤ x3.toInt ∧ x3.toInt ≤ 4) : (F_WR_told x2 x3 t0_0 t0_1 t0_2 t0_3 t0_4 t0_5 t0_6 t1_0 t2_0).2.1 = 0 ∧ (F_WR_told x2 x3 t0_0 t0_1 t0_2 t0_3 t0_4 t0_5 t0_6 t1_0 t2_0).1.toInt = sTell x3 (W x2.toNatClampNeg) := by
  have e0 : (0 : Int32).toInt = 0 := rfl
  have e4 : (4 : Int32).toInt = 4 := rfl
  have hc := q_clI (i := x2) rfl hx2.1
  have hv := hr.2 x2.toNatClampNeg (by omega)
  have hz := (R_isZero (t0_0 := 0) (t0_1 := t0_1) (t0_2 := t0_2) (t0_3 := t0_3) (t0_4 := t0_4) (t0_5 := t0_5) (t0_6 := t0_6) hx2 hr.1).2
  have hn := (wVk_nn hx2 hr.1).1
  have ka : wVi t1_0 x2.toNatClampNeg = wVk t1_0 x2 := rfl
  rw [ka] at hv
  unfold F_WR_told
  rw [if_pos (w_no0 hx2), if_neg (fun c => by have := q_ltI c; omega), if_pos (Int32.le_iff_toInt_le.mpr (by omega))]
  unfold F_WR_told_J22
  rw [if_pos (show (0 : Int32) ≤ 0 by decide), if_neg (fun c => by rw [c] at h3; omega)]
  generalize F_WR_isZero x2 0 t0_1 t0_2 t0_3 t0_4 t0_5 t0_6 t1_0 = z at hz ⊢
  by_cases c1 : x3 = 1
  · rw [if_pos c1, sTell, if_pos c1]
    rcases hz with ⟨z1, z2⟩ | ⟨z1, z2⟩
    · rw [z1, if_neg (by decide), if_pos (by omega)]
      exact ⟨rfl, rfl⟩
    · rw [z1, if_pos rfl]
      rcases hv with ⟨a, b⟩ | ⟨a, _, b⟩
      · rw [if_pos a, if_neg (show ¬ W x2.toNatClampNeg = 0 by omega), if_pos (show 0 < W x2.toNatClampNeg by omega)]
        exact ⟨rfl, rfl⟩
      · rw [a, if_neg (show ¬ (1 : Int32) = 0 by decide), if_neg (show ¬ W x2.toNatClampNeg = 0 by omega), if_neg (show ¬ 0 < W x2.toNatClampNeg by omega)]
        exact ⟨rfl, rfl⟩
  · rw [if_neg c1]
    rcases hv with ⟨a, b⟩ | ⟨a, _, b⟩
    · rw [if_pos a]
      exact V_tlJ (g := 0) hr hx2 rfl (by rw [if_neg (by omega)]) c1
    · rw [a, if_neg (by decide)]
      exact V_tlJ (g := 1) hr hx2 rfl (by rw [if_pos (by omega)]) c1
