/-! values, for whole: the reference's whole -/
theorem wAn_w {x : Int32} {W W' : Nat → Int} {o : Option Int} {th : Int32} {k m : Nat → Int32} (he : ∀ i, i < 10 → W' i = W i) (h : wAn x W' o th k m) : wAn x W o th k m := by
  rcases h with ⟨v, h1, h2, h3, W2, h4, h5⟩ | ⟨h1, h2, W2, h3, h4⟩
  · refine Or.inl ⟨v, h1, h2, h3, W2, h4, fun i hi => (h5 i hi).trans ?_⟩
    unfold updW
    split
    · rfl
    · exact he i hi
  · exact Or.inr ⟨h1, h2, W2, h3, fun i hi => (h4 i hi).trans (he i hi)⟩
theorem wAn_o {x : Int32} {W : Nat → Int} {o o' : Option Int} {th : Int32} {k m : Nat → Int32} (h : wAn x W o th k m) (e : o = o') : wAn x W o' th k m := e ▸ h
theorem m_no0 {x : Int32} (h : 0 ≤ x.toInt ∧ x.toInt ≤ 9) : F_NM_no_IZ x = 0 := by
  unfold F_NM_no_IZ
  have e9 : (9 : Int32).toInt = 9 := rfl
  have e0 : (0 : Int32).toInt = 0 := rfl
  rw [if_neg (fun c => by have := q_ltI c; omega), if_pos (Int32.le_iff_toInt_le.mpr (by omega))]
theorem wRv.lt {k m : Nat → Int32} {W : Nat → Int} {x : Int32} (h : wRv k m W) (hx : 0 ≤ x.toInt ∧ x.toInt ≤ 10) : (W x.toNatClampNeg).natAbs < 2 ^ 2048 := by
  have h1 := (h.sg hx).2
  have h2 := wVk_nn hx h.1
  have hp := w_2048
  rw [h1, sgI_abs]
  rw [hp] at h2
  generalize 2 ^ 2048 = N at h2 ⊢
  omega
theorem w_ne10 {x : Int32} (h : 0 ≤ x.toInt ∧ x.toInt ≤ 9) : x.toNatClampNeg < 10 ∧ ¬ x.toNatClampNeg = (10 : Int32).toNatClampNeg := by
  have := q_clI (i := x) rfl h.1
  have e : (10 : Int32).toNatClampNeg = 10 := rfl
  rw [e]
  omega
theorem w_upA {W : Nat → Int} {x : Int32} {q r : Int} (h : 0 ≤ x.toInt ∧ x.toInt ≤ 9) {k m : Nat → Int32} (hr : wRv k m (updW (updW W x.toNatClampNeg q) (10 : Int32).toNatClampNeg r)) : wRw k m (updW W x.toNatClampNeg q) := by
  refine ⟨_, hr, fun i hi => ?_⟩
  have e : (10 : Int32).toNatClampNeg = 10 := rfl
  rw [e]
  show (if i = 10 then r else _) = _
  rw [if_neg (by omega)]
theorem w_upB {W : Nat → Int} {x : Int32} {q r : Int} (h : 0 ≤ x.toInt ∧ x.toInt ≤ 9) {k m : Nat → Int32} (hr : wRv k m (updW (updW W (10 : Int32).toNatClampNeg q) x.toNatClampNeg r)) : wRw k m (updW W x.toNatClampNeg r) := by
  refine ⟨_, hr, fun i hi => ?_⟩
  have e : (10 : Int32).toNatClampNeg = 10 := rfl
  rw [e]
  show (if i = x.toNatClampNeg then r else (if i = 10 then q else W i)) = (if i = x.toNatClampNeg then r else W i)
  rw [if_neg (show ¬ i = 10 by omega)]
theorem w_tdB {a b : Int} {N : Nat} (h : a.natAbs < N) : (a.tdiv b).natAbs < N := by
  rw [Int.natAbs_tdiv]
  exact Nat.lt_of_le_of_lt (Nat.div_le_self _ _) h
theorem w_tmB {a b : Int} {N : Nat} (h : a.natAbs < N) : (a.tmod b).natAbs < N := by
  rw [Int.natAbs_tmod]
  exact Nat.lt_of_le_of_lt (Nat.mod_le _ _) h
def QV_NMw (x : Int32) (W : Nat → Int) (o : Option Int) (p : Int32 × Int32 × Int32 × Int32 × Int32 × Int32 × Int32 × Int32 × (Nat → Int32) × (Nat → Int32) × (Nat → Int32) × (Nat → Int32) × (Nat → Int32) × (Nat → Int32) × (Nat → Int32) × (Nat → Int32) × (Nat → Int32) × (Nat → Int32) × (Nat → Int32) × (Nat → Int32)) : Prop := wAn x W o p.1 p.2.2.2.2.2.2.2.2.1 p.2.2.2.2.2.2.2.2.2.1 ∧ p.1 = p.2.1
theorem V_NMw0 {x2 : Int32} {x3 : Int32} {x4 : Int32} {x5 : Int32} {t0_0 : Int32} {t0_1 : Int32} {t0_2 : Int32} {t1_0 : Int32} {t1_1 : Int32} {t1_2 : Int32} {t1_3 : Int32} {t1_4 : Int32} {t1_5 : Int32} {t1_6 : Int32} {t2_0 : (Nat → Int32)} {t3_0 : (Nat → Int32)} {t4_0 : (Nat → Int32)} {t5_0 : (Nat → Int32)} {t6_0 : (Nat → Int32)} {t7_0 : (Nat → Int32)} {t8_0 : (Nat → Int32)} {t9_0 : (Nat → Int32)} {t10_0 : (Nat → Int32)} {t11_0 : (Nat → Int32)} {t12_0 : (Nat → Int32)} {t13_0 : (Nat → Int32)} {W : Nat → Int} (hw : wRw t2_0 t3_0 W) (hx3 : 0 ≤ x3.toInt ∧ x3.toInt ≤ 9) (hx4 : 0 ≤ x4.toInt ∧ x4.toInt ≤ 9) (hx5 : 0 ≤ x5.toInt ∧ x5.toInt ≤ 9) (e2 : x2 = 0) : QV_NMw x5 W (some (W x3.toNatClampNeg + W x4.toNatClampNeg)) (F_NM_whole x2 x3 x4 x5 t0_0 t0_1 t0_2 t1_0 t1_1 t1_2 t1_3 t1_4 t1_5 t1_6 t2_0 t3_0 t4_0 t5_0 t6_0 t7_0 t8_0 t9_0 t10_0 t11_0 t12_0 t13_0) := by
  obtain ⟨W2, hr, hE⟩ := hw
  have hy3 : 0 ≤ x3.toInt ∧ x3.toInt ≤ 10 := ⟨hx3.1, by omega⟩
  have hy4 : 0 ≤ x4.toInt ∧ x4.toInt ≤ 10 := ⟨hx4.1, by omega⟩
  have hy5 : 0 ≤ x5.toInt ∧ x5.toInt ≤ 10 := ⟨hx5.1, by omega⟩
  have hyt : 0 ≤ (10 : Int32).toInt ∧ (10 : Int32).toInt ≤ 10 := ⟨by decide, by decide⟩
  have ea := hE _ (w_ne10 hx3).1
  have eb := hE _ (w_ne10 hx4).1
  unfold F_NM_whole
  have g1 : ¬ (x2 < (0 : Int32)) := (by rw [e2]; decide)
  rw [if_neg g1]
  have g2 : ¬ ((11 : Int32) < x2) := (by rw [e2]; decide)
  rw [if_neg g2]
  have g3 : (((F_NM_no_IZ x3) : Int32) = (0 : Int32)) := (m_no0 hx3)
  rw [if_pos g3]
  have g4 : (((F_NM_no_IZ x4) : Int32) = (0 : Int32)) := (m_no0 hx4)
  rw [if_pos g4]
  have g5 : (((F_NM_no_IZ x5) : Int32) = (0 : Int32)) := (m_no0 hx5)
  rw [if_pos g5]
  unfold F_NM_whole_J38
  have g6 : ((0 : Int32) ≤ (0 : Int32)) := (by decide)
  rw [if_pos g6]
  rw [if_pos e2]
  have h7 := V_WR_add (x2 := x3) (x3 := x4) (x4 := x5) (x5 := (0 : Int32)) (t0_0 := t1_0) (t0_1 := t1_1) (t0_2 := t1_2) (t0_3 := t1_3) (t0_4 := t1_4) (t0_5 := t1_5) (t0_6 := t1_6) (t1_0 := t2_0) (t2_0 := t3_0) (t3_0 := t4_0) (t4_0 := t9_0) (t5_0 := t10_0) hr hy3 hy4 hy5 (Or.inl rfl)
  generalize F_WR_add x3 x4 x5 (0 : Int32) t1_0 t1_1 t1_2 t1_3 t1_4 t1_5 t1_6 t2_0 t3_0 t4_0 t9_0 t10_0 = p119 at h7 ⊢
  unfold QV_add at h7
  rw [if_pos rfl, ea, eb] at h7
  have hq := h7
  unfold F_NM_whole_c114
  exact ⟨wAn_w hE hq, rfl⟩
theorem V_NMw1 {x2 : Int32} {x3 : Int32} {x4 : Int32} {x5 : Int32} {t0_0 : Int32} {t0_1 : Int32} {t0_2 : Int32} {t1_0 : Int32} {t1_1 : Int32} {t1_2 : Int32} {t1_3 : Int32} {t1_4 : Int32} {t1_5 : Int32} {t1_6 : Int32} {t2_0 : (Nat → Int32)} {t3_0 : (Nat → Int32)} {t4_0 : (Nat → Int32)} {t5_0 : (Nat → Int32)} {t6_0 : (Nat → Int32)} {t7_0 : (Nat → Int32)} {t8_0 : (Nat → Int32)} {t9_0 : (Nat → Int32)} {t10_0 : (Nat → Int32)} {t11_0 : (Nat → Int32)} {t12_0 : (Nat → Int32)} {t13_0 : (Nat → Int32)} {W : Nat → Int} (hw : wRw t2_0 t3_0 W) (hx3 : 0 ≤ x3.toInt ∧ x3.toInt ≤ 9) (hx4 : 0 ≤ x4.toInt ∧ x4.toInt ≤ 9) (hx5 : 0 ≤ x5.toInt ∧ x5.toInt ≤ 9) (e2 : x2 = 1) : QV_NMw x5 W (some (W x3.toNatClampNeg - W x4.toNatClampNeg)) (F_NM_whole x2 x3 x4 x5 t0_0 t0_1 t0_2 t1_0 t1_1 t1_2 t1_3 t1_4 t1_5 t1_6 t2_0 t3_0 t4_0 t5_0 t6_0 t7_0 t8_0 t9_0 t10_0 t11_0 t12_0 t13_0) := by
  obtain ⟨W2, hr, hE⟩ := hw
  have hy3 : 0 ≤ x3.toInt ∧ x3.toInt ≤ 10 := ⟨hx3.1, by omega⟩
  have hy4 : 0 ≤ x4.toInt ∧ x4.toInt ≤ 10 := ⟨hx4.1, by omega⟩
  have hy5 : 0 ≤ x5.toInt ∧ x5.toInt ≤ 10 := ⟨hx5.1, by omega⟩
  have hyt : 0 ≤ (10 : Int32).toInt ∧ (10 : Int32).toInt ≤ 10 := ⟨by decide, by decide⟩
  have ea := hE _ (w_ne10 hx3).1
  have eb := hE _ (w_ne10 hx4).1
  unfold F_NM_whole
  have g1 : ¬ (x2 < (0 : Int32)) := (by rw [e2]; decide)
  rw [if_neg g1]
  have g2 : ¬ ((11 : Int32) < x2) := (by rw [e2]; decide)
  rw [if_neg g2]
  have g3 : (((F_NM_no_IZ x3) : Int32) = (0 : Int32)) := (m_no0 hx3)
  rw [if_pos g3]
  have g4 : (((F_NM_no_IZ x4) : Int32) = (0 : Int32)) := (m_no0 hx4)
  rw [if_pos g4]
  have g5 : (((F_NM_no_IZ x5) : Int32) = (0 : Int32)) := (m_no0 hx5)
  rw [if_pos g5]
  unfold F_NM_whole_J38
  have g6 : ((0 : Int32) ≤ (0 : Int32)) := (by decide)
  rw [if_pos g6]
  have g7 : ¬ (x2 = (0 : Int32)) := (by rw [e2]; decide)
  rw [if_neg g7]
  rw [if_pos e2]
  have h8 := V_WR_add (x2 := x3) (x3 := x4) (x4 := x5) (x5 := (1 : Int32)) (t0_0 := t1_0) (t0_1 := t1_1) (t0_2 := t1_2) (t0_3 := t1_3) (t0_4 := t1_4) (t0_5 := t1_5) (t0_6 := t1_6) (t1_0 := t2_0) (t2_0 := t3_0) (t3_0 := t4_0) (t4_0 := t9_0) (t5_0 := t10_0) hr hy3 hy4 hy5 (Or.inr rfl)
  generalize F_WR_add x3 x4 x5 (1 : Int32) t1_0 t1_1 t1_2 t1_3 t1_4 t1_5 t1_6 t2_0 t3_0 t4_0 t9_0 t10_0 = p177 at h8 ⊢
  unfold QV_add at h8
  rw [if_neg (by decide), ea, eb, ← Int.sub_eq_add_neg] at h8
  have hq := h8
  unfold F_NM_whole_c114_3
  exact ⟨wAn_w hE hq, rfl⟩
theorem V_NMw2 {x2 : Int32} {x3 : Int32} {x4 : Int32} {x5 : Int32} {t0_0 : Int32} {t0_1 : Int32} {t0_2 : Int32} {t1_0 : Int32} {t1_1 : Int32} {t1_2 : Int32} {t1_3 : Int32} {t1_4 : Int32} {t1_5 : Int32} {t1_6 : Int32} {t2_0 : (Nat → Int32)} {t3_0 : (Nat → Int32)} {t4_0 : (Nat → Int32)} {t5_0 : (Nat → Int32)} {t6_0 : (Nat → Int32)} {t7_0 : (Nat → Int32)} {t8_0 : (Nat → Int32)} {t9_0 : (Nat → Int32)} {t10_0 : (Nat → Int32)} {t11_0 : (Nat → Int32)} {t12_0 : (Nat → Int32)} {t13_0 : (Nat → Int32)} {W : Nat → Int} (hw : wRw t2_0 t3_0 W) (hx3 : 0 ≤ x3.toInt ∧ x3.toInt ≤ 9) (hx4 : 0 ≤ x4.toInt ∧ x4.toInt ≤ 9) (hx5 : 0 ≤ x5.toInt ∧ x5.toInt ≤ 9) (e2 : x2 = 2) : QV_NMw x5 W (some (W x3.toNatClampNeg * W x4.toNatClampNeg)) (F_NM_whole x2 x3 x4 x5 t0_0 t0_1 t0_2 t1_0 t1_1 t1_2 t1_3 t1_4 t1_5 t1_6 t2_0 t3_0 t4_0 t5_0 t6_0 t7_0 t8_0 t9_0 t10_0 t11_0 t12_0 t13_0) := by
  obtain ⟨W2, hr, hE⟩ := hw
  have hy3 : 0 ≤ x3.toInt ∧ x3.toInt ≤ 10 := ⟨hx3.1, by omega⟩
  have hy4 : 0 ≤ x4.toInt ∧ x4.toInt ≤ 10 := ⟨hx4.1, by omega⟩
  have hy5 : 0 ≤ x5.toInt ∧ x5.toInt ≤ 10 := ⟨hx5.1, by omega⟩
  have hyt : 0 ≤ (10 : Int32).toInt ∧ (10 : Int32).toInt ≤ 10 := ⟨by decide, by decide⟩
  have ea := hE _ (w_ne10 hx3).1
  have eb := hE _ (w_ne10 hx4).1
  unfold F_NM_whole
  have g1 : ¬ (x2 < (0 : Int32)) := (by rw [e2]; decide)
  rw [if_neg g1]
  have g2 : ¬ ((11 : Int32) < x2) := (by rw [e2]; decide)
  rw [if_neg g2]
  have g3 : (((F_NM_no_IZ x3) : Int32) = (0 : Int32)) := (m_no0 hx3)
  rw [if_pos g3]
  have g4 : (((F_NM_no_IZ x4) : Int32) = (0 : Int32)) := (m_no0 hx4)
  rw [if_pos g4]
  have g5 : (((F_NM_no_IZ x5) : Int32) = (0 : Int32)) := (m_no0 hx5)
  rw [if_pos g5]
  unfold F_NM_whole_J38
  have g6 : ((0 : Int32) ≤ (0 : Int32)) := (by decide)
  rw [if_pos g6]
  have g7 : ¬ (x2 = (0 : Int32)) := (by rw [e2]; decide)
  rw [if_neg g7]
  have g8 : ¬ (x2 = (1 : Int32)) := (by rw [e2]; decide)
  rw [if_neg g8]
  rw [if_pos e2]
  have h9 := V_WR_multiply (x2 := x3) (x3 := x4) (x4 := x5) (t0_0 := t1_0) (t0_1 := t1_1) (t0_2 := t1_2) (t0_3 := t1_3) (t0_4 := t1_4) (t0_5 := t1_5) (t0_6 := t1_6) (t1_0 := t2_0) (t2_0 := t3_0) (t3_0 := t4_0) (t4_0 := t6_0) (t5_0 := t9_0) (t6_0 := t10_0) hr hy3 hy4 hy5
  generalize F_WR_multiply x3 x4 x5 t1_0 t1_1 t1_2 t1_3 t1_4 t1_5 t1_6 t2_0 t3_0 t4_0 t6_0 t9_0 t10_0 = p236 at h9 ⊢
  unfold QV_multiply at h9
  rw [ea, eb] at h9
  have hq := h9
  unfold F_NM_whole_c128
  exact ⟨wAn_w hE hq, rfl⟩
theorem V_NMw3 {x2 : Int32} {x3 : Int32} {x4 : Int32} {x5 : Int32} {t0_0 : Int32} {t0_1 : Int32} {t0_2 : Int32} {t1_0 : Int32} {t1_1 : Int32} {t1_2 : Int32} {t1_3 : Int32} {t1_4 : Int32} {t1_5 : Int32} {t1_6 : Int32} {t2_0 : (Nat → Int32)} {t3_0 : (Nat → Int32)} {t4_0 : (Nat → Int32)} {t5_0 : (Nat → Int32)} {t6_0 : (Nat → Int32)} {t7_0 : (Nat → Int32)} {t8_0 : (Nat → Int32)} {t9_0 : (Nat → Int32)} {t10_0 : (Nat → Int32)} {t11_0 : (Nat → Int32)} {t12_0 : (Nat → Int32)} {t13_0 : (Nat → Int32)} {W : Nat → Int} (hw : wRw t2_0 t3_0 W) (hx3 : 0 ≤ x3.toInt ∧ x3.toInt ≤ 9) (hx4 : 0 ≤ x4.toInt ∧ x4.toInt ≤ 9) (hx5 : 0 ≤ x5.toInt ∧ x5.toInt ≤ 9) (e2 : x2 = 3) : QV_NMw x5 W (if W x4.toNatClampNeg = 0 then none else some ((W x3.toNatClampNeg).tdiv (W x4.toNatClampNeg))) (F_NM_whole x2 x3 x4 x5 t0_0 t0_1 t0_2 t1_0 t1_1 t1_2 t1_3 t1_4 t1_5 t1_6 t2_0 t3_0 t4_0 t5_0 t6_0 t7_0 t8_0 t9_0 t10_0 t11_0 t12_0 t13_0) := by
  obtain ⟨W2, hr, hE⟩ := hw
  have hy3 : 0 ≤ x3.toInt ∧ x3.toInt ≤ 10 := ⟨hx3.1, by omega⟩
  have hy4 : 0 ≤ x4.toInt ∧ x4.toInt ≤ 10 := ⟨hx4.1, by omega⟩
  have hy5 : 0 ≤ x5.toInt ∧ x5.toInt ≤ 10 := ⟨hx5.1, by omega⟩
  have hyt : 0 ≤ (10 : Int32).toInt ∧ (10 : Int32).toInt ≤ 10 := ⟨by decide, by decide⟩
  have ea := hE _ (w_ne10 hx3).1
  have eb := hE _ (w_ne10 hx4).1
  unfold F_NM_whole
  have g1 : ¬ (x2 < (0 : Int32)) := (by rw [e2]; decide)
  rw [if_neg g1]
  have g2 : ¬ ((11 : Int32) < x2) := (by rw [e2]; decide)
  rw [if_neg g2]
  have g3 : (((F_NM_no_IZ x3) : Int32) = (0 : Int32)) := (m_no0 hx3)
  rw [if_pos g3]
  have g4 : (((F_NM_no_IZ x4) : Int32) = (0 : Int32)) := (m_no0 hx4)
  rw [if_pos g4]
  have g5 : (((F_NM_no_IZ x5) : Int32) = (0 : Int32)) := (m_no0 hx5)
  rw [if_pos g5]
  unfold F_NM_whole_J38
  have g6 : ((0 : Int32) ≤ (0 : Int32)) := (by decide)
  rw [if_pos g6]
  have g7 : ¬ (x2 = (0 : Int32)) := (by rw [e2]; decide)
  rw [if_neg g7]
  have g8 : ¬ (x2 = (1 : Int32)) := (by rw [e2]; decide)
  rw [if_neg g8]
  have g9 : ¬ (x2 = (2 : Int32)) := (by rw [e2]; decide)
  rw [if_neg g9]
  rw [if_pos e2]
  have h10 := V_WR_divide (x2 := x3) (x3 := x4) (x4 := x5) (x5 := (10 : Int32)) (t0_0 := t1_0) (t0_1 := t1_1) (t0_2 := t1_2) (t0_3 := t1_3) (t0_4 := t1_4) (t0_5 := t1_5) (t0_6 := t1_6) (t1_0 := t2_0) (t2_0 := t3_0) (t3_0 := t4_0) (t4_0 := t7_0) (t5_0 := t8_0) (t6_0 := t9_0) (t7_0 := t10_0) hr hy3 hy4 hy5 hyt
  generalize F_WR_divide x3 x4 x5 (10 : Int32) t1_0 t1_1 t1_2 t1_3 t1_4 t1_5 t1_6 t2_0 t3_0 t4_0 t7_0 t8_0 t9_0 t10_0 = p300 at h10 ⊢
  rw [ea, eb] at h10
  have hq : wAn x5 W2 (if W x4.toNatClampNeg = 0 then none else some ((W x3.toNatClampNeg).tdiv (W x4.toNatClampNeg))) p300.1 p300.2.2.2.2.2.2.2.1 p300.2.2.2.2.2.2.2.2.1 := by
    rcases h10 with ⟨d1, d2, d3⟩ | ⟨d1, d2, d3⟩
    · exact Or.inr ⟨Or.inl (if_pos d1), d2, d3.w⟩
    · exact Or.inl ⟨(W x3.toNatClampNeg).tdiv (W x4.toNatClampNeg), if_neg d1, w_tdB (by rw [← ea]; exact hr.lt hy3), d2, w_upA hx5 d3⟩
  unfold F_NM_whole_c144
  exact ⟨wAn_w hE hq, rfl⟩
theorem V_NMw4 {x2 : Int32} {x3 : Int32} {x4 : Int32} {x5 : Int32} {t0_0 : Int32} {t0_1 : Int32} {t0_2 : Int32} {t1_0 : Int32} {t1_1 : Int32} {t1_2 : Int32} {t1_3 : Int32} {t1_4 : Int32} {t1_5 : Int32} {t1_6 : Int32} {t2_0 : (Nat → Int32)} {t3_0 : (Nat → Int32)} {t4_0 : (Nat → Int32)} {t5_0 : (Nat → Int32)} {t6_0 : (Nat → Int32)} {t7_0 : (Nat → Int32)} {t8_0 : (Nat → Int32)} {t9_0 : (Nat → Int32)} {t10_0 : (Nat → Int32)} {t11_0 : (Nat → Int32)} {t12_0 : (Nat → Int32)} {t13_0 : (Nat → Int32)} {W : Nat → Int} (hw : wRw t2_0 t3_0 W) (hx3 : 0 ≤ x3.toInt ∧ x3.toInt ≤ 9) (hx4 : 0 ≤ x4.toInt ∧ x4.toInt ≤ 9) (hx5 : 0 ≤ x5.toInt ∧ x5.toInt ≤ 9) (e2 : x2 = 4) : QV_NMw x5 W (if W x4.toNatClampNeg = 0 then none else some ((W x3.toNatClampNeg).tmod (W x4.toNatClampNeg))) (F_NM_whole x2 x3 x4 x5 t0_0 t0_1 t0_2 t1_0 t1_1 t1_2 t1_3 t1_4 t1_5 t1_6 t2_0 t3_0 t4_0 t5_0 t6_0 t7_0 t8_0 t9_0 t10_0 t11_0 t12_0 t13_0) := by
  obtain ⟨W2, hr, hE⟩ := hw
  have hy3 : 0 ≤ x3.toInt ∧ x3.toInt ≤ 10 := ⟨hx3.1, by omega⟩
  have hy4 : 0 ≤ x4.toInt ∧ x4.toInt ≤ 10 := ⟨hx4.1, by omega⟩
  have hy5 : 0 ≤ x5.toInt ∧ x5.toInt ≤ 10 := ⟨hx5.1, by omega⟩
  have hyt : 0 ≤ (10 : Int32).toInt ∧ (10 : Int32).toInt ≤ 10 := ⟨by decide, by decide⟩
  have ea := hE _ (w_ne10 hx3).1
  have eb := hE _ (w_ne10 hx4).1
  unfold F_NM_whole
  have g1 : ¬ (x2 < (0 : Int32)) := (by rw [e2]; decide)
  rw [if_neg g1]
  have g2 : ¬ ((11 : Int32) < x2) := (by rw [e2]; decide)
  rw [if_neg g2]
  have g3 : (((F_NM_no_IZ x3) : Int32) = (0 : Int32)) := (m_no0 hx3)
  rw [if_pos g3]
  have g4 : (((F_NM_no_IZ x4) : Int32) = (0 : Int32)) := (m_no0 hx4)
  rw [if_pos g4]
  have g5 : (((F_NM_no_IZ x5) : Int32) = (0 : Int32)) := (m_no0 hx5)
  rw [if_pos g5]
  unfold F_NM_whole_J38
  have g6 : ((0 : Int32) ≤ (0 : Int32)) := (by decide)
  rw [if_pos g6]
  have g7 : ¬ (x2 = (0 : Int32)) := (by rw [e2]; decide)
  rw [if_neg g7]
  have g8 : ¬ (x2 = (1 : Int32)) := (by rw [e2]; decide)
  rw [if_neg g8]
  have g9 : ¬ (x2 = (2 : Int32)) := (by rw [e2]; decide)
  rw [if_neg g9]
  have g10 : ¬ (x2 = (3 : Int32)) := (by rw [e2]; decide)
  rw [if_neg g10]
  rw [if_pos e2]
  have h11 := V_WR_divide (x2 := x3) (x3 := x4) (x4 := (10 : Int32)) (x5 := x5) (t0_0 := t1_0) (t0_1 := t1_1) (t0_2 := t1_2) (t0_3 := t1_3) (t0_4 := t1_4) (t0_5 := t1_5) (t0_6 := t1_6) (t1_0 := t2_0) (t2_0 := t3_0) (t3_0 := t4_0) (t4_0 := t7_0) (t5_0 := t8_0) (t6_0 := t9_0) (t7_0 := t10_0) hr hy3 hy4 hyt hy5
  generalize F_WR_divide x3 x4 (10 : Int32) x5 t1_0 t1_1 t1_2 t1_3 t1_4 t1_5 t1_6 t2_0 t3_0 t4_0 t7_0 t8_0 t9_0 t10_0 = p365 at h11 ⊢
  rw [ea, eb] at h11
  have hq : wAn x5 W2 (if W x4.toNatClampNeg = 0 then none else some ((W x3.toNatClampNeg).tmod (W x4.toNatClampNeg))) p365.1 p365.2.2.2.2.2.2.2.1 p365.2.2.2.2.2.2.2.2.1 := by
    rcases h11 with ⟨d1, d2, d3⟩ | ⟨d1, d2, d3⟩
    · exact Or.inr ⟨Or.inl (if_pos d1), d2, d3.w⟩
    · exact Or.inl ⟨(W x3.toNatClampNeg).tmod (W x4.toNatClampNeg), if_neg d1, w_tmB (by rw [← ea]; exact hr.lt hy3), d2, w_upB hx5 d3⟩
  unfold F_NM_whole_c160
  exact ⟨wAn_w hE hq, rfl⟩
theorem V_NMw5 {x2 : Int32} {x3 : Int32} {x4 : Int32} {x5 : Int32} {t0_0 : Int32} {t0_1 : Int32} {t0_2 : Int32} {t1_0 : Int32} {t1_1 : Int32} {t1_2 : Int32} {t1_3 : Int32} {t1_4 : Int32} {t1_5 : Int32} {t1_6 : Int32} {t2_0 : (Nat → Int32)} {t3_0 : (Nat → Int32)} {t4_0 : (Nat → Int32)} {t5_0 : (Nat → Int32)} {t6_0 : (Nat → Int32)} {t7_0 : (Nat → Int32)} {t8_0 : (Nat → Int32)} {t9_0 : (Nat → Int32)} {t10_0 : (Nat → Int32)} {t11_0 : (Nat → Int32)} {t12_0 : (Nat → Int32)} {t13_0 : (Nat → Int32)} {W : Nat → Int} (hw : wRw t2_0 t3_0 W) (hx3 : 0 ≤ x3.toInt ∧ x3.toInt ≤ 9) (hx4 : 0 ≤ x4.toInt ∧ x4.toInt ≤ 9) (hx5 : 0 ≤ x5.toInt ∧ x5.toInt ≤ 9) (e2 : x2 = 5) : QV_NMw x5 W (if W x4.toNatClampNeg ≤ 0 then none else some (W x3.toNatClampNeg % W x4.toNatClampNeg)) (F_NM_whole x2 x3 x4 x5 t0_0 t0_1 t0_2 t1_0 t1_1 t1_2 t1_3 t1_4 t1_5 t1_6 t2_0 t3_0 t4_0 t5_0 t6_0 t7_0 t8_0 t9_0 t10_0 t11_0 t12_0 t13_0) := by
  obtain ⟨W2, hr, hE⟩ := hw
  have hy3 : 0 ≤ x3.toInt ∧ x3.toInt ≤ 10 := ⟨hx3.1, by omega⟩
  have hy4 : 0 ≤ x4.toInt ∧ x4.toInt ≤ 10 := ⟨hx4.1, by omega⟩
  have hy5 : 0 ≤ x5.toInt ∧ x5.toInt ≤ 10 := ⟨hx5.1, by omega⟩
  have hyt : 0 ≤ (10 : Int32).toInt ∧ (10 : Int32).toInt ≤ 10 := ⟨by decide, by decide⟩
  have ea := hE _ (w_ne10 hx3).1
  have eb := hE _ (w_ne10 hx4).1
  unfold F_NM_whole
  have g1 : ¬ (x2 < (0 : Int32)) := (by rw [e2]; decide)
  rw [if_neg g1]
  have g2 : ¬ ((11 : Int32) < x2) := (by rw [e2]; decide)
  rw [if_neg g2]
  have g3 : (((F_NM_no_IZ x3) : Int32) = (0 : Int32)) := (m_no0 hx3)
  rw [if_pos g3]
  have g4 : (((F_NM_no_IZ x4) : Int32) = (0 : Int32)) := (m_no0 hx4)
  rw [if_pos g4]
  have g5 : (((F_NM_no_IZ x5) : Int32) = (0 : Int32)) := (m_no0 hx5)
  rw [if_pos g5]
  unfold F_NM_whole_J38
  have g6 : ((0 : Int32) ≤ (0 : Int32)) := (by decide)
  rw [if_pos g6]
  have g7 : ¬ (x2 = (0 : Int32)) := (by rw [e2]; decide)
  rw [if_neg g7]
  have g8 : ¬ (x2 = (1 : Int32)) := (by rw [e2]; decide)
  rw [if_neg g8]
  have g9 : ¬ (x2 = (2 : Int32)) := (by rw [e2]; decide)
  rw [if_neg g9]
  have g10 : ¬ (x2 = (3 : Int32)) := (by rw [e2]; decide)
  rw [if_neg g10]
  have g11 : ¬ (x2 = (4 : Int32)) := (by rw [e2]; decide)
  rw [if_neg g11]
  rw [if_pos e2]
  have h12 := V_WR_modulo (x2 := x3) (x3 := x4) (x4 := x5) (t0_0 := t1_0) (t0_1 := t1_1) (t0_2 := t1_2) (t0_3 := t1_3) (t0_4 := t1_4) (t0_5 := t1_5) (t0_6 := t1_6) (t1_0 := t2_0) (t2_0 := t3_0) (t3_0 := t4_0) (t4_0 := t7_0) (t5_0 := t8_0) (t6_0 := t9_0) (t7_0 := t13_0) hr hy3 hy4 hy5
  generalize F_WR_modulo x3 x4 x5 t1_0 t1_1 t1_2 t1_3 t1_4 t1_5 t1_6 t2_0 t3_0 t4_0 t7_0 t8_0 t9_0 t13_0 = p430 at h12 ⊢
  rw [ea, eb] at h12
  have hq := h12
  unfold F_NM_whole_c174
  exact ⟨wAn_w hE hq, rfl⟩
theorem V_NMw6 {x2 : Int32} {x3 : Int32} {x4 : Int32} {x5 : Int32} {t0_0 : Int32} {t0_1 : Int32} {t0_2 : Int32} {t1_0 : Int32} {t1_1 : Int32} {t1_2 : Int32} {t1_3 : Int32} {t1_4 : Int32} {t1_5 : Int32} {t1_6 : Int32} {t2_0 : (Nat → Int32)} {t3_0 : (Nat → Int32)} {t4_0 : (Nat → Int32)} {t5_0 : (Nat → Int32)} {t6_0 : (Nat → Int32)} {t7_0 : (Nat → Int32)} {t8_0 : (Nat → Int32)} {t9_0 : (Nat → Int32)} {t10_0 : (Nat → Int32)} {t11_0 : (Nat → Int32)} {t12_0 : (Nat → Int32)} {t13_0 : (Nat → Int32)} {W : Nat → Int} (hw : wRw t2_0 t3_0 W) (hx3 : 0 ≤ x3.toInt ∧ x3.toInt ≤ 9) (hx4 : 0 ≤ x4.toInt ∧ x4.toInt ≤ 9) (hx5 : 0 ≤ x5.toInt ∧ x5.toInt ≤ 9) (e2 : x2 = 6) : QV_NMw x5 W (some (Int.gcd (W x3.toNatClampNeg) (W x4.toNatClampNeg) : Int)) (F_NM_whole x2 x3 x4 x5 t0_0 t0_1 t0_2 t1_0 t1_1 t1_2 t1_3 t1_4 t1_5 t1_6 t2_0 t3_0 t4_0 t5_0 t6_0 t7_0 t8_0 t9_0 t10_0 t11_0 t12_0 t13_0) := by
  obtain ⟨W2, hr, hE⟩ := hw
  have hy3 : 0 ≤ x3.toInt ∧ x3.toInt ≤ 10 := ⟨hx3.1, by omega⟩
  have hy4 : 0 ≤ x4.toInt ∧ x4.toInt ≤ 10 := ⟨hx4.1, by omega⟩
  have hy5 : 0 ≤ x5.toInt ∧ x5.toInt ≤ 10 := ⟨hx5.1, by omega⟩
  have hyt : 0 ≤ (10 : Int32).toInt ∧ (10 : Int32).toInt ≤ 10 := ⟨by decide, by decide⟩
  have ea := hE _ (w_ne10 hx3).1
  have eb := hE _ (w_ne10 hx4).1
  unfold F_NM_whole
  have g1 : ¬ (x2 < (0 : Int32)) := (by rw [e2]; decide)
  rw [if_neg g1]
  have g2 : ¬ ((11 : Int32) < x2) := (by rw [e2]; decide)
  rw [if_neg g2]
  have g3 : (((F_NM_no_IZ x3) : Int32) = (0 : Int32)) := (m_no0 hx3)
  rw [if_pos g3]
  have g4 : (((F_NM_no_IZ x4) : Int32) = (0 : Int32)) := (m_no0 hx4)
  rw [if_pos g4]
  have g5 : (((F_NM_no_IZ x5) : Int32) = (0 : Int32)) := (m_no0 hx5)
  rw [if_pos g5]
  unfold F_NM_whole_J38
  have g6 : ((0 : Int32) ≤ (0 : Int32)) := (by decide)
  rw [if_pos g6]
  have g7 : ¬ (x2 = (0 : Int32)) := (by rw [e2]; decide)
  rw [if_neg g7]
  have g8 : ¬ (x2 = (1 : Int32)) := (by rw [e2]; decide)
  rw [if_neg g8]
  have g9 : ¬ (x2 = (2 : Int32)) := (by rw [e2]; decide)
  rw [if_neg g9]
  have g10 : ¬ (x2 = (3 : Int32)) := (by rw [e2]; decide)
  rw [if_neg g10]
  have g11 : ¬ (x2 = (4 : Int32)) := (by rw [e2]; decide)
  rw [if_neg g11]
  have g12 : ¬ (x2 = (5 : Int32)) := (by rw [e2]; decide)
  rw [if_neg g12]
  rw [if_pos e2]
  have h13 := V_WR_common (x2 := x3) (x3 := x4) (x4 := x5) (t0_0 := t1_0) (t0_1 := t1_1) (t0_2 := t1_2) (t0_3 := t1_3) (t0_4 := t1_4) (t0_5 := t1_5) (t0_6 := t1_6) (t1_0 := t2_0) (t2_0 := t3_0) (t3_0 := t4_0) (t4_0 := t7_0) (t5_0 := t8_0) (t6_0 := t9_0) (t7_0 := t10_0) hr hy3 hy4 hy5
  generalize F_WR_common x3 x4 x5 t1_0 t1_1 t1_2 t1_3 t1_4 t1_5 t1_6 t2_0 t3_0 t4_0 t7_0 t8_0 t9_0 t10_0 = p495 at h13 ⊢
  rw [ea, eb] at h13
  have hq := h13
  unfold F_NM_whole_c188
  exact ⟨wAn_w hE hq, rfl⟩
theorem V_NMw7 {x2 : Int32} {x3 : Int32} {x4 : Int32} {x5 : Int32} {t0_0 : Int32} {t0_1 : Int32} {t0_2 : Int32} {t1_0 : Int32} {t1_1 : Int32} {t1_2 : Int32} {t1_3 : Int32} {t1_4 : Int32} {t1_5 : Int32} {t1_6 : Int32} {t2_0 : (Nat → Int32)} {t3_0 : (Nat → Int32)} {t4_0 : (Nat → Int32)} {t5_0 : (Nat → Int32)} {t6_0 : (Nat → Int32)} {t7_0 : (Nat → Int32)} {t8_0 : (Nat → Int32)} {t9_0 : (Nat → Int32)} {t10_0 : (Nat → Int32)} {t11_0 : (Nat → Int32)} {t12_0 : (Nat → Int32)} {t13_0 : (Nat → Int32)} {W : Nat → Int} (hw : wRw t2_0 t3_0 W) (hx3 : 0 ≤ x3.toInt ∧ x3.toInt ≤ 9) (hx4 : 0 ≤ x4.toInt ∧ x4.toInt ≤ 9) (hx5 : 0 ≤ x5.toInt ∧ x5.toInt ≤ 9) (e2 : x2 = 7) : QV_NMw x5 W (if W x4.toNatClampNeg ≤ 0 then none else sInv (W x3.toNatClampNeg) (W x4.toNatClampNeg)) (F_NM_whole x2 x3 x4 x5 t0_0 t0_1 t0_2 t1_0 t1_1 t1_2 t1_3 t1_4 t1_5 t1_6 t2_0 t3_0 t4_0 t5_0 t6_0 t7_0 t8_0 t9_0 t10_0 t11_0 t12_0 t13_0) := by
  obtain ⟨W2, hr, hE⟩ := hw
  have hy3 : 0 ≤ x3.toInt ∧ x3.toInt ≤ 10 := ⟨hx3.1, by omega⟩
  have hy4 : 0 ≤ x4.toInt ∧ x4.toInt ≤ 10 := ⟨hx4.1, by omega⟩
  have hy5 : 0 ≤ x5.toInt ∧ x5.toInt ≤ 10 := ⟨hx5.1, by omega⟩
  have hyt : 0 ≤ (10 : Int32).toInt ∧ (10 : Int32).toInt ≤ 10 := ⟨by decide, by decide⟩
  have ea := hE _ (w_ne10 hx3).1
  have eb := hE _ (w_ne10 hx4).1
  unfold F_NM_whole
  have g1 : ¬ (x2 < (0 : Int32)) := (by rw [e2]; decide)
  rw [if_neg g1]
  have g2 : ¬ ((11 : Int32) < x2) := (by rw [e2]; decide)
  rw [if_neg g2]
  have g3 : (((F_NM_no_IZ x3) : Int32) = (0 : Int32)) := (m_no0 hx3)
  rw [if_pos g3]
  have g4 : (((F_NM_no_IZ x4) : Int32) = (0 : Int32)) := (m_no0 hx4)
  rw [if_pos g4]
  have g5 : (((F_NM_no_IZ x5) : Int32) = (0 : Int32)) := (m_no0 hx5)
  rw [if_pos g5]
  unfold F_NM_whole_J38
  have g6 : ((0 : Int32) ≤ (0 : Int32)) := (by decide)
  rw [if_pos g6]
  have g7 : ¬ (x2 = (0 : Int32)) := (by rw [e2]; decide)
  rw [if_neg g7]
  have g8 : ¬ (x2 = (1 : Int32)) := (by rw [e2]; decide)
  rw [if_neg g8]
  have g9 : ¬ (x2 = (2 : Int32)) := (by rw [e2]; decide)
  rw [if_neg g9]
  have g10 : ¬ (x2 = (3 : Int32)) := (by rw [e2]; decide)
  rw [if_neg g10]
  have g11 : ¬ (x2 = (4 : Int32)) := (by rw [e2]; decide)
  rw [if_neg g11]
  have g12 : ¬ (x2 = (5 : Int32)) := (by rw [e2]; decide)
  rw [if_neg g12]
  have g13 : ¬ (x2 = (6 : Int32)) := (by rw [e2]; decide)
  rw [if_neg g13]
  rw [if_pos e2]
  have h14 := V_WR_inverse (x2 := x3) (x3 := x4) (x4 := x5) (t0_0 := t1_0) (t0_1 := t1_1) (t0_2 := t1_2) (t0_3 := t1_3) (t0_4 := t1_4) (t0_5 := t1_5) (t0_6 := t1_6) (t1_0 := t2_0) (t2_0 := t3_0) (t3_0 := t4_0) (t4_0 := t5_0) (t5_0 := t6_0) (t6_0 := t7_0) (t7_0 := t8_0) (t8_0 := t9_0) (t9_0 := t10_0) (t10_0 := t11_0) (t11_0 := t12_0) (t12_0 := t13_0) hr hy3 hy4 hy5
  generalize F_WR_inverse x3 x4 x5 t1_0 t1_1 t1_2 t1_3 t1_4 t1_5 t1_6 t2_0 t3_0 t4_0 t5_0 t6_0 t7_0 t8_0 t9_0 t10_0 t11_0 t12_0 t13_0 = p570 at h14 ⊢
  rw [ea, eb] at h14
  have hq := h14
  unfold F_NM_whole_c202
  exact ⟨wAn_w hE hq, rfl⟩
theorem V_NMw8 {x2 : Int32} {x3 : Int32} {x4 : Int32} {x5 : Int32} {t0_0 : Int32} {t0_1 : Int32} {t0_2 : Int32} {t1_0 : Int32} {t1_1 : Int32} {t1_2 : Int32} {t1_3 : Int32} {t1_4 : Int32} {t1_5 : Int32} {t1_6 : Int32} {t2_0 : (Nat → Int32)} {t3_0 : (Nat → Int32)} {t4_0 : (Nat → Int32)} {t5_0 : (Nat → Int32)} {t6_0 : (Nat → Int32)} {t7_0 : (Nat → Int32)} {t8_0 : (Nat → Int32)} {t9_0 : (Nat → Int32)} {t10_0 : (Nat → Int32)} {t11_0 : (Nat → Int32)} {t12_0 : (Nat → Int32)} {t13_0 : (Nat → Int32)} {W : Nat → Int} (hw : wRw t2_0 t3_0 W) (hx3 : 0 ≤ x3.toInt ∧ x3.toInt ≤ 9) (hx4 : 0 ≤ x4.toInt ∧ x4.toInt ≤ 9) (hx5 : 0 ≤ x5.toInt ∧ x5.toInt ≤ 9) (e2 : x2 = 8) : QV_NMw x5 W (some (sMix 0 (W x3.toNatClampNeg) (W x4.toNatClampNeg))) (F_NM_whole x2 x3 x4 x5 t0_0 t0_1 t0_2 t1_0 t1_1 t1_2 t1_3 t1_4 t1_5 t1_6 t2_0 t3_0 t4_0 t5_0 t6_0 t7_0 t8_0 t9_0 t10_0 t11_0 t12_0 t13_0) := by
  obtain ⟨W2, hr, hE⟩ := hw
  have hy3 : 0 ≤ x3.toInt ∧ x3.toInt ≤ 10 := ⟨hx3.1, by omega⟩
  have hy4 : 0 ≤ x4.toInt ∧ x4.toInt ≤ 10 := ⟨hx4.1, by omega⟩
  have hy5 : 0 ≤ x5.toInt ∧ x5.toInt ≤ 10 := ⟨hx5.1, by omega⟩
  have hyt : 0 ≤ (10 : Int32).toInt ∧ (10 : Int32).toInt ≤ 10 := ⟨by decide, by decide⟩
  have ea := hE _ (w_ne10 hx3).1
  have eb := hE _ (w_ne10 hx4).1
  unfold F_NM_whole
  have g1 : ¬ (x2 < (0 : Int32)) := (by rw [e2]; decide)
  rw [if_neg g1]
  have g2 : ¬ ((11 : Int32) < x2) := (by rw [e2]; decide)
  rw [if_neg g2]
  have g3 : (((F_NM_no_IZ x3) : Int32) = (0 : Int32)) := (m_no0 hx3)
  rw [if_pos g3]
  have g4 : (((F_NM_no_IZ x4) : Int32) = (0 : Int32)) := (m_no0 hx4)
  rw [if_pos g4]
  have g5 : (((F_NM_no_IZ x5) : Int32) = (0 : Int32)) := (m_no0 hx5)
  rw [if_pos g5]
  unfold F_NM_whole_J38
  have g6 : ((0 : Int32) ≤ (0 : Int32)) := (by decide)
  rw [if_pos g6]
  have g7 : ¬ (x2 = (0 : Int32)) := (by rw [e2]; decide)
  rw [if_neg g7]
  have g8 : ¬ (x2 = (1 : Int32)) := (by rw [e2]; decide)
  rw [if_neg g8]
  have g9 : ¬ (x2 = (2 : Int32)) := (by rw [e2]; decide)
  rw [if_neg g9]
  have g10 : ¬ (x2 = (3 : Int32)) := (by rw [e2]; decide)
  rw [if_neg g10]
  have g11 : ¬ (x2 = (4 : Int32)) := (by rw [e2]; decide)
  rw [if_neg g11]
  have g12 : ¬ (x2 = (5 : Int32)) := (by rw [e2]; decide)
  rw [if_neg g12]
  have g13 : ¬ (x2 = (6 : Int32)) := (by rw [e2]; decide)
  rw [if_neg g13]
  have g14 : ¬ (x2 = (7 : Int32)) := (by rw [e2]; decide)
  rw [if_neg g14]
  have h15 := V_WR_combine (x2 := x3) (x3 := x4) (x4 := x5) (x5 := (x2 - 8 : Int32)) (t0_0 := t1_0) (t0_1 := t1_1) (t0_2 := t1_2) (t0_3 := t1_3) (t0_4 := t1_4) (t0_5 := t1_5) (t0_6 := t1_6) (t1_0 := t2_0) (t2_0 := t3_0) (t3_0 := t4_0) (t4_0 := t5_0) (h := 0) hr hy3 hy4 hy5 (by rw [e2]; rfl) (by decide)
  generalize F_WR_combine x3 x4 x5 (x2 - 8 : Int32) t1_0 t1_1 t1_2 t1_3 t1_4 t1_5 t1_6 t2_0 t3_0 t4_0 t5_0 = p632 at h15 ⊢
  unfold QV_cb at h15
  rw [ea, eb] at h15
  have hq := h15
  unfold F_NM_whole_c220
  exact ⟨wAn_w hE hq, rfl⟩
theorem V_NMw9 {x2 : Int32} {x3 : Int32} {x4 : Int32} {x5 : Int32} {t0_0 : Int32} {t0_1 : Int32} {t0_2 : Int32} {t1_0 : Int32} {t1_1 : Int32} {t1_2 : Int32} {t1_3 : Int32} {t1_4 : Int32} {t1_5 : Int32} {t1_6 : Int32} {t2_0 : (Nat → Int32)} {t3_0 : (Nat → Int32)} {t4_0 : (Nat → Int32)} {t5_0 : (Nat → Int32)} {t6_0 : (Nat → Int32)} {t7_0 : (Nat → Int32)} {t8_0 : (Nat → Int32)} {t9_0 : (Nat → Int32)} {t10_0 : (Nat → Int32)} {t11_0 : (Nat → Int32)} {t12_0 : (Nat → Int32)} {t13_0 : (Nat → Int32)} {W : Nat → Int} (hw : wRw t2_0 t3_0 W) (hx3 : 0 ≤ x3.toInt ∧ x3.toInt ≤ 9) (hx4 : 0 ≤ x4.toInt ∧ x4.toInt ≤ 9) (hx5 : 0 ≤ x5.toInt ∧ x5.toInt ≤ 9) (e2 : x2 = 9) : QV_NMw x5 W (some (sMix 1 (W x3.toNatClampNeg) (W x4.toNatClampNeg))) (F_NM_whole x2 x3 x4 x5 t0_0 t0_1 t0_2 t1_0 t1_1 t1_2 t1_3 t1_4 t1_5 t1_6 t2_0 t3_0 t4_0 t5_0 t6_0 t7_0 t8_0 t9_0 t10_0 t11_0 t12_0 t13_0) := by
  obtain ⟨W2, hr, hE⟩ := hw
  have hy3 : 0 ≤ x3.toInt ∧ x3.toInt ≤ 10 := ⟨hx3.1, by omega⟩
  have hy4 : 0 ≤ x4.toInt ∧ x4.toInt ≤ 10 := ⟨hx4.1, by omega⟩
  have hy5 : 0 ≤ x5.toInt ∧ x5.toInt ≤ 10 := ⟨hx5.1, by omega⟩
  have hyt : 0 ≤ (10 : Int32).toInt ∧ (10 : Int32).toInt ≤ 10 := ⟨by decide, by decide⟩
  have ea := hE _ (w_ne10 hx3).1
  have eb := hE _ (w_ne10 hx4).1
  unfold F_NM_whole
  have g1 : ¬ (x2 < (0 : Int32)) := (by rw [e2]; decide)
  rw [if_neg g1]
  have g2 : ¬ ((11 : Int32) < x2) := (by rw [e2]; decide)
  rw [if_neg g2]
  have g3 : (((F_NM_no_IZ x3) : Int32) = (0 : Int32)) := (m_no0 hx3)
  rw [if_pos g3]
  have g4 : (((F_NM_no_IZ x4) : Int32) = (0 : Int32)) := (m_no0 hx4)
  rw [if_pos g4]
  have g5 : (((F_NM_no_IZ x5) : Int32) = (0 : Int32)) := (m_no0 hx5)
  rw [if_pos g5]
  unfold F_NM_whole_J38
  have g6 : ((0 : Int32) ≤ (0 : Int32)) := (by decide)
  rw [if_pos g6]
  have g7 : ¬ (x2 = (0 : Int32)) := (by rw [e2]; decide)
  rw [if_neg g7]
  have g8 : ¬ (x2 = (1 : Int32)) := (by rw [e2]; decide)
  rw [if_neg g8]
  have g9 : ¬ (x2 = (2 : Int32)) := (by rw [e2]; decide)
  rw [if_neg g9]
  have g10 : ¬ (x2 = (3 : Int32)) := (by rw [e2]; decide)
  rw [if_neg g10]
  have g11 : ¬ (x2 = (4 : Int32)) := (by rw [e2]; decide)
  rw [if_neg g11]
  have g12 : ¬ (x2 = (5 : Int32)) := (by rw [e2]; decide)
  rw [if_neg g12]
  have g13 : ¬ (x2 = (6 : Int32)) := (by rw [e2]; decide)
  rw [if_neg g13]
  have g14 : ¬ (x2 = (7 : Int32)) := (by rw [e2]; decide)
  rw [if_neg g14]
  have h15 := V_WR_combine (x2 := x3) (x3 := x4) (x4 := x5) (x5 := (x2 - 8 : Int32)) (t0_0 := t1_0) (t0_1 := t1_1) (t0_2 := t1_2) (t0_3 := t1_3) (t0_4 := t1_4) (t0_5 := t1_5) (t0_6 := t1_6) (t1_0 := t2_0) (t2_0 := t3_0) (t3_0 := t4_0) (t4_0 := t5_0) (h := 1) hr hy3 hy4 hy5 (by rw [e2]; rfl) (by decide)
  generalize F_WR_combine x3 x4 x5 (x2 - 8 : Int32) t1_0 t1_1 t1_2 t1_3 t1_4 t1_5 t1_6 t2_0 t3_0 t4_0 t5_0 = p632 at h15 ⊢
  unfold QV_cb at h15
  rw [ea, eb] at h15
  have hq := h15
  unfold F_NM_whole_c220
  exact ⟨wAn_w hE hq, rfl⟩
theorem V_NMw10 {x2 : Int32} {x3 : Int32} {x4 : Int32} {x5 : Int32} {t0_0 : Int32} {t0_1 : Int32} {t0_2 : Int32} {t1_0 : Int32} {t1_1 : Int32} {t1_2 : Int32} {t1_3 : Int32} {t1_4 : Int32} {t1_5 : Int32} {t1_6 : Int32} {t2_0 : (Nat → Int32)} {t3_0 : (Nat → Int32)} {t4_0 : (Nat → Int32)} {t5_0 : (Nat → Int32)} {t6_0 : (Nat → Int32)} {t7_0 : (Nat → Int32)} {t8_0 : (Nat → Int32)} {t9_0 : (Nat → Int32)} {t10_0 : (Nat → Int32)} {t11_0 : (Nat → Int32)} {t12_0 : (Nat → Int32)} {t13_0 : (Nat → Int32)} {W : Nat → Int} (hw : wRw t2_0 t3_0 W) (hx3 : 0 ≤ x3.toInt ∧ x3.toInt ≤ 9) (hx4 : 0 ≤ x4.toInt ∧ x4.toInt ≤ 9) (hx5 : 0 ≤ x5.toInt ∧ x5.toInt ≤ 9) (e2 : x2 = 10) : QV_NMw x5 W (some (sMix 2 (W x3.toNatClampNeg) (W x4.toNatClampNeg))) (F_NM_whole x2 x3 x4 x5 t0_0 t0_1 t0_2 t1_0 t1_1 t1_2 t1_3 t1_4 t1_5 t1_6 t2_0 t3_0 t4_0 t5_0 t6_0 t7_0 t8_0 t9_0 t10_0 t11_0 t12_0 t13_0) := by
  obtain ⟨W2, hr, hE⟩ := hw
  have hy3 : 0 ≤ x3.toInt ∧ x3.toInt ≤ 10 := ⟨hx3.1, by omega⟩
  have hy4 : 0 ≤ x4.toInt ∧ x4.toInt ≤ 10 := ⟨hx4.1, by omega⟩
  have hy5 : 0 ≤ x5.toInt ∧ x5.toInt ≤ 10 := ⟨hx5.1, by omega⟩
  have hyt : 0 ≤ (10 : Int32).toInt ∧ (10 : Int32).toInt ≤ 10 := ⟨by decide, by decide⟩
  have ea := hE _ (w_ne10 hx3).1
  have eb := hE _ (w_ne10 hx4).1
  unfold F_NM_whole
  have g1 : ¬ (x2 < (0 : Int32)) := (by rw [e2]; decide)
  rw [if_neg g1]
  have g2 : ¬ ((11 : Int32) < x2) := (by rw [e2]; decide)
  rw [if_neg g2]
  have g3 : (((F_NM_no_IZ x3) : Int32) = (0 : Int32)) := (m_no0 hx3)
  rw [if_pos g3]
  have g4 : (((F_NM_no_IZ x4) : Int32) = (0 : Int32)) := (m_no0 hx4)
  rw [if_pos g4]
  have g5 : (((F_NM_no_IZ x5) : Int32) = (0 : Int32)) := (m_no0 hx5)
  rw [if_pos g5]
  unfold F_NM_whole_J38
  have g6 : ((0 : Int32) ≤ (0 : Int32)) := (by decide)
  rw [if_pos g6]
  have g7 : ¬ (x2 = (0 : Int32)) := (by rw [e2]; decide)
  rw [if_neg g7]
  have g8 : ¬ (x2 = (1 : Int32)) := (by rw [e2]; decide)
  rw [if_neg g8]
  have g9 : ¬ (x2 = (2 : Int32)) := (by rw [e2]; decide)
  rw [if_neg g9]
  have g10 : ¬ (x2 = (3 : Int32)) := (by rw [e2]; decide)
  rw [if_neg g10]
  have g11 : ¬ (x2 = (4 : Int32)) := (by rw [e2]; decide)
  rw [if_neg g11]
  have g12 : ¬ (x2 = (5 : Int32)) := (by rw [e2]; decide)
  rw [if_neg g12]
  have g13 : ¬ (x2 = (6 : Int32)) := (by rw [e2]; decide)
  rw [if_neg g13]
  have g14 : ¬ (x2 = (7 : Int32)) := (by rw [e2]; decide)
  rw [if_neg g14]
  have h15 := V_WR_combine (x2 := x3) (x3 := x4) (x4 := x5) (x5 := (x2 - 8 : Int32)) (t0_0 := t1_0) (t0_1 := t1_1) (t0_2 := t1_2) (t0_3 := t1_3) (t0_4 := t1_4) (t0_5 := t1_5) (t0_6 := t1_6) (t1_0 := t2_0) (t2_0 := t3_0) (t3_0 := t4_0) (t4_0 := t5_0) (h := 2) hr hy3 hy4 hy5 (by rw [e2]; rfl) (by decide)
  generalize F_WR_combine x3 x4 x5 (x2 - 8 : Int32) t1_0 t1_1 t1_2 t1_3 t1_4 t1_5 t1_6 t2_0 t3_0 t4_0 t5_0 = p632 at h15 ⊢
  unfold QV_cb at h15
  rw [ea, eb] at h15
  have hq := h15
  unfold F_NM_whole_c220
  exact ⟨wAn_w hE hq, rfl⟩
theorem V_NMw11 {x2 : Int32} {x3 : Int32} {x4 : Int32} {x5 : Int32} {t0_0 : Int32} {t0_1 : Int32} {t0_2 : Int32} {t1_0 : Int32} {t1_1 : Int32} {t1_2 : Int32} {t1_3 : Int32} {t1_4 : Int32} {t1_5 : Int32} {t1_6 : Int32} {t2_0 : (Nat → Int32)} {t3_0 : (Nat → Int32)} {t4_0 : (Nat → Int32)} {t5_0 : (Nat → Int32)} {t6_0 : (Nat → Int32)} {t7_0 : (Nat → Int32)} {t8_0 : (Nat → Int32)} {t9_0 : (Nat → Int32)} {t10_0 : (Nat → Int32)} {t11_0 : (Nat → Int32)} {t12_0 : (Nat → Int32)} {t13_0 : (Nat → Int32)} {W : Nat → Int} (hw : wRw t2_0 t3_0 W) (hx3 : 0 ≤ x3.toInt ∧ x3.toInt ≤ 9) (hx4 : 0 ≤ x4.toInt ∧ x4.toInt ≤ 9) (hx5 : 0 ≤ x5.toInt ∧ x5.toInt ≤ 9) (e2 : x2 = 11) : QV_NMw x5 W (some (sMix 3 (W x3.toNatClampNeg) (W x4.toNatClampNeg))) (F_NM_whole x2 x3 x4 x5 t0_0 t0_1 t0_2 t1_0 t1_1 t1_2 t1_3 t1_4 t1_5 t1_6 t2_0 t3_0 t4_0 t5_0 t6_0 t7_0 t8_0 t9_0 t10_0 t11_0 t12_0 t13_0) := by
  obtain ⟨W2, hr, hE⟩ := hw
  have hy3 : 0 ≤ x3.toInt ∧ x3.toInt ≤ 10 := ⟨hx3.1, by omega⟩
  have hy4 : 0 ≤ x4.toInt ∧ x4.toInt ≤ 10 := ⟨hx4.1, by omega⟩
  have hy5 : 0 ≤ x5.toInt ∧ x5.toInt ≤ 10 := ⟨hx5.1, by omega⟩
  have hyt : 0 ≤ (10 : Int32).toInt ∧ (10 : Int32).toInt ≤ 10 := ⟨by decide, by decide⟩
  have ea := hE _ (w_ne10 hx3).1
  have eb := hE _ (w_ne10 hx4).1
  unfold F_NM_whole
  have g1 : ¬ (x2 < (0 : Int32)) := (by rw [e2]; decide)
  rw [if_neg g1]
  have g2 : ¬ ((11 : Int32) < x2) := (by rw [e2]; decide)
  rw [if_neg g2]
  have g3 : (((F_NM_no_IZ x3) : Int32) = (0 : Int32)) := (m_no0 hx3)
  rw [if_pos g3]
  have g4 : (((F_NM_no_IZ x4) : Int32) = (0 : Int32)) := (m_no0 hx4)
  rw [if_pos g4]
  have g5 : (((F_NM_no_IZ x5) : Int32) = (0 : Int32)) := (m_no0 hx5)
  rw [if_pos g5]
  unfold F_NM_whole_J38
  have g6 : ((0 : Int32) ≤ (0 : Int32)) := (by decide)
  rw [if_pos g6]
  have g7 : ¬ (x2 = (0 : Int32)) := (by rw [e2]; decide)
  rw [if_neg g7]
  have g8 : ¬ (x2 = (1 : Int32)) := (by rw [e2]; decide)
  rw [if_neg g8]
  have g9 : ¬ (x2 = (2 : Int32)) := (by rw [e2]; decide)
  rw [if_neg g9]
  have g10 : ¬ (x2 = (3 : Int32)) := (by rw [e2]; decide)
  rw [if_neg g10]
  have g11 : ¬ (x2 = (4 : Int32)) := (by rw [e2]; decide)
  rw [if_neg g11]
  have g12 : ¬ (x2 = (5 : Int32)) := (by rw [e2]; decide)
  rw [if_neg g12]
  have g13 : ¬ (x2 = (6 : Int32)) := (by rw [e2]; decide)
  rw [if_neg g13]
  have g14 : ¬ (x2 = (7 : Int32)) := (by rw [e2]; decide)
  rw [if_neg g14]
  have h15 := V_WR_combine (x2 := x3) (x3 := x4) (x4 := x5) (x5 := (x2 - 8 : Int32)) (t0_0 := t1_0) (t0_1 := t1_1) (t0_2 := t1_2) (t0_3 := t1_3) (t0_4 := t1_4) (t0_5 := t1_5) (t0_6 := t1_6) (t1_0 := t2_0) (t2_0 := t3_0) (t3_0 := t4_0) (t4_0 := t5_0) (h := 3) hr hy3 hy4 hy5 (by rw [e2]; rfl) (by decide)
  generalize F_WR_combine x3 x4 x5 (x2 - 8 : Int32) t1_0 t1_1 t1_2 t1_3 t1_4 t1_5 t1_6 t2_0 t3_0 t4_0 t5_0 = p632 at h15 ⊢
  unfold QV_cb at h15
  rw [ea, eb] at h15
  have hq := h15
  unfold F_NM_whole_c220
  exact ⟨wAn_w hE hq, rfl⟩
theorem V_NM_whole {x2 : Int32} {x3 : Int32} {x4 : Int32} {x5 : Int32} {t0_0 : Int32} {t0_1 : Int32} {t0_2 : Int32} {t1_0 : Int32} {t1_1 : Int32} {t1_2 : Int32} {t1_3 : Int32} {t1_4 : Int32} {t1_5 : Int32} {t1_6 : Int32} {t2_0 : (Nat → Int32)} {t3_0 : (Nat → Int32)} {t4_0 : (Nat → Int32)} {t5_0 : (Nat → Int32)} {t6_0 : (Nat → Int32)} {t7_0 : (Nat → Int32)} {t8_0 : (Nat → Int32)} {t9_0 : (Nat → Int32)} {t10_0 : (Nat → Int32)} {t11_0 : (Nat → Int32)} {t12_0 : (Nat → Int32)} {t13_0 : (Nat → Int32)} {W : Nat → Int} (hw : wRw t2_0 t3_0 W) (hx3 : 0 ≤ x3.toInt ∧ x3.toInt ≤ 9) (hx4 : 0 ≤ x4.toInt ∧ x4.toInt ≤ 9) (hx5 : 0 ≤ x5.toInt ∧ x5.toInt ≤ 9) (h2 : 0 ≤ x2.toInt ∧ x2.toInt ≤ 11) : QV_NMw x5 W (sWh x2.toNatClampNeg (W x3.toNatClampNeg) (W x4.toNatClampNeg)) (F_NM_whole x2 x3 x4 x5 t0_0 t0_1 t0_2 t1_0 t1_1 t1_2 t1_3 t1_4 t1_5 t1_6 t2_0 t3_0 t4_0 t5_0 t6_0 t7_0 t8_0 t9_0 t10_0 t11_0 t12_0 t13_0) := by
  rcases q_x12 h2.1 h2.2 with e | e | e | e | e | e | e | e | e | e | e | e <;> (rw [show x2.toNatClampNeg = _ from congrArg Int32.toNatClampNeg e])
  · exact V_NMw0 hw hx3 hx4 hx5 e
  · exact V_NMw1 hw hx3 hx4 hx5 e
  · exact V_NMw2 hw hx3 hx4 hx5 e
  · exact V_NMw3 hw hx3 hx4 hx5 e
  · exact V_NMw4 hw hx3 hx4 hx5 e
  · exact V_NMw5 hw hx3 hx4 hx5 e
  · exact V_NMw6 hw hx3 hx4 hx5 e
  · exact V_NMw7 hw hx3 hx4 hx5 e
  · exact V_NMw8 hw hx3 hx4 hx5 e
  · exact V_NMw9 hw hx3 hx4 hx5 e
  · exact V_NMw10 hw hx3 hx4 hx5 e
  · exact V_NMw11 hw hx3 hx4 hx5 e
