/-! values, for whole: the reference's WholeRows: its calls -/
theorem w_s264 {a b : Int} (ha : a < 65536 ^ 128) (hb : b < 65536 ^ 128) : a + b < 65536 ^ 264 := by
  have h1 : (65536 : Int) ^ 129 ≤ 65536 ^ 264 := w_pwle (by omega)
  have h2 := w_pw 128
  have h3 := w_pos 128
  omega
theorem w_m264 {a b : Int} (ha : 0 ≤ a ∧ a < 65536 ^ 128) (hb : 0 ≤ b ∧ b < 65536 ^ 128) : a * b < 65536 ^ 264 := by
  have h1 : (65536 : Int) ^ (128 + 128) ≤ 65536 ^ 264 := w_pwle (by omega)
  rw [Int.pow_add] at h1
  have h3 := w_pos 128
  have h4 : a * b ≤ a * 65536 ^ 128 := Int.mul_le_mul_of_nonneg_left (by omega) ha.1
  have h5 : a * 65536 ^ 128 < 65536 ^ 128 * 65536 ^ 128 := Int.mul_lt_mul_of_pos_right ha.2 h3
  omega
theorem w_addE {ma mb b5 x5 : Int32} {va vb Wa Wb : Int} (ha : Wa = sgI ma va) (hb : Wb = sgI mb vb) (hm : mb = 0 ∨ mb = 1) (h5 : x5 = 0 ∨ x5 = 1) (h : (mb = x5 ∧ b5 = 0) ∨ (¬ mb = x5 ∧ b5 = 1)) : sgI ma va + sgI b5 vb = Wa + (if x5 = 0 then Wb else -Wb) := by
  rw [← ha, hb]
  have z : ¬ (1 : Int32) = 0 := by decide
  congr 1
  unfold sgI
  rcases hm with rfl | rfl <;> rcases h5 with rfl | rfl <;> rcases h with ⟨h1, h2⟩ | ⟨h1, h2⟩ <;> subst h2
  · rw [if_pos rfl, if_pos rfl]
  · exact absurd rfl h1
  · exact absurd h1.symm z
  · rw [if_neg z, if_neg z, if_pos rfl]
  · exact absurd h1 z
  · rw [if_neg z, if_pos rfl]
  · rw [if_pos rfl, if_neg z, if_neg z, Int.neg_neg]
  · exact absurd rfl h1
theorem w_mulS {ma mb be : Int32} {va vb Wa Wb : Int} (ha : Wa = sgI ma va) (hb : Wb = sgI mb vb) (hm : ma = 0 ∨ ma = 1) (hm2 : mb = 0 ∨ mb = 1) (h : (ma = mb ∧ be = 0) ∨ (¬ ma = mb ∧ be = 1)) : sgI be (va * vb) = Wa * Wb := by
  have z : ¬ (1 : Int32) = 0 := by decide
  rw [ha, hb]
  unfold sgI
  rcases hm with rfl | rfl <;> rcases hm2 with rfl | rfl <;> rcases h with ⟨h1, h2⟩ | ⟨h1, h2⟩ <;> subst h2
  · rw [if_pos rfl, if_pos rfl, if_pos rfl]
  · exact absurd rfl h1
  · exact absurd h1.symm z
  · rw [if_neg z, if_pos rfl, if_neg z, Int.mul_neg]
  · exact absurd h1 z
  · rw [if_neg z, if_neg z, if_pos rfl, Int.neg_mul]
  · rw [if_pos rfl, if_neg z, if_neg z, Int.neg_mul_neg]
  · exact absurd rfl h1
def QV_add (W : Nat → Int) (x2 x3 x4 x5 : Int32) (p : Int32 × Int32 × Int32 × Int32 × Int32 × Int32 × Int32 × (Nat → Int32) × (Nat → Int32) × (Nat → Int32) × (Nat → Int32) × (Nat → Int32)) : Prop := wAn x4 W (some (W x2.toNatClampNeg + (if x5 = 0 then W x3.toNatClampNeg else -W x3.toNatClampNeg))) p.1 p.2.2.2.2.2.2.2.1 p.2.2.2.2.2.2.2.2.1
theorem V_WR_add {x2 : Int32} {x3 : Int32} {x4 : Int32} {x5 : Int32} {t0_0 : Int32} {t0_1 : Int32} {t0_2 : Int32} {t0_3 : Int32} {t0_4 : Int32} {t0_5 : Int32} {t0_6 : Int32} {t1_0 : (Nat → Int32)} {t2_0 : (Nat → Int32)} {t3_0 : (Nat → Int32)} {t4_0 : (Nat → Int32)} {t5_0 : (Nat → Int32)} {W : Nat → Int} (hr : wRv t1_0 t2_0 W) (hx2 : 0 ≤ x2.toInt ∧ x2.toInt ≤ 10) (hx3 : 0 ≤ x3.toInt ∧ x3.toInt ≤ 10) (hx4 : 0 ≤ x4.toInt ∧ x4.toInt ≤ 10) (h5 : x5 = 0 ∨ x5 = 1) : QV_add W x2 x3 x4 x5 (F_WR_add x2 x3 x4 x5 t0_0 t0_1 t0_2 t0_3 t0_4 t0_5 t0_6 t1_0 t2_0 t3_0 t4_0 t5_0) := by
  have hrR := hr.R
  obtain ⟨hm2, hW2⟩ := hr.sg hx2
  obtain ⟨hm3, hW3⟩ := hr.sg hx3
  unfold F_WR_add
  have g1 : (((F_WR_no x2) : Int32) = (0 : Int32)) := (w_no0 hx2)
  rw [if_pos g1]
  have g2 : (((F_WR_no x3) : Int32) = (0 : Int32)) := (w_no0 hx3)
  rw [if_pos g2]
  have g3 : (((F_WR_no x4) : Int32) = (0 : Int32)) := (w_no0 hx4)
  rw [if_pos g3]
  unfold F_WR_add_J27
  have g4 : ((0 : Int32) ≤ (0 : Int32)) := (by decide)
  rw [if_pos g4]
  by_cases g5 : (t2_0 x3.toNatClampNeg : Int32) = x5
  ·
    rw [if_pos g5]
    have h6 := R_take  (x2 := x2) (t0_0 := (0 : Int32)) (t0_1 := (2 : Int32)) (t0_2 := t0_2) (t0_3 := t0_3) (t0_4 := t0_4) (t0_5 := t0_5) (t0_6 := t0_6) (t1_0 := t1_0) (t2_0 := t4_0) (by first | with_reducible assumption | decide | omega) (wR.o (by with_reducible assumption))
    have h6k := h6.2.1
    have h6v := h6.2
    have h7 := R_take  (x2 := x3) (t0_0 := (0 : Int32)) (t0_1 := (2 : Int32)) (t0_2 := t0_2) (t0_3 := t0_3) (t0_4 := t0_4) (t0_5 := t0_5) (t0_6 := t0_6) (t1_0 := t1_0) (t2_0 := t5_0) (by first | with_reducible assumption | decide | omega) (wR.o (by with_reducible assumption))
    have h7k := h7.2.1
    have h7v := h7.2
    have h8 := R_sumV  (x3 := (t2_0 x2.toNatClampNeg : Int32)) (x5 := (0 : Int32)) (t0_0 := (0 : Int32)) (t0_1 := (2 : Int32)) (t0_2 := t0_2) (t0_3 := t0_3) (t0_4 := t0_4) (t0_5 := t0_5) (t0_6 := t0_6) (t1_0 := t3_0) (t2_0 := ((F_WR_take x2 (264 : Int32) (0 : Int32) (2 : Int32) t0_2 t0_3 t0_4 t0_5 t0_6 t1_0 t4_0) : (Nat → Int32))) (t3_0 := ((F_WR_take x3 (264 : Int32) (0 : Int32) (2 : Int32) t0_2 t0_3 t0_4 t0_5 t0_6 t1_0 t5_0) : (Nat → Int32))) (by first | with_reducible assumption | decide | omega) (by first | with_reducible assumption | decide | omega) (by first | with_reducible assumption | decide | omega) (by first | with_reducible assumption | decide | omega) (w_s264 (wVk_nn (by with_reducible assumption) hr.1).2 (wVk_nn (by with_reducible assumption) hr.1).2)
    replace h8 := h8.2
    generalize F_WR_sum (264 : Int32) (t2_0 x2.toNatClampNeg : Int32) (264 : Int32) (0 : Int32) (0 : Int32) (2 : Int32) t0_2 t0_3 t0_4 t0_5 t0_6 t3_0 ((F_WR_take x2 (264 : Int32) (0 : Int32) (2 : Int32) t0_2 t0_3 t0_4 t0_5 t0_6 t1_0 t4_0) : (Nat → Int32)) ((F_WR_take x3 (264 : Int32) (0 : Int32) (2 : Int32) t0_2 t0_3 t0_4 t0_5 t0_6 t1_0 t5_0) : (Nat → Int32)) = p114 at *
    obtain ⟨ht, hfa, hbe, u, hu, hsu⟩ := h8
    replace h7 := h7.2
    generalize F_WR_take x3 (264 : Int32) (0 : Int32) (2 : Int32) t0_2 t0_3 t0_4 t0_5 t0_6 t1_0 t5_0 = f68 at *
    replace h6 := h6.2
    generalize F_WR_take x2 (264 : Int32) (0 : Int32) (2 : Int32) t0_2 t0_3 t0_4 t0_5 t0_6 t1_0 t4_0 = f60 at *
    unfold F_WR_add_c92
    have h9 := R_storeV  (x2 := x4) (t0_0 := (p114.1 : Int32)) (t0_1 := (p114.2.1 : Int32)) (t0_2 := (p114.2.2.1 : Int32)) (t0_3 := (p114.2.2.2.1 : Int32)) (t0_4 := (p114.2.2.2.2.1 : Int32)) (t0_5 := (p114.2.2.2.2.2.1 : Int32)) (t0_6 := (p114.2.2.2.2.2.2.1 : Int32)) (t1_0 := t1_0) (t2_0 := t2_0) (t3_0 := (p114.2.2.2.2.2.2.2 : (Nat → Int32))) (by first | with_reducible assumption | decide | omega) hr (by first | with_reducible assumption | decide | omega)
    replace h9 := h9.2
    generalize F_WR_store x4 (p114.1 : Int32) (p114.2.1 : Int32) (p114.2.2.1 : Int32) (p114.2.2.2.1 : Int32) (p114.2.2.2.2.1 : Int32) (p114.2.2.2.2.2.1 : Int32) (p114.2.2.2.2.2.2.1 : Int32) t1_0 t2_0 (p114.2.2.2.2.2.2.2 : (Nat → Int32)) = p158 at *
    have hst := h9
    unfold F_WR_add_c97
    (unfold QV_add; dsimp only; exact wAn_st hst ht hfa (hsu.trans (w_addE hW2 hW3 hm3 h5 (by first | exact Or.inl ⟨by with_reducible assumption, rfl⟩ | exact Or.inr ⟨by with_reducible assumption, rfl⟩))) hu.nn)
  ·
    rw [if_neg g5]
    have h10 := R_take  (x2 := x2) (t0_0 := (0 : Int32)) (t0_1 := (2 : Int32)) (t0_2 := t0_2) (t0_3 := t0_3) (t0_4 := t0_4) (t0_5 := t0_5) (t0_6 := t0_6) (t1_0 := t1_0) (t2_0 := t4_0) (by first | with_reducible assumption | decide | omega) (wR.o (by with_reducible assumption))
    have h10k := h10.2.1
    have h10v := h10.2
    have h11 := R_take  (x2 := x3) (t0_0 := (0 : Int32)) (t0_1 := (2 : Int32)) (t0_2 := t0_2) (t0_3 := t0_3) (t0_4 := t0_4) (t0_5 := t0_5) (t0_6 := t0_6) (t1_0 := t1_0) (t2_0 := t5_0) (by first | with_reducible assumption | decide | omega) (wR.o (by with_reducible assumption))
    have h11k := h11.2.1
    have h11v := h11.2
    have h12 := R_sumV  (x3 := (t2_0 x2.toNatClampNeg : Int32)) (x5 := (1 : Int32)) (t0_0 := (0 : Int32)) (t0_1 := (2 : Int32)) (t0_2 := t0_2) (t0_3 := t0_3) (t0_4 := t0_4) (t0_5 := t0_5) (t0_6 := t0_6) (t1_0 := t3_0) (t2_0 := ((F_WR_take x2 (264 : Int32) (0 : Int32) (2 : Int32) t0_2 t0_3 t0_4 t0_5 t0_6 t1_0 t4_0) : (Nat → Int32))) (t3_0 := ((F_WR_take x3 (264 : Int32) (0 : Int32) (2 : Int32) t0_2 t0_3 t0_4 t0_5 t0_6 t1_0 t5_0) : (Nat → Int32))) (by first | with_reducible assumption | decide | omega) (by first | with_reducible assumption | decide | omega) (by first | with_reducible assumption | decide | omega) (by first | with_reducible assumption | decide | omega) (w_s264 (wVk_nn (by with_reducible assumption) hr.1).2 (wVk_nn (by with_reducible assumption) hr.1).2)
    replace h12 := h12.2
    generalize F_WR_sum (264 : Int32) (t2_0 x2.toNatClampNeg : Int32) (264 : Int32) (1 : Int32) (0 : Int32) (2 : Int32) t0_2 t0_3 t0_4 t0_5 t0_6 t3_0 ((F_WR_take x2 (264 : Int32) (0 : Int32) (2 : Int32) t0_2 t0_3 t0_4 t0_5 t0_6 t1_0 t4_0) : (Nat → Int32)) ((F_WR_take x3 (264 : Int32) (0 : Int32) (2 : Int32) t0_2 t0_3 t0_4 t0_5 t0_6 t1_0 t5_0) : (Nat → Int32)) = p206 at *
    obtain ⟨ht, hfa, hbe, u, hu, hsu⟩ := h12
    replace h11 := h11.2
    generalize F_WR_take x3 (264 : Int32) (0 : Int32) (2 : Int32) t0_2 t0_3 t0_4 t0_5 t0_6 t1_0 t5_0 = f68 at *
    replace h10 := h10.2
    generalize F_WR_take x2 (264 : Int32) (0 : Int32) (2 : Int32) t0_2 t0_3 t0_4 t0_5 t0_6 t1_0 t4_0 = f60 at *
    unfold F_WR_add_c92_4
    have h13 := R_storeV  (x2 := x4) (t0_0 := (p206.1 : Int32)) (t0_1 := (p206.2.1 : Int32)) (t0_2 := (p206.2.2.1 : Int32)) (t0_3 := (p206.2.2.2.1 : Int32)) (t0_4 := (p206.2.2.2.2.1 : Int32)) (t0_5 := (p206.2.2.2.2.2.1 : Int32)) (t0_6 := (p206.2.2.2.2.2.2.1 : Int32)) (t1_0 := t1_0) (t2_0 := t2_0) (t3_0 := (p206.2.2.2.2.2.2.2 : (Nat → Int32))) (by first | with_reducible assumption | decide | omega) hr (by first | with_reducible assumption | decide | omega)
    replace h13 := h13.2
    generalize F_WR_store x4 (p206.1 : Int32) (p206.2.1 : Int32) (p206.2.2.1 : Int32) (p206.2.2.2.1 : Int32) (p206.2.2.2.2.1 : Int32) (p206.2.2.2.2.2.1 : Int32) (p206.2.2.2.2.2.2.1 : Int32) t1_0 t2_0 (p206.2.2.2.2.2.2.2 : (Nat → Int32)) = p250 at *
    have hst := h13
    unfold F_WR_add_c97_5
    (unfold QV_add; dsimp only; exact wAn_st hst ht hfa (hsu.trans (w_addE hW2 hW3 hm3 h5 (by first | exact Or.inl ⟨by with_reducible assumption, rfl⟩ | exact Or.inr ⟨by with_reducible assumption, rfl⟩))) hu.nn)
def QV_multiply (W : Nat → Int) (x2 x3 x4 : Int32) (p : Int32 × Int32 × Int32 × Int32 × Int32 × Int32 × Int32 × (Nat → Int32) × (Nat → Int32) × (Nat → Int32) × (Nat → Int32) × (Nat → Int32) × (Nat → Int32)) : Prop := wAn x4 W (some (W x2.toNatClampNeg * W x3.toNatClampNeg)) p.1 p.2.2.2.2.2.2.2.1 p.2.2.2.2.2.2.2.2.1
theorem V_WR_multiply {x2 : Int32} {x3 : Int32} {x4 : Int32} {t0_0 : Int32} {t0_1 : Int32} {t0_2 : Int32} {t0_3 : Int32} {t0_4 : Int32} {t0_5 : Int32} {t0_6 : Int32} {t1_0 : (Nat → Int32)} {t2_0 : (Nat → Int32)} {t3_0 : (Nat → Int32)} {t4_0 : (Nat → Int32)} {t5_0 : (Nat → Int32)} {t6_0 : (Nat → Int32)} {W : Nat → Int} (hr : wRv t1_0 t2_0 W) (hx2 : 0 ≤ x2.toInt ∧ x2.toInt ≤ 10) (hx3 : 0 ≤ x3.toInt ∧ x3.toInt ≤ 10) (hx4 : 0 ≤ x4.toInt ∧ x4.toInt ≤ 10) : QV_multiply W x2 x3 x4 (F_WR_multiply x2 x3 x4 t0_0 t0_1 t0_2 t0_3 t0_4 t0_5 t0_6 t1_0 t2_0 t3_0 t4_0 t5_0 t6_0) := by
  have hrR := hr.R
  obtain ⟨hm2, hW2⟩ := hr.sg hx2
  obtain ⟨hm3, hW3⟩ := hr.sg hx3
  unfold F_WR_multiply
  have g1 : (((F_WR_no x2) : Int32) = (0 : Int32)) := (w_no0 hx2)
  rw [if_pos g1]
  have g2 : (((F_WR_no x3) : Int32) = (0 : Int32)) := (w_no0 hx3)
  rw [if_pos g2]
  have g3 : (((F_WR_no x4) : Int32) = (0 : Int32)) := (w_no0 hx4)
  rw [if_pos g3]
  unfold F_WR_multiply_J27
  have g4 : ((0 : Int32) ≤ (0 : Int32)) := (by decide)
  rw [if_pos g4]
  have h5 := R_take  (x2 := x2) (t0_0 := (0 : Int32)) (t0_1 := (2 : Int32)) (t0_2 := t0_2) (t0_3 := t0_3) (t0_4 := t0_4) (t0_5 := t0_5) (t0_6 := t0_6) (t1_0 := t1_0) (t2_0 := t5_0) (by first | with_reducible assumption | decide | omega) (wR.o (by with_reducible assumption))
  have h5k := h5.2.1
  have h5v := h5.2
  have h6 := R_take  (x2 := x3) (t0_0 := (0 : Int32)) (t0_1 := (2 : Int32)) (t0_2 := t0_2) (t0_3 := t0_3) (t0_4 := t0_4) (t0_5 := t0_5) (t0_6 := t0_6) (t1_0 := t1_0) (t2_0 := t6_0) (by first | with_reducible assumption | decide | omega) (wR.o (by with_reducible assumption))
  have h6k := h6.2.1
  have h6v := h6.2
  have h7 := R_mul4V  (t0_0 := (0 : Int32)) (t0_1 := (2 : Int32)) (t0_2 := t0_2) (t0_3 := t0_3) (t0_4 := t0_4) (t0_5 := t0_5) (t0_6 := t0_6) (t1_0 := t4_0) (t2_0 := ((F_WR_take x2 (264 : Int32) (0 : Int32) (2 : Int32) t0_2 t0_3 t0_4 t0_5 t0_6 t1_0 t5_0) : (Nat → Int32))) (t3_0 := ((F_WR_take x3 (264 : Int32) (0 : Int32) (2 : Int32) t0_2 t0_3 t0_4 t0_5 t0_6 t1_0 t6_0) : (Nat → Int32))) (t4_0 := t3_0) (by first | with_reducible assumption | decide | omega) (by first | with_reducible assumption | decide | omega) (w_m264 (wVk_nn (by with_reducible assumption) hr.1) (wVk_nn (by with_reducible assumption) hr.1))
  have h7k := h7.2
  replace h7 := h7.2
  generalize F_WR_multiplyRows (264 : Int32) (264 : Int32) (264 : Int32) (0 : Int32) (2 : Int32) t0_2 t0_3 t0_4 t0_5 t0_6 t4_0 ((F_WR_take x2 (264 : Int32) (0 : Int32) (2 : Int32) t0_2 t0_3 t0_4 t0_5 t0_6 t1_0 t5_0) : (Nat → Int32)) ((F_WR_take x3 (264 : Int32) (0 : Int32) (2 : Int32) t0_2 t0_3 t0_4 t0_5 t0_6 t1_0 t6_0) : (Nat → Int32)) t3_0 = p86 at *
  replace h6 := h6.2
  generalize F_WR_take x3 (264 : Int32) (0 : Int32) (2 : Int32) t0_2 t0_3 t0_4 t0_5 t0_6 t1_0 t6_0 = f72 at *
  replace h5 := h5.2
  generalize F_WR_take x2 (264 : Int32) (0 : Int32) (2 : Int32) t0_2 t0_3 t0_4 t0_5 t0_6 t1_0 t5_0 = f64 at *
  unfold F_WR_multiply_c74
  by_cases g8 : (t2_0 x2.toNatClampNeg : Int32) = (t2_0 x3.toNatClampNeg : Int32)
  ·
    rw [if_pos g8]
    have h9 := R_storeV  (x2 := x4) (t0_0 := (0 : Int32)) (t0_1 := (2 : Int32)) (t0_2 := t0_2) (t0_3 := (0 : Int32)) (t0_4 := t0_4) (t0_5 := t0_5) (t0_6 := t0_6) (t1_0 := t1_0) (t2_0 := t2_0) (t3_0 := (p86.2 : (Nat → Int32))) (by first | with_reducible assumption | decide | omega) hr (by first | with_reducible assumption | decide | omega)
    replace h9 := h9.2
    generalize F_WR_store x4 (0 : Int32) (2 : Int32) t0_2 (0 : Int32) t0_4 t0_5 t0_6 t1_0 t2_0 (p86.2 : (Nat → Int32)) = p136 at *
    have hst := h9
    unfold F_WR_multiply_c103
    (unfold QV_multiply; dsimp only; exact wAn_st hst rfl rfl (w_mulS hW2 hW3 hm2 hm3 (by first | exact Or.inl ⟨by with_reducible assumption, rfl⟩ | exact Or.inr ⟨by with_reducible assumption, rfl⟩)) (Int.mul_nonneg (wVk_nn (by with_reducible assumption) hr.1).1 (wVk_nn (by with_reducible assumption) hr.1).1))
  ·
    rw [if_neg g8]
    have h10 := R_storeV  (x2 := x4) (t0_0 := (0 : Int32)) (t0_1 := (2 : Int32)) (t0_2 := t0_2) (t0_3 := (1 : Int32)) (t0_4 := t0_4) (t0_5 := t0_5) (t0_6 := t0_6) (t1_0 := t1_0) (t2_0 := t2_0) (t3_0 := (p86.2 : (Nat → Int32))) (by first | with_reducible assumption | decide | omega) hr (by first | with_reducible assumption | decide | omega)
    replace h10 := h10.2
    generalize F_WR_store x4 (0 : Int32) (2 : Int32) t0_2 (1 : Int32) t0_4 t0_5 t0_6 t1_0 t2_0 (p86.2 : (Nat → Int32)) = p184 at *
    have hst := h10
    unfold F_WR_multiply_c103_4
    (unfold QV_multiply; dsimp only; exact wAn_st hst rfl rfl (w_mulS hW2 hW3 hm2 hm3 (by first | exact Or.inl ⟨by with_reducible assumption, rfl⟩ | exact Or.inr ⟨by with_reducible assumption, rfl⟩)) (Int.mul_nonneg (wVk_nn (by with_reducible assumption) hr.1).1 (wVk_nn (by with_reducible assumption) hr.1).1))
/-! values, for whole: the reference's division and rest -/
theorem w_wz1 {v : Int} {b : Int32} (g : ¬ b = 0) (h : wZ v b) : v = 0 := by
  rcases h with ⟨_, a⟩ | ⟨a, _⟩
  · exact a
  · exact absurd a g
theorem w_fit {x : Int32} {W : Nat → Int} {v : Int} {th fa be : Int32} {p : Int32 × Int32 × Int32 × Int32 × Int32 × Int32 × Int32 × (Nat → Int32) × (Nat → Int32)} (h : wSv x W v th fa be p) (hv : v < 65536 ^ 128) : p.2.1 = fa ∧ p.1 = th ∧ wRv p.2.2.2.2.2.2.2.1 p.2.2.2.2.2.2.2.2 (updW W x.toNatClampNeg (sgI be v)) := by
  obtain ⟨h1, h⟩ := h
  rcases h with ⟨_, b, c⟩ | ⟨a, _⟩
  · exact ⟨h1, b, c⟩
  · omega
theorem w_divS {ma mb be : Int32} {va vb Wa Wb : Int} (ha : Wa = sgI ma va) (hb : Wb = sgI mb vb) (a0 : 0 ≤ va) (b0 : 0 ≤ vb) (hm : ma = 0 ∨ ma = 1) (hm2 : mb = 0 ∨ mb = 1) (h : (ma = mb ∧ be = 0) ∨ (¬ ma = mb ∧ be = 1)) : sgI be (va / vb) = Wa.tdiv Wb ∧ sgI ma (va % vb) = Wa.tmod Wb := by
  have z : ¬ (1 : Int32) = 0 := by decide
  have e1 : va / vb = va.tdiv vb := (Int.tdiv_eq_ediv_of_nonneg a0).symm
  have e2 : va % vb = va.tmod vb := (Int.tmod_eq_emod_of_nonneg a0).symm
  rw [ha, hb, e1, e2]
  unfold sgI
  rcases hm with rfl | rfl <;> rcases hm2 with rfl | rfl <;> rcases h with ⟨h1, h2⟩ | ⟨h1, h2⟩ <;> subst h2
  · rw [if_pos rfl, if_pos rfl, if_pos rfl, if_pos rfl]
    exact ⟨rfl, rfl⟩
  · exact absurd rfl h1
  · exact absurd h1.symm z
  · rw [if_neg z, if_pos rfl, if_neg z, if_pos rfl, Int.tdiv_neg, Int.tmod_neg]
    exact ⟨rfl, rfl⟩
  · exact absurd h1 z
  · rw [if_neg z, if_neg z, if_pos rfl, if_neg z, Int.neg_tdiv, Int.neg_tmod]
    exact ⟨rfl, rfl⟩
  · rw [if_pos rfl, if_neg z, if_neg z, if_neg z, Int.neg_tdiv, Int.tdiv_neg, Int.neg_tmod, Int.tmod_neg, Int.neg_neg]
    exact ⟨rfl, rfl⟩
  · exact absurd rfl h1
theorem V_dvJ {x2 : Int32} {x3 : Int32} {x4 : Int32} {x5 : Int32} {t0_0 : Int32} {t0_1 : Int32} {t0_2 : Int32} {t0_3 : Int32} {t0_4 : Int32} {t0_5 : Int32} {t0_6 : Int32} {t1_0 : (Nat → Int32)} {t2_0 : (Nat → Int32)} {t3_0 : (Nat → Int32)} {t4_0 : (Nat → Int32)} {t5_0 : (Nat → Int32)} {t6_0 : (Nat → Int32)} {t7_0 : (Nat → Int32)} {lx42 : Int32} {a81 : Int32} {f66 : (Nat → Int32)} {f74 : (Nat → Int32)} {lx89 : Int32} {W : Nat → Int} {va vb : Int} (hr : wRv t1_0 t2_0 W) (hx4 : 0 ≤ x4.toInt ∧ x4.toInt ≤ 10) (hx5 : 0 ≤ x5.toInt ∧ x5.toInt ≤ 10) (hf : wK va f66) (hg : wK vb f74) (h0 : 0 < vb) (hva : va < 65536 ^ 128) (hvb : vb < 65536 ^ 128) : (F_WR_divide_J104 x2 x3 x4 x5 t0_0 t0_1 t0_2 t0_3 t0_4 t0_5 t0_6 t1_0 t2_0 t3_0 t4_0 t5_0 t6_0 t7_0 lx42 a81 f66 f74 lx89).1 = lx42 ∧ wRv (F_WR_divide_J104 x2 x3 x4 x5 t0_0 t0_1 t0_2 t0_3 t0_4 t0_5 t0_6 t1_0 t2_0 t3_0 t4_0 t5_0 t6_0 t7_0 lx42 a81 f66 f74 lx89).2.2.2.2.2.2.2.1 (F_WR_divide_J104 x2 x3 x4 x5 t0_0 t0_1 t0_2 t0_3 t0_4 t0_5 t0_6 t1_0 t2_0 t3_0 t4_0 t5_0 t6_0 t7_0 lx42 a81 f66 f74 lx89).2.2.2.2.2.2.2.2.1 (updW (updW W x4.toNatClampNeg (sgI lx89 (va / vb))) x5.toNatClampNeg (sgI a81 (va % vb))) := by
  have a0 := hf.nn
  have b1 : va / vb < 65536 ^ 128 := Int.lt_of_le_of_lt (Int.ediv_le_self vb a0) hva
  have b2 : va % vb < 65536 ^ 128 := Int.lt_trans (Int.emod_lt_of_pos va h0) hvb
  unfold F_WR_divide_J104
  have hd : (fun p => wK (va % vb) p.1 ∧ wK (va / vb) p.2) (F_WR_divideRows (264 : Int32) (264 : Int32) lx42 t0_1 t0_2 t0_3 t0_4 t0_5 t0_6 t4_0 t5_0 f66 f74) := (R_div4V hf hg h0 (Int.lt_of_lt_of_le hvb w_p128)).2
  generalize (F_WR_divideRows (264 : Int32) (264 : Int32) lx42 t0_1 t0_2 t0_3 t0_4 t0_5 t0_6 t4_0 t5_0 f66 f74) = p115 at hd ⊢
  unfold F_WR_divide_c115
  have h1 : wSv x4 W (va / vb) lx42 t0_1 lx89 (F_WR_store x4 lx42 t0_1 t0_2 lx89 t0_4 t0_5 t0_6 t1_0 t2_0 ((F_WR_copy (264 : Int32) (264 : Int32) (p115.2 : (Nat → Int32)) t3_0) : (Nat → Int32))) := (R_storeV hx4 hr (R_copy4 hd.2)).2
  generalize (F_WR_store x4 lx42 t0_1 t0_2 lx89 t0_4 t0_5 t0_6 t1_0 t2_0 ((F_WR_copy (264 : Int32) (264 : Int32) (p115.2 : (Nat → Int32)) t3_0) : (Nat → Int32))) = p162 at h1 ⊢
  unfold F_WR_divide_c137
  obtain ⟨_, f1, f2⟩ := w_fit h1 b1
  have h2 : wSv x5 (updW W x4.toNatClampNeg (sgI lx89 (va / vb))) (va % vb) p162.1 p162.2.1 a81 (F_WR_store x5 (p162.1 : Int32) (p162.2.1 : Int32) (p162.2.2.1 : Int32) a81 (p162.2.2.2.2.1 : Int32) (p162.2.2.2.2.2.1 : Int32) (p162.2.2.2.2.2.2.1 : Int32) (p162.2.2.2.2.2.2.2.1 : (Nat → Int32)) (p162.2.2.2.2.2.2.2.2 : (Nat → Int32)) ((F_WR_copy (264 : Int32) (264 : Int32) (p115.1 : (Nat → Int32)) ((F_WR_copy (264 : Int32) (264 : Int32) (p115.2 : (Nat → Int32)) t3_0) : (Nat → Int32))) : (Nat → Int32))) := (R_storeV hx5 f2 (R_copy4 hd.1)).2
  generalize (F_WR_store x5 (p162.1 : Int32) (p162.2.1 : Int32) (p162.2.2.1 : Int32) a81 (p162.2.2.2.2.1 : Int32) (p162.2.2.2.2.2.1 : Int32) (p162.2.2.2.2.2.2.1 : Int32) (p162.2.2.2.2.2.2.2.1 : (Nat → Int32)) (p162.2.2.2.2.2.2.2.2 : (Nat → Int32)) ((F_WR_copy (264 : Int32) (264 : Int32) (p115.1 : (Nat → Int32)) ((F_WR_copy (264 : Int32) (264 : Int32) (p115.2 : (Nat → Int32)) t3_0) : (Nat → Int32))) : (Nat → Int32))) = p218 at h2 ⊢
  unfold F_WR_divide_c160
  obtain ⟨_, g1, g2⟩ := w_fit h2 b2
  exact ⟨g1.trans f1, g2⟩
theorem V_WR_divide {x2 : Int32} {x3 : Int32} {x4 : Int32} {x5 : Int32} {t0_0 : Int32} {t0_1 : Int32} {t0_2 : Int32} {t0_3 : Int32} {t0_4 : Int32} {t0_5 : Int32} {t0_6 : Int32} {t1_0 : (Nat → Int32)} {t2_0 : (Nat → Int32)} {t3_0 : (Nat → Int32)} {t4_0 : (Nat → Int32)} {t5_0 : (Nat → Int32)} {t6_0 : (Nat → Int32)} {t7_0 : (Nat → Int32)} {W : Nat → Int} (hr : wRv t1_0 t2_0 W) (hx2 : 0 ≤ x2.toInt ∧ x2.toInt ≤ 10) (hx3 : 0 ≤ x3.toInt ∧ x3.toInt ≤ 10) (hx4 : 0 ≤ x4.toInt ∧ x4.toInt ≤ 10) (hx5 : 0 ≤ x5.toInt ∧ x5.toInt ≤ 10) : (W x3.toNatClampNeg = 0 ∧ (F_WR_divide x2 x3 x4 x5 t0_0 t0_1 t0_2 t0_3 t0_4 t0_5 t0_6 t1_0 t2_0 t3_0 t4_0 t5_0 t6_0 t7_0).1 = 2 ∧ wRv (F_WR_divide x2 x3 x4 x5 t0_0 t0_1 t0_2 t0_3 t0_4 t0_5 t0_6 t1_0 t2_0 t3_0 t4_0 t5_0 t6_0 t7_0).2.2.2.2.2.2.2.1 (F_WR_divide x2 x3 x4 x5 t0_0 t0_1 t0_2 t0_3 t0_4 t0_5 t0_6 t1_0 t2_0 t3_0 t4_0 t5_0 t6_0 t7_0).2.2.2.2.2.2.2.2.1 W) ∨ (W x3.toNatClampNeg ≠ 0 ∧ (F_WR_divide x2 x3 x4 x5 t0_0 t0_1 t0_2 t0_3 t0_4 t0_5 t0_6 t1_0 t2_0 t3_0 t4_0 t5_0 t6_0 t7_0).1 = 0 ∧ wRv (F_WR_divide x2 x3 x4 x5 t0_0 t0_1 t0_2 t0_3 t0_4 t0_5 t0_6 t1_0 t2_0 t3_0 t4_0 t5_0 t6_0 t7_0).2.2.2.2.2.2.2.1 (F_WR_divide x2 x3 x4 x5 t0_0 t0_1 t0_2 t0_3 t0_4 t0_5 t0_6 t1_0 t2_0 t3_0 t4_0 t5_0 t6_0 t7_0).2.2.2.2.2.2.2.2.1 (updW (updW W x4.toNatClampNeg ((W x2.toNatClampNeg).tdiv (W x3.toNatClampNeg))) x5.toNatClampNeg ((W x2.toNatClampNeg).tmod (W x3.toNatClampNeg)))) := by
  obtain ⟨hm2, hW2⟩ := hr.sg hx2
  obtain ⟨hm3, hW3⟩ := hr.sg hx3
  obtain ⟨a0, a1⟩ := wVk_nn hx2 hr.1
  obtain ⟨b0, b1⟩ := wVk_nn hx3 hr.1
  unfold F_WR_divide
  rw [if_pos (w_no0 hx2), if_pos (w_no0 hx3), if_pos (w_no0 hx4), if_pos (w_no0 hx5)]
  have hz := (R_isZero (x2 := x3) (t0_0 := t0_0) (t0_1 := t0_1) (t0_2 := t0_2) (t0_3 := t0_3) (t0_4 := t0_4) (t0_5 := t0_5) (t0_6 := t0_6) (t1_0 := t1_0) hx3 hr.1).2
  by_cases c : F_WR_isZero x3 t0_0 t0_1 t0_2 t0_3 t0_4 t0_5 t0_6 t1_0 = 0
  · rw [if_pos c]
    have h0 : 0 < wVk t1_0 x3 := w_wz c hz
    have hne : W x3.toNatClampNeg ≠ 0 := by
      rw [hW3]
      unfold sgI
      split <;> omega
    unfold F_WR_divide_J47
    rw [if_pos (by decide)]
    have t1 := (R_take (x2 := x2) (t0_0 := 0) (t0_1 := t0_1) (t0_2 := t0_2) (t0_3 := t0_3) (t0_4 := t0_4) (t0_5 := t0_5) (t0_6 := t0_6) (t1_0 := t1_0) (t2_0 := t6_0) hx2 hr.1).2
    have t2 := (R_take (x2 := x3) (t0_0 := 0) (t0_1 := t0_1) (t0_2 := t0_2) (t0_3 := t0_3) (t0_4 := t0_4) (t0_5 := t0_5) (t0_6 := t0_6) (t1_0 := t1_0) (t2_0 := t7_0) hx3 hr.1).2
    by_cases d : t2_0 x2.toNatClampNeg = t2_0 x3.toNatClampNeg
    · rw [if_pos d]
      obtain ⟨e1, e2⟩ := w_divS hW2 hW3 a0 b0 hm2 hm3 (Or.inl ⟨d, rfl⟩)
      have J := V_dvJ (x2 := x2) (x3 := x3) (x4 := x4) (x5 := x5) (t0_0 := t0_0) (t0_1 := t0_1) (t0_2 := t0_2) (t0_3 := t0_3) (t0_4 := t0_4) (t0_5 := t0_5) (t0_6 := t0_6) (t3_0 := t3_0) (t4_0 := t4_0) (t5_0 := t5_0) (t6_0 := t6_0) (t7_0 := t7_0) (lx42 := 0) (lx89 := 0) (a81 := t2_0 x2.toNatClampNeg) hr hx4 hx5 t1 t2 h0 a1 b1
      rw [e1, e2] at J
      exact Or.inr ⟨hne, J⟩
    · rw [if_neg d]
      obtain ⟨e1, e2⟩ := w_divS hW2 hW3 a0 b0 hm2 hm3 (Or.inr ⟨d, rfl⟩)
      have J := V_dvJ (x2 := x2) (x3 := x3) (x4 := x4) (x5 := x5) (t0_0 := t0_0) (t0_1 := t0_1) (t0_2 := t0_2) (t0_3 := t0_3) (t0_4 := t0_4) (t0_5 := t0_5) (t0_6 := t0_6) (t3_0 := t3_0) (t4_0 := t4_0) (t5_0 := t5_0) (t6_0 := t6_0) (t7_0 := t7_0) (lx42 := 0) (lx89 := 1) (a81 := t2_0 x2.toNatClampNeg) hr hx4 hx5 t1 t2 h0 a1 b1
      rw [e1, e2] at J
      exact Or.inr ⟨hne, J⟩
  · rw [if_neg c]
    have h0 := w_wz1 c hz
    unfold F_WR_divide_J47
    rw [if_neg (by decide)]
    refine Or.inl ⟨?_, rfl, hr⟩
    rw [hW3, h0]
    unfold sgI
    split <;> rfl
