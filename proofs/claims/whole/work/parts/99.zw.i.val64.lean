/-! values, for whole: the reference's modulo and greatest common divisor -/
theorem w_above {x2 t0_0 t0_1 t0_2 t0_3 t0_4 t0_5 t0_6 : Int32} {t1_0 t2_0 : Nat → Int32} {W : Nat → Int} (hx : 0 ≤ x2.toInt ∧ x2.toInt ≤ 10) (hr : wRv t1_0 t2_0 W) : (F_WR_isAbove0 x2 t0_0 t0_1 t0_2 t0_3 t0_4 t0_5 t0_6 t1_0 t2_0 = 0 ∧ W x2.toNatClampNeg ≤ 0) ∨ (¬ F_WR_isAbove0 x2 t0_0 t0_1 t0_2 t0_3 t0_4 t0_5 t0_6 t1_0 t2_0 = 0 ∧ 0 < W x2.toNatClampNeg ∧ W x2.toNatClampNeg = wVk t1_0 x2) := by
  obtain ⟨hm, hW⟩ := hr.sg hx
  have h0 := (wVk_nn hx hr.1).1
  have hz := (R_isZero (x2 := x2) (t0_0 := t0_0) (t0_1 := t0_1) (t0_2 := t0_2) (t0_3 := t0_3) (t0_4 := t0_4) (t0_5 := t0_5) (t0_6 := t0_6) (t1_0 := t1_0) hx hr.1).2
  unfold F_WR_isAbove0
  by_cases c : t2_0 x2.toNatClampNeg = 0
  · rw [if_pos c]
    rw [c, sgI, if_pos rfl] at hW
    by_cases d : F_WR_isZero x2 t0_0 t0_1 t0_2 t0_3 t0_4 t0_5 t0_6 t1_0 = 0
    · rw [if_pos d]
      have h1 : 0 < wVk t1_0 x2 := w_wz d hz
      exact Or.inr ⟨by decide, by omega, hW⟩
    · rw [if_neg d]
      have h1 := w_wz1 d hz
      exact Or.inl ⟨rfl, by omega⟩
  · rw [if_neg c]
    rw [sgI, if_neg c] at hW
    exact Or.inl ⟨rfl, by omega⟩
theorem wAn_ok {x : Int32} {W : Nat → Int} {v : Int} {th : Int32} {k m : Nat → Int32} (h : th = 0) (hr : wRv k m (updW W x.toNatClampNeg v)) (h0 : 0 ≤ v) (h1 : v < 65536 ^ 128) : wAn x W (some v) th k m := by
  refine Or.inl ⟨v, rfl, ?_, h, hr.w⟩
  rw [w_2048] at h1
  generalize 2 ^ 2048 = N at h1 ⊢
  omega
theorem sgI0 {v : Int} : sgI 0 v = v := if_pos rfl
theorem V_mdC {x2 : Int32} {x3 : Int32} {x4 : Int32} {t0_0 : Int32} {t0_1 : Int32} {t0_2 : Int32} {t0_3 : Int32} {t0_4 : Int32} {t0_5 : Int32} {t0_6 : Int32} {t1_0 : (Nat → Int32)} {t2_0 : (Nat → Int32)} {t3_0 : (Nat → Int32)} {t4_0 : (Nat → Int32)} {t5_0 : (Nat → Int32)} {t6_0 : (Nat → Int32)} {t7_0 : (Nat → Int32)} {lx42 : Int32} {f66 : (Nat → Int32)} {p84 : ((Nat → Int32) × (Nat → Int32) × (Nat → Int32) × (Nat → Int32))} {W : Nat → Int} {v : Int} (hr : wRv t1_0 t2_0 W) (hx4 : 0 ≤ x4.toInt ∧ x4.toInt ≤ 10) (hp : wK v p84.2.2.2) (n1 : v < 65536 ^ 128) : (F_WR_modulo_c65 x2 x3 x4 t0_0 t0_1 t0_2 t0_3 t0_4 t0_5 t0_6 t1_0 t2_0 t3_0 t4_0 t5_0 t6_0 t7_0 lx42 f66 p84).1 = lx42 ∧ wRv (F_WR_modulo_c65 x2 x3 x4 t0_0 t0_1 t0_2 t0_3 t0_4 t0_5 t0_6 t1_0 t2_0 t3_0 t4_0 t5_0 t6_0 t7_0 lx42 f66 p84).2.2.2.2.2.2.2.1 (F_WR_modulo_c65 x2 x3 x4 t0_0 t0_1 t0_2 t0_3 t0_4 t0_5 t0_6 t1_0 t2_0 t3_0 t4_0 t5_0 t6_0 t7_0 lx42 f66 p84).2.2.2.2.2.2.2.2.1 (updW W x4.toNatClampNeg v) := by
  unfold F_WR_modulo_c65
  have h1 : wSv x4 W v lx42 t0_1 0 (F_WR_store x4 lx42 t0_1 t0_2 (0 : Int32) t0_4 t0_5 t0_6 t1_0 t2_0 ((F_WR_copy (264 : Int32) (264 : Int32) (p84.2.2.2 : (Nat → Int32)) (p84.1 : (Nat → Int32))) : (Nat → Int32))) := (R_storeV hx4 hr (R_copy4 hp)).2
  generalize (F_WR_store x4 lx42 t0_1 t0_2 (0 : Int32) t0_4 t0_5 t0_6 t1_0 t2_0 ((F_WR_copy (264 : Int32) (264 : Int32) (p84.2.2.2 : (Nat → Int32)) (p84.1 : (Nat → Int32))) : (Nat → Int32))) = p133 at h1 ⊢
  unfold F_WR_modulo_c86
  obtain ⟨_, f1, f2⟩ := w_fit h1 n1
  rw [sgI0] at f2
  exact ⟨f1, f2⟩
theorem V_WR_modulo {x2 : Int32} {x3 : Int32} {x4 : Int32} {t0_0 : Int32} {t0_1 : Int32} {t0_2 : Int32} {t0_3 : Int32} {t0_4 : Int32} {t0_5 : Int32} {t0_6 : Int32} {t1_0 : (Nat → Int32)} {t2_0 : (Nat → Int32)} {t3_0 : (Nat → Int32)} {t4_0 : (Nat → Int32)} {t5_0 : (Nat → Int32)} {t6_0 : (Nat → Int32)} {t7_0 : (Nat → Int32)} {W : Nat → Int} (hr : wRv t1_0 t2_0 W) (hx2 : 0 ≤ x2.toInt ∧ x2.toInt ≤ 10) (hx3 : 0 ≤ x3.toInt ∧ x3.toInt ≤ 10) (hx4 : 0 ≤ x4.toInt ∧ x4.toInt ≤ 10) : wAn x4 W (if W x3.toNatClampNeg ≤ 0 then none else some (W x2.toNatClampNeg % W x3.toNatClampNeg)) (F_WR_modulo x2 x3 x4 t0_0 t0_1 t0_2 t0_3 t0_4 t0_5 t0_6 t1_0 t2_0 t3_0 t4_0 t5_0 t6_0 t7_0).1 (F_WR_modulo x2 x3 x4 t0_0 t0_1 t0_2 t0_3 t0_4 t0_5 t0_6 t1_0 t2_0 t3_0 t4_0 t5_0 t6_0 t7_0).2.2.2.2.2.2.2.1 (F_WR_modulo x2 x3 x4 t0_0 t0_1 t0_2 t0_3 t0_4 t0_5 t0_6 t1_0 t2_0 t3_0 t4_0 t5_0 t6_0 t7_0).2.2.2.2.2.2.2.2.1 := by
  have b1 := (wVk_nn hx3 hr.1).2
  unfold F_WR_modulo
  rw [if_pos (w_no0 hx2), if_pos (w_no0 hx3), if_pos (w_no0 hx4)]
  rcases w_above (t0_0 := t0_0) (t0_1 := t0_1) (t0_2 := t0_2) (t0_3 := t0_3) (t0_4 := t0_4) (t0_5 := t0_5) (t0_6 := t0_6) hx3 hr with ⟨c, h⟩ | ⟨c, h0, hE⟩
  · rw [if_pos c, if_pos h]
    unfold F_WR_modulo_J39
    rw [if_neg (by decide)]
    exact Or.inr ⟨Or.inl rfl, rfl, hr.w⟩
  · rw [if_neg c, if_neg (by omega)]
    unfold F_WR_modulo_J39
    rw [if_pos (by decide)]
    have t2 := (R_take (x2 := x3) (t0_0 := 0) (t0_1 := t0_1) (t0_2 := t0_2) (t0_3 := t0_3) (t0_4 := t0_4) (t0_5 := t0_5) (t0_6 := t0_6) (t1_0 := t1_0) (t2_0 := t7_0) hx3 hr.1).2
    rw [← hE] at t2 b1
    have hp := R_reduceV (t0_0 := 0) (t0_1 := t0_1) (t0_2 := t0_2) (t0_3 := t0_3) (t0_4 := t0_4) (t0_5 := t0_5) (t0_6 := t0_6) (t3_0 := t3_0) (t4_0 := t4_0) (t5_0 := t5_0) (t7_0 := t6_0) hx2 hr t2 h0 (Int.lt_of_lt_of_le b1 w_p128)
    generalize F_WR_reduce x2 264 0 t0_1 t0_2 t0_3 t0_4 t0_5 t0_6 t1_0 t2_0 t3_0 t4_0 t5_0 (F_WR_take x3 264 0 t0_1 t0_2 t0_3 t0_4 t0_5 t0_6 t1_0 t7_0) t6_0 = p84 at hp ⊢
    have n0 := Int.emod_nonneg (W x2.toNatClampNeg) (b := W x3.toNatClampNeg) (by omega)
    have n1 := Int.lt_trans (Int.emod_lt_of_pos (W x2.toNatClampNeg) h0) b1
    have f := V_mdC (x2 := x2) (x3 := x3) (t0_0 := t0_0) (t0_1 := t0_1) (t0_2 := t0_2) (t0_3 := t0_3) (t0_4 := t0_4) (t0_5 := t0_5) (t0_6 := t0_6) (t3_0 := t3_0) (t4_0 := t4_0) (t5_0 := t5_0) (t6_0 := t6_0) (t7_0 := t7_0) (lx42 := 0) (f66 := F_WR_take x3 264 0 t0_1 t0_2 t0_3 t0_4 t0_5 t0_6 t1_0 t7_0) (p84 := p84) hr hx4 hp n1
    exact wAn_ok f.1 f.2 n0 n1
theorem w_gcdS {a b : Int} {g : Nat} (a0 : 0 ≤ a) (h : Nat.gcd a.natAbs b.natAbs = g) : Nat.gcd b.natAbs (a % b).natAbs = g := by
  rw [← Int.tmod_eq_emod_of_nonneg a0]
  exact v_gcdS h
theorem V_cmL {x2 : Int32} {x3 : Int32} {x4 : Int32} {t0_0 : Int32} {t0_1 : Int32} {t0_2 : Int32} {t0_3 : Int32} {t0_4 : Int32} {t0_5 : Int32} {t0_6 : Int32} {t1_0 : (Nat → Int32)} {t2_0 : (Nat → Int32)} {t3_0 : (Nat → Int32)} {t4_0 : (Nat → Int32)} {t5_0 : (Nat → Int32)} {t6_0 : (Nat → Int32)} {t7_0 : (Nat → Int32)} {lx42 : Int32} {W : Nat → Int} {g : Nat} (hr : wRv t1_0 t2_0 W) (hx4 : 0 ≤ x4.toInt ∧ x4.toInt ≤ 10) (h42 : lx42 = 0) : ∀ (n : Nat) (lx79 : (Nat → Int32)) (lx80 : (Nat → Int32)) (lx81 : (Nat → Int32)) (lx82 : (Nat → Int32)), (∃ a b : Int, wK a lx81 ∧ wK b lx82 ∧ a < 65536 ^ 128 ∧ b < 65536 ^ 128 ∧ Nat.gcd a.natAbs b.natAbs = g ∧ wEu n a b) → wAn x4 W (some (g : Int)) (F_WR_common_L56 x2 x3 x4 t0_0 t0_1 t0_2 t0_3 t0_4 t0_5 t0_6 t1_0 t2_0 t3_0 t4_0 t5_0 t6_0 t7_0 lx42 n lx79 lx80 lx81 lx82).1 (F_WR_common_L56 x2 x3 x4 t0_0 t0_1 t0_2 t0_3 t0_4 t0_5 t0_6 t1_0 t2_0 t3_0 t4_0 t5_0 t6_0 t7_0 lx42 n lx79 lx80 lx81 lx82).2.2.2.2.2.2.2.1 (F_WR_common_L56 x2 x3 x4 t0_0 t0_1 t0_2 t0_3 t0_4 t0_5 t0_6 t1_0 t2_0 t3_0 t4_0 t5_0 t6_0 t7_0 lx42 n lx79 lx80 lx81 lx82).2.2.2.2.2.2.2.2.1 := by
  intro n
  induction n with
  | zero =>
    intro lx79 lx80 lx81 lx82 h
    obtain ⟨a, b, _, _, _, _, _, hE⟩ := h
    have := hE.ge
    omega
  | succ n ih =>
    intro lx79 lx80 lx81 lx82 h
    obtain ⟨a, b, ha, hb, ha1, hb1, hg, hE⟩ := h
    have a0 := ha.nn
    have b0 := hb.nn
    have eb : wV lx82 264 = b := hb.2
    rw [F_WR_common_L56.eq_2]
    by_cases c : F_WR_size 264 lx82 ≤ 0
    · rw [if_pos c]
      have z := w_sz0 hb.1 c
      rw [eb] at z
      have e9 := v_gcd0 hg z
      have e8 : (g : Int) = a := by omega
      have h1 : wSv x4 W a lx42 t0_1 0 (F_WR_store x4 lx42 t0_1 t0_2 (0 : Int32) t0_4 t0_5 t0_6 t1_0 t2_0 ((F_WR_copy (264 : Int32) (264 : Int32) lx81 t3_0) : (Nat → Int32))) := (R_storeV hx4 hr (R_copy4 ha)).2
      generalize (F_WR_store x4 lx42 t0_1 t0_2 (0 : Int32) t0_4 t0_5 t0_6 t1_0 t2_0 ((F_WR_copy (264 : Int32) (264 : Int32) lx81 t3_0) : (Nat → Int32))) = p145 at h1 ⊢
      unfold F_WR_common_c121
      obtain ⟨_, f1, f2⟩ := w_fit h1 ha1
      rw [sgI0] at f2
      rw [e8]
      exact wAn_ok (f1.trans h42) f2 a0 ha1
    · rw [if_neg c]
      have z : 0 < wV lx82 264 := w_sz1 hb.1 c
      rw [eb] at z
      have hd : (fun p => wK (a % b) p.1 ∧ wK (a / b) p.2) (F_WR_divideRows (264 : Int32) (264 : Int32) lx42 t0_1 t0_2 t0_3 t0_4 t0_5 t0_6 lx79 lx80 lx81 lx82) := (R_div4V ha hb z (Int.lt_of_lt_of_le hb1 w_p128)).2
      generalize (F_WR_divideRows (264 : Int32) (264 : Int32) lx42 t0_1 t0_2 t0_3 t0_4 t0_5 t0_6 lx79 lx80 lx81 lx82) = p171 at hd ⊢
      unfold F_WR_common_c75
      have n0 := Int.emod_nonneg a (b := b) (by omega)
      have n1 := Int.emod_lt_of_pos a z
      have e1 := Int.emod_add_mul_ediv a b
      refine ih _ _ _ _ ⟨b, a % b, R_copy4 hb, R_copy4 hd.1, hb1, Int.lt_trans n1 hb1, w_gcdS a0 hg, hE.step (q := a / b) a0 z ?_ n0 n1⟩
      rw [Int.mul_comm, Int.add_comm]
      exact e1
theorem w_128_264 : (65536 : Int) ^ 128 < 65536 ^ 264 := Int.lt_of_le_of_lt w_p128 w_p263
theorem V_WR_common {x2 : Int32} {x3 : Int32} {x4 : Int32} {t0_0 : Int32} {t0_1 : Int32} {t0_2 : Int32} {t0_3 : Int32} {t0_4 : Int32} {t0_5 : Int32} {t0_6 : Int32} {t1_0 : (Nat → Int32)} {t2_0 : (Nat → Int32)} {t3_0 : (Nat → Int32)} {t4_0 : (Nat → Int32)} {t5_0 : (Nat → Int32)} {t6_0 : (Nat → Int32)} {t7_0 : (Nat → Int32)} {W : Nat → Int} (hr : wRv t1_0 t2_0 W) (hx2 : 0 ≤ x2.toInt ∧ x2.toInt ≤ 10) (hx3 : 0 ≤ x3.toInt ∧ x3.toInt ≤ 10) (hx4 : 0 ≤ x4.toInt ∧ x4.toInt ≤ 10) : wAn x4 W (some (Int.gcd (W x2.toNatClampNeg) (W x3.toNatClampNeg) : Int)) (F_WR_common x2 x3 x4 t0_0 t0_1 t0_2 t0_3 t0_4 t0_5 t0_6 t1_0 t2_0 t3_0 t4_0 t5_0 t6_0 t7_0).1 (F_WR_common x2 x3 x4 t0_0 t0_1 t0_2 t0_3 t0_4 t0_5 t0_6 t1_0 t2_0 t3_0 t4_0 t5_0 t6_0 t7_0).2.2.2.2.2.2.2.1 (F_WR_common x2 x3 x4 t0_0 t0_1 t0_2 t0_3 t0_4 t0_5 t0_6 t1_0 t2_0 t3_0 t4_0 t5_0 t6_0 t7_0).2.2.2.2.2.2.2.2.1 := by
  obtain ⟨a0, a1⟩ := wVk_nn hx2 hr.1
  obtain ⟨b0, b1⟩ := wVk_nn hx3 hr.1
  have hW2 := (hr.sg hx2).2
  have hW3 := (hr.sg hx3).2
  have t1 := (R_take (x2 := x2) (t0_0 := 0) (t0_1 := t0_1) (t0_2 := t0_2) (t0_3 := t0_3) (t0_4 := t0_4) (t0_5 := t0_5) (t0_6 := t0_6) (t1_0 := t1_0) (t2_0 := t6_0) hx2 hr.1).2
  have t2 := (R_take (x2 := x3) (t0_0 := 0) (t0_1 := t0_1) (t0_2 := t0_2) (t0_3 := t0_3) (t0_4 := t0_4) (t0_5 := t0_5) (t0_6 := t0_6) (t1_0 := t1_0) (t2_0 := t7_0) hx3 hr.1).2
  have hg : Nat.gcd (wVk t1_0 x2).natAbs (wVk t1_0 x3).natAbs = Int.gcd (W x2.toNatClampNeg) (W x3.toNatClampNeg) := by
    show _ = Nat.gcd _ _
    rw [hW2, hW3, sgI_abs, sgI_abs]
  have hp := w_128_264
  unfold F_WR_common
  rw [if_pos (w_no0 hx2), if_pos (w_no0 hx3), if_pos (w_no0 hx4)]
  unfold F_WR_common_J27
  rw [if_pos (by decide)]
  exact V_cmL hr hx4 rfl _ _ _ _ _ ⟨_, _, t1, t2, a1, b1, hg, wEu.start (by decide) a0 (Int.lt_trans a1 hp) b0 (Int.lt_trans b1 hp)⟩
