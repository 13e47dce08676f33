/-! values, for whole: the reference's WholeRows: product, division, rests -/
theorem w_no0 {x : Int32} (h : 0 ≤ x.toInt ∧ x.toInt ≤ 10) : F_WR_no x = 0 := by
  have e0 : (0 : Int32).toInt = 0 := rfl
  have e11 : (11 : Int32).toInt = 11 := rfl
  unfold F_WR_no
  rw [if_neg (fun hh => by have := q_ltI hh; omega), if_pos (Int32.lt_iff_toInt_lt.mpr (by omega))]
theorem w_mulE {r1 r2 : Nat → Int32} {v : Int} (h1 : wO r1 528) (h2 : wE (wV r1 528) v) (h3 : ∀ i : Nat, (i : Int) < (264 : Int32).toInt → r2 i = if (i : Int) < 528 then r1 i else 0) (hv : v < 65536 ^ 264) : wK v r2 := by
  have e264 : (264 : Int32).toInt = 264 := rfl
  have h4 : ∀ i, i < 264 → r2 i = r1 i := fun i hi => by rw [h3 i (by omega), if_pos (by omega)]
  have h5 : wV r1 528 = v := h2
  refine ⟨fun i hi => ?_, ?_⟩
  · rw [h4 i hi]
    exact h1 i (by omega)
  · show wV r2 264 = v
    rw [w_ext h4, ← h5]
    exact (w_zer (by omega) (w_top h1 (by rw [h5]; exact hv))).symm
theorem R_mul4V {t0_0 t0_1 t0_2 t0_3 t0_4 t0_5 t0_6 : Int32} {t1_0 t2_0 t3_0 t4_0 : Nat → Int32} {va vb : Int} (ha : wK va t2_0) (hb : wK vb t3_0) (hv : va * vb < 65536 ^ 264) : S_WR_multiplyRows 264 264 264 t0_0 t0_1 t0_2 t0_3 t0_4 t0_5 t0_6 t1_0 t2_0 t3_0 t4_0 ∧ wK (va * vb) (F_WR_multiplyRows 264 264 264 t0_0 t0_1 t0_2 t0_3 t0_4 t0_5 t0_6 t1_0 t2_0 t3_0 t4_0).2 := by
  have h := R_mul (N2 := 264) (N3 := 264) (N4 := 264) (t0_0 := t0_0) (t0_1 := t0_1) (t0_2 := t0_2) (t0_3 := t0_3) (t0_4 := t0_4) (t0_5 := t0_5) (t0_6 := t0_6) (t1_0 := t1_0) (t2_0 := t2_0) (t3_0 := t3_0) (t4_0 := t4_0) (by decide) (by decide) (by decide) ha.1 hb.1
  have ea : wV t2_0 264 = va := ha.2
  have eb : wV t3_0 264 = vb := hb.2
  have h2 := h.2.2.1
  rw [show (264 : Int32).toNatClampNeg = 264 from rfl, ea, eb] at h2
  exact ⟨h.1, w_mulE h.2.1 h2 h.2.2.2 hv⟩
theorem R_mul4aV {t0_0 t0_1 t0_2 t0_3 t0_4 t0_5 t0_6 : Int32} {t1_0 t2_0 t3_0 : Nat → Int32} {va vb : Int} (ha : wK va t2_0) (hb : wK vb t3_0) (hv : va * vb < 65536 ^ 264) : S_WR_multiplyRows_a 264 264 t0_0 t0_1 t0_2 t0_3 t0_4 t0_5 t0_6 t1_0 t2_0 t3_0 ∧ wK (va * vb) (F_WR_multiplyRows_a 264 264 t0_0 t0_1 t0_2 t0_3 t0_4 t0_5 t0_6 t1_0 t2_0 t3_0).2 := by
  have h := R_mul_a (N2 := 264) (N3 := 264) (t0_0 := t0_0) (t0_1 := t0_1) (t0_2 := t0_2) (t0_3 := t0_3) (t0_4 := t0_4) (t0_5 := t0_5) (t0_6 := t0_6) (t1_0 := t1_0) (t2_0 := t2_0) (t3_0 := t3_0) (by decide) (by decide) (by decide) ha.1 hb.1
  have ea : wV t2_0 264 = va := ha.2
  have eb : wV t3_0 264 = vb := hb.2
  have h2 := h.2.2.1
  rw [show (264 : Int32).toNatClampNeg = 264 from rfl, ea, eb] at h2
  exact ⟨h.1, w_mulE h.2.1 h2 h.2.2.2 hv⟩
theorem R_mul4bV {t0_0 t0_1 t0_2 t0_3 t0_4 t0_5 t0_6 : Int32} {t1_0 t2_0 t3_0 : Nat → Int32} {va : Int} (ha : wK va t2_0) (hv : va * va < 65536 ^ 264) : S_WR_multiplyRows_b 264 264 t0_0 t0_1 t0_2 t0_3 t0_4 t0_5 t0_6 t1_0 t2_0 t3_0 ∧ wK (va * va) (F_WR_multiplyRows_b 264 264 t0_0 t0_1 t0_2 t0_3 t0_4 t0_5 t0_6 t1_0 t2_0 t3_0).2 := by
  have h := R_mul_b (N2 := 264) (N4 := 264) (t0_0 := t0_0) (t0_1 := t0_1) (t0_2 := t0_2) (t0_3 := t0_3) (t0_4 := t0_4) (t0_5 := t0_5) (t0_6 := t0_6) (t1_0 := t1_0) (t2_0 := t2_0) (t3_0 := t3_0) (by decide) (by decide) ha.1
  have ea : wV t2_0 264 = va := ha.2
  have h2 := h.2.2.1
  rw [show (264 : Int32).toNatClampNeg = 264 from rfl, ea] at h2
  exact ⟨h.1, w_mulE h.2.1 h2 h.2.2.2 hv⟩
theorem R_div4V {t0_0 t0_1 t0_2 t0_3 t0_4 t0_5 t0_6 : Int32} {t1_0 t2_0 t3_0 t4_0 : Nat → Int32} {va vb : Int} (ha : wK va t3_0) (hb : wK vb t4_0) (h0 : 0 < vb) (h1 : vb < 65536 ^ 263) : S_WR_divideRows 264 264 t0_0 t0_1 t0_2 t0_3 t0_4 t0_5 t0_6 t1_0 t2_0 t3_0 t4_0 ∧ wK (va % vb) (F_WR_divideRows 264 264 t0_0 t0_1 t0_2 t0_3 t0_4 t0_5 t0_6 t1_0 t2_0 t3_0 t4_0).1 ∧ wK (va / vb) (F_WR_divideRows 264 264 t0_0 t0_1 t0_2 t0_3 t0_4 t0_5 t0_6 t1_0 t2_0 t3_0 t4_0).2 := by
  have ea : wV t3_0 264 = va := ha.2
  have eb : wV t4_0 264 = vb := hb.2
  have h := R_div4 (t0_0 := t0_0) (t0_1 := t0_1) (t0_2 := t0_2) (t0_3 := t0_3) (t0_4 := t0_4) (t0_5 := t0_5) (t0_6 := t0_6) (t1_0 := t1_0) (t2_0 := t2_0) (t3_0 := t3_0) (t4_0 := t4_0) ha.1 ⟨hb.1, by show 0 < wV t4_0 264; rw [eb]; exact h0, by show wV t4_0 264 < _; rw [eb]; exact h1⟩
  obtain ⟨hs, o1, o2, e1, e2⟩ := h
  rw [ea, eb] at e1
  rw [eb] at e2
  have e1' : wV (F_WR_divideRows 264 264 t0_0 t0_1 t0_2 t0_3 t0_4 t0_5 t0_6 t1_0 t2_0 t3_0 t4_0).2 264 * vb + wV (F_WR_divideRows 264 264 t0_0 t0_1 t0_2 t0_3 t0_4 t0_5 t0_6 t1_0 t2_0 t3_0 t4_0).1 264 = va := e1
  have e2' : wV (F_WR_divideRows 264 264 t0_0 t0_1 t0_2 t0_3 t0_4 t0_5 t0_6 t1_0 t2_0 t3_0 t4_0).1 264 < vb := e2
  have e3 := w_nn o1
  have u := (Int.ediv_emod_unique (a := va) (b := vb) h0).mpr ⟨by rw [Int.add_comm, Int.mul_comm]; exact e1', e3, e2'⟩
  exact ⟨hs, ⟨o1, u.2.symm⟩, ⟨o2, u.1.symm⟩⟩
theorem w_negM {v m : Int} (hm : 0 < m) : (-v) % m = if v % m = 0 then 0 else m - v % m := by
  have h1 := Int.emod_add_mul_ediv v m
  have h2 := Int.emod_nonneg v (b := m) (by omega)
  have h3 := Int.emod_lt_of_pos v hm
  split
  · rename_i h
    exact ((Int.ediv_emod_unique (q := -(v / m)) hm).mpr ⟨by rw [Int.mul_neg]; omega, by omega, by omega⟩).2
  · exact ((Int.ediv_emod_unique (q := -(v / m) - 1) hm).mpr ⟨by rw [Int.mul_sub, Int.mul_neg, Int.mul_one]; omega, by omega, by omega⟩).2
theorem w_p263 : (65536 : Int) ^ 263 < 65536 ^ 264 := by
  have := w_pw 263
  have := w_pos 263
  omega
theorem w_p128 : (65536 : Int) ^ 128 ≤ 65536 ^ 263 := w_pwle (by omega)
theorem R_reduceV {x2 t0_0 t0_1 t0_2 t0_3 t0_4 t0_5 t0_6 : Int32} {t1_0 t2_0 t3_0 t4_0 t5_0 t6_0 t7_0 : Nat → Int32} {W : Nat → Int} {vm : Int} (hx : 0 ≤ x2.toInt ∧ x2.toInt ≤ 10) (hr : wRv t1_0 t2_0 W) (hm : wK vm t6_0) (h0 : 0 < vm) (h1 : vm < 65536 ^ 263) : wK (W x2.toNatClampNeg % vm) (F_WR_reduce x2 264 t0_0 t0_1 t0_2 t0_3 t0_4 t0_5 t0_6 t1_0 t2_0 t3_0 t4_0 t5_0 t6_0 t7_0).2.2.2 := by
  obtain ⟨hs, hW⟩ := hr.sg hx
  unfold F_WR_reduce
  have ht := (R_take (x2 := x2) (t0_0 := t0_0) (t0_1 := t0_1) (t0_2 := t0_2) (t0_3 := t0_3) (t0_4 := t0_4) (t0_5 := t0_5) (t0_6 := t0_6) (t1_0 := t1_0) (t2_0 := t7_0) hx hr.1).2
  have hd := (R_div4V (t0_0 := t0_0) (t0_1 := t0_1) (t0_2 := t0_2) (t0_3 := t0_3) (t0_4 := t0_4) (t0_5 := t0_5) (t0_6 := t0_6) (t1_0 := t4_0) (t2_0 := t5_0) ht hm h0 h1).2
  generalize F_WR_divideRows 264 264 t0_0 t0_1 t0_2 t0_3 t0_4 t0_5 t0_6 t4_0 t5_0 (F_WR_take x2 264 t0_0 t0_1 t0_2 t0_3 t0_4 t0_5 t0_6 t1_0 t7_0) t6_0 = p53 at hd ⊢
  generalize F_WR_take x2 264 t0_0 t0_1 t0_2 t0_3 t0_4 t0_5 t0_6 t1_0 t7_0 = f39 at ht ⊢
  generalize wVk t1_0 x2 = v at hW hd ht
  have hc := R_copy4 (g := f39) hd.1
  have n0 := Int.emod_nonneg v (b := vm) (by omega)
  have n1 := Int.emod_lt_of_pos v h0
  unfold F_WR_reduce_c12
  rw [hW]
  by_cases c : t2_0 x2.toNatClampNeg = 0
  · rw [if_pos c, c, sgI, if_pos rfl]
    dsimp only
    with_reducible exact hc
  · have c1 : t2_0 x2.toNatClampNeg = 1 := hs.resolve_left c
    rw [if_neg c, c1, sgI, if_neg (by decide), w_negM h0]
    have ec : wV (F_WR_copy 264 264 p53.1 f39) 264 = v % vm := hc.2
    by_cases d : F_WR_size 264 (F_WR_copy 264 264 p53.1 f39) ≤ 0
    · rw [if_pos d]
      have z := w_sz0 hc.1 d
      rw [ec] at z
      rw [if_pos z]
      rw [z] at hc
      dsimp only
      with_reducible exact hc
    · rw [if_neg d]
      have z := w_sz1 hc.1 d
      have z2 : 0 < v % vm := by
        have z3 : 0 < wV (F_WR_copy 264 264 p53.1 f39) 264 := z
        rw [ec] at z3
        exact z3
      rw [if_neg (by omega)]
      have e1 : (1 : Int64).toInt = 1 := rfl
      have hp := w_p263
      have j := (R_join4V (y := 1) (x5 := 1) (σ := -1) rfl (by decide) (R_copy4 (g := t3_0) hm) hc (by rw [e1]; omega) (by rw [e1]; omega)).2
      have j2 := R_copy4 (g := F_WR_copy 264 264 p53.1 f39) j
      rw [e1] at j2
      have e5 : vm + -1 * (1 * (v % vm)) = vm - v % vm := by omega
      rw [e5] at j2
      dsimp only
      with_reducible exact j2
/-! answers -/
theorem w_2048 : (65536 : Int) ^ 128 = ((2 ^ 2048 : Nat) : Int) := by
  rw [w_p16, Int.natCast_pow]
  rfl
def wRw (k m : Nat → Int32) (W : Nat → Int) : Prop := ∃ W', wRv k m W' ∧ ∀ i, i < 10 → W' i = W i
/-- what a call leaves that would put o into register x -/
def wAn (x : Int32) (W : Nat → Int) (o : Option Int) (th : Int32) (k m : Nat → Int32) : Prop := (∃ v : Int, o = some v ∧ v.natAbs < 2 ^ 2048 ∧ th = 0 ∧ wRw k m (updW W x.toNatClampNeg v)) ∨ ((o = none ∨ ∃ v : Int, o = some v ∧ 2 ^ 2048 ≤ v.natAbs) ∧ th = 2 ∧ wRw k m W)
theorem wRv.w {k m : Nat → Int32} {W : Nat → Int} (h : wRv k m W) : wRw k m W := ⟨W, h, fun _ _ => rfl⟩
theorem sgI_abs {b : Int32} {v : Int} : (sgI b v).natAbs = v.natAbs := by
  unfold sgI
  split
  · rfl
  · exact Int.natAbs_neg v
theorem wAn_st {x th fa be : Int32} {W : Nat → Int} {u s : Int} {p : Int32 × Int32 × Int32 × Int32 × Int32 × Int32 × Int32 × (Nat → Int32) × (Nat → Int32)} (h : wSv x W u th fa be p) (e1 : th = 0) (e2 : fa = 2) (hs : sgI be u = s) (h0 : 0 ≤ u) : wAn x W (some s) p.1 p.2.2.2.2.2.2.2.1 p.2.2.2.2.2.2.2.2 := by
  have ha : s.natAbs = u.natAbs := by rw [← hs, sgI_abs]
  obtain ⟨_, h⟩ := h
  have hp := w_2048
  rcases h with ⟨a, b, c⟩ | ⟨a, b, c⟩
  · refine Or.inl ⟨s, rfl, ?_, b.trans e1, ?_⟩
    · rw [hp] at a
      rw [ha]
      generalize 2 ^ 2048 = N at a ⊢
      omega
    · rw [hs] at c
      exact c.w
  · refine Or.inr ⟨Or.inr ⟨s, rfl, ?_⟩, b.trans e2, c.w⟩
    rw [hp] at a
    rw [ha]
    generalize 2 ^ 2048 = N at a ⊢
    omega
