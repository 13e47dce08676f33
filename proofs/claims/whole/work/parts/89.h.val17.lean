/-! values: more methods of Big -/
theorem v_ushJ {x : Int64} : ((x.toUInt64 >>> ((31 : Int32).toInt64.toUInt64 &&& Int64.toUInt64 63)).toInt64).toInt = ((x.toBitVec.toNat / 2147483648 : Nat) : Int) := by
  have h1 : ((x.toUInt64 >>> ((31 : Int32).toInt64.toUInt64 &&& Int64.toUInt64 63)).toInt64).toBitVec.toNat = x.toBitVec.toNat / 2147483648 := by
    show (x.toUInt64 >>> ((31 : Int32).toInt64.toUInt64 &&& Int64.toUInt64 63)).toBitVec.toNat = _
    rw [UInt64.toBitVec_shiftRight, BitVec.ushiftRight_eq', BitVec.toNat_ushiftRight, t_ushrJ, Nat.shiftRight_eq_div_pow]
    rfl
  have h2 := x.toBitVec.isLt
  exact s_ofL h1 (by omega)
theorem v_abs {x : Int64} : ((if 0 < x then x else -x : Int64).toBitVec.toNat : Int) = (x.toInt.natAbs : Int) := by
  have e0 : (0 : Int64).toInt = 0 := rfl
  by_cases h : 0 < x
  · rw [if_pos h]
    have h1 := Int64.lt_iff_toInt_lt.mp h
    obtain ⟨h2, -, -⟩ := s_nnL (x := x) (by omega)
    omega
  · rw [if_neg h]
    have h1 : x.toInt ≤ 0 := by
      have := Int64.le_iff_toInt_le.mp (Int64.not_lt.mp h)
      omega
    have h2 := Int64.le_toInt x
    have h3 : (-x : Int64).toBitVec.toInt = (-x).toInt := rfl
    have h4 := BitVec.toInt_eq_toNat_bmod (-x : Int64).toBitVec
    have h5 := (-x : Int64).toBitVec.isLt
    rw [h3, Int64.toInt_neg] at h4
    have e : ((2 ^ 64 : Nat) : Int) = 18446744073709551616 := rfl
    rw [Int.bmod_def, Int.bmod_def, e] at h4
    omega
theorem V_setLong {R s neg : Int32} {x : Int64} {f : Nat → Int32} (hR : 3 ≤ R.toInt) :
    ∃ (z : Int32) (h : Nat → Int32), F_Big_setLong R x s neg f = (z, if x < 0 then 1 else 0, h) ∧ z.toInt ≤ 3 ∧ bN z h ∧ bV z h = (x.toInt.natAbs : Int) := by
  have ab := v_abs (x := x)
  unfold F_Big_setLong
  obtain ⟨v, ev⟩ := q_nm (if 0 < x then x else -x : Int64)
  rw [ev] at ab ⊢
  have hu := v.toBitVec.isLt
  obtain ⟨u, eu⟩ := q_nm v.toBitVec.toNat
  rw [eu] at ab hu
  have a1 := v_and31J (x := v)
  have b1 := v_ushJ (x := v)
  have vm : v.toInt % 2147483648 = ((u % 2147483648 : Nat) : Int) := by
    have h4 := BitVec.toInt_eq_toNat_bmod v.toBitVec
    have h3 : v.toBitVec.toInt = v.toInt := rfl
    have e : ((2 ^ 64 : Nat) : Int) = 18446744073709551616 := rfl
    rw [h3, eu, Int.bmod_def, e] at h4
    omega
  rw [eu] at b1
  have c1 : F_Big_clear R s neg = (0, 0) := rfl
  rw [c1]
  have push : ∀ (y k : Int32) (g : Nat → Int32), k.toInt < 3 → F_Big_push R y k 0 g = (k + 1, 0, upd g k.toNatClampNeg y) := fun y k g hk => by
    unfold F_Big_push
    rw [if_neg (fun hh => by have := q_leI hh; omega)]
  show ∃ (z : Int32) (h : Nat → Int32), F_Big_setLong_L12 R x s neg f 4 0 v 0 0 f = _ ∧ _
  rw [F_Big_setLong_L12.eq_2, if_neg (by decide), push _ _ _ (by decide)]
  obtain ⟨l0, e0⟩ := q_nm (v &&& 2147483647).toInt32
  have L0 : (v &&& 2147483647).toInt32.toInt = (v &&& 2147483647).toInt := s_l2i (by omega) (by omega)
  rw [e0, a1.2, vm] at L0
  obtain ⟨v1, e1⟩ := q_nm ((v.toUInt64 >>> ((31 : Int32).toInt64.toUInt64 &&& Int64.toUInt64 63)).toInt64)
  rw [e1] at b1
  rw [e0, e1]
  dsimp only
  have a2 := v_and31 (x := v1) (by omega)
  have b2 := v_shr31 (x := v1) (by omega)
  rw [F_Big_setLong_L12.eq_2, if_neg (by decide), push _ _ _ (by decide)]
  obtain ⟨l1, f1⟩ := q_nm (v1 &&& 2147483647).toInt32
  have L1 : (v1 &&& 2147483647).toInt32.toInt = (v1 &&& 2147483647).toInt := s_l2i (by omega) (by omega)
  rw [f1, a2] at L1
  obtain ⟨v2, e2⟩ := q_nm ((v1.toUInt64 >>> ((31 : Int32).toInt64.toUInt64 &&& Int64.toUInt64 63)).toInt64)
  rw [e2] at b2
  rw [f1, e2]
  dsimp only
  have a3 := v_and31 (x := v2) (by omega)
  rw [F_Big_setLong_L12.eq_2, if_neg (by decide), push _ _ _ (by decide)]
  obtain ⟨l2, f2⟩ := q_nm (v2 &&& 2147483647).toInt32
  have L2 : (v2 &&& 2147483647).toInt32.toInt = (v2 &&& 2147483647).toInt := s_l2i (by omega) (by omega)
  rw [f2, a3] at L2
  rw [f2, F_Big_setLong_L12.eq_2, if_pos (by decide)]
  show ∃ (z : Int32) (h : Nat → Int32), (if (0 : Int32) ≤ lg_cmp x 0 then ((F_Big_trim R 3 0 (upd (upd (upd f 0 l0) 1 l1) 2 l2)).1, 0, upd (upd (upd f 0 l0) 1 l1) 2 l2) else ((F_Big_trim R 3 0 (upd (upd (upd f 0 l0) 1 l1) 2 l2)).1, 1, upd (upd (upd f 0 l0) 1 l1) 2 l2)) = _ ∧ _
  have val : vB (upd (upd (upd f 0 l0) 1 l1) 2 l2) 3 = (u : Int) := by
    show (0 + (upd (upd (upd f 0 l0) 1 l1) 2 l2 0).toInt * 1 + (upd (upd (upd f 0 l0) 1 l1) 2 l2 1).toInt * 2147483648 + (upd (upd (upd f 0 l0) 1 l1) 2 l2 2).toInt * 4611686018427387904) = _
    rw [v_eq, v_ne (show 0 ≠ 2 by decide), v_ne (show 0 ≠ 1 by decide), v_eq, v_ne (show 1 ≠ 2 by decide), v_eq]
    omega
  have ok : okL (upd (upd (upd f 0 l0) 1 l1) 2 l2) 3 := fun i hi => by
    have : i = 0 ∨ i = 1 ∨ i = 2 := by omega
    rcases this with rfl | rfl | rfl
    · rw [v_ne (show 0 ≠ 2 by decide), v_ne (show 0 ≠ 1 by decide), v_eq]; omega
    · rw [v_ne (show 1 ≠ 2 by decide), v_eq]; omega
    · rw [v_eq]; omega
  obtain ⟨h, eh⟩ := q_nm (upd (upd (upd f 0 l0) 1 l1) 2 l2)
  rw [eh] at val ok ⊢
  obtain ⟨z, t1, t2, t3, t4, t5⟩ := V_trimT (R := R) (s := 3) (neg := 0) (f := h) (by decide) (by decide)
  rw [t1]
  have e3 : (3 : Int32).toNatClampNeg = 3 := rfl
  have e3' : (3 : Int32).toInt = 3 := rfl
  refine ⟨z, h, ?_, by omega, ⟨t2, ok.mono (by have := q_clI (i := z) rfl t2; omega), t4⟩, ?_⟩
  · have z0 : (0 : Int64).toInt = 0 := rfl
    by_cases hx : x < 0
    · rw [if_pos hx, if_neg (fun hh => by have h1 := v_lcmpN.mpr (Int64.lt_iff_toInt_lt.mp hx); have := q_leI hh; have := q_ltI h1; omega)]
    · rw [if_neg hx, if_pos]
      apply Int32.not_lt.mp
      intro hh
      exact hx (Int64.lt_iff_toInt_lt.mpr (v_lcmpN.mp hh))
  · unfold bV
    rw [t5, e3, val]
    exact ab
theorem V_addTop {R R2 s neg s2 neg2 top : Int32} {g0 g2 : Nat → Int32} (ht : 0 ≤ top.toInt) (htR : top.toInt ≤ 220) :
    ∀ (n : Nat) (i c : Int32) (f : Nat → Int32), 0 ≤ i.toInt → i.toInt ≤ top.toInt → (top.toInt - i.toInt).toNat < n →
    (F_Big_addSize_L25 R R2 s neg g0 s2 neg2 g2 top n i c f).1.toInt = top.toInt + 1 → (F_Big_addSize_L25 R R2 s neg g0 s2 neg2 g2 top n i c f).2.2 top.toNatClampNeg ≠ 0 := by
  intro n
  induction n with
  | zero => intro i c f h1 h2 h3; omega
  | succ n ih =>
    intro i c f h1 h2 h3
    rw [F_Big_addSize_L25.eq_2]
    by_cases hc : top ≤ i
    · rw [if_pos hc]
      by_cases c0 : c = (0 : Int32)
      · rw [if_pos c0]
        intro h9
        exact absurd h9 (by show ¬ top.toInt = _; omega)
      · rw [if_neg c0]
        unfold F_Big_push
        by_cases hr : R ≤ top
        · rw [if_pos hr]
          intro h9
          exact absurd h9 (by show ¬ top.toInt = _; omega)
        · rw [if_neg hr]
          intro h9
          show upd f top.toNatClampNeg c top.toNatClampNeg ≠ 0
          rw [v_eq]
          exact c0
    · rw [if_neg hc]
      have hc2 := q_nleI hc
      obtain ⟨e1, e2⟩ := v_sc h1 (by omega)
      exact ih (i + 1) _ _ (by omega) (by omega) (by omega)
theorem V_add {R R2 s neg s2 neg2 : Int32} {f g : Nat → Int32} (h : bN s f) (h2 : bN s2 g) (hs : s.toInt < R.toInt) (hs2 : s2.toInt < R.toInt) (hR : R.toInt ≤ 220) :
    ∃ (z : Int32) (k : Nat → Int32), F_Big_addSize R R2 s neg f s2 neg2 g = (z, neg, k) ∧ s.toInt ≤ z.toInt ∧ s2.toInt ≤ z.toInt ∧ (z.toInt ≤ s.toInt + 1 ∨ z.toInt ≤ s2.toInt + 1) ∧ bN z k ∧ bV z k = bV s f + bV s2 g := by
  have e0 : (0 : Int32).toInt = 0 := rfl
  have e01 : (0 : Int32).toNatClampNeg = 0 := rfl
  obtain ⟨m1, m2, m3⟩ := s_max (a := s) (b := s2)
  have hs0 := h.1
  have hs20 := h2.1
  unfold F_Big_addSize
  obtain ⟨t, et⟩ := q_nm (if s < s2 then s2 else s : Int32)
  rw [et] at m1 m2 m3 ⊢
  rw [if_neg (fun hh => by have := q_ltI hh; omega)]
  have eT := q_clI (i := t) rfl (by omega)
  have e1 := q_clI (i := s) rfl hs0
  have e2 := q_clI (i := s2) rfl hs20
  obtain ⟨z, k, r1, r2, r3, r4, r5, r6⟩ := V_addL (R := R) (R2 := R2) (s := s) (neg := neg) (s2 := s2) (neg2 := neg2) (top := t) (g0 := f) (g2 := g) hs0 hs20 (by omega) (by omega) hR h2.2.1 ((220 - (0 : Int32).toInt).toNat + 1) 0 0 f (by omega) (by omega) (by omega) (by omega) (fun j hj => by rw [e01] at hj; exact h.2.1 j (by omega)) (by omega)
  have v := r6 (by omega)
  rw [e0, e01, Int.zero_mul, Int.add_zero, show vB f 0 = 0 from rfl, show vL f s.toNatClampNeg 0 = 0 from rfl, show vL g s2.toNatClampNeg 0 = 0 from rfl, Int.sub_zero, Int.sub_zero, Int.zero_add, vL_ge (by omega), vL_ge (by omega)] at v
  have v' : bV z k = bV s f + bV s2 g := v
  refine ⟨z, k, r1, by omega, by omega, by omega, ⟨by omega, r5, fun hz => ?_⟩, v'⟩
  have ez := q_clI (i := z) rfl (by omega)
  obtain ⟨n, hn⟩ : ∃ n : Nat, z.toInt = (n : Int) + 1 := ⟨(z.toInt - 1).toNat, by omega⟩
  have e9 : z.toNatClampNeg = n + 1 := by omega
  have nn1 := h.nn
  have nn2 := h2.nn
  have ok := r5
  rw [e9] at ok ⊢
  rw [show n + 1 - 1 = n by omega]
  by_cases hzt : z.toInt = t.toInt
  · refine v_nz ok ?_
    unfold bV at v'
    rw [e9] at v'
    rw [v']
    rcases m3 with m3 | m3
    · have := h.ge (n := n) (by omega)
      unfold bV at this nn1 nn2
      omega
    · have := h2.ge (n := n) (by omega)
      unfold bV at this nn1 nn2
      omega
  · have h9 := V_addTop (R := R) (R2 := R2) (s := s) (neg := neg) (s2 := s2) (neg2 := neg2) (top := t) (g0 := f) (g2 := g) (by omega) (by omega) ((220 - (0 : Int32).toInt).toNat + 1) 0 0 f (by omega) (by omega) (by omega)
    rw [r1] at h9
    have h10 := h9 (show z.toInt = t.toInt + 1 by omega)
    rw [show t.toNatClampNeg = n by omega] at h10
    exact h10
theorem V_sub {R R2 s neg s2 neg2 : Int32} {f g : Nat → Int32} (h : bN s f) (h2 : bN s2 g) (hv : bV s2 g ≤ bV s f) (hs : s.toInt ≤ 220) :
    ∃ (z : Int32) (k : Nat → Int32), F_Big_subtractSize R R2 s neg f s2 neg2 g = (z, if neg = 0 then 0 else if z ≤ 0 then 0 else 1, k) ∧ z.toInt ≤ s.toInt ∧ bN z k ∧ bV z k = bV s f - bV s2 g := by
  have e0 : (0 : Int32).toInt = 0 := rfl
  have e01 : (0 : Int32).toNatClampNeg = 0 := rfl
  have hs0 := h.1
  have hs20 := h2.1
  have hsz := h2.szL h hv
  have e1 := q_clI (i := s) rfl hs0
  have e2 := q_clI (i := s2) rfl hs20
  obtain ⟨k, w, r1, r2, r3, r4, r5⟩ := V_subL (R := R) (R2 := R2) (s := s) (neg := neg) (s2 := s2) (neg2 := neg2) (g0 := f) (g2 := g) hs0 hs20 hs h2.2.1 ((220 - (0 : Int32).toInt).toNat + 1) 0 0 f (by omega) (by omega) (by omega) (by omega) h.2.1 (by omega)
  rw [e0, e01, Int.zero_mul, Int.sub_zero, show vL g s2.toNatClampNeg 0 = 0 from rfl, Int.sub_zero, vL_ge (by omega)] at r5
  have k0 := v_nn r2
  have k1 := v_lt r2
  have w0 : w = 0 := by
    apply Int.le_antisymm _ r3
    apply Int.le_of_not_gt
    intro h9
    have : w = 1 := by omega
    rw [this, Int.one_mul] at r5
    unfold bV at hv
    omega
  rw [w0, Int.zero_mul, Int.sub_zero] at r5
  obtain ⟨z, t1, t2, t3, t4, t5⟩ := V_trimT (R := R) (s := s) (neg := neg) (f := k) hs0 (by omega)
  unfold F_Big_subtractSize
  rw [r1, t1]
  refine ⟨z, k, rfl, t3, ⟨t2, r2.mono (by have := q_clI (i := z) rfl t2; omega), t4⟩, ?_⟩
  unfold bV
  rw [t5, r5]
theorem V_sbf {R R2 s neg s2 neg2 : Int32} {f g : Nat → Int32} (h : bN s f) (h2 : bN s2 g) (hv : bV s f ≤ bV s2 g) (hsR : s2.toInt ≤ R.toInt) (hs : s2.toInt ≤ 220) :
    ∃ (z : Int32) (k : Nat → Int32), F_Big_subtractFrom R R2 s neg f s2 neg2 g = (z, if neg = 0 then 0 else if z ≤ 0 then 0 else 1, k) ∧ z.toInt ≤ s2.toInt ∧ bN z k ∧ bV z k = bV s2 g - bV s f := by
  have e0 : (0 : Int32).toInt = 0 := rfl
  have e01 : (0 : Int32).toNatClampNeg = 0 := rfl
  have hs0 := h.1
  have hs20 := h2.1
  have hsz := h.szL h2 hv
  have e1 := q_clI (i := s) rfl hs0
  have e2 := q_clI (i := s2) rfl hs20
  unfold F_Big_subtractFrom
  rw [if_neg (fun hh => by have := q_ltI hh; omega)]
  obtain ⟨k, w, r1, r2, r3, r4, r5⟩ := V_sbfL (R := R) (R2 := R2) (s := s) (neg := neg) (s2 := s2) (neg2 := neg2) (top := s2) (g0 := f) (g2 := g) hs0 hs20 hs h2.2.1 ((220 - (0 : Int32).toInt).toNat + 1) 0 0 f (by omega) (by omega) (by omega) (by omega) (fun j hj => by rw [e01] at hj; exact h.2.1 j (by omega)) (by omega)
  rw [e0, e01, Int.zero_mul, Int.sub_zero, show vB f 0 = 0 from rfl, show vB g 0 = 0 from rfl, show vL f s.toNatClampNeg 0 = 0 from rfl, Int.sub_zero, Int.sub_zero, Int.zero_add, vL_ge (by omega)] at r5
  have k0 := v_nn r2
  have k1 := v_lt r2
  have w0 : w = 0 := by
    apply Int.le_antisymm _ r3
    apply Int.le_of_not_gt
    intro h9
    have : w = 1 := by omega
    rw [this, Int.one_mul] at r5
    unfold bV at hv
    omega
  rw [w0, Int.zero_mul, Int.sub_zero] at r5
  obtain ⟨z, t1, t2, t3, t4, t5⟩ := V_trimT (R := R) (s := s2) (neg := neg) (f := k) hs20 (by omega)
  rw [r1, t1]
  refine ⟨z, k, rfl, t3, ⟨t2, r2.mono (by have := q_clI (i := z) rfl t2; omega), t4⟩, ?_⟩
  unfold bV
  rw [t5, r5]
