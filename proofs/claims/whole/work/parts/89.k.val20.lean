/-! values: divideBy -/
theorem bN0 {f : Nat → Int32} : bN 0 f ∧ bV 0 f = 0 := ⟨⟨by decide, fun i hi => absurd hi (by show ¬ i < 0; omega), fun h => absurd h (by decide)⟩, rfl⟩
theorem v_negs {neg z : Int32} (hneg : neg = 0 ∨ neg = 1) (hz : 0 < z.toInt) : (if neg = 0 then 0 else if z ≤ 0 then 0 else 1 : Int32) = neg := by
  have e0 : (0 : Int32).toInt = 0 := rfl
  rcases hneg with rfl | rfl
  · rw [if_pos rfl]
  · rw [if_neg (by decide), if_neg (fun hh => by have := q_leI hh; omega)]
theorem V_dvLimb {R R3 x sa na sq nq : Int32} {fa fq : Nat → Int32} (ha : bN sa fa) (hna : na = 0 ∨ na = 1) (hx : 1 ≤ x.toInt) (hR : 3 ≤ R.toInt) (hR3 : sa.toInt ≤ R3.toInt) (hs : sa.toInt ≤ 220) :
    ∃ (z zn sq' : Int32) (g q : Nat → Int32), F_Big_divideByLimb R x R3 sa na fa sq nq fq = (z, zn, g, sq', 0, q) ∧ bN z g ∧ z.toInt ≤ 3 ∧ bV z g = bV sa fa % x.toInt ∧ zn = (if na = 0 then 0 else if z ≤ 0 then 0 else 1) ∧ bN sq' q ∧ bV sq' q = bV sa fa / x.toInt ∧ sq'.toInt ≤ sa.toInt := by
  obtain ⟨h, c1, c2, c3, c4⟩ := V_copy (R := R3) (R2 := R) (s := sq) (neg := nq) (neg2 := na) (f := fq) ha hR3
  obtain ⟨r, zq, q, d1, d2, d3, d4, d5, d6⟩ := V_div (R := R3) (x := x) (neg := 0) c2 hx hs
  rw [c3] at d5 d6
  rw [if_pos rfl] at d1
  have r0 : 0 ≤ r.toInt := by rw [d6]; exact Int.emod_nonneg _ (by omega)
  have i1 : r.toInt64.toInt = r.toInt := q_i2l rfl
  obtain ⟨z, g, s1, s2, s3, s4⟩ := V_setLong (R := R) (s := sa) (neg := na) (x := r.toInt64) (f := fa) hR
  rw [i1] at s4
  have s5 : bV z g = r.toInt := by omega
  have zp := s3.pos
  have e0 : (0 : Int32).toInt = 0 := rfl
  unfold F_Big_divideByLimb
  rw [c1]
  dsimp only
  rw [d1]
  dsimp only
  rw [s1]
  dsimp only
  by_cases h1 : na = 0
  · rw [if_pos h1]
    exact ⟨z, 0, zq, g, q, rfl, s3, s2, by rw [s5, d6], by rw [if_pos h1], d4, d5, d3⟩
  · rw [if_neg h1]
    by_cases h2 : r = 0
    · rw [if_pos h2]
      refine ⟨z, 0, zq, g, q, rfl, s3, s2, by rw [s5, d6], ?_, d4, d5, d3⟩
      rw [if_neg h1, if_pos]
      apply Int32.le_iff_toInt_le.mpr
      rw [h2, e0] at s5
      omega
    · rw [if_neg h2]
      refine ⟨z, 1, zq, g, q, rfl, s3, s2, by rw [s5, d6], ?_, d4, d5, d3⟩
      have r1 : r.toInt ≠ 0 := fun h9 => h2 (Int32.toInt_inj.mp h9)
      rw [if_neg h1, if_neg]
      intro h9
      have := q_leI h9
      omega
theorem v_lmul {A B K : Int} (h : A ≤ B) (hK : 0 ≤ K) : A * K ≤ B * K := Int.mul_le_mul_of_nonneg_right h hK
theorem V_divideBy {R R2 R3 sa na sb nb sq nq : Int32} {fa fb fq : Nat → Int32} (ha : bN sa fa) (hb : bN sb fb) (hna : na = 0 ∨ na = 1 ∧ 0 < sa.toInt) (hnb : nb = 0 ∨ nb = 1) (hsb : 0 < sb.toInt) (hR : R.toInt ≤ 220) (hR2 : R2.toInt ≤ 220) (hsbR : sb.toInt ≤ R2.toInt) (hsaR : sa.toInt + 2 ≤ R.toInt) (hR3 : sa.toInt + 1 ≤ R3.toInt) :
    ∃ (z zn sq' : Int32) (g g2 q : Nat → Int32), F_Big_divideBy R R2 R3 sa na fa sb nb fb sq nq fq = (z, zn, g, sb, nb, g2, sq', 0, q) ∧ bN z g ∧ bV z g = bV sa fa % bV sb fb ∧ zn = (if na = 0 then 0 else if z ≤ 0 then 0 else 1) ∧ bN sb g2 ∧ bV sb g2 = bV sb fb ∧ bN sq' q ∧ bV sq' q = bV sa fa / bV sb fb := by
  have e0 : (0 : Int32).toInt = 0 := rfl
  have bp := hb.pos.mp hsb
  have anon := ha.nn
  have eb := q_clI (i := sb) rfl hb.1
  have ea := q_clI (i := sa) rfl ha.1
  have cm := V_cmp (R := R) (R2 := R2) (neg := na) (neg2 := nb) ha hb
  have cl : F_Big_clear R3 sq nq = (0, 0) := rfl
  have hna' : na = 0 ∨ na = 1 := hna.imp id (fun h => h.1)
  unfold F_Big_divideBy
  rw [if_neg (fun hh => by rw [hh] at hsb; omega), cl]
  obtain ⟨cv, ecv⟩ := q_nm (F_Big_compareSize R R2 sa na fa sb nb fb)
  rw [ecv] at cm ⊢
  by_cases hc : (0 : Int32) ≤ cv
  · rw [if_pos hc]
    have hc2 := q_leI hc
    have hAB : bV sb fb ≤ bV sa fa := by omega
    have hszl := hb.szL ha hAB
    by_cases h1 : sb = 1
    · rw [if_pos h1]
      subst h1
      have e01 : (0 : Int32).toNatClampNeg = 0 := rfl
      rw [e01]
      have vb : bV 1 fb = (fb 0).toInt := by
        show 0 + (fb 0).toInt * 1 = _
        omega
      obtain ⟨z, zn, sq', g, q, r1, r2, r3, r4, r5, r6, r7, r8⟩ := V_dvLimb (R := R) (R3 := R3) (x := fb 0) (sq := 0) (nq := 0) (fq := fq) ha hna' (by omega) (by omega) (by omega) (by omega)
      rw [r1, vb]
      exact ⟨z, zn, sq', g, fb, q, rfl, r2, r4, r5, hb, vb, r6, r7⟩
    · rw [if_neg h1]
      have h2 : 2 ≤ sb.toInt := by
        have : sb.toInt ≠ (1 : Int32).toInt := fun h9 => h1 (Int32.toInt_inj.mp h9)
        have e1 : (1 : Int32).toInt = 1 := rfl
        omega
      have k1 : (sb - 1 : Int32).toInt = sb.toInt - 1 := q_subI (y := 1) rfl rfl (by omega) (by omega)
      have k2 := q_clI (i := sb - 1) k1 (by omega)
      rw [show (sb - 1 : Int32).toNatClampNeg = sb.toNatClampNeg - 1 by omega]
      have tl : 0 < (fb (sb.toNatClampNeg - 1)).toInt := by
        have h9 := hb.2.1 (sb.toNatClampNeg - 1) (by omega)
        have h10 : (fb (sb.toNatClampNeg - 1)).toInt ≠ 0 := fun h => hb.2.2 hsb (Int32.toInt_inj.mp h)
        omega
      obtain ⟨b, b1, b2, b3, b4, b5⟩ := v_bits tl
      have k3 : (31 - F_Big_bitsOf (fb (sb.toNatClampNeg - 1)) : Int32).toInt = ((31 - b : Nat) : Int) := by
        have := q_subI (a := 31) (x := 31) (y := (b : Int)) rfl b3 (by omega) (by omega)
        rw [this]
        omega
      obtain ⟨sh, esh⟩ := q_nm (31 - F_Big_bitsOf (fb (sb.toNatClampNeg - 1)) : Int32)
      rw [esh] at k3 ⊢
      obtain ⟨gd, d1, d2, d3, d4⟩ := V_shlD (R := R2) (neg := nb) hb hsb hsbR hR2 b1 b2 k3 b4 b5 hnb
      have K0 := v_p2 (31 - b)
      have sa0 : 0 < sa.toInt := by omega
      have sh1 : ∃ (z1 : Int32) (g1 : Nat → Int32), F_Big_shiftLeft R sh sa na fa = (z1, na, g1) ∧ z1.toInt ≤ sa.toInt + 1 ∧ bN z1 g1 ∧ bV z1 g1 = bV sa fa * 2 ^ (31 - b) := by
        by_cases hb31 : b = 31
        · subst hb31
          refine ⟨sa, fa, ?_, by omega, ha, ?_⟩
          · unfold F_Big_shiftLeft
            rw [if_pos (Int32.le_iff_toInt_le.mpr (by omega))]
          · rw [show (31 - 31 : Nat) = 0 from rfl, show (2 : Int) ^ 0 = 1 from rfl, Int.mul_one]
        · obtain ⟨z1, g1, r1, r2, r3, r4⟩ := V_shlB (R := R) (x := sh) (neg := na) ha (by omega) sa0 hR (by omega)
          have ex := q_clI (i := sh) rfl (by omega)
          rw [show sh.toNatClampNeg = 31 - b by omega] at r4
          have zp : 0 < z1.toInt := by
            apply r3.pos.mpr
            rw [r4]
            exact Int.mul_pos (by omega) K0
          rw [v_negs hna' zp] at r1
          exact ⟨z1, g1, r1, by omega, r3, r4⟩
      obtain ⟨z1, g1, s1, s2, s3, s4⟩ := sh1
      have z1n := s3.1
      have pu : F_Big_push R 0 z1 na g1 = (z1 + 1, na, upd g1 z1.toNatClampNeg 0) := by
        unfold F_Big_push
        rw [if_neg (fun hh => by have := q_leI hh; omega)]
      rw [d1, s1]
      dsimp only
      rw [pu]
      dsimp only
      have hz1 : sb.toInt ≤ z1.toInt := by
        refine d2.szL s3 ?_
        rw [d3, s4]
        exact v_lmul hAB (Int.le_of_lt K0)
      obtain ⟨c1, c2⟩ := v_sc z1n (by omega)
      have p1 : (z1 - sb : Int32).toInt = z1.toInt - sb.toInt := q_subI rfl rfl (by omega) (by omega)
      have p2 : (z1 - sb + 1 : Int32).toInt = z1.toInt - sb.toInt + 1 := q_addI (y := 1) p1 rfl (by omega) (by omega)
      obtain ⟨pl, epl⟩ := q_nm (z1 - sb + 1 : Int32)
      rw [epl] at p2 ⊢
      have p3 : (pl - 1 : Int32).toInt = pl.toInt - 1 := q_subI (y := 1) rfl rfl (by omega) (by omega)
      obtain ⟨pm, epm⟩ := q_nm (pl - 1 : Int32)
      rw [epm] at p3 ⊢
      obtain ⟨s, es⟩ := q_nm (z1 + 1 : Int32)
      rw [es] at c1 c2 ⊢
      have ez := q_clI (i := z1) rfl z1n
      have epn := q_clI (i := pl) rfl (by omega)
      have okx : okL (upd g1 z1.toNatClampNeg 0) s.toNatClampNeg := by
        rw [c2]
        exact okL_push s3.2.1 (by decide)
      have vx : vB (upd g1 z1.toNatClampNeg 0) s.toNatClampNeg = bV z1 g1 := by
        rw [c2, v_upd_in, e0, Int.zero_mul, Int.add_zero]
        rfl
      have hstart : vB (fun j => upd g1 z1.toNatClampNeg 0 (pl.toNatClampNeg + j)) (s.toNatClampNeg - pl.toNatClampNeg) < vB gd sb.toNatClampNeg := by
        obtain ⟨n, hn⟩ : ∃ n : Nat, sb.toNatClampNeg = n + 1 := ⟨sb.toNatClampNeg - 1, by omega⟩
        have hge := d2.ge (n := n) (by omega)
        have hsn : s.toNatClampNeg - pl.toNatClampNeg = n + 1 := by omega
        have htop : pl.toNatClampNeg + n = z1.toNatClampNeg := by omega
        have hok : okL (fun j => upd g1 z1.toNatClampNeg 0 (pl.toNatClampNeg + j)) n := fun j hj => okx _ (by omega)
        have hlt := v_lt hok
        rw [hsn]
        refine Int.lt_of_lt_of_le ?_ hge
        show vB (fun j => upd g1 z1.toNatClampNeg 0 (pl.toNatClampNeg + j)) n + (upd g1 z1.toNatClampNeg 0 (pl.toNatClampNeg + n)).toInt * 2147483648 ^ n < _
        rw [htop, v_eq, e0, Int.zero_mul, Int.add_zero]
        exact hlt
      obtain ⟨h, qh, r1, r2, r3, r4, r5, r6⟩ := V_dvL (R := R) (R2 := R2) (R3 := R3) (a0 := sa) (a1 := na) (b0 := sb) (b1 := nb) (c0 := sq) (c1 := nq) (pl := pl) (sh := sh) (s := s) (sn := na) (nd := sb) (dn := nb) (y0 := 0) (qn := 0) (a2 := fa) (b2 := fb) (c2 := fq) (d := gd) h2 (by omega) (by omega) hR d2.2.1 d4 (by omega) ((pm.toInt - (-220)).toNat + 1) pl.toNatClampNeg pm (upd g1 z1.toNatClampNeg 0) fq (by omega) (by omega) (by omega) okx hstart
      rw [r1]
      unfold D_res
      obtain ⟨z2, t1, t2, t3, t4, t5⟩ := V_trimT (R := R) (s := s) (neg := na) (f := h) (by omega) (by omega)
      obtain ⟨zq, u1, u2, u3, u4, u5⟩ := V_trimT (R := R3) (s := pl) (neg := 0) (f := qh) (by omega) (by omega)
      rw [if_neg (show ¬ R3 < pl from fun hh => by have := q_ltI hh; omega), t1, u1]
      dsimp only
      have hd : vB gd sb.toNatClampNeg = bV sb fb * 2 ^ (31 - b) := d3
      rw [vx, s4, hd] at r6
      rw [hd] at r3
      obtain ⟨f1, f2⟩ := v_dvEnd K0 r6 (v_nn r2) r3
      have N2 : bN z2 h := ⟨t2, r2.mono (by have := q_clI (i := z2) rfl t2; omega), t4⟩
      have V2 : bV z2 h = vB h s.toNatClampNeg := t5
      have Nq : bN zq qh := ⟨u2, r5.mono (by have := q_clI (i := zq) rfl u2; omega), u4⟩
      have Vq : bV zq qh = bV sa fa / bV sb fb := by
        rw [← f1]
        exact u5
      have right1 : ∃ (zz : Int32) (gg : Nat → Int32), (F_Big_shiftRight R sh z2 (if na = 0 then 0 else if z2 ≤ 0 then 0 else 1) h).2 = (zz, if na = 0 then 0 else if zz ≤ 0 then 0 else 1, gg) ∧ bN zz gg ∧ bV zz gg = vB h s.toNatClampNeg / 2 ^ (31 - b) := by
        by_cases hb31 : b = 31
        · subst hb31
          refine ⟨z2, h, ?_, N2, ?_⟩
          · unfold F_Big_shiftRight
            rw [if_pos (Int32.le_iff_toInt_le.mpr (by omega))]
          · rw [show (31 - 31 : Nat) = 0 from rfl, show (2 : Int) ^ 0 = 1 from rfl, Int.ediv_one]
            exact V2
        · by_cases hz2 : z2 = 0
          · subst hz2
            refine ⟨0, h, ?_, N2, ?_⟩
            · unfold F_Big_shiftRight
              rw [if_neg (fun hh => by have := q_leI hh; omega), if_pos rfl]
            · rw [← V2, bN0.2, Int.zero_ediv]
          · have z2p : 0 < z2.toInt := by
              have : z2.toInt ≠ 0 := fun h9 => hz2 (Int32.toInt_inj.mp h9)
              omega
            obtain ⟨lost, zz, gg, w1, w2, w3, w4⟩ := V_shrB (R := R) (x := sh) (neg := if na = 0 then 0 else if z2 ≤ 0 then 0 else 1) N2 (by omega) z2p (by omega)
            have ex := q_clI (i := sh) rfl (by omega)
            rw [show sh.toNatClampNeg = 31 - b by omega, V2] at w4
            refine ⟨zz, gg, ?_, w3, w4⟩
            rw [w1, v_negs hna' z2p]
      have right2 : ∃ gg : Nat → Int32, (F_Big_shiftRight R2 sh sb nb gd).2 = (sb, nb, gg) ∧ bN sb gg ∧ bV sb gg = bV sb fb := by
        by_cases hb31 : b = 31
        · subst hb31
          refine ⟨gd, ?_, d2, ?_⟩
          · unfold F_Big_shiftRight
            rw [if_pos (Int32.le_iff_toInt_le.mpr (by omega))]
          · rw [d3, show (31 - 31 : Nat) = 0 from rfl, show (2 : Int) ^ 0 = 1 from rfl, Int.mul_one]
        · obtain ⟨lost, zz, gg, w1, w2, w3, w4⟩ := V_shrB (R := R2) (x := sh) (neg := nb) d2 (by omega) hsb (by omega)
          have ex := q_clI (i := sh) rfl (by omega)
          rw [show sh.toNatClampNeg = 31 - b by omega, d3, Int.mul_ediv_cancel _ (by omega)] at w4
          obtain ⟨x1, -⟩ := w3.inj hb w4
          subst x1
          refine ⟨gg, ?_, w3, w4⟩
          rw [w1, v_negs hnb hsb]
      obtain ⟨zz, gg, x1, x2, x3⟩ := right1
      obtain ⟨gg2, y1, y2, y3⟩ := right2
      rw [x1, y1]
      rw [f2] at x3
      exact ⟨zz, _, zq, gg, gg2, qh, rfl, x2, x3, rfl, y2, y3, Nq, Vq⟩
  · rw [if_neg hc]
    have hc2 := q_nleI hc
    have hAB : bV sa fa < bV sb fb := by omega
    refine ⟨sa, na, 0, fa, fb, fq, rfl, ha, (Int.emod_eq_of_lt anon hAB).symm, ?_, hb, rfl, bN0.1, ?_⟩
    · rcases hna with h9 | ⟨h9, h10⟩
      · rw [if_pos h9, h9]
      · rw [v_negs (Or.inr h9) h10]
    · rw [bN0.2]
      exact (Int.ediv_eq_zero_of_lt anon hAB).symm
