/-! values, for whole: the reference's DecimalRows: divide -/
/-- rounds t / 10 by the mode m; st: something is behind it -/
def sRnd (m b st : Int32) (t : Int) : Option Int := if rGr m b st t = 2 then none else some (t / 10 + (rGr m b st t).toInt)
def uS (U P : Int) (Z K : Nat) (un : Nat → Int32) (sz z7 : Int32) (row le : Nat → Int32) : Prop := uW z7 un le ∧ z7.toInt = (Z : Int) ∧ (0 ≤ sz.toInt ∧ sz.toInt ≤ (K : Int)) ∧ gO row sz.toNatClampNeg ∧ (sz.toInt = 0 ∨ row 0 ≠ 0) ∧ uV row sz.toNatClampNeg * U + uV le (Z + 1) = P
theorem u_dvI {Q U L d g L2 P : Int} (h : Q * U + L = P) (e : g * U + L2 = L * 10 + d) : (Q * 10 + g) * U + L2 = P * 10 + d := by
  have e1 : (Q * 10 + g) * U = Q * U * 10 + g * U := by
    rw [Int.add_mul, Int.mul_assoc, Int.mul_comm 10 U, ← Int.mul_assoc]
  omega
theorem u_dvT {Q U L P : Int} (h : Q * U + L = P) (hL : 0 ≤ L) (hU : L < U) : P / U = Q ∧ P % U = L := by
  refine (Int.ediv_emod_unique (by omega)).mpr ⟨?_, hL, hU⟩
  rw [Int.mul_comm, ← h]
  omega
/-- one more figure -/
theorem u_step {U P : Int} {Z K : Nat} {un row le : Nat → Int32} {sz z7 d a0 a1 : Int32} {a3 : Int64} {a4 a5 a6 a8 a9 a10 : Int32} {p : Int32 × (Nat → Int32)} {r : Int32 × Int32 × Int32 × Int64 × Int32 × Int32 × Int32 × Int32 × Int32 × Int32 × Int32 × (Nat → Int32)} (hp : F_DR_nextFigure d a0 a1 sz a3 a4 a5 a6 z7 a8 a9 a10 un le = p) (hr : F_DR_append p.1 a0 a1 sz a3 a4 a5 a6 z7 a8 a9 a10 row = r) (h : uS U P Z K un sz z7 row le) (hU : uV un Z = U) (hU0 : 0 < U) (hd : 0 ≤ d.toInt ∧ d.toInt ≤ 9) (hK : K ≤ 4398) : uS U (P * 10 + d.toInt) Z (K + 1) un r.2.2.1 r.2.2.2.2.2.2.2.1 r.2.2.2.2.2.2.2.2.2.2.2 p.2 ∧ r.1 = a0 ∧ r.2.2.2.1 = a3 ∧ r.2.2.2.2.1 = a4 ∧ r.2.2.2.2.2.1 = a5 ∧ r.2.2.2.2.2.2.2.2.2.2.1 = a10 := by
  obtain ⟨h1, h2, h3, h4, h5, h6⟩ := h
  have zc := q_clI h2 (by omega)
  have zn : z7.toNatClampNeg = Z := by omega
  have hn := (R_next (t0_0 := a0) (t0_1 := a1) (t0_2 := sz) (t0_3 := a3) (t0_4 := a4) (t0_5 := a5) (t0_6 := a6) (t0_7 := z7) (t0_8 := a8) (t0_9 := a9) (t0_10 := a10) h1 (by rw [zn, hU]; exact hU0) hd).2
  rw [hp] at hn
  obtain ⟨p1, p2, p3⟩ := hn
  have p3' : p.1.toInt * uV un z7.toNatClampNeg + uV p.2 (z7.toNatClampNeg + 1) = uV le (z7.toNatClampNeg + 1) * 10 + d.toInt := p3
  rw [zn, hU] at p3'
  have ha := (T_DR_append (x2 := p.1) (t0_0 := a0) (t0_1 := a1) (t0_2 := sz) (t0_3 := a3) (t0_4 := a4) (t0_5 := a5) (t0_6 := a6) (t0_7 := z7) (t0_8 := a8) (t0_9 := a9) (t0_10 := a10) (t1_0 := row) ⟨h3.1, by omega⟩ h4 p1 h5).2
  have hv := V_DR_append (x2 := p.1) (t0_0 := a0) (t0_1 := a1) (t0_2 := sz) (t0_3 := a3) (t0_4 := a4) (t0_5 := a5) (t0_6 := a6) (t0_7 := z7) (t0_8 := a8) (t0_9 := a9) (t0_10 := a10) (t1_0 := row) ⟨h3.1, by omega⟩ h4 rfl p1 h5
  rw [hr] at ha hv
  obtain ⟨_, _, _, r0, r1, r3, r4, r5, r7, r10⟩ := ha
  obtain ⟨v1, v2, v3, v4, _⟩ := hv
  refine ⟨⟨by rw [r7]; exact p2, by rw [r7]; exact h2, ⟨by omega, by omega⟩, v2, v3, ?_⟩, r0, r3, r4, r5, r10⟩
  rw [v4]
  exact u_dvI h6 p3'
/-- behind the loop: the last figure, the rounding, the store -/
theorem V_dv349 {K_F_DR_divide_L268 : Int64 → Int32 → Int32 → Int32 → Int64 → Int32 → Int32 → Int32 → Int32 → Int32 → Int32 → Int32 → (Nat → Int32) → (Nat → Int32) → (Int32 × Int32 × Int32 × Int64 × Int32 × Int32 × Int32 × Int32 × Int32 × Int32 × Int32 × (Nat → Int32) × (Nat → Int32) × (Nat → Int32) × (Nat → Int32) × (Nat → Int32) × (Nat → Int32) × (Nat → Int32))} {x2 : Int32} {x3 : Int32} {x4 : Int32} {x5 : Int32} {x6 : Int32} {t0_0 : Int32} {t0_1 : Int32} {t0_2 : Int32} {t0_3 : Int64} {t0_4 : Int32} {t0_5 : Int32} {t0_6 : Int32} {t0_7 : Int32} {t0_8 : Int32} {t0_9 : Int32} {t0_10 : Int32} {t1_0 : (Nat → Int32)} {t2_0 : (Nat → Int32)} {t3_0 : (Nat → Int32)} {t4_0 : (Nat → Int32)} {t5_0 : (Nat → Int32)} {t6_0 : (Nat → Int32)} {t7_0 : (Nat → Int32)} {lx45 : Int32} {j100 : Int64} {j88 : Int64} {lx107 : Int32} {j126 : Int64} {lx367 : Int32} {p431 : (Int32 × Int32 × Int32 × Int64 × Int32 × Int32 × Int32 × Int32 × Int32 × Int32 × Int32 × (Nat → Int32))} {f397 : (Nat → Int32)} {p492 : (Int32 × Int32 × Int32 × Int64 × Int32 × Int32 × Int32 × Int32 × Int32 × Int32 × Int32 × (Nat → Int32))} {lx512 : Int64} {lx513 : Int32} {lx514 : Int32} {lx515 : Int32} {lx516 : Int64} {lx517 : Int32} {lx518 : Int32} {lx519 : Int32} {lx520 : Int32} {lx521 : Int32} {lx522 : Int32} {lx523 : Int32} {lx524 : (Nat → Int32)} {lx525 : (Nat → Int32)} {j573 : Int64} {lx579 : Int64} {p613 : (Int32 × (Nat → Int32))} {f609 : (Nat → Int32)} {p668 : (Int32 × Int32 × Int32 × Int64 × Int32 × Int32 × Int32 × Int32 × Int32 × Int32 × Int32 × (Nat → Int32))} {D : Nat → Int × Int} {U A : Int} {Z K : Nat} (hD : dRv t1_0 t2_0 t3_0 t4_0 D) (hx4 : 0 ≤ x4.toInt ∧ x4.toInt ≤ 9) (h5 : -10000 ≤ x5.toInt ∧ x5.toInt ≤ 10000) (hS : uS U (10 * A) Z K f397 p668.2.2.1 p668.2.2.2.2.2.2.2.1 p668.2.2.2.2.2.2.2.2.2.2.2 f609) (hU : uV f397 Z = U) (hK : K ≤ 4399) (h0 : p668.1 = lx45) (hb : p668.2.2.2.2.2.1 = lx107) (hf : p668.2.2.2.2.2.2.2.2.2.2.1 = 2) (h107 : lx107 = 0 ∨ lx107 = 1) : dAn x4 D ((sRnd x6 lx107 (if (10 * A) % U = 0 then 0 else 1) ((10 * A) / U)).map (fun u => (sgI lx107 u, x5.toInt))) lx45 2 (F_DR_divide_c349 K_F_DR_divide_L268 x2 x3 x4 x5 x6 t0_0 t0_1 t0_2 t0_3 t0_4 t0_5 t0_6 t0_7 t0_8 t0_9 t0_10 t1_0 t2_0 t3_0 t4_0 t5_0 t6_0 t7_0 lx45 j100 j88 lx107 j126 lx367 p431 f397 p492 lx512 lx513 lx514 lx515 lx516 lx517 lx518 lx519 lx520 lx521 lx522 lx523 lx524 lx525 j573 lx579 p613 f609 p668).1 (F_DR_divide_c349 K_F_DR_divide_L268 x2 x3 x4 x5 x6 t0_0 t0_1 t0_2 t0_3 t0_4 t0_5 t0_6 t0_7 t0_8 t0_9 t0_10 t1_0 t2_0 t3_0 t4_0 t5_0 t6_0 t7_0 lx45 j100 j88 lx107 j126 lx367 p431 f397 p492 lx512 lx513 lx514 lx515 lx516 lx517 lx518 lx519 lx520 lx521 lx522 lx523 lx524 lx525 j573 lx579 p613 f609 p668).2.2.2.2.2.2.2.2.2.2.2.1 (F_DR_divide_c349 K_F_DR_divide_L268 x2 x3 x4 x5 x6 t0_0 t0_1 t0_2 t0_3 t0_4 t0_5 t0_6 t0_7 t0_8 t0_9 t0_10 t1_0 t2_0 t3_0 t4_0 t5_0 t6_0 t7_0 lx45 j100 j88 lx107 j126 lx367 p431 f397 p492 lx512 lx513 lx514 lx515 lx516 lx517 lx518 lx519 lx520 lx521 lx522 lx523 lx524 lx525 j573 lx579 p613 f609 p668).2.2.2.2.2.2.2.2.2.2.2.2.1 (F_DR_divide_c349 K_F_DR_divide_L268 x2 x3 x4 x5 x6 t0_0 t0_1 t0_2 t0_3 t0_4 t0_5 t0_6 t0_7 t0_8 t0_9 t0_10 t1_0 t2_0 t3_0 t4_0 t5_0 t6_0 t7_0 lx45 j100 j88 lx107 j126 lx367 p431 f397 p492 lx512 lx513 lx514 lx515 lx516 lx517 lx518 lx519 lx520 lx521 lx522 lx523 lx524 lx525 j573 lx579 p613 f609 p668).2.2.2.2.2.2.2.2.2.2.2.2.2.1 (F_DR_divide_c349 K_F_DR_divide_L268 x2 x3 x4 x5 x6 t0_0 t0_1 t0_2 t0_3 t0_4 t0_5 t0_6 t0_7 t0_8 t0_9 t0_10 t1_0 t2_0 t3_0 t4_0 t5_0 t6_0 t7_0 lx45 j100 j88 lx107 j126 lx367 p431 f397 p492 lx512 lx513 lx514 lx515 lx516 lx517 lx518 lx519 lx520 lx521 lx522 lx523 lx524 lx525 j573 lx579 p613 f609 p668).2.2.2.2.2.2.2.2.2.2.2.2.2.2.1 := by
  have e0 : (0 : Int32).toInt = 0 := rfl
  have e1I : (1 : Int32).toInt = 1 := rfl
  have e00 : (0 : Int32).toNatClampNeg = 0 := rfl
  have e10 : (1 : Int32).toNatClampNeg = 1 := rfl
  obtain ⟨h1, h2, h3, h4, h5z, h6⟩ := hS
  have zc := q_clI h2 (by omega)
  have zn : p668.2.2.2.2.2.2.2.1.toNatClampNeg = Z := by omega
  have sc := q_clI (i := p668.2.2.1) rfl h3.1
  obtain ⟨w1, w2, w3, w4⟩ := h1
  rw [zn] at w2 w3 w4
  have w4' : uV f609 (Z + 1) < U := by
    rw [← hU]
    exact w4
  obtain ⟨t1, t2⟩ := u_dvT h6 (u_nn w3) w4'
  obtain ⟨i1, i2⟩ := V_DR_isLeft (t0_0 := p668.1) (t0_1 := p668.2.1) (t0_2 := p668.2.2.1) (t0_3 := p668.2.2.2.1) (t0_4 := p668.2.2.2.2.1) (t0_5 := p668.2.2.2.2.2.1) (t0_6 := p668.2.2.2.2.2.2.1) (t0_7 := p668.2.2.2.2.2.2.2.1) (t0_8 := p668.2.2.2.2.2.2.2.2.1) (t0_9 := p668.2.2.2.2.2.2.2.2.2.1) (t0_10 := p668.2.2.2.2.2.2.2.2.2.2.1) (t1_0 := f609) h2 (by omega) w3
  have e5 : (x5.toInt64 + 1 : Int64).toInt = x5.toInt + 1 := q_addL (Int32.toInt_toInt64 _) rfl (by omega) (by omega)
  rw [t1, t2]
  unfold F_DR_divide_c349
  generalize F_DR_isLeft p668.1 p668.2.1 p668.2.2.1 p668.2.2.2.1 p668.2.2.2.2.1 p668.2.2.2.2.2.1 p668.2.2.2.2.2.2.1 p668.2.2.2.2.2.2.2.1 p668.2.2.2.2.2.2.2.2.1 p668.2.2.2.2.2.2.2.2.2.1 p668.2.2.2.2.2.2.2.2.2.2.1 f609 = st at i1 i2 ⊢
  have est : (if uV f609 (Z + 1) = 0 then (0 : Int32) else 1) = st := by
    rcases i1 with e | e
    · rw [if_pos (i2.mp e), e]
    · rw [if_neg (fun h => absurd (i2.mpr h) (by rw [e]; decide)), e]
  rw [est]
  have rs : ∀ v : Int, rSt v 1 st = st ∧ (10 * v) / 10 ^ 1 = v := fun v => by
    have m1 : (10 * v) % 10 ^ 1 = 0 := by
      rw [Int.pow_one]
      exact Int.mul_emod_right 10 v
    refine ⟨?_, ?_⟩
    · unfold rSt
      rw [m1]
      rcases i1 with e | e
      · rw [e]
        exact if_pos ⟨rfl, rfl⟩
      · rw [e]
        exact if_neg (fun h => absurd h.2 (by decide))
    · rw [Int.pow_one]
      exact Int.mul_ediv_cancel_left v (by decide)
  by_cases c : p668.2.2.1 = 0
  · have c2 := congrArg Int32.toInt c
    have n0 : p668.2.2.1.toNatClampNeg = 0 := by omega
    rw [if_pos c, n0]
    have g1 : gO (upd p668.2.2.2.2.2.2.2.2.2.2.2 (0 : Int32).toNatClampNeg 0) (1 : Int32).toNatClampNeg := g_one
    have v1 : uV (upd p668.2.2.2.2.2.2.2.2.2.2.2 (0 : Int32).toNatClampNeg 0) (1 : Int32).toNatClampNeg = 0 := by
      rw [e10, e00]
      show 0 * 10 + (upd p668.2.2.2.2.2.2.2.2.2.2.2 0 0 0).toInt = 0
      rw [v_eq]
      rfl
    have hc := V_DR_cut (x2 := 0) (x3 := x6) (t0_0 := p668.1) (t0_1 := p668.2.1) (t0_2 := 1) (t0_3 := x5.toInt64 + 1) (t0_4 := st) (t0_5 := p668.2.2.2.2.2.1) (t0_6 := p668.2.2.2.2.2.2.1) (t0_7 := p668.2.2.2.2.2.2.2.1) (t0_8 := p668.2.2.2.2.2.2.2.2.1) (t0_9 := p668.2.2.2.2.2.2.2.2.2.1) (t0_10 := p668.2.2.2.2.2.2.2.2.2.2.1) (t1_0 := upd p668.2.2.2.2.2.2.2.2.2.2.2 (0 : Int32).toNatClampNeg 0) (v := 0) (e := 1) ⟨by decide, by decide⟩ ⟨by decide, by decide⟩ rfl g1 v1 i1 ⟨by omega, by omega⟩
    generalize F_DR_cut 0 x6 p668.1 p668.2.1 1 (x5.toInt64 + 1) st p668.2.2.2.2.2.1 p668.2.2.2.2.2.2.1 p668.2.2.2.2.2.2.2.1 p668.2.2.2.2.2.2.2.2.1 p668.2.2.2.2.2.2.2.2.2.1 p668.2.2.2.2.2.2.2.2.2.2.1 (upd p668.2.2.2.2.2.2.2.2.2.2.2 (0 : Int32).toNatClampNeg 0) = y at hc ⊢
    unfold F_DR_divide_c397_17
    rw [(rs 0).1, (rs 0).2, hb] at hc
    have uv0 : uV p668.2.2.2.2.2.2.2.2.2.2.2 0 = 0 := rfl
    rw [uv0]
    unfold sRnd
    generalize rGr x6 lx107 st 0 = G at hc ⊢
    rcases hc with ⟨g2, r0, r1⟩ | ⟨gn, r0, r1, r2, r3, r4, r5, r6, r7, r8, r9, r10, r11, r12, r13⟩
    · rw [if_pos r0, if_pos g2]
      exact Or.inr ⟨Or.inl rfl, r1.trans hf, hD⟩
    · rw [if_neg (show ¬ y.1 = 0 by rw [r0]; decide), if_neg gn]
      have hs := dSv_e (V_DR_store (x2 := x4) (t0_0 := y.2.1) (t0_1 := y.2.2.1) (t0_2 := y.2.2.2.1) (t0_3 := y.2.2.2.2.1) (t0_4 := y.2.2.2.2.2.1) (t0_5 := y.2.2.2.2.2.2.1) (t0_6 := y.2.2.2.2.2.2.2.1) (t0_7 := y.2.2.2.2.2.2.2.2.1) (t0_8 := y.2.2.2.2.2.2.2.2.2.1) (t0_9 := y.2.2.2.2.2.2.2.2.2.2.1) (t0_10 := y.2.2.2.2.2.2.2.2.2.2.2.1) (t5_0 := y.2.2.2.2.2.2.2.2.2.2.2.2) hD hx4 (by rw [r6]; exact h107) (by omega) r12 r13) (r1.trans h0) r6 (r11.trans hf) (show y.2.2.2.2.1.toInt = x5.toInt by rw [r4, e5]; omega)
      generalize F_DR_store x4 y.2.1 y.2.2.1 y.2.2.2.1 y.2.2.2.2.1 y.2.2.2.2.2.1 y.2.2.2.2.2.2.1 y.2.2.2.2.2.2.2.1 y.2.2.2.2.2.2.2.2.1 y.2.2.2.2.2.2.2.2.2.1 y.2.2.2.2.2.2.2.2.2.2.1 y.2.2.2.2.2.2.2.2.2.2.2.1 t1_0 t2_0 t3_0 t4_0 y.2.2.2.2.2.2.2.2.2.2.2.2 = w at hs ⊢
      unfold F_DR_divide_c405_18
      rw [Int.pow_one] at hs
      exact hs.an
  · have c2 : p668.2.2.1.toInt ≠ 0 := fun e => c (Int32.toInt_inj.mp e)
    rw [if_neg c]
    have ek : (p668.2.2.1 - 1 : Int32).toInt = p668.2.2.1.toInt - 1 := q_subI rfl rfl (by omega) (by omega)
    have hc := V_DR_cut (x2 := p668.2.2.1 - 1) (x3 := x6) (t0_0 := p668.1) (t0_1 := p668.2.1) (t0_2 := p668.2.2.1) (t0_3 := x5.toInt64 + 1) (t0_4 := st) (t0_5 := p668.2.2.2.2.2.1) (t0_6 := p668.2.2.2.2.2.2.1) (t0_7 := p668.2.2.2.2.2.2.2.1) (t0_8 := p668.2.2.2.2.2.2.2.2.1) (t0_9 := p668.2.2.2.2.2.2.2.2.2.1) (t0_10 := p668.2.2.2.2.2.2.2.2.2.2.1) (t1_0 := p668.2.2.2.2.2.2.2.2.2.2.2) (e := 1) ⟨h3.1, by omega⟩ ⟨by omega, by omega⟩ (by omega) h4 rfl i1 ⟨by omega, by omega⟩
    generalize F_DR_cut (p668.2.2.1 - 1) x6 p668.1 p668.2.1 p668.2.2.1 (x5.toInt64 + 1) st p668.2.2.2.2.2.1 p668.2.2.2.2.2.2.1 p668.2.2.2.2.2.2.2.1 p668.2.2.2.2.2.2.2.2.1 p668.2.2.2.2.2.2.2.2.2.1 p668.2.2.2.2.2.2.2.2.2.2.1 p668.2.2.2.2.2.2.2.2.2.2.2 = y at hc ⊢
    unfold F_DR_divide_c397_15
    rw [(rs _).1, (rs _).2, hb, Int.pow_one] at hc
    unfold sRnd
    generalize uV p668.2.2.2.2.2.2.2.2.2.2.2 p668.2.2.1.toNatClampNeg = T at hc ⊢
    generalize rGr x6 lx107 st T = G at hc ⊢
    rcases hc with ⟨g2, r0, r1⟩ | ⟨gn, r0, r1, r2, r3, r4, r5, r6, r7, r8, r9, r10, r11, r12, r13⟩
    · rw [if_pos r0, if_pos g2]
      exact Or.inr ⟨Or.inl rfl, r1.trans hf, hD⟩
    · rw [if_neg (show ¬ y.1 = 0 by rw [r0]; decide), if_neg gn]
      have hs := dSv_e (V_DR_store (x2 := x4) (t0_0 := y.2.1) (t0_1 := y.2.2.1) (t0_2 := y.2.2.2.1) (t0_3 := y.2.2.2.2.1) (t0_4 := y.2.2.2.2.2.1) (t0_5 := y.2.2.2.2.2.2.1) (t0_6 := y.2.2.2.2.2.2.2.1) (t0_7 := y.2.2.2.2.2.2.2.2.1) (t0_8 := y.2.2.2.2.2.2.2.2.2.1) (t0_9 := y.2.2.2.2.2.2.2.2.2.2.1) (t0_10 := y.2.2.2.2.2.2.2.2.2.2.2.1) (t5_0 := y.2.2.2.2.2.2.2.2.2.2.2.2) hD hx4 (by rw [r6]; exact h107) (by omega) r12 r13) (r1.trans h0) r6 (r11.trans hf) (show y.2.2.2.2.1.toInt = x5.toInt by rw [r4, e5]; omega)
      generalize F_DR_store x4 y.2.1 y.2.2.1 y.2.2.2.1 y.2.2.2.2.1 y.2.2.2.2.2.1 y.2.2.2.2.2.2.1 y.2.2.2.2.2.2.2.1 y.2.2.2.2.2.2.2.2.1 y.2.2.2.2.2.2.2.2.2.1 y.2.2.2.2.2.2.2.2.2.2.1 y.2.2.2.2.2.2.2.2.2.2.2.1 t1_0 t2_0 t3_0 t4_0 y.2.2.2.2.2.2.2.2.2.2.2.2 = w at hs ⊢
      unfold F_DR_divide_c405_16
      exact hs.an
theorem V_dvL9 {x2 : Int32} {x3 : Int32} {x4 : Int32} {x5 : Int32} {x6 : Int32} {t0_0 : Int32} {t0_1 : Int32} {t0_2 : Int32} {t0_3 : Int64} {t0_4 : Int32} {t0_5 : Int32} {t0_6 : Int32} {t0_7 : Int32} {t0_8 : Int32} {t0_9 : Int32} {t0_10 : Int32} {t1_0 : (Nat → Int32)} {t2_0 : (Nat → Int32)} {t3_0 : (Nat → Int32)} {t4_0 : (Nat → Int32)} {t5_0 : (Nat → Int32)} {t6_0 : (Nat → Int32)} {t7_0 : (Nat → Int32)} {lx45 : Int32} {j100 : Int64} {j88 : Int64} {lx107 : Int32} {j126 : Int64} {lx367 : Int32} {p431 : (Int32 × Int32 × Int32 × Int64 × Int32 × Int32 × Int32 × Int32 × Int32 × Int32 × Int32 × (Nat → Int32))} {f397 : (Nat → Int32)} {p492 : (Int32 × Int32 × Int32 × Int64 × Int32 × Int32 × Int32 × Int32 × Int32 × Int32 × Int32 × (Nat → Int32))} {D : Nat → Int × Int} {U : Int} {Z ma zp : Nat} (hD : dRv t1_0 t2_0 t3_0 t4_0 D) (hx2 : 0 ≤ x2.toInt ∧ x2.toInt ≤ 9) (hx4 : 0 ≤ x4.toInt ∧ x4.toInt ≤ 9) (h5 : -10000 ≤ x5.toInt ∧ x5.toInt ≤ 10000) (hma : (t2_0 x2.toNatClampNeg).toInt = (ma : Int)) (hma2 : 1 ≤ ma ∧ ma ≤ 1000) (hzp : (j88.toInt ≤ 0 ∧ zp = 0) ∨ (0 < j88.toInt ∧ j88.toInt = (zp : Int))) (hzp2 : ma + zp ≤ 4000) (hU : uV f397 Z = U) (hU0 : 0 < U) (h107 : lx107 = 0 ∨ lx107 = 1) : ∀ (n : Nat) (lx512 : Int64) (lx513 : Int32) (lx514 : Int32) (lx515 : Int32) (lx516 : Int64) (lx517 : Int32) (lx518 : Int32) (lx519 : Int32) (lx520 : Int32) (lx521 : Int32) (lx522 : Int32) (lx523 : Int32) (lx524 : (Nat → Int32)) (lx525 : (Nat → Int32)), ∀ k : Nat, lx512.toInt = (k : Int) → k ≤ ma + zp → ma + zp - k < n → lx513 = lx45 → lx518 = lx107 → lx523 = 2 → uS U (uV (pd t1_0 x2.toNatClampNeg ma) k) Z k f397 lx515 lx520 lx524 lx525 → dAn x4 D ((sRnd x6 lx107 (if (10 * (((D x2.toNatClampNeg).1.natAbs : Int) * 10 ^ zp)) % U = 0 then 0 else 1) ((10 * (((D x2.toNatClampNeg).1.natAbs : Int) * 10 ^ zp)) / U)).map (fun u => (sgI lx107 u, x5.toInt))) lx45 2 (F_DR_divide_L268 x2 x3 x4 x5 x6 t0_0 t0_1 t0_2 t0_3 t0_4 t0_5 t0_6 t0_7 t0_8 t0_9 t0_10 t1_0 t2_0 t3_0 t4_0 t5_0 t6_0 t7_0 lx45 j100 j88 lx107 j126 lx367 p431 f397 p492 n lx512 lx513 lx514 lx515 lx516 lx517 lx518 lx519 lx520 lx521 lx522 lx523 lx524 lx525).1 (F_DR_divide_L268 x2 x3 x4 x5 x6 t0_0 t0_1 t0_2 t0_3 t0_4 t0_5 t0_6 t0_7 t0_8 t0_9 t0_10 t1_0 t2_0 t3_0 t4_0 t5_0 t6_0 t7_0 lx45 j100 j88 lx107 j126 lx367 p431 f397 p492 n lx512 lx513 lx514 lx515 lx516 lx517 lx518 lx519 lx520 lx521 lx522 lx523 lx524 lx525).2.2.2.2.2.2.2.2.2.2.2.1 (F_DR_divide_L268 x2 x3 x4 x5 x6 t0_0 t0_1 t0_2 t0_3 t0_4 t0_5 t0_6 t0_7 t0_8 t0_9 t0_10 t1_0 t2_0 t3_0 t4_0 t5_0 t6_0 t7_0 lx45 j100 j88 lx107 j126 lx367 p431 f397 p492 n lx512 lx513 lx514 lx515 lx516 lx517 lx518 lx519 lx520 lx521 lx522 lx523 lx524 lx525).2.2.2.2.2.2.2.2.2.2.2.2.1 (F_DR_divide_L268 x2 x3 x4 x5 x6 t0_0 t0_1 t0_2 t0_3 t0_4 t0_5 t0_6 t0_7 t0_8 t0_9 t0_10 t1_0 t2_0 t3_0 t4_0 t5_0 t6_0 t7_0 lx45 j100 j88 lx107 j126 lx367 p431 f397 p492 n lx512 lx513 lx514 lx515 lx516 lx517 lx518 lx519 lx520 lx521 lx522 lx523 lx524 lx525).2.2.2.2.2.2.2.2.2.2.2.2.2.1 (F_DR_divide_L268 x2 x3 x4 x5 x6 t0_0 t0_1 t0_2 t0_3 t0_4 t0_5 t0_6 t0_7 t0_8 t0_9 t0_10 t1_0 t2_0 t3_0 t4_0 t5_0 t6_0 t7_0 lx45 j100 j88 lx107 j126 lx367 p431 f397 p492 n lx512 lx513 lx514 lx515 lx516 lx517 lx518 lx519 lx520 lx521 lx522 lx523 lx524 lx525).2.2.2.2.2.2.2.2.2.2.2.2.2.2.1 := by
  have eL : (0 : Int64).toInt = 0 := rfl
  have h2c := q_clI (i := x2) rfl hx2.1
  obtain ⟨a1, a2, _⟩ := hD.2 x2.toNatClampNeg (by omega)
  have mc := q_clI (i := t2_0 x2.toNatClampNeg) rfl (by omega)
  have mx : (t2_0 x2.toNatClampNeg).toNatClampNeg = ma := by omega
  rw [mx] at a2
  intro n
  induction n with
  | zero => intro _ _ _ _ _ _ _ _ _ _ _ _ _ _ k _ _ h; exact absurd h (Nat.not_lt_zero _)
  | succ n ih =>
    intro lx512 lx513 lx514 lx515 lx516 lx517 lx518 lx519 lx520 lx521 lx522 lx523 lx524 lx525 k hk hkN hkn h1 h6 h11 hS
    have key : ∀ l : Int64, l.toInt = (zp : Int) → dAn x4 D ((sRnd x6 lx107 (if (10 * (((D x2.toNatClampNeg).1.natAbs : Int) * 10 ^ zp)) % U = 0 then 0 else 1) ((10 * (((D x2.toNatClampNeg).1.natAbs : Int) * 10 ^ zp)) / U)).map (fun u => (sgI lx107 u, x5.toInt))) lx45 2 (F_DR_divide_J290 (F_DR_divide_L268 x2 x3 x4 x5 x6 t0_0 t0_1 t0_2 t0_3 t0_4 t0_5 t0_6 t0_7 t0_8 t0_9 t0_10 t1_0 t2_0 t3_0 t4_0 t5_0 t6_0 t7_0 lx45 j100 j88 lx107 j126 lx367 p431 f397 p492 n) x2 x3 x4 x5 x6 t0_0 t0_1 t0_2 t0_3 t0_4 t0_5 t0_6 t0_7 t0_8 t0_9 t0_10 t1_0 t2_0 t3_0 t4_0 t5_0 t6_0 t7_0 lx45 j100 j88 lx107 j126 lx367 p431 f397 p492 lx512 lx513 lx514 lx515 lx516 lx517 lx518 lx519 lx520 lx521 lx522 lx523 lx524 lx525 (t2_0 x2.toNatClampNeg).toInt64 l).1 (F_DR_divide_J290 (F_DR_divide_L268 x2 x3 x4 x5 x6 t0_0 t0_1 t0_2 t0_3 t0_4 t0_5 t0_6 t0_7 t0_8 t0_9 t0_10 t1_0 t2_0 t3_0 t4_0 t5_0 t6_0 t7_0 lx45 j100 j88 lx107 j126 lx367 p431 f397 p492 n) x2 x3 x4 x5 x6 t0_0 t0_1 t0_2 t0_3 t0_4 t0_5 t0_6 t0_7 t0_8 t0_9 t0_10 t1_0 t2_0 t3_0 t4_0 t5_0 t6_0 t7_0 lx45 j100 j88 lx107 j126 lx367 p431 f397 p492 lx512 lx513 lx514 lx515 lx516 lx517 lx518 lx519 lx520 lx521 lx522 lx523 lx524 lx525 (t2_0 x2.toNatClampNeg).toInt64 l).2.2.2.2.2.2.2.2.2.2.2.1 (F_DR_divide_J290 (F_DR_divide_L268 x2 x3 x4 x5 x6 t0_0 t0_1 t0_2 t0_3 t0_4 t0_5 t0_6 t0_7 t0_8 t0_9 t0_10 t1_0 t2_0 t3_0 t4_0 t5_0 t6_0 t7_0 lx45 j100 j88 lx107 j126 lx367 p431 f397 p492 n) x2 x3 x4 x5 x6 t0_0 t0_1 t0_2 t0_3 t0_4 t0_5 t0_6 t0_7 t0_8 t0_9 t0_10 t1_0 t2_0 t3_0 t4_0 t5_0 t6_0 t7_0 lx45 j100 j88 lx107 j126 lx367 p431 f397 p492 lx512 lx513 lx514 lx515 lx516 lx517 lx518 lx519 lx520 lx521 lx522 lx523 lx524 lx525 (t2_0 x2.toNatClampNeg).toInt64 l).2.2.2.2.2.2.2.2.2.2.2.2.1 (F_DR_divide_J290 (F_DR_divide_L268 x2 x3 x4 x5 x6 t0_0 t0_1 t0_2 t0_3 t0_4 t0_5 t0_6 t0_7 t0_8 t0_9 t0_10 t1_0 t2_0 t3_0 t4_0 t5_0 t6_0 t7_0 lx45 j100 j88 lx107 j126 lx367 p431 f397 p492 n) x2 x3 x4 x5 x6 t0_0 t0_1 t0_2 t0_3 t0_4 t0_5 t0_6 t0_7 t0_8 t0_9 t0_10 t1_0 t2_0 t3_0 t4_0 t5_0 t6_0 t7_0 lx45 j100 j88 lx107 j126 lx367 p431 f397 p492 lx512 lx513 lx514 lx515 lx516 lx517 lx518 lx519 lx520 lx521 lx522 lx523 lx524 lx525 (t2_0 x2.toNatClampNeg).toInt64 l).2.2.2.2.2.2.2.2.2.2.2.2.2.1 (F_DR_divide_J290 (F_DR_divide_L268 x2 x3 x4 x5 x6 t0_0 t0_1 t0_2 t0_3 t0_4 t0_5 t0_6 t0_7 t0_8 t0_9 t0_10 t1_0 t2_0 t3_0 t4_0 t5_0 t6_0 t7_0 lx45 j100 j88 lx107 j126 lx367 p431 f397 p492 n) x2 x3 x4 x5 x6 t0_0 t0_1 t0_2 t0_3 t0_4 t0_5 t0_6 t0_7 t0_8 t0_9 t0_10 t1_0 t2_0 t3_0 t4_0 t5_0 t6_0 t7_0 lx45 j100 j88 lx107 j126 lx367 p431 f397 p492 lx512 lx513 lx514 lx515 lx516 lx517 lx518 lx519 lx520 lx521 lx522 lx523 lx524 lx525 (t2_0 x2.toNatClampNeg).toInt64 l).2.2.2.2.2.2.2.2.2.2.2.2.2.2.1 := fun l hl => by
      have es : ((t2_0 x2.toNatClampNeg).toInt64 + l : Int64).toInt = ((ma + zp : Nat) : Int) := by
        rw [q_addL ((Int32.toInt_toInt64 _).trans hma) hl (by omega) (by omega)]
        omega
      have e1 : (lx512 + 1 : Int64).toInt = ((k + 1 : Nat) : Int) := by
        rw [q_addL (y := 1) hk rfl (by omega) (by omega)]
        omega
      unfold F_DR_divide_J290
      by_cases c : 0 ≤ lg_cmp lx512 ((t2_0 x2.toNatClampNeg).toInt64 + l)
      · have c2 := g_lc5 c
        have ek : k = ma + zp := by omega
        subst ek
        rw [if_pos c]
        rw [pd_V, a2] at hS
        have st := u_step (d := 0) (a0 := lx513) (a1 := lx514) (a3 := lx516) (a4 := lx517) (a5 := lx518) (a6 := lx519) (a8 := lx521) (a9 := lx522) (a10 := lx523) rfl rfl hS hU hU0 ⟨by decide, by decide⟩ (by omega)
        generalize F_DR_nextFigure 0 lx513 lx514 lx515 lx516 lx517 lx518 lx519 lx520 lx521 lx522 lx523 f397 lx525 = p at st ⊢
        unfold F_DR_divide_c346
        generalize F_DR_append p.1 lx513 lx514 lx515 lx516 lx517 lx518 lx519 lx520 lx521 lx522 lx523 lx524 = r at st ⊢
        obtain ⟨s1, s2, s3, s4, s5, s6⟩ := st
        rw [show ((D x2.toNatClampNeg).1.natAbs : Int) * 10 ^ zp * 10 + (0 : Int32).toInt = 10 * (((D x2.toNatClampNeg).1.natAbs : Int) * 10 ^ zp) by rw [show (0 : Int32).toInt = 0 from rfl]; omega] at s1
        exact V_dv349 hD hx4 h5 s1 hU (by omega) (s2.trans h1) (s5.trans h6) (s6.trans h11) h107
      · have c2 := g_lc6 c
        rw [if_neg c]
        by_cases d : 0 ≤ lg_cmp lx512 (t2_0 x2.toNatClampNeg).toInt64
        · have d2 := g_lc5 d
          have d3 : ((t2_0 x2.toNatClampNeg).toInt64).toInt = (ma : Int) := (Int32.toInt_toInt64 _).trans hma
          rw [if_pos d]
          have st := u_step (d := 0) (a0 := lx513) (a1 := lx514) (a3 := lx516) (a4 := lx517) (a5 := lx518) (a6 := lx519) (a8 := lx521) (a9 := lx522) (a10 := lx523) rfl rfl hS hU hU0 ⟨by decide, by decide⟩ (by omega)
          generalize F_DR_nextFigure 0 lx513 lx514 lx515 lx516 lx517 lx518 lx519 lx520 lx521 lx522 lx523 f397 lx525 = p at st ⊢
          unfold F_DR_divide_c328
          generalize F_DR_append p.1 lx513 lx514 lx515 lx516 lx517 lx518 lx519 lx520 lx521 lx522 lx523 lx524 = r at st ⊢
          unfold F_DR_divide_c331
          obtain ⟨s1, s2, s3, s4, s5, s6⟩ := st
          refine ih _ _ _ _ _ _ _ _ _ _ _ _ _ _ (k + 1) e1 (by omega) (by omega) (s2.trans h1) (s5.trans h6) (s6.trans h11) ?_
          have ez : pd t1_0 x2.toNatClampNeg ma k = 0 := if_neg (by omega)
          show uS U (uV (pd t1_0 x2.toNatClampNeg ma) k * 10 + (pd t1_0 x2.toNatClampNeg ma k).toInt) Z (k + 1) f397 _ _ _ _
          rw [ez]
          exact s1
        · have d2 := g_lc6 d
          have d3 : ((t2_0 x2.toNatClampNeg).toInt64).toInt = (ma : Int) := (Int32.toInt_toInt64 _).trans hma
          have e32 : (lx512.toInt32).toInt = (k : Int) := by
            rw [s_l2i (by omega) (by omega)]
            exact hk
          have ec := q_clI e32 (by omega)
          have gx := (g_ix (k := lx512.toInt32) hx2 ⟨by omega, by omega⟩).2
          have ex : lx512.toInt32.toNatClampNeg = k := by omega
          rw [if_neg d, gx, ex]
          have st := u_step (d := t1_0 (1000 * x2.toNatClampNeg + k)) (a0 := lx513) (a1 := lx514) (a3 := lx516) (a4 := lx517) (a5 := lx518) (a6 := lx519) (a8 := lx521) (a9 := lx522) (a10 := lx523) rfl rfl hS hU hU0 (hD.1 _ (by omega)) (by omega)
          generalize F_DR_nextFigure (t1_0 (1000 * x2.toNatClampNeg + k)) lx513 lx514 lx515 lx516 lx517 lx518 lx519 lx520 lx521 lx522 lx523 f397 lx525 = p at st ⊢
          unfold F_DR_divide_c328_21
          generalize F_DR_append p.1 lx513 lx514 lx515 lx516 lx517 lx518 lx519 lx520 lx521 lx522 lx523 lx524 = r at st ⊢
          unfold F_DR_divide_c331_22
          obtain ⟨s1, s2, s3, s4, s5, s6⟩ := st
          refine ih _ _ _ _ _ _ _ _ _ _ _ _ _ _ (k + 1) e1 (by omega) (by omega) (s2.trans h1) (s5.trans h6) (s6.trans h11) ?_
          have ez : pd t1_0 x2.toNatClampNeg ma k = t1_0 (1000 * x2.toNatClampNeg + k) := if_pos (by omega)
          show uS U (uV (pd t1_0 x2.toNatClampNeg ma) k * 10 + (pd t1_0 x2.toNatClampNeg ma k).toInt) Z (k + 1) f397 _ _ _ _
          rw [ez]
          exact s1
    rw [F_DR_divide_L268.eq_2]
    rcases hzp with ⟨z1, z2⟩ | ⟨z1, z2⟩
    · have c : lg_cmp j88 0 ≤ 0 := by
        by_cases c : lg_cmp j88 0 ≤ 0
        · exact c
        · have := g_lc4 c
          omega
      rw [if_pos c]
      exact key 0 (by rw [z2]; rfl)
    · have c : ¬ lg_cmp j88 0 ≤ 0 := fun c => by
        have := g_lc3 c
        omega
      rw [if_neg c]
      exact key j88 z2
