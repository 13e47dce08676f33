/-! values, for whole: the class's divisions of decimals -/
theorem n_modmul {x a b : Nat} (ha : 0 < a) : x % (a * b) = 0 ↔ x % a = 0 ∧ x / a % b = 0 := by
  rw [Nat.mod_mul]
  constructor
  · intro h
    have h1 : x % a = 0 := by omega
    rw [h1, Nat.zero_add] at h
    rcases Nat.mul_eq_zero.mp h with c | c
    · omega
    · exact ⟨h1, c⟩
  · intro h
    rw [h.1, h.2, Nat.mul_zero]
theorem v_oi2 {x : Int32} (h : x = 0 ∨ x = 1) : x ||| 0 = x ∧ x ||| 1 = 1 := by
  rcases h with e | e <;> rw [e] <;> exact ⟨by decide, by decide⟩
theorem V_dfL {R : Int32} {x2 : Int32} {t0_0 : Int32} {t0_1 : Int32} {t1_0 : (Nat → Int32)}  : ∀ (n : Nat) (lx16 : Int32) (lx17 : Int32) (lx18 : Int32) (lx19 : Int32) (lx20 : (Nat → Int32)), ∀ v : Int, lx16.toInt < (n : Int) → 0 < n → (lx17 = 0 ∨ lx17 = 1) → bO R lx18 lx19 lx20 v → ∃ w : Int, w.natAbs = v.natAbs / 10 ^ lx16.toInt.toNat ∧ (0 ≤ v → 0 ≤ w) ∧ (v ≤ 0 → w ≤ 0) ∧ (F_Big_dropFigures_L4 R x2 t0_0 t0_1 t1_0 n lx16 lx17 lx18 lx19 lx20).1 = (if lx17 = 0 ∧ v.natAbs % 10 ^ lx16.toInt.toNat = 0 then 0 else 1) ∧ G1 (bW R w) (F_Big_dropFigures_L4 R x2 t0_0 t0_1 t1_0 n lx16 lx17 lx18 lx19 lx20).2 := by
  have e0 : (0 : Int32).toInt = 0 := rfl
  intro n
  induction n with
  | zero => intros; omega
  | succ n ih =>
    intro lx16 lx17 lx18 lx19 lx20 v hn h0 hr hv
    have fl : ∀ P : Prop, [Decidable P] → P → lx17 = (if lx17 = 0 ∧ P then 0 else 1) := fun P _ hP => by
      rcases hr with e | e
      · rw [e, if_pos ⟨rfl, hP⟩]
      · rw [e, if_neg (fun h => absurd h.1 (by decide))]
    rw [F_Big_dropFigures_L4.eq_2]
    by_cases g1 : lx16 ≤ 0
    · rw [if_pos g1]
      have g2 := q_leI g1
      have k0 : lx16.toInt.toNat = 0 := by omega
      refine ⟨v, ?_, id, id, ?_, hv⟩
      · rw [k0, Nat.pow_zero, Nat.div_one]
      · rw [k0]
        exact fl _ (by rw [Nat.pow_zero, Nat.mod_one])
    rw [if_neg g1]
    have g1' := q_nleI g1
    by_cases g2 : lx18 ≤ 0
    · rw [if_pos g2]
      have g3 := q_leI g2
      have hv0 : v = 0 := by
        have := hv.pos
        omega
      refine ⟨v, ?_, id, id, ?_, hv⟩
      · rw [hv0]
        exact (Nat.zero_div _).symm
      · rw [hv0]
        exact fl _ (Nat.zero_mod _)
    rw [if_neg g2]
    obtain ⟨t1, t2⟩ := v_dt lx16 (by omega)
    generalize Int32.ofNat (10 ^ (if 9 < lx16 then 9 else lx16 : Int32).toNatClampNeg) = t at t1 t2 ⊢
    obtain ⟨d1, w, d2, d3, d4, d5⟩ := W_divS (x := t) hv t1
    generalize F_Big_divideSmall R t lx18 lx19 lx20 = p at d1 d5 ⊢
    have lt := Int32.toInt_lt lx16
    have ej : (lx16 + (-9) : Int32).toInt = lx16.toInt + (-9) := q_addI (b := -9) (y := -9) rfl (by decide) (by omega) (by omega)
    obtain ⟨j, hj⟩ := q_nm (lx16 + (-9) : Int32)
    rw [hj] at ej ⊢
    clear hj
    have hx : (if 9 < lx16.toInt then 9 else lx16.toInt.toNat) + j.toInt.toNat = lx16.toInt.toNat := by
      split <;> omega
    have hp : 0 < t.toInt.toNat := by omega
    have hm : v.natAbs % 10 ^ lx16.toInt.toNat = 0 ↔ p.1 = 0 ∧ w.natAbs % 10 ^ j.toInt.toNat = 0 := by
      rw [← hx, Nat.pow_add, ← t2, n_modmul hp, ← d2]
      have hd : v.natAbs % t.toInt.toNat = 0 ↔ p.1 = 0 := by
        obtain ⟨T, hT⟩ : ∃ T : Nat, t.toInt = (T : Int) := ⟨t.toInt.toNat, by omega⟩
        rw [← Int32.toInt_inj, d1, e0, hT, ← Int.natCast_emod, Int.toNat_natCast]
        exact Int.natCast_eq_zero.symm
      rw [hd]
    have fin : ∀ b : Int32, (b = 0 ∨ b = 1) → ((b = 0 ∧ w.natAbs % 10 ^ j.toInt.toNat = 0) ↔ (lx17 = 0 ∧ v.natAbs % 10 ^ lx16.toInt.toNat = 0)) → ∃ w : Int, w.natAbs = v.natAbs / 10 ^ lx16.toInt.toNat ∧ (0 ≤ v → 0 ≤ w) ∧ (v ≤ 0 → w ≤ 0) ∧ (F_Big_dropFigures_L4 R x2 t0_0 t0_1 t1_0 n j b p.2.1 p.2.2.1 p.2.2.2).1 = (if lx17 = 0 ∧ v.natAbs % 10 ^ lx16.toInt.toNat = 0 then 0 else 1) ∧ G1 (bW R w) (F_Big_dropFigures_L4 R x2 t0_0 t0_1 t1_0 n j b p.2.1 p.2.2.1 p.2.2.2).2 := by
      intro b hb hbe
      obtain ⟨u, u1, u2, u3, u4, u5⟩ := ih j b p.2.1 p.2.2.1 p.2.2.2 w (by omega) (by omega) hb d5
      refine ⟨u, ?_, fun h => u2 (d3 h), fun h => u3 (d4 h), ?_, u5⟩
      · rw [u1, d2, t2, Nat.div_div_eq_div_mul, ← Nat.pow_add, hx]
      · rw [u4]
        exact r_co hbe _ _
    by_cases g3 : p.1 = 0
    · rw [if_pos g3, (v_oi2 hr).1]
      refine fin _ hr ?_
      rw [hm]
      exact ⟨fun h => ⟨h.1, g3, h.2⟩, fun h => ⟨h.1, h.2.2⟩⟩
    · rw [if_neg g3, (v_oi2 hr).2]
      refine fin _ (Or.inr rfl) ?_
      rw [hm]
      exact ⟨fun h => absurd h.1 (by decide), fun h => absurd h.2.1 g3⟩
theorem V_drop {R : Int32} {x2 : Int32} {t0_0 : Int32} {t0_1 : Int32} {t1_0 : (Nat → Int32)} {v : Int} (hv : bO R t0_0 t0_1 t1_0 v) : ∃ w : Int, w.natAbs = v.natAbs / 10 ^ x2.toInt.toNat ∧ (0 ≤ v → 0 ≤ w) ∧ (v ≤ 0 → w ≤ 0) ∧ (F_Big_dropFigures R x2 t0_0 t0_1 t1_0).1 = (if v.natAbs % 10 ^ x2.toInt.toNat = 0 then 0 else 1) ∧ G1 (bW R w) (F_Big_dropFigures R x2 t0_0 t0_1 t1_0).2 := by
  unfold F_Big_dropFigures
  obtain ⟨w, w1, w2, w3, w4, w5⟩ := V_dfL (x2 := x2) (t0_0 := t0_0) (t0_1 := t0_1) (t1_0 := t1_0) ((x2.toInt - (-1)).toNat + 1) x2 0 t0_0 t0_1 t1_0 v (by omega) (by omega) (Or.inl rfl) hv
  refine ⟨w, w1, w2, w3, ?_, w5⟩
  rw [w4]
  exact r_co ⟨fun h => h.2, fun h => ⟨rfl, h⟩⟩ _ _
theorem dv_nat {a b : Int} {z : Int} : dvN a z = ((10 * (a.natAbs * 10 ^ z.toNat) : Nat) : Int) ∧ dvU b z = ((b.natAbs * 10 ^ (-z).toNat : Nat) : Int) := by
  unfold dvN dvU
  rw [Int.natCast_mul, Int.natCast_mul, Int.natCast_mul, Int.natCast_pow, Int.natCast_pow]
  exact ⟨rfl, rfl⟩
/-- the class's way to it -/
theorem dv_way {A B : Nat} {z : Int} (hB : 0 < B) {x y : Nat} (hx : x = (z + 1).toNat) (hy : y = (-(z + 1)).toNat) : A * 10 ^ x / 10 ^ y / B = 10 * (A * 10 ^ z.toNat) / (B * 10 ^ (-z).toNat) ∧ (10 * (A * 10 ^ z.toNat) % (B * 10 ^ (-z).toNat) = 0 ↔ A * 10 ^ x % 10 ^ y = 0 ∧ A * 10 ^ x / 10 ^ y % B = 0) := by
  by_cases c : 0 ≤ z
  · have x1 : x = z.toNat + 1 := by omega
    have y0 : y = 0 := by omega
    have n0 : (-z).toNat = 0 := by omega
    have e : 10 * (A * 10 ^ z.toNat) = A * 10 ^ (z.toNat + 1) := by
      rw [Nat.pow_succ]
      ac_rfl
    rw [x1, y0, n0, Nat.pow_zero, Nat.div_one, Nat.mul_one, Nat.mod_one, e]
    exact ⟨rfl, fun h => ⟨rfl, h⟩, fun h => h.2⟩
  · have x0 : x = 0 := by omega
    have z0 : z.toNat = 0 := by omega
    have n1 : (-z).toNat = y + 1 := by omega
    have e : B * 10 ^ (y + 1) = 10 * (10 ^ y * B) := by
      rw [Nat.pow_succ, ← Nat.mul_assoc, Nat.mul_comm, Nat.mul_comm B]
    rw [x0, z0, n1, Nat.pow_zero, Nat.mul_one, e, Nat.mul_div_mul_left _ _ (by decide), Nat.mul_mod_mul_left, Nat.div_div_eq_div_mul]
    refine ⟨rfl, ?_⟩
    rw [← n_modmul (Nat.pow_pos (by decide))]
    omega
theorem V_divideRaised {R : Int32} {R2 : Int32} {x4 : Int32} {t0_0 : Int64} {t0_1 : Int32} {t1_0 : Int32} {t1_1 : Int32} {t2_0 : (Nat → Int32)} {t3_0 : Int32} {t3_1 : Int32} {t4_0 : (Nat → Int32)} {t5_0 : Int32} {t5_1 : Int32} {t6_0 : (Nat → Int32)} {t7_0 : Int32} {t7_1 : Int32} {t8_0 : Int32} {t8_1 : Int32} {t9_0 : (Nat → Int32)} {t10_0 : Int32} {t10_1 : Int32} {t11_0 : Int32} {t11_1 : Int32} {t12_0 : (Nat → Int32)} {va vb z : Int} {M : Nat} (ha : bO R t8_0 t8_1 t9_0 va) (hb : bO R2 t11_0 t11_1 t12_0 vb) (hv : vb ≠ 0) (hz : x4.toInt = z + 1) (hz2 : -100000 ≤ z ∧ z ≤ 100000) (hm : va.natAbs * 10 ^ x4.toNatClampNeg < 2147483648 ^ M) (hM : M ≤ 218) : (F_DW_divideRaised R R2 x4 t0_0 t0_1 t1_0 t1_1 t2_0 t3_0 t3_1 t4_0 t5_0 t5_1 t6_0 t7_0 t7_1 t8_0 t8_1 t9_0 t10_0 t10_1 t11_0 t11_1 t12_0).1 = t0_0 ∧ (F_DW_divideRaised R R2 x4 t0_0 t0_1 t1_0 t1_1 t2_0 t3_0 t3_1 t4_0 t5_0 t5_1 t6_0 t7_0 t7_1 t8_0 t8_1 t9_0 t10_0 t10_1 t11_0 t11_1 t12_0).2.1 = (if dvN va z % dvU vb z = 0 then 0 else 1) ∧ bO 220 (F_DW_divideRaised R R2 x4 t0_0 t0_1 t1_0 t1_1 t2_0 t3_0 t3_1 t4_0 t5_0 t5_1 t6_0 t7_0 t7_1 t8_0 t8_1 t9_0 t10_0 t10_1 t11_0 t11_1 t12_0).2.2.1 (F_DW_divideRaised R R2 x4 t0_0 t0_1 t1_0 t1_1 t2_0 t3_0 t3_1 t4_0 t5_0 t5_1 t6_0 t7_0 t7_1 t8_0 t8_1 t9_0 t10_0 t10_1 t11_0 t11_1 t12_0).2.2.2.1 (F_DW_divideRaised R R2 x4 t0_0 t0_1 t1_0 t1_1 t2_0 t3_0 t3_1 t4_0 t5_0 t5_1 t6_0 t7_0 t7_1 t8_0 t8_1 t9_0 t10_0 t10_1 t11_0 t11_1 t12_0).2.2.2.2.1 (dvN va z / dvU vb z) ∧ bB M (dvN va z / dvU vb z) ∧ bO R2 (F_DW_divideRaised R R2 x4 t0_0 t0_1 t1_0 t1_1 t2_0 t3_0 t3_1 t4_0 t5_0 t5_1 t6_0 t7_0 t7_1 t8_0 t8_1 t9_0 t10_0 t10_1 t11_0 t11_1 t12_0).2.2.2.2.2.2.2.2.2.2.2.1 (F_DW_divideRaised R R2 x4 t0_0 t0_1 t1_0 t1_1 t2_0 t3_0 t3_1 t4_0 t5_0 t5_1 t6_0 t7_0 t7_1 t8_0 t8_1 t9_0 t10_0 t10_1 t11_0 t11_1 t12_0).2.2.2.2.2.2.2.2.2.2.2.2.1 (F_DW_divideRaised R R2 x4 t0_0 t0_1 t1_0 t1_1 t2_0 t3_0 t3_1 t4_0 t5_0 t5_1 t6_0 t7_0 t7_1 t8_0 t8_1 t9_0 t10_0 t10_1 t11_0 t11_1 t12_0).2.2.2.2.2.2.2.2.2.2.2.2.2 vb := by
  have e := e220
  have e0 : (0 : Int32).toInt = 0 := rfl
  have en : (-x4 : Int32).toInt = -(z + 1) := by
    rw [Int32.toInt_neg, Int.bmod_eq_of_le (by omega) (by omega)]
    omega
  obtain ⟨nN, nU⟩ := dv_nat (a := va) (b := vb) (z := z)
  obtain ⟨y1, y2⟩ := dv_way (A := va.natAbs) (B := vb.natAbs) (z := z) (by omega) (x := x4.toNatClampNeg) (y := (-x4 : Int32).toInt.toNat) (by rw [v_cn, hz]) (by rw [en])
  unfold F_DW_divideRaised
  have h1 : P1 220 va (F_Big_copy (220 : Int32) R t5_0 t5_1 t6_0 t8_0 t8_1 t9_0) := W_copy ha ha.fit (by decide)
  generalize (F_Big_copy (220 : Int32) R t5_0 t5_1 t6_0 t8_0 t8_1 t9_0) = p70 at h1 ⊢
  unfold F_DW_divideRaised_c11
  have h2 : P1 220 (va * 10 ^ x4.toNatClampNeg) (F_Big_timesTen (220 : Int32) x4 (p70.1 : Int32) (p70.2.1 : Int32) (p70.2.2 : (Nat → Int32))) := W_ten (M := M) h1 (by omega) hm
  generalize (F_Big_timesTen (220 : Int32) x4 (p70.1 : Int32) (p70.2.1 : Int32) (p70.2.2 : (Nat → Int32))) = p93 at h2 ⊢
  unfold F_DW_divideRaised_c22
  obtain ⟨w, w1, w2, w3, w4, w5⟩ := V_drop (x2 := -x4) h2
  have ab : (va * 10 ^ x4.toNatClampNeg).natAbs = va.natAbs * 10 ^ x4.toNatClampNeg := by
    rw [Int.natAbs_mul, Int.natAbs_pow]
    rfl
  rw [ab] at w1 w4
  have hB : bB M w := (v_abT hm).le (by rw [w1, ab]; exact Nat.div_le_self _ _)
  generalize F_Big_dropFigures 220 (-x4) p93.1 p93.2.1 p93.2.2 = p122 at w4 w5 ⊢
  unfold F_DW_divideRaised_c35
  have sw := w5.sB hB
  have h3 := (W_divideBy (R3 := 220) (sq := t3_0) (nq := t3_1) (fq := t4_0) w5 hb hv (by omega) (by omega) (by decide)).2
  generalize F_Big_divideBy 220 R2 220 p122.2.1 p122.2.2.1 p122.2.2.2 t11_0 t11_1 t12_0 t3_0 t3_1 t4_0 = q at h3 ⊢
  unfold F_DW_divideRaised_c59
  obtain ⟨q1, q2, q3⟩ := h3
  have eq : ((w.natAbs / vb.natAbs : Nat) : Int) = dvN va z / dvU vb z := by
    rw [nN, nU, ← Int.natCast_ediv, w1, y1]
  have bq : bB M (dvN va z / dvU vb z) := by
    rw [← eq]
    exact hB.ndiv
  rw [eq] at q3
  have fz : dvN va z % dvU vb z = 0 ↔ va.natAbs * 10 ^ x4.toNatClampNeg % 10 ^ (-x4 : Int32).toInt.toNat = 0 ∧ w.tmod vb = 0 := by
    rw [nN, nU, ← Int.natCast_emod]
    have t0 : w.tmod vb = 0 ↔ w.natAbs % vb.natAbs = 0 := by
      have : (w.tmod vb).natAbs = w.natAbs % vb.natAbs := Int.natAbs_tmod _ _
      omega
    rw [t0, w1, ← y2]
    omega
  have fl01 : p122.1 = 0 ∨ p122.1 = 1 := by
    rw [w4]
    split
    · exact Or.inl rfl
    · exact Or.inr rfl
  by_cases c : q.1 ≤ 0
  · have c2 := q_leI c
    have r0 : w.tmod vb = 0 := by
      have := q1.pos
      omega
    rw [if_pos c]
    have hc := W_copy (R := 220) (s := t1_0) (neg := t1_1) (f := t2_0) q3 q3.fit (by decide)
    generalize F_Big_copy 220 220 t1_0 t1_1 t2_0 q.2.2.2.2.2.2.1 q.2.2.2.2.2.2.2.1 q.2.2.2.2.2.2.2.2 = y at hc ⊢
    unfold F_DW_divideRaised_c103
    refine ⟨rfl, ?_, hc, bq, q2⟩
    show p122.1 ||| 0 = _
    rw [(v_oi2 fl01).1, w4]
    exact r_co ⟨fun h => fz.mpr ⟨h, r0⟩, fun h => (fz.mp h).1⟩ _ _
  · have c2 := q_nleI c
    have r0 : w.tmod vb ≠ 0 := q1.pos.mp (by omega)
    rw [if_neg c]
    have hc := W_copy (R := 220) (s := t1_0) (neg := t1_1) (f := t2_0) q3 q3.fit (by decide)
    generalize F_Big_copy 220 220 t1_0 t1_1 t2_0 q.2.2.2.2.2.2.1 q.2.2.2.2.2.2.2.1 q.2.2.2.2.2.2.2.2 = y at hc ⊢
    unfold F_DW_divideRaised_c103_6
    refine ⟨rfl, ?_, hc, bq, q2⟩
    show p122.1 ||| 1 = _
    rw [(v_oi2 fl01).2, if_neg (fun h => r0 (fz.mp h).2)]
theorem V_divideToScale {R : Int32} {R2 : Int32} {x4 : Int32} {x5 : Int32} {t0_0 : Int64} {t0_1 : Int32} {t1_0 : Int32} {t1_1 : Int32} {t2_0 : (Nat → Int32)} {t3_0 : Int32} {t3_1 : Int32} {t4_0 : (Nat → Int32)} {t5_0 : Int32} {t5_1 : Int32} {t6_0 : (Nat → Int32)} {t7_0 : Int32} {t7_1 : Int32} {t8_0 : Int32} {t8_1 : Int32} {t9_0 : (Nat → Int32)} {t10_0 : Int32} {t10_1 : Int32} {t11_0 : Int32} {t11_1 : Int32} {t12_0 : (Nat → Int32)} {qa qb : Int × Int} (ha : dP R t8_0 t8_1 t9_0 t7_0 t7_1 qa) (hb : dP R2 t11_0 t11_1 t12_0 t10_0 t10_1 qb) (hv : qb.1 ≠ 0) (h4 : -10000 ≤ x4.toInt ∧ x4.toInt ≤ 10000) (h5 : 0 ≤ x5.toInt ∧ x5.toInt ≤ 7) : ((F_DW_divideToScale R R2 x4 x5 t0_0 t0_1 t1_0 t1_1 t2_0 t3_0 t3_1 t4_0 t5_0 t5_1 t6_0 t7_0 t7_1 t8_0 t8_1 t9_0 t10_0 t10_1 t11_0 t11_1 t12_0).1 = 0 ∧ (sDiv x5 qa qb x4.toInt = none ∨ ∃ q, sDiv x5 qa qb x4.toInt = some q ∧ ¬ dFit q)) ∨ ((F_DW_divideToScale R R2 x4 x5 t0_0 t0_1 t1_0 t1_1 t2_0 t3_0 t3_1 t4_0 t5_0 t5_1 t6_0 t7_0 t7_1 t8_0 t8_1 t9_0 t10_0 t10_1 t11_0 t11_1 t12_0).1 = 1 ∧ ∃ v, sDiv x5 qa qb x4.toInt = some (v, x4.toInt) ∧ (F_DW_divideToScale R R2 x4 x5 t0_0 t0_1 t1_0 t1_1 t2_0 t3_0 t3_1 t4_0 t5_0 t5_1 t6_0 t7_0 t7_1 t8_0 t8_1 t9_0 t10_0 t10_1 t11_0 t11_1 t12_0).2.1.toInt = x4.toInt ∧ bO 220 (F_DW_divideToScale R R2 x4 x5 t0_0 t0_1 t1_0 t1_1 t2_0 t3_0 t3_1 t4_0 t5_0 t5_1 t6_0 t7_0 t7_1 t8_0 t8_1 t9_0 t10_0 t10_1 t11_0 t11_1 t12_0).2.2.2.1 (F_DW_divideToScale R R2 x4 x5 t0_0 t0_1 t1_0 t1_1 t2_0 t3_0 t3_1 t4_0 t5_0 t5_1 t6_0 t7_0 t7_1 t8_0 t8_1 t9_0 t10_0 t10_1 t11_0 t11_1 t12_0).2.2.2.2.1 (F_DW_divideToScale R R2 x4 x5 t0_0 t0_1 t1_0 t1_1 t2_0 t3_0 t3_1 t4_0 t5_0 t5_1 t6_0 t7_0 t7_1 t8_0 t8_1 t9_0 t10_0 t10_1 t11_0 t11_1 t12_0).2.2.2.2.2.1 v ∧ bB 217 v) := by
  have eK : (1000 : Int32).toInt = 1000 := rfl
  obtain ⟨ha1, ⟨ca, ca1, ca2, ca3⟩, ha2, ha3, ha4⟩ := ha
  obtain ⟨hb1, ⟨cb, cb1, cb2, cb3⟩, hb2, hb3, hb4⟩ := hb
  have i1 : (x4 + t10_0 : Int32).toInt = x4.toInt + qb.2 := q_addI rfl hb2 (by omega) (by omega)
  have i2 : (x4 + t10_0 - t7_0 : Int32).toInt = x4.toInt + qb.2 - qa.2 := q_subI i1 ha2 (by omega) (by omega)
  have i3 : (t7_1 + (x4 + t10_0 - t7_0) : Int32).toInt = (ca : Int) + (x4.toInt + qb.2 - qa.2) := q_addI ca1 i2 (by omega) (by omega)
  have i4 : (t7_1 + (x4 + t10_0 - t7_0) - t10_1 : Int32).toInt = (ca : Int) + (x4.toInt + qb.2 - qa.2) - cb := q_subI i3 cb1 (by omega) (by omega)
  have i5 : (x4 + t10_0 - t7_0 + 1 : Int32).toInt = x4.toInt + qb.2 - qa.2 + 1 := q_addI i2 rfl (by omega) (by omega)
  generalize hz : x4.toInt + qb.2 - qa.2 = z at i2 i3 i4 i5
  have hsg : ∀ {R s n : Int32} {f : Nat → Int32} {v : Int}, bO R s n f v → n = sF v := fun {R s n f v} h => by
    unfold sF
    rcases h.ngB with ⟨n0, vn⟩ | ⟨n1, vn⟩
    · rw [n0, if_neg vn]
    · rw [n1, if_pos vn]
  have so : sDiv x5 qa qb x4.toInt = (sRnd x5 (sXor (sF qa.1) (sF qb.1)) (if dvN qa.1 z % dvU qb.1 z = 0 then 0 else 1) (dvN qa.1 z / dvU qb.1 z)).map (fun u => (sgI (sXor (sF qa.1) (sF qb.1)) u, x4.toInt)) := by
    unfold sDiv
    rw [if_neg hv, hz]
  unfold F_DW_divideToScale
  by_cases c : t8_0 = 0
  · have a0 : qa.1 = 0 := ha1.nil.mp c
    rw [if_pos c]
    have hc := W_clear (R := 220) (R2 := 220) (s := t1_0) (n := t1_1) (f := t2_0) (by decide) (by decide)
    generalize F_Big_clear 220 t1_0 t1_1 = y at hc ⊢
    unfold F_DW_divideToScale_c36
    have e1 : dvN qa.1 z = 0 := by
      unfold dvN
      rw [a0]
      show 10 * ((0 : Int) * _) = 0
      rw [Int.zero_mul]
      rfl
    refine Or.inr ⟨rfl, 0, ?_, Int32.toInt_toInt64 x4, hc, ?_⟩
    · rw [so, e1, Int.zero_emod, Int.zero_ediv, if_pos rfl]
      unfold sRnd
      rw [rGr_z, if_neg (by decide)]
      show some (sgI _ (0 / 10 + (0 : Int32).toInt), x4.toInt) = _
      rw [show (0 : Int) / 10 + (0 : Int32).toInt = 0 from rfl]
      unfold sgI
      split <;> rfl
    · unfold bB
      exact Nat.pow_pos (by decide)
  · have a0 : qa.1 ≠ 0 := fun h => c (ha1.nil.mpr h)
    rw [if_neg c]
    by_cases d : (t7_1 + (x4 + t10_0 - t7_0) - t10_1 : Int32) ≤ 1000
    · have d2 := q_leI d
      have hcb := cb2.1.1
      have hm : qa.1.natAbs * 10 ^ (x4 + t10_0 - t7_0 + 1 : Int32).toNatClampNeg < 2147483648 ^ 216 := by
        refine Nat.lt_of_lt_of_le (v_rt (k := 2001) ca2.1.2.1 ?_) (v_tB (by decide))
        rw [v_cn, i5]
        omega
      rw [if_pos d]
      obtain ⟨r1, r2, r3, r4, r5⟩ := V_divideRaised (R := R) (R2 := R2) (x4 := x4 + t10_0 - t7_0 + 1) (t0_0 := x4.toInt64) (t0_1 := t0_1) (t1_0 := t1_0) (t1_1 := t1_1) (t2_0 := t2_0) (t3_0 := t3_0) (t3_1 := t3_1) (t4_0 := t4_0) (t5_0 := t5_0) (t5_1 := t5_1) (t6_0 := t6_0) (t7_0 := t7_0) (t7_1 := t7_1) (t10_0 := t10_0) (t10_1 := t10_1) (z := z) (M := 216) ha1 hb1 hv i5 ⟨by omega, by omega⟩ hm (by decide)
      generalize F_DW_divideRaised R R2 (x4 + t10_0 - t7_0 + 1) x4.toInt64 t0_1 t1_0 t1_1 t2_0 t3_0 t3_1 t4_0 t5_0 t5_1 t6_0 t7_0 t7_1 t8_0 t8_1 t9_0 t10_0 t10_1 t11_0 t11_1 t12_0 = p at r1 r2 r3 r4 r5 ⊢
      have tn : 0 ≤ dvN qa.1 z / dvU qb.1 z := by
        obtain ⟨nN, nU⟩ := dv_nat (a := qa.1) (b := qb.1) (z := z)
        rw [nN, nU, ← Int.natCast_ediv]
        exact Int.natCast_nonneg _
      unfold F_DW_divideToScale_c68
      have na := hsg ha1
      have nb := hsg r5
      have key : ∀ (b : Int32) (y : Int32 × Int32 × Int32 × (Nat → Int32) × Int32 × Int32 × (Nat → Int32)), b = sXor (sF qa.1) (sF qb.1) → ((rGr x5 b p.2.1 (dvN qa.1 z / dvU qb.1 z) = 2 ∧ y.1 = 0) ∨ (rGr x5 b p.2.1 (dvN qa.1 z / dvU qb.1 z) ≠ 2 ∧ y.1 = 1 ∧ bO 220 y.2.1 y.2.2.1 y.2.2.2.1 (sgI b (dvN qa.1 z / dvU qb.1 z / 10 + (rGr x5 b p.2.1 (dvN qa.1 z / dvU qb.1 z)).toInt)) ∧ bB 217 (sgI b (dvN qa.1 z / dvU qb.1 z / 10 + (rGr x5 b p.2.1 (dvN qa.1 z / dvU qb.1 z)).toInt)))) → (y.1 = 0 ∧ (sDiv x5 qa qb x4.toInt = none ∨ ∃ q, sDiv x5 qa qb x4.toInt = some q ∧ ¬ dFit q)) ∨ (y.1 = 1 ∧ ∃ v, sDiv x5 qa qb x4.toInt = some (v, x4.toInt) ∧ p.1.toInt = x4.toInt ∧ bO 220 y.2.1 y.2.2.1 y.2.2.2.1 v ∧ bB 217 v) := fun b y hb9 hy => by
        rw [so, ← hb9, ← r2]
        unfold sRnd
        rcases hy with ⟨g, y0⟩ | ⟨g, y1, y2, y3⟩
        · rw [if_pos g]
          exact Or.inl ⟨y0, Or.inl rfl⟩
        · rw [if_neg g]
          exact Or.inr ⟨y1, _, rfl, by rw [r1]; exact Int32.toInt_toInt64 x4, y2, y3⟩
      by_cases s : t8_1 = p.2.2.2.2.2.2.2.2.2.2.2.2.1
      · rw [if_pos s]
        have hr := V_roundLast (x2 := 0) (x3 := x5) (t0_0 := p.1) (t0_1 := p.2.1) (t3_0 := p.2.2.2.2.2.2.2.2.1) (t3_1 := p.2.2.2.2.2.2.2.2.2.1) (t4_0 := p.2.2.2.2.2.2.2.2.2.2.1) r3 tn r4 (by decide) (Or.inl rfl) h5
        generalize F_DW_roundLast 0 x5 p.1 p.2.1 p.2.2.1 p.2.2.2.1 p.2.2.2.2.1 p.2.2.2.2.2.2.2.2.1 p.2.2.2.2.2.2.2.2.2.1 p.2.2.2.2.2.2.2.2.2.2.1 = y at hr ⊢
        unfold F_DW_divideToScale_c96
        refine key 0 y ?_ hr
        unfold sXor
        rw [if_pos (by rw [← na, ← nb]; exact s)]
      · rw [if_neg s]
        have hr := V_roundLast (x2 := 1) (x3 := x5) (t0_0 := p.1) (t0_1 := p.2.1) (t3_0 := p.2.2.2.2.2.2.2.2.1) (t3_1 := p.2.2.2.2.2.2.2.2.2.1) (t4_0 := p.2.2.2.2.2.2.2.2.2.2.1) r3 tn r4 (by decide) (Or.inr rfl) h5
        generalize F_DW_roundLast 1 x5 p.1 p.2.1 p.2.2.1 p.2.2.2.1 p.2.2.2.2.1 p.2.2.2.2.2.2.2.2.1 p.2.2.2.2.2.2.2.2.2.1 p.2.2.2.2.2.2.2.2.2.2.1 = y at hr ⊢
        unfold F_DW_divideToScale_c96_3
        refine key 1 y ?_ hr
        unfold sXor
        rw [if_neg (by rw [← na, ← nb]; exact s)]
    · have d2 := q_nleI d
      have hB := d_dvB (z := z) ca2 cb2 a0 hv (by omega) (by omega)
      rw [if_neg d]
      refine Or.inl ⟨rfl, ?_⟩
      rw [so]
      unfold sRnd
      generalize hG : rGr x5 (sXor (sF qa.1) (sF qb.1)) (if dvN qa.1 z % dvU qb.1 z = 0 then 0 else 1) (dvN qa.1 z / dvU qb.1 z) = G
      by_cases g : G = 2
      · rw [if_pos g]
        exact Or.inl rfl
      · rw [if_neg g]
        refine Or.inr ⟨_, rfl, fun hf => ?_⟩
        have hg : 0 ≤ G.toInt := by
          rw [← hG]
          exact rGr_neg
        have h1 := hf.1
        have h2 : (sgI (sXor (sF qa.1) (sF qb.1)) (dvN qa.1 z / dvU qb.1 z / 10 + G.toInt)).natAbs = (dvN qa.1 z / dvU qb.1 z / 10 + G.toInt).natAbs := sgI_abs
        have h3 : (dvN qa.1 z / dvU qb.1 z / 10 + G.toInt).natAbs < 10 ^ 1000 := by
          rw [← h2]
          exact h1
        have h4 := Int.ofNat_lt.mpr h3
        rw [Int.natCast_pow] at h4
        generalize dvN qa.1 z / dvU qb.1 z / 10 = Q at hB h4
        have h5 : (10 : Int) ^ 1000 ≤ ((Q + G.toInt).natAbs : Int) := by
          have := u_pos 1000
          generalize (10 : Int) ^ 1000 = T at *
          omega
        exact absurd (Int.lt_of_lt_of_le h4 h5) (Int.lt_irrefl _)
