/-! values, for whole: the reference's DecimalRows: add -/
theorem u_l2i {z : Int64} {k : Nat} (h : z.toInt = (k : Int)) (hk : k ≤ 5000) : (z.toInt32 + 1 : Int32).toInt = ((k + 1 : Nat) : Int) := by
  have e : z.toInt32.toInt = (k : Int) := by
    rw [s_l2i (by omega) (by omega)]
    exact h
  rw [q_addI (y := 1) e rfl (by omega) (by omega)]
  omega
theorem V_ad268 {x2 : Int32} {x3 : Int32} {x4 : Int32} {x5 : Int32} {t0_0 : Int32} {t0_1 : Int32} {t0_2 : Int32} {t0_3 : Int64} {t0_4 : Int32} {t0_5 : Int32} {t0_6 : Int32} {t0_7 : Int32} {t0_8 : Int32} {t0_9 : Int32} {t0_10 : Int32} {t1_0 : (Nat → Int32)} {t2_0 : (Nat → Int32)} {t3_0 : (Nat → Int32)} {t4_0 : (Nat → Int32)} {t5_0 : (Nat → Int32)} {lx39 : Int32} {lx68 : Int64} {lx91 : Int64} {lx114 : Int64} {lx150 : Int32} {lx173 : Int32} {lx188 : Int32} {lx203 : Int32} {lx218 : Int32} {D : Nat → Int × Int} {X Y R p : Int} {o1 o2 dX dY : Nat} (hD : dRv t1_0 t2_0 t3_0 t4_0 D) (hx2 : 0 ≤ x2.toInt ∧ x2.toInt ≤ 9) (hx4 : 0 ≤ x4.toInt ∧ x4.toInt ≤ 9) (hxa : 0 ≤ lx203.toInt ∧ lx203.toInt ≤ 9) (hxb : 0 ≤ lx218.toInt ∧ lx218.toInt ≤ 9) (hX : X = ((D lx203.toNatClampNeg).1.natAbs : Int) * 10 ^ dX) (hY : Y = ((D lx218.toNatClampNeg).1.natAbs : Int) * 10 ^ dY) (hdX : (dX : Int) = lx68.toInt - (D lx203.toNatClampNeg).2) (hdY : (dY : Int) = lx68.toInt - (D lx218.toNatClampNeg).2) (h68 : -10000 ≤ lx68.toInt ∧ lx68.toInt ≤ 10000) (hp : (lx173 = 0 ∧ p = -1) ∨ (¬ lx173 = 0 ∧ p = 1)) (h91 : lx91.toInt = (o1 : Int)) (h114 : lx114.toInt = (o2 : Int)) (ho1 : o1 ≤ 1001) (ho2 : o2 ≤ 1001) (bX : ∀ M, o1 ≤ M → o2 ≤ M → X < 10 ^ M) (bY : ∀ M, o1 ≤ M → o2 ≤ M → Y < 10 ^ M) (bR : 0 ≤ X + p * Y) (h150 : lx150 = 0 ∨ lx150 = 1) (hR1 : ¬ t1_0 (1000 * x2 : Int32).toNatClampNeg = 0 → ¬ t1_0 (1000 * x3 : Int32).toNatClampNeg = 0 → lx188 = 0 → sgI (t3_0 x2.toNatClampNeg) (X + p * Y) = R) (hR2 : ¬ t1_0 (1000 * x2 : Int32).toNatClampNeg = 0 → ¬ t1_0 (1000 * x3 : Int32).toNatClampNeg = 0 → ¬ lx188 = 0 → sgI lx150 (X + p * Y) = R) (hR3 : ¬ t1_0 (1000 * x2 : Int32).toNatClampNeg = 0 → t1_0 (1000 * x3 : Int32).toNatClampNeg = 0 → sgI (t3_0 x2.toNatClampNeg) (X + p * Y) = R) (hR4 : t1_0 (1000 * x2 : Int32).toNatClampNeg = 0 → sgI lx150 (X + p * Y) = R) : dAn x4 D (some (R, lx68.toInt)) lx39 2 (F_DR_add_J268 x2 x3 x4 x5 t0_0 t0_1 t0_2 t0_3 t0_4 t0_5 t0_6 t0_7 t0_8 t0_9 t0_10 t1_0 t2_0 t3_0 t4_0 t5_0 lx39 lx68 lx91 lx114 lx150 lx173 lx188 lx203 lx218).1 (F_DR_add_J268 x2 x3 x4 x5 t0_0 t0_1 t0_2 t0_3 t0_4 t0_5 t0_6 t0_7 t0_8 t0_9 t0_10 t1_0 t2_0 t3_0 t4_0 t5_0 lx39 lx68 lx91 lx114 lx150 lx173 lx188 lx203 lx218).2.2.2.2.2.2.2.2.2.2.2.1 (F_DR_add_J268 x2 x3 x4 x5 t0_0 t0_1 t0_2 t0_3 t0_4 t0_5 t0_6 t0_7 t0_8 t0_9 t0_10 t1_0 t2_0 t3_0 t4_0 t5_0 lx39 lx68 lx91 lx114 lx150 lx173 lx188 lx203 lx218).2.2.2.2.2.2.2.2.2.2.2.2.1 (F_DR_add_J268 x2 x3 x4 x5 t0_0 t0_1 t0_2 t0_3 t0_4 t0_5 t0_6 t0_7 t0_8 t0_9 t0_10 t1_0 t2_0 t3_0 t4_0 t5_0 lx39 lx68 lx91 lx114 lx150 lx173 lx188 lx203 lx218).2.2.2.2.2.2.2.2.2.2.2.2.2.1 (F_DR_add_J268 x2 x3 x4 x5 t0_0 t0_1 t0_2 t0_3 t0_4 t0_5 t0_6 t0_7 t0_8 t0_9 t0_10 t1_0 t2_0 t3_0 t4_0 t5_0 lx39 lx68 lx91 lx114 lx150 lx173 lx188 lx203 lx218).2.2.2.2.2.2.2.2.2.2.2.2.2.2.1 := by
  have X0 : 0 ≤ X := by
    rw [hX]
    exact Int.mul_nonneg (Int.natCast_nonneg _) (Int.le_of_lt (u_pos _))
  have Y0 : 0 ≤ Y := by
    rw [hY]
    exact Int.mul_nonneg (Int.natCast_nonneg _) (Int.le_of_lt (u_pos _))
  have go : ∀ (z : Int64) (M : Nat), z.toInt = (M : Int) → M ≤ 1001 → o1 ≤ M → o2 ≤ M → dAn x4 D (some (R, lx68.toInt)) lx39 2 (F_DR_add_J285 x2 x3 x4 x5 t0_0 t0_1 t0_2 t0_3 t0_4 t0_5 t0_6 t0_7 t0_8 t0_9 t0_10 t1_0 t2_0 t3_0 t4_0 t5_0 lx39 lx68 lx91 lx114 lx150 lx173 lx188 lx203 lx218 z).1 (F_DR_add_J285 x2 x3 x4 x5 t0_0 t0_1 t0_2 t0_3 t0_4 t0_5 t0_6 t0_7 t0_8 t0_9 t0_10 t1_0 t2_0 t3_0 t4_0 t5_0 lx39 lx68 lx91 lx114 lx150 lx173 lx188 lx203 lx218 z).2.2.2.2.2.2.2.2.2.2.2.1 (F_DR_add_J285 x2 x3 x4 x5 t0_0 t0_1 t0_2 t0_3 t0_4 t0_5 t0_6 t0_7 t0_8 t0_9 t0_10 t1_0 t2_0 t3_0 t4_0 t5_0 lx39 lx68 lx91 lx114 lx150 lx173 lx188 lx203 lx218 z).2.2.2.2.2.2.2.2.2.2.2.2.1 (F_DR_add_J285 x2 x3 x4 x5 t0_0 t0_1 t0_2 t0_3 t0_4 t0_5 t0_6 t0_7 t0_8 t0_9 t0_10 t1_0 t2_0 t3_0 t4_0 t5_0 lx39 lx68 lx91 lx114 lx150 lx173 lx188 lx203 lx218 z).2.2.2.2.2.2.2.2.2.2.2.2.2.1 (F_DR_add_J285 x2 x3 x4 x5 t0_0 t0_1 t0_2 t0_3 t0_4 t0_5 t0_6 t0_7 t0_8 t0_9 t0_10 t1_0 t2_0 t3_0 t4_0 t5_0 lx39 lx68 lx91 lx114 lx150 lx173 lx188 lx203 lx218 z).2.2.2.2.2.2.2.2.2.2.2.2.2.2.1 := fun z M hz hM l1 l2 => by
    have bx := bX M l1 l2
    have by_ := bY M l1 l2
    have hpw := u_pw M
    have hpos := u_pos M
    have nN := u_l2i hz (by omega)
    unfold F_DR_add_J285
    refine V_adL (N := M + 1) hD hx4 hxa hxb hX hY hdX hdY h68 hp nN (by omega) ⟨X0, by rw [hpw]; omega⟩ ⟨Y0, by rw [hpw]; omega⟩ ⟨bR, ?_⟩ h150 hR1 hR2 hR3 hR4 hx2 _ _ _ _ 0 rfl (Nat.zero_le _) ?_ (fun i i1 i2 => by omega) ⟨by decide, by decide⟩ ?_
    · rcases hp with ⟨_, p2⟩ | ⟨_, p2⟩
      · rw [p2, hpw]
        omega
      · rw [p2, hpw]
        omega
    · rw [nN, show (0 : Int32).toInt = 0 from rfl]
      omega
    · rw [Int.pow_zero, Int.emod_one, Int.emod_one]
      show 0 + (0 : Int32).toInt * 1 = _
      rw [show (0 : Int32).toInt = 0 from rfl]
      omega
  unfold F_DR_add_J268
  by_cases c : lg_cmp lx91 lx114 ≤ 0
  · have c2 := g_lc3 c
    rw [if_pos c]
    exact go lx114 o2 h114 ho2 (by omega) (Nat.le_refl _)
  · have c2 := g_lc4 c
    rw [if_neg c]
    exact go lx91 o1 h91 ho1 (Nat.le_refl _) (by omega)
/-- sign and size of what is added -/
theorem sg_eq {b : Int32} {v : Int} {x : Nat} (hb : b = if v < 0 then 1 else 0) : sgI b ((v.natAbs : Int) * 10 ^ x) = v * 10 ^ x := by
  have h := sF_sg (v := v)
  unfold sF at h
  rw [hb, sgI_mul, h]
theorem sgI_add {b : Int32} {v w : Int} : sgI b (v + w) = sgI b v + sgI b w := by
  unfold sgI
  split
  · rfl
  · omega
theorem sgI_n1 {b : Int32} {v : Int} : sgI b (-1 * v) = -(sgI b v) := by
  unfold sgI
  split <;> omega
theorem V_ad189 {x2 : Int32} {x3 : Int32} {x4 : Int32} {x5 : Int32} {t0_0 : Int32} {t0_1 : Int32} {t0_2 : Int32} {t0_3 : Int64} {t0_4 : Int32} {t0_5 : Int32} {t0_6 : Int32} {t0_7 : Int32} {t0_8 : Int32} {t0_9 : Int32} {t0_10 : Int32} {t1_0 : (Nat → Int32)} {t2_0 : (Nat → Int32)} {t3_0 : (Nat → Int32)} {t4_0 : (Nat → Int32)} {t5_0 : (Nat → Int32)} {lx39 : Int32} {lx68 : Int64} {lx91 : Int64} {lx114 : Int64} {lx150 : Int32} {D : Nat → Int × Int} {A B : Int} {o1 o2 dX dY : Nat} (hD : dRv t1_0 t2_0 t3_0 t4_0 D) (hx2 : 0 ≤ x2.toInt ∧ x2.toInt ≤ 9) (hx3 : 0 ≤ x3.toInt ∧ x3.toInt ≤ 9) (hx4 : 0 ≤ x4.toInt ∧ x4.toInt ≤ 9) (hA : A = (D x2.toNatClampNeg).1 * 10 ^ dX) (hB : B = sgI lx150 (((D x3.toNatClampNeg).1.natAbs : Int) * 10 ^ dY)) (hdX : (dX : Int) = lx68.toInt - (D x2.toNatClampNeg).2) (hdY : (dY : Int) = lx68.toInt - (D x3.toNatClampNeg).2) (h68 : -10000 ≤ lx68.toInt ∧ lx68.toInt ≤ 10000) (h91 : lx91.toInt = (o1 : Int)) (h114 : lx114.toInt = (o2 : Int)) (ho1 : o1 ≤ 1001) (ho2 : o2 ≤ 1001) (bX : ((D x2.toNatClampNeg).1.natAbs : Int) * 10 ^ dX < 10 ^ o1) (bY : ((D x3.toNatClampNeg).1.natAbs : Int) * 10 ^ dY < 10 ^ o2) (h150 : lx150 = 0 ∨ lx150 = 1) : dAn x4 D (some (A + B, lx68.toInt)) lx39 2 (F_DR_add_J189 x2 x3 x4 x5 t0_0 t0_1 t0_2 t0_3 t0_4 t0_5 t0_6 t0_7 t0_8 t0_9 t0_10 t1_0 t2_0 t3_0 t4_0 t5_0 lx39 lx68 lx91 lx114 lx150).1 (F_DR_add_J189 x2 x3 x4 x5 t0_0 t0_1 t0_2 t0_3 t0_4 t0_5 t0_6 t0_7 t0_8 t0_9 t0_10 t1_0 t2_0 t3_0 t4_0 t5_0 lx39 lx68 lx91 lx114 lx150).2.2.2.2.2.2.2.2.2.2.2.1 (F_DR_add_J189 x2 x3 x4 x5 t0_0 t0_1 t0_2 t0_3 t0_4 t0_5 t0_6 t0_7 t0_8 t0_9 t0_10 t1_0 t2_0 t3_0 t4_0 t5_0 lx39 lx68 lx91 lx114 lx150).2.2.2.2.2.2.2.2.2.2.2.2.1 (F_DR_add_J189 x2 x3 x4 x5 t0_0 t0_1 t0_2 t0_3 t0_4 t0_5 t0_6 t0_7 t0_8 t0_9 t0_10 t1_0 t2_0 t3_0 t4_0 t5_0 lx39 lx68 lx91 lx114 lx150).2.2.2.2.2.2.2.2.2.2.2.2.2.1 (F_DR_add_J189 x2 x3 x4 x5 t0_0 t0_1 t0_2 t0_3 t0_4 t0_5 t0_6 t0_7 t0_8 t0_9 t0_10 t1_0 t2_0 t3_0 t4_0 t5_0 lx39 lx68 lx91 lx114 lx150).2.2.2.2.2.2.2.2.2.2.2.2.2.2.1 := by
  have h2c := q_clI (i := x2) rfl hx2.1
  have s2 := (hD.2 x2.toNatClampNeg (by omega)).2.2.2.1
  have z2 := d_z0 hD hx2
  have z3 := d_z0 hD hx3
  have hA2 : A = sgI (t3_0 x2.toNatClampNeg) (((D x2.toNatClampNeg).1.natAbs : Int) * 10 ^ dX) := by
    rw [sg_eq s2]
    exact hA
  have bX2 : ∀ M, o1 ≤ M → o2 ≤ M → ((D x2.toNatClampNeg).1.natAbs : Int) * 10 ^ dX < 10 ^ M := fun M l1 _ => Int.lt_of_lt_of_le bX (u_pwle l1)
  have bY2 : ∀ M, o1 ≤ M → o2 ≤ M → ((D x3.toNatClampNeg).1.natAbs : Int) * 10 ^ dY < 10 ^ M := fun M _ l2 => Int.lt_of_lt_of_le bY (u_pwle l2)
  have X0 : 0 ≤ ((D x2.toNatClampNeg).1.natAbs : Int) * 10 ^ dX := Int.mul_nonneg (Int.natCast_nonneg _) (Int.le_of_lt (u_pos _))
  have Y0 : 0 ≤ ((D x3.toNatClampNeg).1.natAbs : Int) * 10 ^ dY := Int.mul_nonneg (Int.natCast_nonneg _) (Int.le_of_lt (u_pos _))
  have xz : (D x2.toNatClampNeg).1 = 0 → ((D x2.toNatClampNeg).1.natAbs : Int) * 10 ^ dX = 0 := fun e => by
    rw [e]
    exact Int.zero_mul _
  have yz : (D x3.toNatClampNeg).1 = 0 → ((D x3.toNatClampNeg).1.natAbs : Int) * 10 ^ dY = 0 := fun e => by
    rw [e]
    exact Int.zero_mul _
  have s0 : ∀ b : Int32, sgI b 0 = 0 := fun b => by
    unfold sgI
    split <;> rfl
  -- alike
  have al : ((D x2.toNatClampNeg).1 = 0 ∨ (D x3.toNatClampNeg).1 = 0 ∨ t3_0 x2.toNatClampNeg = lx150) → dAn x4 D (some (A + B, lx68.toInt)) lx39 2 (F_DR_add_J218 x2 x3 x4 x5 t0_0 t0_1 t0_2 t0_3 t0_4 t0_5 t0_6 t0_7 t0_8 t0_9 t0_10 t1_0 t2_0 t3_0 t4_0 t5_0 lx39 lx68 lx91 lx114 lx150).1 (F_DR_add_J218 x2 x3 x4 x5 t0_0 t0_1 t0_2 t0_3 t0_4 t0_5 t0_6 t0_7 t0_8 t0_9 t0_10 t1_0 t2_0 t3_0 t4_0 t5_0 lx39 lx68 lx91 lx114 lx150).2.2.2.2.2.2.2.2.2.2.2.1 (F_DR_add_J218 x2 x3 x4 x5 t0_0 t0_1 t0_2 t0_3 t0_4 t0_5 t0_6 t0_7 t0_8 t0_9 t0_10 t1_0 t2_0 t3_0 t4_0 t5_0 lx39 lx68 lx91 lx114 lx150).2.2.2.2.2.2.2.2.2.2.2.2.1 (F_DR_add_J218 x2 x3 x4 x5 t0_0 t0_1 t0_2 t0_3 t0_4 t0_5 t0_6 t0_7 t0_8 t0_9 t0_10 t1_0 t2_0 t3_0 t4_0 t5_0 lx39 lx68 lx91 lx114 lx150).2.2.2.2.2.2.2.2.2.2.2.2.2.1 (F_DR_add_J218 x2 x3 x4 x5 t0_0 t0_1 t0_2 t0_3 t0_4 t0_5 t0_6 t0_7 t0_8 t0_9 t0_10 t1_0 t2_0 t3_0 t4_0 t5_0 lx39 lx68 lx91 lx114 lx150).2.2.2.2.2.2.2.2.2.2.2.2.2.2.1 := fun hal => by
    unfold F_DR_add_J218 F_DR_add_J223
    rw [if_neg (by decide)]
    unfold F_DR_add_J243 F_DR_add_J244
    rw [if_pos rfl]
    unfold F_DR_add_J256
    rw [if_pos rfl]
    refine V_ad268 (p := 1) hD hx2 hx4 hx2 hx3 rfl rfl hdX hdY h68 (Or.inr ⟨by decide, rfl⟩) h91 h114 ho1 ho2 bX2 bY2 (by omega) h150 (fun n2 n3 _ => ?_) (fun _ _ h => absurd rfl h) (fun n2 e3 => ?_) (fun e2 => ?_)
    · rw [Int.one_mul, sgI_add, hA2, hB]
      congr 2
      rcases hal with e | e | e
      · exact absurd (z2.mpr e) n2
      · exact absurd (z3.mpr e) n3
      · exact e
    · rw [Int.one_mul, sgI_add, hA2, hB, yz (z3.mp e3), s0, s0]
    · rw [Int.one_mul, sgI_add, hA2, hB, xz (z2.mp e2), s0, s0]
  unfold F_DR_add_J189
  rw [d_iz hD hx2, d_iz hD hx3]
  by_cases e2 : (D x2.toNatClampNeg).1 = 0
  · rw [if_pos e2, if_neg (by decide)]
    exact al (Or.inl e2)
  · rw [if_neg e2, if_pos rfl]
    by_cases e3 : (D x3.toNatClampNeg).1 = 0
    · rw [if_pos e3, if_neg (by decide)]
      exact al (Or.inr (Or.inl e3))
    · rw [if_neg e3, if_pos rfl]
      by_cases e4 : t3_0 x2.toNatClampNeg = lx150
      · rw [if_pos e4]
        exact al (Or.inr (Or.inr e4))
      · rw [if_neg e4]
        have hneg : ∀ v : Int, sgI lx150 v = -(sgI (t3_0 x2.toNatClampNeg) v) := fun v => by
          have t01 : t3_0 x2.toNatClampNeg = 0 ∨ t3_0 x2.toNatClampNeg = 1 := by
            rw [s2]
            exact sF_01
          unfold sgI
          rcases t01 with t | t <;> rcases h150 with l | l <;> rw [t, l] at e4 ⊢
          · exact absurd rfl e4
          · rw [if_neg (by decide), if_pos rfl]
          · rw [if_pos rfl, if_neg (by decide), Int.neg_neg]
          · exact absurd rfl e4
        have hc := V_DR_compareSizes (t0_0 := lx39) (t0_1 := t0_1) (t0_2 := t0_2) (t0_3 := t0_3) (t0_4 := t0_4) (t0_5 := t0_5) (t0_6 := t0_6) (t0_7 := t0_7) (t0_8 := t0_8) (t0_9 := t0_9) (t0_10 := 2) (dX := dX) (dY := dY) hD hx2 hx3 e2 e3 (by omega)
        unfold F_DR_add_J223
        rw [if_pos rfl]
        generalize F_DR_compareSizes x2 x3 lx39 t0_1 t0_2 t0_3 t0_4 t0_5 t0_6 t0_7 t0_8 t0_9 2 t1_0 t2_0 t4_0 = r at hc ⊢
        have ns : ((D x3.toNatClampNeg).1.natAbs : Int) * 10 ^ dY ≤ ((D x2.toNatClampNeg).1.natAbs : Int) * 10 ^ dX → dAn x4 D (some (A + B, lx68.toInt)) lx39 2 (F_DR_add_J243 x2 x3 x4 x5 t0_0 t0_1 t0_2 t0_3 t0_4 t0_5 t0_6 t0_7 t0_8 t0_9 t0_10 t1_0 t2_0 t3_0 t4_0 t5_0 lx39 lx68 lx91 lx114 lx150 0).1 (F_DR_add_J243 x2 x3 x4 x5 t0_0 t0_1 t0_2 t0_3 t0_4 t0_5 t0_6 t0_7 t0_8 t0_9 t0_10 t1_0 t2_0 t3_0 t4_0 t5_0 lx39 lx68 lx91 lx114 lx150 0).2.2.2.2.2.2.2.2.2.2.2.1 (F_DR_add_J243 x2 x3 x4 x5 t0_0 t0_1 t0_2 t0_3 t0_4 t0_5 t0_6 t0_7 t0_8 t0_9 t0_10 t1_0 t2_0 t3_0 t4_0 t5_0 lx39 lx68 lx91 lx114 lx150 0).2.2.2.2.2.2.2.2.2.2.2.2.1 (F_DR_add_J243 x2 x3 x4 x5 t0_0 t0_1 t0_2 t0_3 t0_4 t0_5 t0_6 t0_7 t0_8 t0_9 t0_10 t1_0 t2_0 t3_0 t4_0 t5_0 lx39 lx68 lx91 lx114 lx150 0).2.2.2.2.2.2.2.2.2.2.2.2.2.1 (F_DR_add_J243 x2 x3 x4 x5 t0_0 t0_1 t0_2 t0_3 t0_4 t0_5 t0_6 t0_7 t0_8 t0_9 t0_10 t1_0 t2_0 t3_0 t4_0 t5_0 lx39 lx68 lx91 lx114 lx150 0).2.2.2.2.2.2.2.2.2.2.2.2.2.2.1 := fun hle => by
          unfold F_DR_add_J243 F_DR_add_J244
          rw [if_pos rfl]
          unfold F_DR_add_J256
          rw [if_pos rfl]
          refine V_ad268 (p := -1) hD hx2 hx4 hx2 hx3 rfl rfl hdX hdY h68 (Or.inl ⟨rfl, rfl⟩) h91 h114 ho1 ho2 bX2 bY2 (by omega) h150 (fun _ _ _ => ?_) (fun _ _ h => absurd rfl h) (fun _ e => absurd (z3.mp e) e3) (fun e => absurd (z2.mp e) e2)
          rw [sgI_add, sgI_n1, hA2, hB, hneg]
        rcases hc with ⟨r1, r2⟩ | ⟨r1, r2⟩ | ⟨r1, r2⟩
        · rw [r1, if_pos (by decide)]
          exact ns (by omega)
        · rw [r1, if_pos (by decide)]
          exact ns (by omega)
        · rw [r1, if_neg (by decide)]
          unfold F_DR_add_J244
          rw [if_neg (by decide)]
          unfold F_DR_add_J256
          rw [if_neg (by decide)]
          refine V_ad268 (p := -1) hD hx2 hx4 hx3 hx2 rfl rfl hdY hdX h68 (Or.inl ⟨rfl, rfl⟩) h91 h114 ho1 ho2 bY2 bX2 (by omega) h150 (fun _ _ h => absurd h (by decide)) (fun _ _ _ => ?_) (fun _ e => absurd (z3.mp e) e3) (fun e => absurd (z2.mp e) e2)
          rw [sgI_add, sgI_n1, hneg (((D x2.toNatClampNeg).1.natAbs : Int) * 10 ^ dX), Int.neg_neg, ← hA2, ← hB, Int.add_comm]
theorem d_al {v : Int} {m d : Nat} (h : vG v m) : (v.natAbs : Int) * 10 ^ d < 10 ^ (if v = 0 then 1 else m + d) := by
  by_cases z : v = 0
  · rw [if_pos z, z]
    show (0 : Int) * _ < _
    rw [Int.zero_mul]
    exact u_pos 1
  · rw [if_neg z]
    exact (d_bd h z).2
/-- a number that is far longer than the other -/
theorem d_far {a b : Int} {m d : Nat} (h : vG a m) (ha : a ≠ 0) (hd : 1001 < m + d) (hb : b.natAbs < 10 ^ 1000) (s : Int) : ¬ dFit (a * 10 ^ d + b, s) ∧ ¬ dFit (b + a * 10 ^ d, s) := by
  have h1 := (d_bd (d := d) h ha).1
  have h2 : (10 : Int) ^ 1001 ≤ 10 ^ (m - 1 + d) := u_pwle (by omega)
  have h3 : (a * 10 ^ d).natAbs = a.natAbs * 10 ^ d := by
    rw [Int.natAbs_mul, Int.natAbs_pow]
    rfl
  have h4 : 10 ^ 1001 ≤ (a * 10 ^ d).natAbs := by
    rw [h3]
    apply Int.ofNat_le.mp
    rw [Int.natCast_pow, Int.natCast_mul, Int.natCast_pow]
    exact Int.le_trans h2 h1
  have h5 : (10 : Nat) ^ 1001 = 10 ^ 1000 * 10 := Nat.pow_succ ..
  rw [h5] at h4
  have k : ∀ z : Int, (z = a * 10 ^ d + b ∨ z = b + a * 10 ^ d) → ¬ z.natAbs < 10 ^ 1000 := fun z hz hlt => by
    generalize (10 : Nat) ^ 1000 = T at *
    generalize a * 10 ^ d = W at *
    omega
  exact ⟨fun hf => k _ (Or.inl rfl) hf.1, fun hf => k _ (Or.inr rfl) hf.1⟩
/-- what is added: b, or -b -/
def sLe (x : Int32) (b : Int) : Int := if x = 0 then b else -b
theorem V_ad139 {x2 : Int32} {x3 : Int32} {x4 : Int32} {x5 : Int32} {t0_0 : Int32} {t0_1 : Int32} {t0_2 : Int32} {t0_3 : Int64} {t0_4 : Int32} {t0_5 : Int32} {t0_6 : Int32} {t0_7 : Int32} {t0_8 : Int32} {t0_9 : Int32} {t0_10 : Int32} {t1_0 : (Nat → Int32)} {t2_0 : (Nat → Int32)} {t3_0 : (Nat → Int32)} {t4_0 : (Nat → Int32)} {t5_0 : (Nat → Int32)} {lx39 : Int32} {lx68 : Int64} {lx91 : Int64} {lx114 : Int64} {D : Nat → Int × Int} {o1 o2 dX dY : Nat} (hD : dRv t1_0 t2_0 t3_0 t4_0 D) (hx2 : 0 ≤ x2.toInt ∧ x2.toInt ≤ 9) (hx3 : 0 ≤ x3.toInt ∧ x3.toInt ≤ 9) (hx4 : 0 ≤ x4.toInt ∧ x4.toInt ≤ 9) (h5 : x5 = 0 ∨ x5 = 1) (h39 : lx39 = 0) (hdX : (dX : Int) = lx68.toInt - (D x2.toNatClampNeg).2) (hdY : (dY : Int) = lx68.toInt - (D x3.toNatClampNeg).2) (h00 : dX = 0 ∨ dY = 0) (h68 : -10000 ≤ lx68.toInt ∧ lx68.toInt ≤ 10000) (h91 : lx91.toInt = (o1 : Int)) (h114 : lx114.toInt = (o2 : Int)) (ho1 : o1 = if (D x2.toNatClampNeg).1 = 0 then 1 else (t2_0 x2.toNatClampNeg).toNatClampNeg + dX) (ho2 : o2 = if (D x3.toNatClampNeg).1 = 0 then 1 else (t2_0 x3.toNatClampNeg).toNatClampNeg + dY) : dAn x4 D (some ((D x2.toNatClampNeg).1 * 10 ^ dX + sLe x5 (D x3.toNatClampNeg).1 * 10 ^ dY, lx68.toInt)) 0 2 (F_DR_add_J139 x2 x3 x4 x5 t0_0 t0_1 t0_2 t0_3 t0_4 t0_5 t0_6 t0_7 t0_8 t0_9 t0_10 t1_0 t2_0 t3_0 t4_0 t5_0 lx39 lx68 lx91 lx114).1 (F_DR_add_J139 x2 x3 x4 x5 t0_0 t0_1 t0_2 t0_3 t0_4 t0_5 t0_6 t0_7 t0_8 t0_9 t0_10 t1_0 t2_0 t3_0 t4_0 t5_0 lx39 lx68 lx91 lx114).2.2.2.2.2.2.2.2.2.2.2.1 (F_DR_add_J139 x2 x3 x4 x5 t0_0 t0_1 t0_2 t0_3 t0_4 t0_5 t0_6 t0_7 t0_8 t0_9 t0_10 t1_0 t2_0 t3_0 t4_0 t5_0 lx39 lx68 lx91 lx114).2.2.2.2.2.2.2.2.2.2.2.2.1 (F_DR_add_J139 x2 x3 x4 x5 t0_0 t0_1 t0_2 t0_3 t0_4 t0_5 t0_6 t0_7 t0_8 t0_9 t0_10 t1_0 t2_0 t3_0 t4_0 t5_0 lx39 lx68 lx91 lx114).2.2.2.2.2.2.2.2.2.2.2.2.2.1 (F_DR_add_J139 x2 x3 x4 x5 t0_0 t0_1 t0_2 t0_3 t0_4 t0_5 t0_6 t0_7 t0_8 t0_9 t0_10 t1_0 t2_0 t3_0 t4_0 t5_0 lx39 lx68 lx91 lx114).2.2.2.2.2.2.2.2.2.2.2.2.2.2.1 := by
  have eK : (1001 : Int64).toInt = 1001 := rfl
  have h2c := q_clI (i := x2) rfl hx2.1
  have h3c := q_clI (i := x3) rfl hx3.1
  obtain ⟨a1, a2, a3, a4, a5, a6⟩ := hD.2 x2.toNatClampNeg (by omega)
  obtain ⟨b1, b2, b3, b4, b5, b6⟩ := hD.2 x3.toNatClampNeg (by omega)
  have ma := q_clI (i := t2_0 x2.toNatClampNeg) rfl (by omega)
  have mb := q_clI (i := t2_0 x3.toNatClampNeg) rfl (by omega)
  have la : (D x2.toNatClampNeg).1.natAbs < 10 ^ 1000 := (vG_le a3 (by decide)).mp (by omega)
  have lb : (D x3.toNatClampNeg).1.natAbs < 10 ^ 1000 := (vG_le b3 (by decide)).mp (by omega)
  have sab : (sLe x5 (D x3.toNatClampNeg).1).natAbs = (D x3.toNatClampNeg).1.natAbs := by
    unfold sLe
    split
    · rfl
    · exact Int.natAbs_neg _
  unfold F_DR_add_J139
  by_cases c : 0 < lg_cmp lx91 1001
  · have c2 := g_lc7 c
    have na : (D x2.toNatClampNeg).1 ≠ 0 := fun e => by
      rw [if_pos e] at ho1
      omega
    rw [if_neg na] at ho1
    have dy : dY = 0 := by omega
    rw [if_pos c]
    refine Or.inr ⟨Or.inr ⟨_, rfl, ?_⟩, rfl, hD⟩
    rw [dy, Int.pow_zero, Int.mul_one]
    exact (d_far a3 na (by omega) (by rw [sab]; exact lb) _).1
  · have c2 := g_lc8 c
    rw [if_neg c]
    by_cases d : lg_cmp lx114 1001 ≤ 0
    · have d2 := g_lc3 d
      rw [if_pos d, d_iz hD hx3, b4]
      have k1 : o1 ≤ 1001 := by omega
      have k2 : o2 ≤ 1001 := by omega
      have bX := d_al (d := dX) a3
      have bY := d_al (d := dY) b3
      rw [← ho1] at bX
      rw [← ho2] at bY
      by_cases z : (D x3.toNatClampNeg).1 = 0
      · rw [if_pos z, if_neg (by decide)]
        unfold F_DR_add_J188
        have h := V_ad189 (x5 := x5) (t0_0 := t0_0) (t0_1 := t0_1) (t0_2 := t0_2) (t0_3 := t0_3) (t0_4 := t0_4) (t0_5 := t0_5) (t0_6 := t0_6) (t0_7 := t0_7) (t0_8 := t0_8) (t0_9 := t0_9) (t0_10 := t0_10) (t5_0 := t5_0) (lx39 := lx39) (lx150 := 0) hD hx2 hx3 hx4 rfl rfl hdX hdY h68 h91 h114 k1 k2 bX bY (Or.inl rfl)
        rw [h39] at h ⊢
        refine dAn_o h ?_
        have e9 : sgI 0 (((D x3.toNatClampNeg).1.natAbs : Int) * 10 ^ dY) = sLe x5 (D x3.toNatClampNeg).1 * 10 ^ dY := by
          rw [z]
          unfold sLe sgI
          rw [if_pos rfl]
          split
          · rfl
          · rfl
        rw [e9]
      · rw [if_neg z, if_pos rfl]
        have key : ∀ l : Int32, (l = 0 ∨ l = 1) → sgI l (((D x3.toNatClampNeg).1.natAbs : Int) * 10 ^ dY) = sLe x5 (D x3.toNatClampNeg).1 * 10 ^ dY → dAn x4 D (some ((D x2.toNatClampNeg).1 * 10 ^ dX + sLe x5 (D x3.toNatClampNeg).1 * 10 ^ dY, lx68.toInt)) 0 2 (F_DR_add_J189 x2 x3 x4 x5 t0_0 t0_1 t0_2 t0_3 t0_4 t0_5 t0_6 t0_7 t0_8 t0_9 t0_10 t1_0 t2_0 t3_0 t4_0 t5_0 lx39 lx68 lx91 lx114 l).1 (F_DR_add_J189 x2 x3 x4 x5 t0_0 t0_1 t0_2 t0_3 t0_4 t0_5 t0_6 t0_7 t0_8 t0_9 t0_10 t1_0 t2_0 t3_0 t4_0 t5_0 lx39 lx68 lx91 lx114 l).2.2.2.2.2.2.2.2.2.2.2.1 (F_DR_add_J189 x2 x3 x4 x5 t0_0 t0_1 t0_2 t0_3 t0_4 t0_5 t0_6 t0_7 t0_8 t0_9 t0_10 t1_0 t2_0 t3_0 t4_0 t5_0 lx39 lx68 lx91 lx114 l).2.2.2.2.2.2.2.2.2.2.2.2.1 (F_DR_add_J189 x2 x3 x4 x5 t0_0 t0_1 t0_2 t0_3 t0_4 t0_5 t0_6 t0_7 t0_8 t0_9 t0_10 t1_0 t2_0 t3_0 t4_0 t5_0 lx39 lx68 lx91 lx114 l).2.2.2.2.2.2.2.2.2.2.2.2.2.1 (F_DR_add_J189 x2 x3 x4 x5 t0_0 t0_1 t0_2 t0_3 t0_4 t0_5 t0_6 t0_7 t0_8 t0_9 t0_10 t1_0 t2_0 t3_0 t4_0 t5_0 lx39 lx68 lx91 lx114 l).2.2.2.2.2.2.2.2.2.2.2.2.2.2.1 := fun l hl e9 => by
          have h := V_ad189 (x5 := x5) (t0_0 := t0_0) (t0_1 := t0_1) (t0_2 := t0_2) (t0_3 := t0_3) (t0_4 := t0_4) (t0_5 := t0_5) (t0_6 := t0_6) (t0_7 := t0_7) (t0_8 := t0_8) (t0_9 := t0_9) (t0_10 := t0_10) (t5_0 := t5_0) (lx39 := lx39) (lx150 := l) hD hx2 hx3 hx4 rfl rfl hdX hdY h68 h91 h114 k1 k2 bX bY hl
          rw [h39] at h ⊢
          exact dAn_o h (by rw [e9])
        have s0 : sgI 0 (((D x3.toNatClampNeg).1.natAbs : Int) * 10 ^ dY) = ((D x3.toNatClampNeg).1.natAbs : Int) * 10 ^ dY := if_pos rfl
        have s1 : sgI 1 (((D x3.toNatClampNeg).1.natAbs : Int) * 10 ^ dY) = -((D x3.toNatClampNeg).1.natAbs : Int) * 10 ^ dY := by
          rw [Int.neg_mul]
          exact if_neg (by decide)
        by_cases g : (D x3.toNatClampNeg).1 < 0
        · rw [if_pos g]
          rcases h5 with e | e
          · rw [if_neg (show ¬ (1 : Int32) = x5 by rw [e]; decide)]
            refine key 1 (Or.inr rfl) ?_
            have hh : -((D x3.toNatClampNeg).1.natAbs : Int) = sLe x5 (D x3.toNatClampNeg).1 := by
              unfold sLe
              rw [if_pos e]
              clear la lb bX bY
              omega
            rw [s1, hh]
          · rw [if_pos (show (1 : Int32) = x5 from e.symm)]
            unfold F_DR_add_J188
            refine key 0 (Or.inl rfl) ?_
            have hh : ((D x3.toNatClampNeg).1.natAbs : Int) = sLe x5 (D x3.toNatClampNeg).1 := by
              unfold sLe
              rw [if_neg (by rw [e]; decide)]
              clear la lb bX bY
              omega
            rw [s0, hh]
        · rw [if_neg g]
          rcases h5 with e | e
          · rw [if_pos (show (0 : Int32) = x5 from e.symm)]
            unfold F_DR_add_J188
            refine key 0 (Or.inl rfl) ?_
            have hh : ((D x3.toNatClampNeg).1.natAbs : Int) = sLe x5 (D x3.toNatClampNeg).1 := by
              unfold sLe
              rw [if_pos e]
              clear la lb bX bY
              omega
            rw [s0, hh]
          · rw [if_neg (show ¬ (0 : Int32) = x5 by rw [e]; decide)]
            refine key 1 (Or.inr rfl) ?_
            have hh : -((D x3.toNatClampNeg).1.natAbs : Int) = sLe x5 (D x3.toNatClampNeg).1 := by
              unfold sLe
              rw [if_neg (by rw [e]; decide)]
              clear la lb bX bY
              omega
            rw [s1, hh]
    · have d2 := g_lc4 d
      have nb : (D x3.toNatClampNeg).1 ≠ 0 := fun e => by
        rw [if_pos e] at ho2
        omega
      rw [if_neg nb] at ho2
      have dx : dX = 0 := by omega
      rw [if_neg d]
      refine Or.inr ⟨Or.inr ⟨_, rfl, ?_⟩, rfl, hD⟩
      rw [dx, Int.pow_zero, Int.mul_one]
      exact (d_far (vG_abs b3 sab) (fun e => nb (by rw [e] at sab; omega)) (by omega) la _).2
/-- the sum, exactly -/
def sAdd (x : Int32) (q r : Int × Int) : Int × Int := (q.1 * 10 ^ ((if q.2 ≤ r.2 then r.2 else q.2) - q.2).toNat + sLe x r.1 * 10 ^ ((if q.2 ≤ r.2 then r.2 else q.2) - r.2).toNat, if q.2 ≤ r.2 then r.2 else q.2)
theorem V_DR_add {x2 : Int32} {x3 : Int32} {x4 : Int32} {x5 : Int32} {t0_0 : Int32} {t0_1 : Int32} {t0_2 : Int32} {t0_3 : Int64} {t0_4 : Int32} {t0_5 : Int32} {t0_6 : Int32} {t0_7 : Int32} {t0_8 : Int32} {t0_9 : Int32} {t0_10 : Int32} {t1_0 : (Nat → Int32)} {t2_0 : (Nat → Int32)} {t3_0 : (Nat → Int32)} {t4_0 : (Nat → Int32)} {t5_0 : (Nat → Int32)} {D : Nat → Int × Int} (hD : dRv t1_0 t2_0 t3_0 t4_0 D) (hx2 : 0 ≤ x2.toInt ∧ x2.toInt ≤ 9) (hx3 : 0 ≤ x3.toInt ∧ x3.toInt ≤ 9) (hx4 : 0 ≤ x4.toInt ∧ x4.toInt ≤ 9) (h5 : x5 = 0 ∨ x5 = 1) : dAn x4 D (some (sAdd x5 (D x2.toNatClampNeg) (D x3.toNatClampNeg))) 0 2 (F_DR_add x2 x3 x4 x5 t0_0 t0_1 t0_2 t0_3 t0_4 t0_5 t0_6 t0_7 t0_8 t0_9 t0_10 t1_0 t2_0 t3_0 t4_0 t5_0).1 (F_DR_add x2 x3 x4 x5 t0_0 t0_1 t0_2 t0_3 t0_4 t0_5 t0_6 t0_7 t0_8 t0_9 t0_10 t1_0 t2_0 t3_0 t4_0 t5_0).2.2.2.2.2.2.2.2.2.2.2.1 (F_DR_add x2 x3 x4 x5 t0_0 t0_1 t0_2 t0_3 t0_4 t0_5 t0_6 t0_7 t0_8 t0_9 t0_10 t1_0 t2_0 t3_0 t4_0 t5_0).2.2.2.2.2.2.2.2.2.2.2.2.1 (F_DR_add x2 x3 x4 x5 t0_0 t0_1 t0_2 t0_3 t0_4 t0_5 t0_6 t0_7 t0_8 t0_9 t0_10 t1_0 t2_0 t3_0 t4_0 t5_0).2.2.2.2.2.2.2.2.2.2.2.2.2.1 (F_DR_add x2 x3 x4 x5 t0_0 t0_1 t0_2 t0_3 t0_4 t0_5 t0_6 t0_7 t0_8 t0_9 t0_10 t1_0 t2_0 t3_0 t4_0 t5_0).2.2.2.2.2.2.2.2.2.2.2.2.2.2.1 := by
  have h2c := q_clI (i := x2) rfl hx2.1
  have h3c := q_clI (i := x3) rfl hx3.1
  obtain ⟨a1, a2, a3, a4, a5, a6⟩ := hD.2 x2.toNatClampNeg (by omega)
  obtain ⟨b1, b2, b3, b4, b5, b6⟩ := hD.2 x3.toNatClampNeg (by omega)
  have ma := q_clI (i := t2_0 x2.toNatClampNeg) rfl (by omega)
  have mb := q_clI (i := t2_0 x3.toNatClampNeg) rfl (by omega)
  have e1 : (1 : Int64).toInt = ((1 : Nat) : Int) := rfl
  unfold F_DR_add
  rw [if_pos (g_no0 hx2), if_pos (g_no0 hx3), if_pos (g_no0 hx4)]
  unfold F_DR_add_J27
  rw [if_pos (by decide)]
  have go : ∀ (l : Int64) (dX dY : Nat), (dX : Int) = l.toInt - (D x2.toNatClampNeg).2 → (dY : Int) = l.toInt - (D x3.toNatClampNeg).2 → (dX = 0 ∨ dY = 0) → (-10000 ≤ l.toInt ∧ l.toInt ≤ 10000) → dAn x4 D (some ((D x2.toNatClampNeg).1 * 10 ^ dX + sLe x5 (D x3.toNatClampNeg).1 * 10 ^ dY, l.toInt)) 0 2 (F_DR_add_J75 x2 x3 x4 x5 t0_0 t0_1 t0_2 t0_3 t0_4 t0_5 t0_6 t0_7 t0_8 t0_9 t0_10 t1_0 t2_0 t3_0 t4_0 t5_0 0 l).1 (F_DR_add_J75 x2 x3 x4 x5 t0_0 t0_1 t0_2 t0_3 t0_4 t0_5 t0_6 t0_7 t0_8 t0_9 t0_10 t1_0 t2_0 t3_0 t4_0 t5_0 0 l).2.2.2.2.2.2.2.2.2.2.2.1 (F_DR_add_J75 x2 x3 x4 x5 t0_0 t0_1 t0_2 t0_3 t0_4 t0_5 t0_6 t0_7 t0_8 t0_9 t0_10 t1_0 t2_0 t3_0 t4_0 t5_0 0 l).2.2.2.2.2.2.2.2.2.2.2.2.1 (F_DR_add_J75 x2 x3 x4 x5 t0_0 t0_1 t0_2 t0_3 t0_4 t0_5 t0_6 t0_7 t0_8 t0_9 t0_10 t1_0 t2_0 t3_0 t4_0 t5_0 0 l).2.2.2.2.2.2.2.2.2.2.2.2.2.1 (F_DR_add_J75 x2 x3 x4 x5 t0_0 t0_1 t0_2 t0_3 t0_4 t0_5 t0_6 t0_7 t0_8 t0_9 t0_10 t1_0 t2_0 t3_0 t4_0 t5_0 0 l).2.2.2.2.2.2.2.2.2.2.2.2.2.2.1 := fun l dX dY hdX hdY h00 h68 => by
    have lenA : ((t2_0 x2.toNatClampNeg).toInt64 + l - (t4_0 x2.toNatClampNeg).toInt64 : Int64).toInt = (((t2_0 x2.toNatClampNeg).toNatClampNeg + dX : Nat) : Int) := by
      rw [q_subL (q_addL (Int32.toInt_toInt64 _) rfl (by omega) (by omega)) ((Int32.toInt_toInt64 _).trans a5) (by omega) (by omega)]
      omega
    have lenB : ((t2_0 x3.toNatClampNeg).toInt64 + l - (t4_0 x3.toNatClampNeg).toInt64 : Int64).toInt = (((t2_0 x3.toNatClampNeg).toNatClampNeg + dY : Nat) : Int) := by
      rw [q_subL (q_addL (Int32.toInt_toInt64 _) rfl (by omega) (by omega)) ((Int32.toInt_toInt64 _).trans b5) (by omega) (by omega)]
      omega
    unfold F_DR_add_J75
    rw [d_iz hD hx2]
    by_cases za : (D x2.toNatClampNeg).1 = 0
    · rw [if_pos za, if_neg (by decide)]
      unfold F_DR_add_J107
      rw [d_iz hD hx3]
      by_cases zb : (D x3.toNatClampNeg).1 = 0
      · rw [if_pos zb, if_neg (by decide)]
        exact V_ad139 hD hx2 hx3 hx4 h5 rfl hdX hdY h00 h68 e1 e1 (if_pos za).symm (if_pos zb).symm
      · rw [if_neg zb, if_pos rfl]
        exact V_ad139 hD hx2 hx3 hx4 h5 rfl hdX hdY h00 h68 e1 lenB (if_pos za).symm (if_neg zb).symm
    · rw [if_neg za, if_pos rfl]
      unfold F_DR_add_J107
      rw [d_iz hD hx3]
      by_cases zb : (D x3.toNatClampNeg).1 = 0
      · rw [if_pos zb, if_neg (by decide)]
        exact V_ad139 hD hx2 hx3 hx4 h5 rfl hdX hdY h00 h68 lenA e1 (if_neg za).symm (if_pos zb).symm
      · rw [if_neg zb, if_pos rfl]
        exact V_ad139 hD hx2 hx3 hx4 h5 rfl hdX hdY h00 h68 lenA lenB (if_neg za).symm (if_neg zb).symm
  have i2 : ((t4_0 x2.toNatClampNeg).toInt64).toInt = (D x2.toNatClampNeg).2 := (Int32.toInt_toInt64 _).trans a5
  have i3 : ((t4_0 x3.toNatClampNeg).toInt64).toInt = (D x3.toNatClampNeg).2 := (Int32.toInt_toInt64 _).trans b5
  by_cases c : t4_0 x2.toNatClampNeg ≤ t4_0 x3.toNatClampNeg
  · have c2 := q_leI c
    rw [if_pos c]
    have h := go (t4_0 x3.toNatClampNeg).toInt64 ((D x3.toNatClampNeg).2 - (D x2.toNatClampNeg).2).toNat ((D x3.toNatClampNeg).2 - (D x3.toNatClampNeg).2).toNat (by omega) (by omega) (by omega) (by omega)
    refine dAn_o h ?_
    unfold sAdd
    rw [if_pos (show (D x2.toNatClampNeg).2 ≤ (D x3.toNatClampNeg).2 by omega), i3]
  · have c2 := q_nleI c
    rw [if_neg c]
    have h := go (t4_0 x2.toNatClampNeg).toInt64 ((D x2.toNatClampNeg).2 - (D x2.toNatClampNeg).2).toNat ((D x2.toNatClampNeg).2 - (D x3.toNatClampNeg).2).toNat (by omega) (by omega) (by omega) (by omega)
    refine dAn_o h ?_
    unfold sAdd
    rw [if_neg (show ¬ (D x2.toNatClampNeg).2 ≤ (D x3.toNatClampNeg).2 by omega), i2]
