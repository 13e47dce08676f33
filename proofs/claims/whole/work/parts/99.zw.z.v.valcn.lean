/-! values, for whole: the class's shortest figures: prepare -/
theorem y_mx {a : Int32} {p : Int} (h : a.toInt = p) (hp : -2000 ≤ p ∧ p ≤ 2000) : (if 0 < a then a else 0 : Int32).toInt = ((p.toNat : Nat) : Int) ∧ (if 0 < a then a else 0 : Int32).toNatClampNeg = p.toNat := by
  have e0 : (0 : Int32).toInt = 0 := rfl
  have k : (if 0 < a then a else 0 : Int32).toInt = ((p.toNat : Nat) : Int) := by
    by_cases g : 0 < a
    · rw [if_pos g]
      have := q_ltI g
      omega
    · rw [if_neg g]
      have := q_nltI g
      omega
  refine ⟨k, ?_⟩
  have := q_clI k (by omega)
  omega
theorem y_mx2 {a : Int32} {p : Int} (h : a.toInt = p) (hp : -2000 ≤ p ∧ p ≤ 2000) : (2 + (if 0 < a then a else 0 : Int32) : Int32).toInt = ((2 + p.toNat : Nat) : Int) ∧ (2 + (if 0 < a then a else 0 : Int32) : Int32).toNatClampNeg = 2 + p.toNat := by
  have e2 : (2 : Int32).toInt = 2 := rfl
  have k := q_addI e2 (y_mx h hp).1 (by omega) (by omega)
  have c := q_clI k (by omega)
  exact ⟨by rw [k]; omega, by omega⟩
theorem y_cl {a : Int32} {e : Int} (h : a.toInt = e) : a.toNatClampNeg = e.toNat := by
  by_cases k : 0 ≤ e
  · have := q_clI h k
    omega
  · have h2 : a.toNatClampNeg = a.toInt.toNat := rfl
    rw [h2, h]
theorem yNx_lt {A B C : Int32} {P T : Nat} {l : Int} (hF : yF A B C P T l) {u : Nat} : yNx P T u < 9007199254740992 ∧ (yFx P u = 0 → yNx P T u ≤ 4503599627370496) := by
  have f := yFx_lt (P := P) (u := u)
  have p := y_P52 hF
  unfold yNx
  split
  · exact ⟨by omega, fun h => by omega⟩
  · exact ⟨by omega, fun h => by omega⟩
theorem y_U68 {p e : Int} (hp : -1074 ≤ p) (he : e ≤ 308) : 2 ^ (2 + (-p).toNat) * 10 ^ e.toNat < 2147483648 ^ 68 := by
  refine Nat.lt_of_le_of_lt (Nat.mul_le_mul (Nat.pow_le_pow_right (by decide) (show 2 + (-p).toNat ≤ 1076 by omega)) (Nat.pow_le_pow_right (by decide) (show e.toNat ≤ 308 by omega))) ?_
  decide +kernel
/-- what prepare leaves -/
def yPrp (n Z : Nat) (qt : Prop) (e : Int) (a u b c : Nat) : Prop := (-330 ≤ e ∧ e ≤ 330) ∧ 4 * n * Z * u = a * 10 ^ (1080 + e).toNat ∧ 2 * Z * u = b * 10 ^ (1080 + e).toNat ∧ ((qt ∧ Z * u = c * 10 ^ (1080 + e).toNat) ∨ (¬ qt ∧ 2 * Z * u = c * 10 ^ (1080 + e).toNat)) ∧ (bB 75 (a : Int) ∧ bB 75 (u : Int) ∧ bB 75 (b : Int) ∧ bB 75 (c : Int))
theorem yPrp_10 {n Z a u b c : Nat} {qt : Prop} {e : Int} (h : yPrp n Z qt e a u b c) (he : e < 330) (hu : bB 75 ((10 * u : Nat) : Int)) : yPrp n Z qt (e + 1) a (10 * u) b c := by
  obtain ⟨h1, h2, h3, h4, h5, h6, h7, h8⟩ := h
  have ek : 10 ^ (1080 + (e + 1)).toNat = 10 * 10 ^ (1080 + e).toNat := by
    rw [show (1080 + (e + 1)).toNat = (1080 + e).toNat + 1 from by omega, Nat.pow_succ, Nat.mul_comm]
  refine ⟨⟨by omega, by omega⟩, ?_, ?_, ?_, h5, hu, h7, h8⟩
  · rw [ek]
    generalize 10 ^ (1080 + e).toNat = K at h2
    grind
  · rw [ek]
    generalize 10 ^ (1080 + e).toNat = K at h3
    grind
  · rw [ek]
    generalize 10 ^ (1080 + e).toNat = K at h4
    rcases h4 with ⟨q, h4⟩ | ⟨q, h4⟩
    · exact Or.inl ⟨q, by grind⟩
    · exact Or.inr ⟨q, by grind⟩
theorem V_prL {A : Int32} {B : Int32} {C : Int32} {x2 : Int64} {t0_0 : Int64} {t0_1 : Int32} {t0_2 : Int32} {t1_0 : Int32} {t1_1 : Int32} {t2_0 : (Nat → Int32)} {t3_0 : Int32} {t3_1 : Int32} {t4_0 : (Nat → Int32)} {t5_0 : Int32} {t5_1 : Int32} {t6_0 : (Nat → Int32)} {t7_0 : Int32} {t7_1 : Int32} {t8_0 : (Nat → Int32)} {a39 : Int32} {p64 : (Int32 × Int32 × (Nat → Int32))} {a99 : Int32} {p123 : (Int32 × Int32 × (Nat → Int32))} {y112 : Int32} {y113 : Int32} {f114 : (Nat → Int32)} {p147 : (Int32 × Int32 × (Nat → Int32))} {p180 : (Int32 × Int32 × (Nat → Int32))} {y169 : Int32} {y170 : Int32} {f171 : (Nat → Int32)} {p204 : (Int32 × Int32 × (Nat → Int32))} {p231 : (Int32 × Int32 × (Nat → Int32))} {y220 : Int32} {y221 : Int32} {f222 : (Nat → Int32)} {p255 : (Int32 × Int32 × (Nat → Int32))} {lx273 : Int32} {lx274 : Int32} {lx275 : (Nat → Int32)} {p311 : (Int32 × Int32 × (Nat → Int32))} {y301 : Int32} {y302 : Int32} {f303 : (Nat → Int32)} {p336 : (Int32 × Int32 × (Nat → Int32))} {y326 : Int32} {y327 : Int32} {f328 : (Nat → Int32)} {p362 : (Int32 × Int32 × (Nat → Int32))} {y352 : Int32} {y353 : Int32} {f354 : (Nat → Int32)} {p387 : (Int32 × Int32 × (Nat → Int32))} {y377 : Int32} {y378 : Int32} {f379 : (Nat → Int32)} {n' Z a b c : Nat} {qt : Prop} {e0 : Int} {u0 : Nat} (h1 : bO 220 y326 y327 f328 (a : Int)) (h3 : bO 220 y352 y353 f354 (b : Int)) (h4 : bO 220 y377 y378 f379 (c : Int)) (ha : a < 100 * u0) (hu0 : bB 68 (u0 : Int)) (he0 : -326 ≤ e0 ∧ e0 ≤ 320) : ∀ (n : Nat) (lx398 : Int32) (lx399 : Int32) (lx400 : Int32) (lx401 : Int32) (lx402 : (Nat → Int32)), ∀ (i u : Nat), lx398.toInt = (i : Int) → i ≤ 2 → 3 < n + i → lx399.toInt = e0 + (i : Int) → bO 220 lx400 lx401 lx402 (u : Int) → u = u0 * 10 ^ i → yPrp n' Z qt (e0 + (i : Int)) a u b c → (u ≤ 10 * a) → ∃ (e : Int) (u' : Nat), (F_Flo_prepare_L218 A B C x2 t0_0 t0_1 t0_2 t1_0 t1_1 t2_0 t3_0 t3_1 t4_0 t5_0 t5_1 t6_0 t7_0 t7_1 t8_0 a39 p64 a99 p123 y112 y113 f114 p147 p180 y169 y170 f171 p204 p231 y220 y221 f222 p255 lx273 lx274 lx275 p311 y301 y302 f303 p336 y326 y327 f328 p362 y352 y353 f354 p387 y377 y378 f379 n lx398 lx399 lx400 lx401 lx402).2.2.1.toInt = e ∧ (F_Flo_prepare_L218 A B C x2 t0_0 t0_1 t0_2 t1_0 t1_1 t2_0 t3_0 t3_1 t4_0 t5_0 t5_1 t6_0 t7_0 t7_1 t8_0 a39 p64 a99 p123 y112 y113 f114 p147 p180 y169 y170 f171 p204 p231 y220 y221 f222 p255 lx273 lx274 lx275 p311 y301 y302 f303 p336 y326 y327 f328 p362 y352 y353 f354 p387 y377 y378 f379 n lx398 lx399 lx400 lx401 lx402).1 = t0_0 ∧ (F_Flo_prepare_L218 A B C x2 t0_0 t0_1 t0_2 t1_0 t1_1 t2_0 t3_0 t3_1 t4_0 t5_0 t5_1 t6_0 t7_0 t7_1 t8_0 a39 p64 a99 p123 y112 y113 f114 p147 p180 y169 y170 f171 p204 p231 y220 y221 f222 p255 lx273 lx274 lx275 p311 y301 y302 f303 p336 y326 y327 f328 p362 y352 y353 f354 p387 y377 y378 f379 n lx398 lx399 lx400 lx401 lx402).2.1 = t0_1 ∧ bO 220 (F_Flo_prepare_L218 A B C x2 t0_0 t0_1 t0_2 t1_0 t1_1 t2_0 t3_0 t3_1 t4_0 t5_0 t5_1 t6_0 t7_0 t7_1 t8_0 a39 p64 a99 p123 y112 y113 f114 p147 p180 y169 y170 f171 p204 p231 y220 y221 f222 p255 lx273 lx274 lx275 p311 y301 y302 f303 p336 y326 y327 f328 p362 y352 y353 f354 p387 y377 y378 f379 n lx398 lx399 lx400 lx401 lx402).2.2.2.1 (F_Flo_prepare_L218 A B C x2 t0_0 t0_1 t0_2 t1_0 t1_1 t2_0 t3_0 t3_1 t4_0 t5_0 t5_1 t6_0 t7_0 t7_1 t8_0 a39 p64 a99 p123 y112 y113 f114 p147 p180 y169 y170 f171 p204 p231 y220 y221 f222 p255 lx273 lx274 lx275 p311 y301 y302 f303 p336 y326 y327 f328 p362 y352 y353 f354 p387 y377 y378 f379 n lx398 lx399 lx400 lx401 lx402).2.2.2.2.1 (F_Flo_prepare_L218 A B C x2 t0_0 t0_1 t0_2 t1_0 t1_1 t2_0 t3_0 t3_1 t4_0 t5_0 t5_1 t6_0 t7_0 t7_1 t8_0 a39 p64 a99 p123 y112 y113 f114 p147 p180 y169 y170 f171 p204 p231 y220 y221 f222 p255 lx273 lx274 lx275 p311 y301 y302 f303 p336 y326 y327 f328 p362 y352 y353 f354 p387 y377 y378 f379 n lx398 lx399 lx400 lx401 lx402).2.2.2.2.2.1 (a : Int) ∧ bO 220 (F_Flo_prepare_L218 A B C x2 t0_0 t0_1 t0_2 t1_0 t1_1 t2_0 t3_0 t3_1 t4_0 t5_0 t5_1 t6_0 t7_0 t7_1 t8_0 a39 p64 a99 p123 y112 y113 f114 p147 p180 y169 y170 f171 p204 p231 y220 y221 f222 p255 lx273 lx274 lx275 p311 y301 y302 f303 p336 y326 y327 f328 p362 y352 y353 f354 p387 y377 y378 f379 n lx398 lx399 lx400 lx401 lx402).2.2.2.2.2.2.1 (F_Flo_prepare_L218 A B C x2 t0_0 t0_1 t0_2 t1_0 t1_1 t2_0 t3_0 t3_1 t4_0 t5_0 t5_1 t6_0 t7_0 t7_1 t8_0 a39 p64 a99 p123 y112 y113 f114 p147 p180 y169 y170 f171 p204 p231 y220 y221 f222 p255 lx273 lx274 lx275 p311 y301 y302 f303 p336 y326 y327 f328 p362 y352 y353 f354 p387 y377 y378 f379 n lx398 lx399 lx400 lx401 lx402).2.2.2.2.2.2.2.1 (F_Flo_prepare_L218 A B C x2 t0_0 t0_1 t0_2 t1_0 t1_1 t2_0 t3_0 t3_1 t4_0 t5_0 t5_1 t6_0 t7_0 t7_1 t8_0 a39 p64 a99 p123 y112 y113 f114 p147 p180 y169 y170 f171 p204 p231 y220 y221 f222 p255 lx273 lx274 lx275 p311 y301 y302 f303 p336 y326 y327 f328 p362 y352 y353 f354 p387 y377 y378 f379 n lx398 lx399 lx400 lx401 lx402).2.2.2.2.2.2.2.2.1 (u' : Int) ∧ bO 220 (F_Flo_prepare_L218 A B C x2 t0_0 t0_1 t0_2 t1_0 t1_1 t2_0 t3_0 t3_1 t4_0 t5_0 t5_1 t6_0 t7_0 t7_1 t8_0 a39 p64 a99 p123 y112 y113 f114 p147 p180 y169 y170 f171 p204 p231 y220 y221 f222 p255 lx273 lx274 lx275 p311 y301 y302 f303 p336 y326 y327 f328 p362 y352 y353 f354 p387 y377 y378 f379 n lx398 lx399 lx400 lx401 lx402).2.2.2.2.2.2.2.2.2.1 (F_Flo_prepare_L218 A B C x2 t0_0 t0_1 t0_2 t1_0 t1_1 t2_0 t3_0 t3_1 t4_0 t5_0 t5_1 t6_0 t7_0 t7_1 t8_0 a39 p64 a99 p123 y112 y113 f114 p147 p180 y169 y170 f171 p204 p231 y220 y221 f222 p255 lx273 lx274 lx275 p311 y301 y302 f303 p336 y326 y327 f328 p362 y352 y353 f354 p387 y377 y378 f379 n lx398 lx399 lx400 lx401 lx402).2.2.2.2.2.2.2.2.2.2.1 (F_Flo_prepare_L218 A B C x2 t0_0 t0_1 t0_2 t1_0 t1_1 t2_0 t3_0 t3_1 t4_0 t5_0 t5_1 t6_0 t7_0 t7_1 t8_0 a39 p64 a99 p123 y112 y113 f114 p147 p180 y169 y170 f171 p204 p231 y220 y221 f222 p255 lx273 lx274 lx275 p311 y301 y302 f303 p336 y326 y327 f328 p362 y352 y353 f354 p387 y377 y378 f379 n lx398 lx399 lx400 lx401 lx402).2.2.2.2.2.2.2.2.2.2.2.1 (b : Int) ∧ bO 220 (F_Flo_prepare_L218 A B C x2 t0_0 t0_1 t0_2 t1_0 t1_1 t2_0 t3_0 t3_1 t4_0 t5_0 t5_1 t6_0 t7_0 t7_1 t8_0 a39 p64 a99 p123 y112 y113 f114 p147 p180 y169 y170 f171 p204 p231 y220 y221 f222 p255 lx273 lx274 lx275 p311 y301 y302 f303 p336 y326 y327 f328 p362 y352 y353 f354 p387 y377 y378 f379 n lx398 lx399 lx400 lx401 lx402).2.2.2.2.2.2.2.2.2.2.2.2.1 (F_Flo_prepare_L218 A B C x2 t0_0 t0_1 t0_2 t1_0 t1_1 t2_0 t3_0 t3_1 t4_0 t5_0 t5_1 t6_0 t7_0 t7_1 t8_0 a39 p64 a99 p123 y112 y113 f114 p147 p180 y169 y170 f171 p204 p231 y220 y221 f222 p255 lx273 lx274 lx275 p311 y301 y302 f303 p336 y326 y327 f328 p362 y352 y353 f354 p387 y377 y378 f379 n lx398 lx399 lx400 lx401 lx402).2.2.2.2.2.2.2.2.2.2.2.2.2.1 (F_Flo_prepare_L218 A B C x2 t0_0 t0_1 t0_2 t1_0 t1_1 t2_0 t3_0 t3_1 t4_0 t5_0 t5_1 t6_0 t7_0 t7_1 t8_0 a39 p64 a99 p123 y112 y113 f114 p147 p180 y169 y170 f171 p204 p231 y220 y221 f222 p255 lx273 lx274 lx275 p311 y301 y302 f303 p336 y326 y327 f328 p362 y352 y353 f354 p387 y377 y378 f379 n lx398 lx399 lx400 lx401 lx402).2.2.2.2.2.2.2.2.2.2.2.2.2.2 (c : Int) ∧ yPrp n' Z qt e a u' b c ∧ a < u' ∧ u' ≤ 10 * a := by
  have ez : (0 : Int32).toInt = 0 := rfl
  have e1 : (1 : Int32).toInt = 1 := rfl
  have e3 : (3 : Int32).toInt = 3 := rfl
  have e220 : (220 : Int32).toInt = 220 := rfl
  intro n
  induction n with
  | zero =>
    intro lx398 lx399 lx400 lx401 lx402 i u g1 g2 g3
    omega
  | succ n ih =>
    intro lx398 lx399 lx400 lx401 lx402 i u g1 g2 g3 g4 g5 g6 g7 g8
    rw [F_Flo_prepare_L218.eq_2]
    rw [if_neg (show ¬ (3 : Int32) ≤ lx398 from fun q => by have := q_leI q; clear g6; omega)]
    by_cases c1 : F_Big_compareSize 220 220 y326 y327 f328 lx400 lx401 lx402 < 0
    · rw [if_pos c1]
      have au : a < u := by
        rcases y_cmpB h1 g5 with ⟨r, _⟩ | ⟨r, _⟩ | ⟨_, r⟩
        · rw [r] at c1
          exact absurd c1 (by decide)
        · rw [r] at c1
          exact absurd c1 (by decide)
        · exact r
      exact ⟨e0 + (i : Int), u, g4, rfl, rfl, h1, g5, h3, h4, g7, au, g8⟩
    · rw [if_neg c1]
      have ua : u ≤ a := by
        rcases y_cmpB h1 g5 with ⟨_, r⟩ | ⟨_, r⟩ | ⟨r, _⟩
        · omega
        · omega
        · rw [r] at c1
          exact absurd (by decide) c1
      have i1 : i ≤ 1 := by
        rcases Nat.lt_or_ge i 2 with q | q
        · omega
        · obtain rfl : i = 2 := by clear g6; omega
          have : u = 100 * u0 := by rw [g6]; show u0 * 100 = _; omega
          omega
      have bu : bB (68 + i) (u : Int) := by
        rw [g6]
        have : i = 0 ∨ i = 1 := by clear g6; omega
        rcases this with q | q
        · rw [q, Nat.pow_zero, Nat.mul_one]
          exact hu0
        · rw [q, Nat.pow_one, Nat.mul_comm]
          exact y_b10 hu0
      have m := W_mulS (x := 10) (y := 0) g5 (by clear g6; omega) (by decide) (by decide) (by have := g5.sB bu; clear g6; omega)
      have em : (10 : Int32).toInt * (u : Int) + (0 : Int32).toInt = ((10 * u : Nat) : Int) := by
        show (10 : Int) * (u : Int) + 0 = _
        clear g6
        omega
      rw [em] at m
      revert m
      generalize F_Big_multiplySmall 220 10 0 lx400 lx401 lx402 = p
      intro m
      unfold F_Flo_prepare_c239
      have g7' := yPrp_10 g7 (by clear g6; omega) ((y_b10 bu).mono (by omega))
      rw [show e0 + (i : Int) + 1 = e0 + ((i + 1 : Nat) : Int) from by omega] at g7'
      exact ih (lx398 + 1) (lx399 + 1) p.1 p.2.1 p.2.2 (i + 1) (10 * u) (q_addI g1 e1 (by clear g6; omega) (by clear g6; omega)) (by omega) (by omega) (by rw [q_addI g4 e1 (by clear g6; omega) (by clear g6; omega)]; clear g6; omega) m (by rw [g6, Nat.pow_succ]; grind) g7' (by omega)
