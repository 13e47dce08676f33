/-! values, for whole: the class's shortest figures -/
theorem y_fsh {V L H δ Z t a b c u k S0 T z : Nat} {ev X Y : Prop} (hc : yCar V δ Z u t a b c (10 ^ k)) (hY : Y ↔ yUp V H ev k) (hX : X ↔ ¬ yDn V L ev k) (hF1 : ∃ j, 10 ^ j ≤ V ∧ V < 10 ^ (j + 1) ∧ k + 1 ≤ j ∧ ∀ i, k < i → i + 1 ≤ j → ¬ (yDn V L ev i ∨ yUp V H ev i)) (hd : yDn V L ev k ∨ yUp V H ev k) (h : (Y ∧ (X ∨ u < 2 * a ∨ (2 * a = u ∧ t % 2 = 1)) ∧ S0 = t + 1) ∨ (¬ (Y ∧ (X ∨ u < 2 * a ∨ (2 * a = u ∧ t % 2 = 1))) ∧ S0 = t)) (h2 : S0 = T * 10 ^ z) (h3 : T % 10 ≠ 0) : ySho V L H ev T (k + z) := by
  have hp : 0 < 10 ^ k := Nat.pow_pos (by decide)
  obtain ⟨j, j1, j2, j3, j4⟩ := hF1
  have q := (yCar_t hc hp).1
  obtain ⟨f1, f2⟩ := yCar_hf hc hp
  have mo : yMo V L H ev k ↔ (Y ∧ (X ∨ u < 2 * a ∨ (2 * a = u ∧ t % 2 = 1))) := by
    unfold yMo
    rw [f1, f2, q, hY, hX]
  refine ⟨k, S0, z, ⟨j, j1, j2, j3, hd, j4⟩, ?_, h2, h3, rfl⟩
  rcases h with ⟨h4, h5, h6⟩ | ⟨h4, h6⟩
  · exact Or.inl ⟨mo.mpr ⟨h4, h5⟩, by rw [q]; exact h6⟩
  · exact Or.inr ⟨fun w => h4 (mo.mp w), by rw [q]; exact h6⟩
theorem V_f182 {K_F_Flo_findShortest_L59 : Int32 → Int64 → Int32 → Int32 → (Nat → Int32) → Int32 → Int32 → (Nat → Int32) → Int32 → Int32 → (Nat → Int32) → Int32 → Int32 → (Nat → Int32) → (Int64 × Int32 × Int32 × Int32 × Int32 × (Nat → Int32) × Int32 × Int32 × (Nat → Int32) × Int32 × Int32 × (Nat → Int32) × Int32 × Int32 × (Nat → Int32) × Int32 × Int32 × (Nat → Int32))} {A : Int32} {B : Int32} {C : Int32} {x2 : Int64} {t0_0 : Int64} {t0_1 : Int32} {t0_2 : Int32} {t1_0 : Int32} {t1_1 : Int32} {t2_0 : (Nat → Int32)} {t3_0 : Int32} {t3_1 : Int32} {t4_0 : (Nat → Int32)} {t5_0 : Int32} {t5_1 : Int32} {t6_0 : (Nat → Int32)} {t7_0 : Int32} {t7_1 : Int32} {t8_0 : (Nat → Int32)} {t9_0 : Int32} {t9_1 : Int32} {t10_0 : (Nat → Int32)} {p105 : (Int64 × Int32 × Int32 × Int32 × Int32 × (Nat → Int32) × Int32 × Int32 × (Nat → Int32) × Int32 × Int32 × (Nat → Int32) × Int32 × Int32 × (Nat → Int32))} {y61 : Int64} {y62 : Int32} {y63 : Int32} {y65 : Int32} {y66 : Int32} {f67 : (Nat → Int32)} {y70 : Int32} {y71 : Int32} {f72 : (Nat → Int32)} {y75 : Int32} {y76 : Int32} {f77 : (Nat → Int32)} {y80 : Int32} {y81 : Int32} {f82 : (Nat → Int32)} {lx134 : Int32} {lx177 : Int32} {lx178 : Int64} {lx179 : Int32} {lx180 : Int32} {lx181 : (Nat → Int32)} {lx182 : Int32} {lx183 : Int32} {lx184 : (Nat → Int32)} {lx185 : Int32} {lx186 : Int32} {lx187 : (Nat → Int32)} {lx188 : Int32} {lx189 : Int32} {lx190 : (Nat → Int32)} {j235 : Int64} {p274 : (Int32 × Int32 × Int32 × (Nat → Int32) × Int32 × Int32 × (Nat → Int32) × Int32 × Int32 × (Nat → Int32))} {a303 : Int32} {j294 : Int64} {y241 : Int32} {y242 : Int32} {f243 : (Nat → Int32)} {y246 : Int32} {y247 : Int32} {f248 : (Nat → Int32)} {y251 : Int32} {y252 : Int32} {f253 : (Nat → Int32)} {lx308 : Int32} {lx328 : Int32} {p362 : (Int32 × Int32 × (Nat → Int32))} {p385 : (Int32 × Int32 × (Nat → Int32))} {a397 : Int32} {y375 : Int32} {y376 : Int32} {f377 : (Nat → Int32)} {lx402 : Int32} {lx422 : Int32} {V L H δ Z t a b c u k m : Nat} {e : Int} {ev : Prop} (hc : yCar V δ Z u t a b c (10 ^ k)) (hL : L + δ = V) (hH : H = V + 2 * Z) (hj : j294.toInt = (t : Int)) (ht : 0 < t ∧ t < 100000000000000000) (h1 : bO 220 y241 y242 f243 (a : Int)) (h2 : bO 220 y70 y71 f72 (u : Int)) (hB : bB 100 (a : Int)) (he : y63.toInt = e) (heb : -400 ≤ e ∧ e ≤ 400) (hm : lx177.toInt = (m : Int)) (hmb : m ≤ 20) (hk : (k : Int) = 1080 + e - (m : Int)) (hF1 : ∃ j, 10 ^ j ≤ V ∧ V < 10 ^ (j + 1) ∧ k + 1 ≤ j ∧ ∀ i, k < i → i + 1 ≤ j → ¬ (yDn V L ev i ∨ yUp V H ev i)) (hlo : (lx328 = 0 ∨ lx328 = 1) ∧ (lx328 = 1 ↔ yDn V L ev k)) (hhi : (lx422 = 0 ∨ lx422 = 1) ∧ (lx422 = 1 ↔ yUp V H ev k)) (hK : ¬ (yDn V L ev k ∨ yUp V H ev k) → ∀ (s n : Int32) (f : Nat → Int32), ∃ S q : Nat, ySho V L H ev S q ∧ (K_F_Flo_findShortest_L59 (lx177 + 1) j294 y241 y242 f243 y246 y247 f248 y251 y252 f253 s n f).1.toInt = (S : Int) ∧ (K_F_Flo_findShortest_L59 (lx177 + 1) j294 y241 y242 f243 y246 y247 f248 y251 y252 f253 s n f).2.1.toInt = (q : Int) - 1080) : ∃ S q : Nat, ySho V L H ev S q ∧ (F_Flo_findShortest_J182 K_F_Flo_findShortest_L59 A B C x2 t0_0 t0_1 t0_2 t1_0 t1_1 t2_0 t3_0 t3_1 t4_0 t5_0 t5_1 t6_0 t7_0 t7_1 t8_0 t9_0 t9_1 t10_0 p105 y61 y62 y63 y65 y66 f67 y70 y71 f72 y75 y76 f77 y80 y81 f82 lx134 lx177 lx178 lx179 lx180 lx181 lx182 lx183 lx184 lx185 lx186 lx187 lx188 lx189 lx190 j235 p274 a303 j294 y241 y242 f243 y246 y247 f248 y251 y252 f253 lx308 lx328 p362 p385 a397 y375 y376 f377 lx402 lx422).1.toInt = (S : Int) ∧ (F_Flo_findShortest_J182 K_F_Flo_findShortest_L59 A B C x2 t0_0 t0_1 t0_2 t1_0 t1_1 t2_0 t3_0 t3_1 t4_0 t5_0 t5_1 t6_0 t7_0 t7_1 t8_0 t9_0 t9_1 t10_0 p105 y61 y62 y63 y65 y66 f67 y70 y71 f72 y75 y76 f77 y80 y81 f82 lx134 lx177 lx178 lx179 lx180 lx181 lx182 lx183 lx184 lx185 lx186 lx187 lx188 lx189 lx190 j235 p274 a303 j294 y241 y242 f243 y246 y247 f248 y251 y252 f253 lx308 lx328 p362 p385 a397 y375 y376 f377 lx402 lx422).2.1.toInt = (q : Int) - 1080 := by
  have n01 : ¬ (0 : Int32) = 1 := by decide
  have n10 : ¬ (1 : Int32) = 0 := by decide
  have sx := q_subI he hm (by omega) (by omega)
  have z0 : lx328 = 0 ↔ ¬ yDn V L ev k := by
    rw [← hlo.2]
    rcases hlo.1 with w | w
    · rw [w]
      exact ⟨fun _ q => n01 q, fun _ => rfl⟩
    · rw [w]
      exact ⟨fun q => absurd q n10, fun q => absurd rfl q⟩
  unfold F_Flo_findShortest_J182
  by_cases d : lx328 = 0
  · rw [if_pos d]
    by_cases g : lx422 = 0
    · rw [if_pos g]
      refine hK (fun w => ?_) y375 y376 f377
      rcases w with w | w
      · exact z0.mp d w
      · rw [← hhi.2, g] at w
        exact n01 w
    · rw [if_neg g]
      have up : yUp V H ev k := hhi.2.mp (by rcases hhi.1 with w | w; exact absurd w g; exact w)
      obtain ⟨S0, T, z, c1, c2, c3, c4, c5, _⟩ := V_ce (A := A) (B := B) (C := C) (x2 := lx328) (x3 := lx422) (x4 := y63 - lx177) (t0_0 := j294) (t0_1 := y62) (t0_2 := y63) (t1_0 := y241) (t1_1 := y242) (t2_0 := f243) (t3_0 := y70) (t3_1 := y71) (t4_0 := f72) hj ht (by rw [sx]; omega) h1 (hB.mono (by decide)) h2 hlo.1 hhi.1
      revert c4 c5
      generalize F_Flo_chooseEnd A B C lx328 lx422 (y63 - lx177) j294 y62 y63 y241 y242 f243 y70 y71 f72 = p
      intro c4 c5
      unfold F_Flo_findShortest_c206_12
      exact ⟨T, k + z, y_fsh hc hhi.2 z0 hF1 (Or.inr up) c1 c2 c3, c4, by rw [c5, sx]; omega⟩
  · rw [if_neg d]
    have dn : yDn V L ev k := hlo.2.mp (by rcases hlo.1 with w | w; exact absurd w d; exact w)
    obtain ⟨S0, T, z, c1, c2, c3, c4, c5, _⟩ := V_ce (A := A) (B := B) (C := C) (x2 := lx328) (x3 := lx422) (x4 := y63 - lx177) (t0_0 := j294) (t0_1 := y62) (t0_2 := y63) (t1_0 := y241) (t1_1 := y242) (t2_0 := f243) (t3_0 := y70) (t3_1 := y71) (t4_0 := f72) hj ht (by rw [sx]; omega) h1 (hB.mono (by decide)) h2 hlo.1 hhi.1
    revert c4 c5
    generalize F_Flo_chooseEnd A B C lx328 lx422 (y63 - lx177) j294 y62 y63 y241 y242 f243 y70 y71 f72 = p
    intro c4 c5
    unfold F_Flo_findShortest_c206
    exact ⟨T, k + z, y_fsh hc hhi.2 z0 hF1 (Or.inl dn) c1 c2 c3, c4, by rw [c5, sx]; omega⟩
theorem V_f122 {K_F_Flo_findShortest_L59 : Int32 → Int64 → Int32 → Int32 → (Nat → Int32) → Int32 → Int32 → (Nat → Int32) → Int32 → Int32 → (Nat → Int32) → Int32 → Int32 → (Nat → Int32) → (Int64 × Int32 × Int32 × Int32 × Int32 × (Nat → Int32) × Int32 × Int32 × (Nat → Int32) × Int32 × Int32 × (Nat → Int32) × Int32 × Int32 × (Nat → Int32) × Int32 × Int32 × (Nat → Int32))} {A : Int32} {B : Int32} {C : Int32} {x2 : Int64} {t0_0 : Int64} {t0_1 : Int32} {t0_2 : Int32} {t1_0 : Int32} {t1_1 : Int32} {t2_0 : (Nat → Int32)} {t3_0 : Int32} {t3_1 : Int32} {t4_0 : (Nat → Int32)} {t5_0 : Int32} {t5_1 : Int32} {t6_0 : (Nat → Int32)} {t7_0 : Int32} {t7_1 : Int32} {t8_0 : (Nat → Int32)} {t9_0 : Int32} {t9_1 : Int32} {t10_0 : (Nat → Int32)} {p105 : (Int64 × Int32 × Int32 × Int32 × Int32 × (Nat → Int32) × Int32 × Int32 × (Nat → Int32) × Int32 × Int32 × (Nat → Int32) × Int32 × Int32 × (Nat → Int32))} {y61 : Int64} {y62 : Int32} {y63 : Int32} {y65 : Int32} {y66 : Int32} {f67 : (Nat → Int32)} {y70 : Int32} {y71 : Int32} {f72 : (Nat → Int32)} {y75 : Int32} {y76 : Int32} {f77 : (Nat → Int32)} {y80 : Int32} {y81 : Int32} {f82 : (Nat → Int32)} {lx134 : Int32} {lx177 : Int32} {lx178 : Int64} {lx179 : Int32} {lx180 : Int32} {lx181 : (Nat → Int32)} {lx182 : Int32} {lx183 : Int32} {lx184 : (Nat → Int32)} {lx185 : Int32} {lx186 : Int32} {lx187 : (Nat → Int32)} {lx188 : Int32} {lx189 : Int32} {lx190 : (Nat → Int32)} {j235 : Int64} {p274 : (Int32 × Int32 × Int32 × (Nat → Int32) × Int32 × Int32 × (Nat → Int32) × Int32 × Int32 × (Nat → Int32))} {a303 : Int32} {j294 : Int64} {y241 : Int32} {y242 : Int32} {f243 : (Nat → Int32)} {y246 : Int32} {y247 : Int32} {f248 : (Nat → Int32)} {y251 : Int32} {y252 : Int32} {f253 : (Nat → Int32)} {lx308 : Int32} {lx328 : Int32} {V L H δ Z t a b c u k m : Nat} {e : Int} {ev : Prop} (hc : yCar V δ Z u t a b c (10 ^ k)) (hL : L + δ = V) (hH : H = V + 2 * Z) (hj : j294.toInt = (t : Int)) (ht : 0 < t ∧ t < 100000000000000000) (h1 : bO 220 y241 y242 f243 (a : Int)) (h2 : bO 220 y70 y71 f72 (u : Int)) (hB : bB 100 (a : Int)) (he : y63.toInt = e) (heb : -400 ≤ e ∧ e ≤ 400) (hm : lx177.toInt = (m : Int)) (hmb : m ≤ 20) (hk : (k : Int) = 1080 + e - (m : Int)) (hF1 : ∃ j, 10 ^ j ≤ V ∧ V < 10 ^ (j + 1) ∧ k + 1 ≤ j ∧ ∀ i, k < i → i + 1 ≤ j → ¬ (yDn V L ev i ∨ yUp V H ev i)) (hlo : (lx328 = 0 ∨ lx328 = 1) ∧ (lx328 = 1 ↔ yDn V L ev k)) (hev : (lx134 = 0 ∧ ¬ ev) ∨ (lx134 = 1 ∧ ev)) (h3 : bO 220 y246 y247 f248 (b : Int)) (hBb : bB 100 (b : Int)) (hK : ¬ (yDn V L ev k ∨ yUp V H ev k) → ∀ (s n : Int32) (f : Nat → Int32), ∃ S q : Nat, ySho V L H ev S q ∧ (K_F_Flo_findShortest_L59 (lx177 + 1) j294 y241 y242 f243 y246 y247 f248 y251 y252 f253 s n f).1.toInt = (S : Int) ∧ (K_F_Flo_findShortest_L59 (lx177 + 1) j294 y241 y242 f243 y246 y247 f248 y251 y252 f253 s n f).2.1.toInt = (q : Int) - 1080) : ∃ S q : Nat, ySho V L H ev S q ∧ (F_Flo_findShortest_J122 K_F_Flo_findShortest_L59 A B C x2 t0_0 t0_1 t0_2 t1_0 t1_1 t2_0 t3_0 t3_1 t4_0 t5_0 t5_1 t6_0 t7_0 t7_1 t8_0 t9_0 t9_1 t10_0 p105 y61 y62 y63 y65 y66 f67 y70 y71 f72 y75 y76 f77 y80 y81 f82 lx134 lx177 lx178 lx179 lx180 lx181 lx182 lx183 lx184 lx185 lx186 lx187 lx188 lx189 lx190 j235 p274 a303 j294 y241 y242 f243 y246 y247 f248 y251 y252 f253 lx308 lx328).1.toInt = (S : Int) ∧ (F_Flo_findShortest_J122 K_F_Flo_findShortest_L59 A B C x2 t0_0 t0_1 t0_2 t1_0 t1_1 t2_0 t3_0 t3_1 t4_0 t5_0 t5_1 t6_0 t7_0 t7_1 t8_0 t9_0 t9_1 t10_0 p105 y61 y62 y63 y65 y66 f67 y70 y71 f72 y75 y76 f77 y80 y81 f82 lx134 lx177 lx178 lx179 lx180 lx181 lx182 lx183 lx184 lx185 lx186 lx187 lx188 lx189 lx190 j235 p274 a303 j294 y241 y242 f243 y246 y247 f248 y251 y252 f253 lx308 lx328).2.1.toInt = (q : Int) - 1080 := by
  have e0 : (0 : Int32).toInt = 0 := rfl
  have em : (-1 : Int32).toInt = -1 := rfl
  have e220 : (220 : Int32).toInt = 220 := rfl
  have up := yCar_up (ev := ev) hc hH
  unfold F_Flo_findShortest_J122
  have cp := W_copy (R := 220) (R2 := 220) (s := lx188) (neg := lx189) (f := lx190) h1 h1.2.2.2.1 (by decide)
  revert cp
  generalize F_Big_copy 220 220 lx188 lx189 lx190 y241 y242 f243 = p
  intro cp
  unfold F_Flo_findShortest_c132
  have ad := W_addSize cp (by omega) h3 (by have := cp.sB hB; omega) (by have := h3.sB hBb; omega)
  have es : (a : Int) + (((b : Int).natAbs : Nat) : Int) = ((a + b : Nat) : Int) := by omega
  rw [es] at ad
  revert ad
  generalize F_Big_addSize 220 220 p.1 p.2.1 p.2.2 y246 y247 f248 = q
  intro ad
  have cm := y_cmpB ad h2
  unfold F_Flo_findShortest_c149
  rcases hev with ⟨hl, hn⟩ | ⟨hl, hn⟩
  · rw [if_pos hl]
    unfold F_Flo_findShortest_J174
    have u1 : yUp V H ev k ↔ u < a + b := by
      rw [up]
      exact ⟨fun w => by rcases w with w | w; exact w; exact absurd w.1 hn, Or.inl⟩
    rcases cm with ⟨r, w⟩ | ⟨r, w⟩ | ⟨r, w⟩
    · rw [if_pos (by rw [r]; decide)]
      exact V_f182 hc hL hH hj ht h1 h2 hB he heb hm hmb hk hF1 hlo ⟨Or.inl rfl, by rw [u1]; exact ⟨fun q => absurd q (by decide), fun q => by omega⟩⟩ hK
    · rw [if_neg (by rw [r]; decide)]
      exact V_f182 hc hL hH hj ht h1 h2 hB he heb hm hmb hk hF1 hlo ⟨Or.inr rfl, by rw [u1]; exact ⟨fun _ => w, fun _ => rfl⟩⟩ hK
    · rw [if_pos (by rw [r]; decide)]
      exact V_f182 hc hL hH hj ht h1 h2 hB he heb hm hmb hk hF1 hlo ⟨Or.inl rfl, by rw [u1]; exact ⟨fun q => absurd q (by decide), fun q => by omega⟩⟩ hK
  · rw [if_neg (by rw [hl]; decide)]
    unfold F_Flo_findShortest_J174
    have u1 : yUp V H ev k ↔ u ≤ a + b := by
      rw [up]
      exact ⟨fun w => by rcases w with w | w; omega; omega, fun w => by rcases Nat.lt_or_ge u (a + b) with v | v; exact Or.inl v; exact Or.inr ⟨hn, by omega⟩⟩
    rcases cm with ⟨r, w⟩ | ⟨r, w⟩ | ⟨r, w⟩
    · rw [if_neg (by rw [r]; decide)]
      exact V_f182 hc hL hH hj ht h1 h2 hB he heb hm hmb hk hF1 hlo ⟨Or.inr rfl, by rw [u1]; exact ⟨fun _ => by omega, fun _ => rfl⟩⟩ hK
    · rw [if_neg (by rw [r]; decide)]
      exact V_f182 hc hL hH hj ht h1 h2 hB he heb hm hmb hk hF1 hlo ⟨Or.inr rfl, by rw [u1]; exact ⟨fun _ => by omega, fun _ => rfl⟩⟩ hK
    · rw [if_pos (by rw [r]; decide)]
      exact V_f182 hc hL hH hj ht h1 h2 hB he heb hm hmb hk hF1 hlo ⟨Or.inl rfl, by rw [u1]; exact ⟨fun q => absurd q (by decide), fun q => by omega⟩⟩ hK
