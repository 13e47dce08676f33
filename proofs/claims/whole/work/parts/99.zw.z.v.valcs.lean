/-! values, for whole: the class's shortest figures: findShortest -/
theorem V_f114 {K_F_Flo_findShortest_L59 : Int32 → Int64 → Int32 → Int32 → (Nat → Int32) → Int32 → Int32 → (Nat → Int32) → Int32 → Int32 → (Nat → Int32) → Int32 → Int32 → (Nat → Int32) → (Int64 × Int32 × Int32 × Int32 × Int32 × (Nat → Int32) × Int32 × Int32 × (Nat → Int32) × Int32 × Int32 × (Nat → Int32) × Int32 × Int32 × (Nat → Int32) × Int32 × Int32 × (Nat → Int32))} {A : Int32} {B : Int32} {C : Int32} {x2 : Int64} {t0_0 : Int64} {t0_1 : Int32} {t0_2 : Int32} {t1_0 : Int32} {t1_1 : Int32} {t2_0 : (Nat → Int32)} {t3_0 : Int32} {t3_1 : Int32} {t4_0 : (Nat → Int32)} {t5_0 : Int32} {t5_1 : Int32} {t6_0 : (Nat → Int32)} {t7_0 : Int32} {t7_1 : Int32} {t8_0 : (Nat → Int32)} {t9_0 : Int32} {t9_1 : Int32} {t10_0 : (Nat → Int32)} {p105 : (Int64 × Int32 × Int32 × Int32 × Int32 × (Nat → Int32) × Int32 × Int32 × (Nat → Int32) × Int32 × Int32 × (Nat → Int32) × Int32 × Int32 × (Nat → Int32))} {y61 : Int64} {y62 : Int32} {y63 : Int32} {y65 : Int32} {y66 : Int32} {f67 : (Nat → Int32)} {y70 : Int32} {y71 : Int32} {f72 : (Nat → Int32)} {y75 : Int32} {y76 : Int32} {f77 : (Nat → Int32)} {y80 : Int32} {y81 : Int32} {f82 : (Nat → Int32)} {lx134 : Int32} {lx177 : Int32} {lx178 : Int64} {lx179 : Int32} {lx180 : Int32} {lx181 : (Nat → Int32)} {lx182 : Int32} {lx183 : Int32} {lx184 : (Nat → Int32)} {lx185 : Int32} {lx186 : Int32} {lx187 : (Nat → Int32)} {lx188 : Int32} {lx189 : Int32} {lx190 : (Nat → Int32)} {j235 : Int64} {p274 : (Int32 × Int32 × Int32 × (Nat → Int32) × Int32 × Int32 × (Nat → Int32) × Int32 × Int32 × (Nat → Int32))} {a303 : Int32} {j294 : Int64} {y241 : Int32} {y242 : Int32} {f243 : (Nat → Int32)} {y246 : Int32} {y247 : Int32} {f248 : (Nat → Int32)} {y251 : Int32} {y252 : Int32} {f253 : (Nat → Int32)} {lx308 : Int32} {V L H δ Z t a b c u k m : Nat} {e : Int} {ev : Prop} (hc : yCar V δ Z u t a b c (10 ^ k)) (hL : L + δ = V) (hH : H = V + 2 * Z) (hj : j294.toInt = (t : Int)) (ht : 0 < t ∧ t < 100000000000000000) (h1 : bO 220 y241 y242 f243 (a : Int)) (h2 : bO 220 y70 y71 f72 (u : Int)) (hB : bB 100 (a : Int)) (he : y63.toInt = e) (heb : -400 ≤ e ∧ e ≤ 400) (hm : lx177.toInt = (m : Int)) (hmb : m ≤ 20) (hk : (k : Int) = 1080 + e - (m : Int)) (hF1 : ∃ j, 10 ^ j ≤ V ∧ V < 10 ^ (j + 1) ∧ k + 1 ≤ j ∧ ∀ i, k < i → i + 1 ≤ j → ¬ (yDn V L ev i ∨ yUp V H ev i)) (hev : (lx134 = 0 ∧ ¬ ev) ∨ (lx134 = 1 ∧ ev)) (h3 : bO 220 y246 y247 f248 (b : Int)) (hBb : bB 100 (b : Int)) (ha : (a303 = 0 ∧ a = c) ∨ (a303 = 1 ∧ c < a) ∨ (a303 = -1 ∧ a < c)) (hx : (lx308 = 0 ∧ ¬ ev) ∨ (lx308 = 1 ∧ ev)) (hK : ¬ (yDn V L ev k ∨ yUp V H ev k) → ∀ (s n : Int32) (f : Nat → Int32), ∃ S q : Nat, ySho V L H ev S q ∧ (K_F_Flo_findShortest_L59 (lx177 + 1) j294 y241 y242 f243 y246 y247 f248 y251 y252 f253 s n f).1.toInt = (S : Int) ∧ (K_F_Flo_findShortest_L59 (lx177 + 1) j294 y241 y242 f243 y246 y247 f248 y251 y252 f253 s n f).2.1.toInt = (q : Int) - 1080) : ∃ S q : Nat, ySho V L H ev S q ∧ (F_Flo_findShortest_J114 K_F_Flo_findShortest_L59 A B C x2 t0_0 t0_1 t0_2 t1_0 t1_1 t2_0 t3_0 t3_1 t4_0 t5_0 t5_1 t6_0 t7_0 t7_1 t8_0 t9_0 t9_1 t10_0 p105 y61 y62 y63 y65 y66 f67 y70 y71 f72 y75 y76 f77 y80 y81 f82 lx134 lx177 lx178 lx179 lx180 lx181 lx182 lx183 lx184 lx185 lx186 lx187 lx188 lx189 lx190 j235 p274 a303 j294 y241 y242 f243 y246 y247 f248 y251 y252 f253 lx308).1.toInt = (S : Int) ∧ (F_Flo_findShortest_J114 K_F_Flo_findShortest_L59 A B C x2 t0_0 t0_1 t0_2 t1_0 t1_1 t2_0 t3_0 t3_1 t4_0 t5_0 t5_1 t6_0 t7_0 t7_1 t8_0 t9_0 t9_1 t10_0 p105 y61 y62 y63 y65 y66 f67 y70 y71 f72 y75 y76 f77 y80 y81 f82 lx134 lx177 lx178 lx179 lx180 lx181 lx182 lx183 lx184 lx185 lx186 lx187 lx188 lx189 lx190 j235 p274 a303 j294 y241 y242 f243 y246 y247 f248 y251 y252 f253 lx308).2.1.toInt = (q : Int) - 1080 := by
  have dn := yCar_dn (ev := ev) hc hL
  unfold F_Flo_findShortest_J114
  rcases hx with ⟨hx, hn⟩ | ⟨hx, hn⟩
  · have d1 : yDn V L ev k ↔ a < c := by
      rw [dn]
      exact ⟨fun w => by rcases w with w | w; exact w; exact absurd w.1 hn, Or.inl⟩
    rcases ha with ⟨r, w⟩ | ⟨r, w⟩ | ⟨r, w⟩
    · rw [if_pos (by rw [hx, r]; decide)]
      exact V_f122 hc hL hH hj ht h1 h2 hB he heb hm hmb hk hF1 ⟨Or.inl rfl, by rw [d1]; exact ⟨fun q => absurd q (by decide), fun q => by omega⟩⟩ hev h3 hBb hK
    · rw [if_pos (by rw [hx, r]; decide)]
      exact V_f122 hc hL hH hj ht h1 h2 hB he heb hm hmb hk hF1 ⟨Or.inl rfl, by rw [d1]; exact ⟨fun q => absurd q (by decide), fun q => by omega⟩⟩ hev h3 hBb hK
    · rw [if_neg (by rw [hx, r]; decide)]
      exact V_f122 hc hL hH hj ht h1 h2 hB he heb hm hmb hk hF1 ⟨Or.inr rfl, by rw [d1]; exact ⟨fun _ => w, fun _ => rfl⟩⟩ hev h3 hBb hK
  · have d1 : yDn V L ev k ↔ a ≤ c := by
      rw [dn]
      exact ⟨fun w => by rcases w with w | w; omega; omega, fun w => by rcases Nat.lt_or_ge a c with v | v; exact Or.inl v; exact Or.inr ⟨hn, by omega⟩⟩
    rcases ha with ⟨r, w⟩ | ⟨r, w⟩ | ⟨r, w⟩
    · rw [if_neg (by rw [hx, r]; decide)]
      exact V_f122 hc hL hH hj ht h1 h2 hB he heb hm hmb hk hF1 ⟨Or.inr rfl, by rw [d1]; exact ⟨fun _ => by omega, fun _ => rfl⟩⟩ hev h3 hBb hK
    · rw [if_pos (by rw [hx, r]; decide)]
      exact V_f122 hc hL hH hj ht h1 h2 hB he heb hm hmb hk hF1 ⟨Or.inl rfl, by rw [d1]; exact ⟨fun q => absurd q (by decide), fun q => by omega⟩⟩ hev h3 hBb hK
    · rw [if_neg (by rw [hx, r]; decide)]
      exact V_f122 hc hL hH hj ht h1 h2 hB he heb hm hmb hk hF1 ⟨Or.inr rfl, by rw [d1]; exact ⟨fun _ => by omega, fun _ => rfl⟩⟩ hev h3 hBb hK
/-- what the loop carries -/
def yLp (V L H δ Z u : Nat) (ev : Prop) (e : Int) (m t a b c : Nat) : Prop := yCar V δ Z u t a b c (10 ^ (1080 + e - (m : Int)).toNat) ∧ (∀ i, (1080 + e - (m : Int)).toNat ≤ i → i + 1 ≤ (1080 + e - 1).toNat → ¬ (yDn V L ev i ∨ yUp V H ev i)) ∧ bB (75 + m) (b : Int) ∧ bB (75 + m) (c : Int)
theorem y_mulLt {t d m : Nat} (h : t < 10 ^ m) (hd : d ≤ 9) : 10 * t + d < 10 ^ (m + 1) := by
  rw [Nat.pow_succ]
  generalize 10 ^ m = X at h ⊢
  omega
theorem yLp_l {V δ Z u t a b c K m : Nat} (h : yCar V δ Z u t a b c K) (hK : 0 < K) (hV : V < K * 10 ^ m) : t < 10 ^ m := by
  rw [← (yCar_t h hK).1]
  exact (Nat.div_lt_iff_lt_mul hK).mpr (by rw [Nat.mul_comm]; exact hV)
theorem V_fL {A : Int32} {B : Int32} {C : Int32} {x2 : Int64} {t0_0 : Int64} {t0_1 : Int32} {t0_2 : Int32} {t1_0 : Int32} {t1_1 : Int32} {t2_0 : (Nat → Int32)} {t3_0 : Int32} {t3_1 : Int32} {t4_0 : (Nat → Int32)} {t5_0 : Int32} {t5_1 : Int32} {t6_0 : (Nat → Int32)} {t7_0 : Int32} {t7_1 : Int32} {t8_0 : (Nat → Int32)} {t9_0 : Int32} {t9_1 : Int32} {t10_0 : (Nat → Int32)} {p105 : (Int64 × Int32 × Int32 × Int32 × Int32 × (Nat → Int32) × Int32 × Int32 × (Nat → Int32) × Int32 × Int32 × (Nat → Int32) × Int32 × Int32 × (Nat → Int32))} {y61 : Int64} {y62 : Int32} {y63 : Int32} {y65 : Int32} {y66 : Int32} {f67 : (Nat → Int32)} {y70 : Int32} {y71 : Int32} {f72 : (Nat → Int32)} {y75 : Int32} {y76 : Int32} {f77 : (Nat → Int32)} {y80 : Int32} {y81 : Int32} {f82 : (Nat → Int32)} {lx134 : Int32} {V L H δ Z u N' : Nat} {e : Int} {ev qt : Prop} (hbd : yBnd N' Z V L H qt) (hL : L + δ = V) (hH : H = V + 2 * Z) (h2 : bO 220 y70 y71 f72 (u : Int)) (hBu : bB 75 (u : Int)) (he : y63.toInt = e) (heb : -330 ≤ e ∧ e ≤ 330) (hev : (lx134 = 0 ∧ ¬ ev) ∨ (lx134 = 1 ∧ ev)) (hV1 : 10 ^ (1080 + e - 1).toNat ≤ V) (hV2 : V < 10 ^ (1080 + e).toNat) : ∀ (n : Nat) (lx177 : Int32) (lx178 : Int64) (lx179 : Int32) (lx180 : Int32) (lx181 : (Nat → Int32)) (lx182 : Int32) (lx183 : Int32) (lx184 : (Nat → Int32)) (lx185 : Int32) (lx186 : Int32) (lx187 : (Nat → Int32)) (lx188 : Int32) (lx189 : Int32) (lx190 : (Nat → Int32)), ∀ (m t a b c : Nat), lx177.toInt = ((m + 1 : Nat) : Int) → m ≤ 16 → 16 < n + m → lx178.toInt = (t : Int) → bO 220 lx179 lx180 lx181 (a : Int) → bO 220 lx182 lx183 lx184 (b : Int) → bO 220 lx185 lx186 lx187 (c : Int) → yLp V L H δ Z u ev e m t a b c → (1 ≤ m → 0 < t) → (m = 0 → u ≤ 10 * a) → ∃ S q : Nat, ySho V L H ev S q ∧ (F_Flo_findShortest_L59 A B C x2 t0_0 t0_1 t0_2 t1_0 t1_1 t2_0 t3_0 t3_1 t4_0 t5_0 t5_1 t6_0 t7_0 t7_1 t8_0 t9_0 t9_1 t10_0 p105 y61 y62 y63 y65 y66 f67 y70 y71 f72 y75 y76 f77 y80 y81 f82 lx134 n lx177 lx178 lx179 lx180 lx181 lx182 lx183 lx184 lx185 lx186 lx187 lx188 lx189 lx190).1.toInt = (S : Int) ∧ (F_Flo_findShortest_L59 A B C x2 t0_0 t0_1 t0_2 t1_0 t1_1 t2_0 t3_0 t3_1 t4_0 t5_0 t5_1 t6_0 t7_0 t7_1 t8_0 t9_0 t9_1 t10_0 p105 y61 y62 y63 y65 y66 f67 y70 y71 f72 y75 y76 f77 y80 y81 f82 lx134 n lx177 lx178 lx179 lx180 lx181 lx182 lx183 lx184 lx185 lx186 lx187 lx188 lx189 lx190).2.1.toInt = (q : Int) - 1080 := by
  have e1 : (1 : Int32).toInt = 1 := rfl
  have e20 : (20 : Int32).toInt = 20 := rfl
  have e10L : (10 : Int64).toInt = 10 := rfl
  intro n
  induction n with
  | zero =>
    intro lx177 lx178 lx179 lx180 lx181 lx182 lx183 lx184 lx185 lx186 lx187 lx188 lx189 lx190 m t a b c g1 g2 g3
    omega
  | succ n ih =>
    intro lx177 lx178 lx179 lx180 lx181 lx182 lx183 lx184 lx185 lx186 lx187 lx188 lx189 lx190 m t a b c g1 g2 g3 g4 g5 g6 g7 g8 g9 g10
    obtain ⟨hc, hno, hbb, hbc⟩ := g8
    rw [F_Flo_findShortest_L59.eq_2]
    rw [if_neg (show ¬ (20 : Int32) < lx177 from fun q => by have := q_ltI q; clear hV1 hV2; omega)]
    have au : a < u := hc.2.1
    have nx := V_next (A := A) (B := B) (C := C) (M := 92) g5 h2 g6 g7 au (by decide) ((hBu.mono (by decide)).le (by clear hV1 hV2; omega)) (hbb.mono (by clear hV1 hV2; omega)) (hbc.mono (by clear hV1 hV2; omega))
    revert nx
    generalize F_Flo_nextFigure A B C lx179 lx180 lx181 y70 y71 f72 lx182 lx183 lx184 lx185 lx186 lx187 = p
    intro nx
    obtain ⟨n1, n2, n3, n4⟩ := nx
    have eK : 10 ^ (1080 + e - (m : Int)).toNat = 10 * 10 ^ (1080 + e - ((m + 1 : Nat) : Int)).toNat := by
      rw [show (1080 + e - (m : Int)).toNat = (1080 + e - ((m + 1 : Nat) : Int)).toNat + 1 from by clear hV1 hV2; omega, Nat.pow_succ, Nat.mul_comm]
    rw [eK] at hc
    have hc' := yCar_s hc
    have d9 : 10 * a / u ≤ 9 := by
      have : 10 * a / u < 10 := (Nat.div_lt_iff_lt_mul (by clear hV1 hV2; omega)).mpr (by clear hV1 hV2; omega)
      clear hV1 hV2
      omega
    have kp : 0 < 10 ^ (1080 + e - ((m + 1 : Nat) : Int)).toNat := Nat.pow_pos (by decide)
    have tl : 10 * t + 10 * a / u < 10 ^ (m + 1) := by
      refine yLp_l hc' kp ?_
      rw [← Nat.pow_add, show (1080 + e - ((m + 1 : Nat) : Int)).toNat + (m + 1) = (1080 + e).toNat from by clear hV1 hV2; omega]
      exact hV2
    have t17 : 10 * t + 10 * a / u < 100000000000000000 := Nat.lt_of_lt_of_le tl (Nat.le_trans (Nat.pow_le_pow_right (by decide) (show m + 1 ≤ 17 by omega)) (by decide))
    have tp : 0 < 10 * t + 10 * a / u := by
      by_cases m0 : m = 0
      · have := Nat.div_pos (g10 m0) (show 0 < u by clear hV1 hV2; omega)
        clear hV1 hV2
        omega
      · have := g9 (by omega)
        clear hV1 hV2 tl t17 hc' n1 d9
        generalize 10 * a / u = dd
        omega
    have sn : (lx178 * 10 + p.1.toInt64).toInt = ((10 * t + 10 * a / u : Nat) : Int) := by
      clear tl tp hc'
      generalize 10 * a / u = d at n1 d9 t17 ⊢
      have m1 := q_mulL g4 e10L (by clear hV1 hV2; omega) (by clear hV1 hV2; omega)
      rw [q_addL m1 (q_i2l n1) (by clear hV1 hV2; omega) (by clear hV1 hV2; omega)]
      clear hV1 hV2
      omega
    have bb' := y_b10 hbb
    have bc' := y_b10 hbc
    have ba' : bB 75 ((10 * a % u : Nat) : Int) := hBu.le (by have := hc'.2.1; clear hV1 hV2 tl; omega)
    have g1' := q_addI g1 e1 (by clear hV1 hV2 tl; omega) (by clear hV1 hV2 tl; omega)
    unfold F_Flo_findShortest_c76
    by_cases m0 : m = 0
    · subst m0
      rw [if_pos (show lx177 = 1 from Int32.toInt_inj.mp (by rw [g1]; rfl))]
      exact ih (lx177 + 1) (lx178 * 10 + p.1.toInt64) p.2.1 p.2.2.1 p.2.2.2.1 p.2.2.2.2.1 p.2.2.2.2.2.1 p.2.2.2.2.2.2.1 p.2.2.2.2.2.2.2.1 p.2.2.2.2.2.2.2.2.1 p.2.2.2.2.2.2.2.2.2 lx188 lx189 lx190 1 (10 * t + 10 * a / u) (10 * a % u) (10 * b) (10 * c) g1' (by omega) (by omega) sn n2 n3 n4 ⟨hc', fun i hi hi2 => by exfalso; clear hV1 hV2 tl; omega, bb', bc'⟩ (fun _ => tp) (fun q => absurd q (by decide))
    · rw [if_neg (show ¬ lx177 = 1 from fun q => by rw [q, e1] at g1; clear hV1 hV2 tl; omega)]
      have cm := y_cmpB n2 n4
      have fst : ∃ j, 10 ^ j ≤ V ∧ V < 10 ^ (j + 1) ∧ (1080 + e - ((m + 1 : Nat) : Int)).toNat + 1 ≤ j ∧ ∀ i, (1080 + e - ((m + 1 : Nat) : Int)).toNat < i → i + 1 ≤ j → ¬ (yDn V L ev i ∨ yUp V H ev i) := by
        refine ⟨(1080 + e - 1).toNat, hV1, ?_, by clear hV1 hV2 tl; omega, ?_⟩
        · rw [show (1080 + e - 1).toNat + 1 = (1080 + e).toNat from by clear hV1 hV2 tl; omega]
          exact hV2
        · intro i hi hi2
          exact hno i (by clear hV1 hV2 tl; omega) hi2
      have K : ¬ (yDn V L ev (1080 + e - ((m + 1 : Nat) : Int)).toNat ∨ yUp V H ev (1080 + e - ((m + 1 : Nat) : Int)).toNat) → ∀ (s n' : Int32) (f : Nat → Int32), ∃ S q : Nat, ySho V L H ev S q ∧ (F_Flo_findShortest_L59 A B C x2 t0_0 t0_1 t0_2 t1_0 t1_1 t2_0 t3_0 t3_1 t4_0 t5_0 t5_1 t6_0 t7_0 t7_1 t8_0 t9_0 t9_1 t10_0 p105 y61 y62 y63 y65 y66 f67 y70 y71 f72 y75 y76 f77 y80 y81 f82 lx134 n (lx177 + 1) (lx178 * 10 + p.1.toInt64) p.2.1 p.2.2.1 p.2.2.2.1 p.2.2.2.2.1 p.2.2.2.2.2.1 p.2.2.2.2.2.2.1 p.2.2.2.2.2.2.2.1 p.2.2.2.2.2.2.2.2.1 p.2.2.2.2.2.2.2.2.2 s n' f).1.toInt = (S : Int) ∧ (F_Flo_findShortest_L59 A B C x2 t0_0 t0_1 t0_2 t1_0 t1_1 t2_0 t3_0 t3_1 t4_0 t5_0 t5_1 t6_0 t7_0 t7_1 t8_0 t9_0 t9_1 t10_0 p105 y61 y62 y63 y65 y66 f67 y70 y71 f72 y75 y76 f77 y80 y81 f82 lx134 n (lx177 + 1) (lx178 * 10 + p.1.toInt64) p.2.1 p.2.2.1 p.2.2.2.1 p.2.2.2.2.1 p.2.2.2.2.2.1 p.2.2.2.2.2.2.1 p.2.2.2.2.2.2.2.1 p.2.2.2.2.2.2.2.2.1 p.2.2.2.2.2.2.2.2.2 s n' f).2.1.toInt = (q : Int) - 1080 := by
        intro nd s n' f
        have m15 : m ≤ 15 := by
          rcases Nat.lt_or_ge m 16 with q | q
          · omega
          · obtain rfl : m = 16 := by omega
            refine absurd (y_17 (ev := ev) hbd ?_) nd
            rw [show (1080 + e - ((16 + 1 : Nat) : Int)).toNat + 16 = (1080 + e - 1).toNat from by clear hV1 hV2 tl; omega]
            exact hV1
        refine ih (lx177 + 1) (lx178 * 10 + p.1.toInt64) p.2.1 p.2.2.1 p.2.2.2.1 p.2.2.2.2.1 p.2.2.2.2.2.1 p.2.2.2.2.2.2.1 p.2.2.2.2.2.2.2.1 p.2.2.2.2.2.2.2.2.1 p.2.2.2.2.2.2.2.2.2 s n' f (m + 1) (10 * t + 10 * a / u) (10 * a % u) (10 * b) (10 * c) g1' (by omega) (by omega) sn n2 n3 n4 ⟨hc', ?_, bb', bc'⟩ (fun _ => tp) (fun q => absurd q (by omega))
        intro i hi hi2
        by_cases q : i = (1080 + e - ((m + 1 : Nat) : Int)).toNat
        · rw [q]
          exact nd
        · exact hno i (by clear hV1 hV2 tl; omega) hi2
      have kk : (((1080 + e - ((m + 1 : Nat) : Int)).toNat : Nat) : Int) = 1080 + e - ((m + 1 : Nat) : Int) := by clear hV1 hV2 tl; omega
      have B1 : bB 100 ((10 * a % u : Nat) : Int) := ba'.mono (by decide)
      have B2 : bB 100 ((10 * b : Nat) : Int) := bb'.mono (by omega)
      rcases hev with ⟨hl, hn⟩ | ⟨hl, hn⟩
      · rw [if_pos hl]
        exact V_f114 hc' hL hH sn ⟨tp, t17⟩ n2 h2 B1 he (by clear hV1 hV2 tl; omega) g1 (by omega) kk fst (Or.inl ⟨hl, hn⟩) n3 B2 cm (Or.inl ⟨rfl, hn⟩) K
      · rw [if_neg (by rw [hl]; decide)]
        exact V_f114 hc' hL hH sn ⟨tp, t17⟩ n2 h2 B1 he (by clear hV1 hV2 tl; omega) g1 (by omega) kk fst (Or.inr ⟨hl, hn⟩) n3 B2 cm (Or.inr ⟨rfl, hn⟩) K
theorem y_ex1 {x : Int64} {P : Nat} (hP : 1 ≤ P) : (yu x % 2 = 0 ↔ yFx P (yu x) % 2 = 0) := by
  unfold yFx
  obtain ⟨d, rfl⟩ : ∃ d, P = d + 1 := ⟨P - 1, by omega⟩
  rw [Nat.pow_succ, Nat.mul_comm]
  rw [Nat.mod_mod_of_dvd _ ⟨2 ^ d, rfl⟩]
/-- a float's shortest figures: S times 10 ^ (q - 1080) -/
def yFsh (P T : Nat) (l : Int) (w : Nat) (S q : Nat) : Prop := ∃ Z L : Nat, yZ (yPx l (yEx P T w)) Z ∧ ((¬ (yFx P w = 0 ∧ 1 < yEx P T w) ∧ L + 2 * Z = 4 * yNx P T w * Z) ∨ ((yFx P w = 0 ∧ 1 < yEx P T w) ∧ L + Z = 4 * yNx P T w * Z)) ∧ ySho (4 * yNx P T w * Z) L (4 * yNx P T w * Z + 2 * Z) (yFx P w % 2 = 0) S q
theorem yFsh_U {P T : Nat} {l : Int} {w S q S' q' : Nat} (h : yFsh P T l w S q) (g : yFsh P T l w S' q') : S = S' ∧ q = q' := by
  obtain ⟨Z, L, h1, h2, h3⟩ := h
  obtain ⟨Y, M, g1, g2, g3⟩ := g
  have := yZ_U h1 g1
  subst this
  have : L = M := by
    rcases h2 with ⟨a, h2⟩ | ⟨a, h2⟩ <;> rcases g2 with ⟨b, g2⟩ | ⟨b, g2⟩
    · omega
    · exact absurd b a
    · exact absurd a b
    · omega
  subst this
  exact ySho_U h3 g3
theorem yZ_ex {p : Int} (h : -1074 ≤ p) : ∃ Z, yZ p Z ∧ 0 < Z := by
  have key : 2 ^ (2 + (-p).toNat) ∣ 10 ^ 1080 := by
    refine Nat.dvd_trans (Nat.pow_dvd_pow 2 (show 2 + (-p).toNat ≤ 1080 by omega)) ?_
    rw [show (10 : Nat) = 2 * 5 from rfl, Nat.mul_pow]
    exact ⟨5 ^ 1080, rfl⟩
  obtain ⟨d, hd⟩ := key
  have pd : 0 < d := by
    rcases Nat.eq_zero_or_pos d with q | q
    · rw [q, Nat.mul_zero] at hd
      have : 0 < 10 ^ 1080 := Nat.pow_pos (by decide)
      rw [hd] at this
      exact absurd this (Nat.lt_irrefl _)
    · exact q
  refine ⟨2 ^ p.toNat * d, ?_, Nat.mul_pos (Nat.pow_pos (by decide)) pd⟩
  unfold yZ
  rw [hd, Nat.mul_assoc, Nat.mul_comm d]
theorem V_find {A : Int32} {B : Int32} {C : Int32} {x2 : Int64} {t0_0 : Int64} {t0_1 : Int32} {t0_2 : Int32} {t1_0 : Int32} {t1_1 : Int32} {t2_0 : (Nat → Int32)} {t3_0 : Int32} {t3_1 : Int32} {t4_0 : (Nat → Int32)} {t5_0 : Int32} {t5_1 : Int32} {t6_0 : (Nat → Int32)} {t7_0 : Int32} {t7_1 : Int32} {t8_0 : (Nat → Int32)} {t9_0 : Int32} {t9_1 : Int32} {t10_0 : (Nat → Int32)} {P T : Nat} {l : Int} (hF : yF A B C P T l) (hf : yEx P T (yu x2) < T) (h0 : yNx P T (yu x2) ≠ 0) : ∃ S q : Nat, yFsh P T l (yu x2) S q ∧ (F_Flo_findShortest A B C x2 t0_0 t0_1 t0_2 t1_0 t1_1 t2_0 t3_0 t3_1 t4_0 t5_0 t5_1 t6_0 t7_0 t7_1 t8_0 t9_0 t9_1 t10_0).1.toInt = (S : Int) ∧ (F_Flo_findShortest A B C x2 t0_0 t0_1 t0_2 t1_0 t1_1 t2_0 t3_0 t3_1 t4_0 t5_0 t5_1 t6_0 t7_0 t7_1 t8_0 t9_0 t9_1 t10_0).2.1.toInt = (q : Int) - 1080 := by
  have e0L : (0 : Int64).toInt = 0 := rfl
  have nl := yNx_lt hF (u := yu x2)
  have zr := y_zer hF (x := x2)
  rw [if_neg h0] at zr
  have pb : -1074 ≤ yPx l (yEx P T (yu x2)) := by
    unfold yPx
    rcases hF with ⟨_, _, _, rfl, rfl, rfl⟩ | ⟨_, _, _, rfl, rfl, rfl⟩ <;> omega
  obtain ⟨Z, hZ, Zp⟩ := yZ_ex pb
  unfold F_Flo_findShortest
  rw [if_pos zr]
  have pr := V_prep (A := A) (B := B) (C := C) (x2 := x2) (t0_0 := 0) (t0_1 := 0) (t0_2 := t0_2) (t1_0 := t3_0) (t1_1 := t3_1) (t2_0 := t4_0) (t3_0 := t5_0) (t3_1 := t5_1) (t4_0 := t6_0) (t5_0 := t7_0) (t5_1 := t7_1) (t6_0 := t8_0) (t7_0 := t9_0) (t7_1 := t9_1) (t8_0 := t10_0) hF hf h0 hZ
  revert pr
  generalize F_Flo_prepare A B C x2 0 0 t0_2 t3_0 t3_1 t4_0 t5_0 t5_1 t6_0 t7_0 t7_1 t8_0 t9_0 t9_1 t10_0 = p
  intro pr
  obtain ⟨e, a, u, b, c, p1, p2, p3, p4, p5, p6, p7, ⟨r1, r2, r3, r4, r5, r6, r7, r8⟩, au, ua⟩ := pr
  have hP : 1 ≤ P := by
    rcases hF with ⟨_, _, _, rfl, _⟩ | ⟨_, _, _, rfl, _⟩ <;> decide
  have exP := y_ex1 (x := x2) hP
  generalize hn : yNx P T (yu x2) = N at h0 nl r2
  generalize hq : (yFx P (yu x2) = 0 ∧ 1 < yEx P T (yu x2)) = qt at r4
  have dl : ∃ δ L : Nat, δ * u = c * 10 ^ (1080 + e).toNat ∧ L + δ = 4 * N * Z ∧ ((¬ qt ∧ L + 2 * Z = 4 * N * Z) ∨ (qt ∧ L + Z = 4 * N * Z)) := by
    have big : 2 * Z ≤ 4 * N * Z := Nat.mul_le_mul_right _ (by omega)
    rcases r4 with ⟨k, r4⟩ | ⟨k, r4⟩
    · exact ⟨Z, 4 * N * Z - Z, r4, by omega, Or.inr ⟨k, by omega⟩⟩
    · exact ⟨2 * Z, 4 * N * Z - 2 * Z, r4, by omega, Or.inl ⟨k, by omega⟩⟩
  obtain ⟨δ, L, d1, d2, d3⟩ := dl
  have hqn : qt → N ≤ 4503599627370496 := by
    intro k
    rw [← hq] at k
    exact nl.2 k.1
  have bd : yBnd N Z (4 * N * Z) L (4 * N * Z + 2 * Z) qt := ⟨rfl, rfl, d3, by omega, nl.1, hqn, Zp⟩
  have hu : 0 < u := by omega
  have Kp : 0 < 10 ^ (1080 + e).toNat := Nat.pow_pos (by decide)
  have V2 : 4 * N * Z < 10 ^ (1080 + e).toNat := by
    refine Nat.lt_of_mul_lt_mul_right (a := u) ?_
    rw [r2, Nat.mul_comm _ u]
    exact Nat.mul_lt_mul_of_pos_right au Kp
  have V1 : 10 ^ (1080 + e - 1).toNat ≤ 4 * N * Z := by
    refine Nat.le_of_mul_le_mul_right (c := 10 * u) ?_ (by omega)
    have e1 : 10 ^ (1080 + e).toNat = 10 * 10 ^ (1080 + e - 1).toNat := by
      rw [show (1080 + e).toNat = (1080 + e - 1).toNat + 1 from by omega, Nat.pow_succ, Nat.mul_comm]
    have e2 : 4 * N * Z * (10 * u) = 10 * a * 10 ^ (1080 + e).toNat := by
      rw [← Nat.mul_assoc, Nat.mul_comm (4 * N * Z) 10, Nat.mul_assoc, r2, Nat.mul_assoc]
    have e3 : 10 ^ (1080 + e - 1).toNat * (10 * u) = u * 10 ^ (1080 + e).toNat := by
      rw [e1]
      generalize 10 ^ (1080 + e - 1).toNat = X
      grind
    rw [e2, e3]
    exact Nat.mul_le_mul_right _ ua
  have car : yCar (4 * N * Z) δ Z u 0 a b c (10 ^ (1080 + e - ((0 : Nat) : Int)).toNat) := by
    rw [show 1080 + e - ((0 : Nat) : Int) = 1080 + e from by omega]
    exact ⟨by rw [Nat.zero_mul, Nat.zero_add]; exact r2, au, r3, d1⟩
  have no0 : ∀ i, (1080 + e - ((0 : Nat) : Int)).toNat ≤ i → i + 1 ≤ (1080 + e - 1).toNat → ¬ (yDn (4 * N * Z) L (yFx P (yu x2) % 2 = 0) i ∨ yUp (4 * N * Z) (4 * N * Z + 2 * Z) (yFx P (yu x2) % 2 = 0) i) := by
    intro i hi hi2
    exfalso
    clear V1 V2 Kp d1 car r2 r3
    omega
  have wrap : ∀ {x y : Int}, (∃ S q : Nat, ySho (4 * N * Z) L (4 * N * Z + 2 * Z) (yFx P (yu x2) % 2 = 0) S q ∧ x = (S : Int) ∧ y = (q : Int) - 1080) → ∃ S q : Nat, yFsh P T l (yu x2) S q ∧ x = (S : Int) ∧ y = (q : Int) - 1080 := by
    intro x y h
    obtain ⟨S, q, h1, h2⟩ := h
    refine ⟨S, q, ⟨Z, L, hZ, ?_, by rw [hn]; exact h1⟩, h2⟩
    rw [hn, hq]
    exact d3
  unfold F_Flo_findShortest_c21
  have and1 := y_andM (x := x2) (m := 1) (k := 1) (by decide)
  by_cases g : lg_cmp (x2 &&& 1) 0 = 0
  · rw [if_pos g]
    have ev : yFx P (yu x2) % 2 = 0 := by
      rw [y_lc0, and1] at g
      exact exP.mp g
    unfold F_Flo_findShortest_J54
    exact wrap (V_fL bd d2 rfl p5 r6 p1 (by omega) (Or.inr ⟨rfl, ev⟩) V1 V2 ((21 - (1 : Int32).toInt).toNat + 1) 1 p.1 p.2.2.2.1 p.2.2.2.2.1 p.2.2.2.2.2.1 p.2.2.2.2.2.2.2.2.2.1 p.2.2.2.2.2.2.2.2.2.2.1 p.2.2.2.2.2.2.2.2.2.2.2.1 p.2.2.2.2.2.2.2.2.2.2.2.2.1 p.2.2.2.2.2.2.2.2.2.2.2.2.2.1 p.2.2.2.2.2.2.2.2.2.2.2.2.2.2 t1_0 t1_1 t2_0 0 0 a b c rfl (by omega) (by decide) (by rw [p2]; rfl) p4 p6 p7 ⟨car, no0, r7, r8⟩ (fun q => absurd q (by omega)) (fun _ => ua))
  · rw [if_neg g]
    have ev : ¬ yFx P (yu x2) % 2 = 0 := by
      intro k
      refine g ?_
      rw [y_lc0, and1]
      exact exP.mpr k
    unfold F_Flo_findShortest_J54
    exact wrap (V_fL bd d2 rfl p5 r6 p1 (by omega) (Or.inl ⟨rfl, ev⟩) V1 V2 ((21 - (1 : Int32).toInt).toNat + 1) 1 p.1 p.2.2.2.1 p.2.2.2.2.1 p.2.2.2.2.2.1 p.2.2.2.2.2.2.2.2.2.1 p.2.2.2.2.2.2.2.2.2.2.1 p.2.2.2.2.2.2.2.2.2.2.2.1 p.2.2.2.2.2.2.2.2.2.2.2.2.1 p.2.2.2.2.2.2.2.2.2.2.2.2.2.1 p.2.2.2.2.2.2.2.2.2.2.2.2.2.2 t1_0 t1_1 t2_0 0 0 a b c rfl (by omega) (by decide) (by rw [p2]; rfl) p4 p6 p7 ⟨car, no0, r7, r8⟩ (fun q => absurd q (by omega)) (fun _ => ua))
