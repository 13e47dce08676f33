/-! DecimalRows: quotient -/
theorem u_islL {t0_0 : Int32} {t0_1 : Int32} {t0_2 : Int32} {t0_3 : Int64} {t0_4 : Int32} {t0_5 : Int32} {t0_6 : Int32} {t0_7 : Int32} {t0_8 : Int32} {t0_9 : Int32} {t0_10 : Int32} {t1_0 : (Nat → Int32)} (h7 : 0 ≤ t0_7.toInt ∧ t0_7.toInt ≤ 2200) : ∀ (n : Nat) (k b : Int32), 0 ≤ k.toInt → k.toInt ≤ t0_7.toInt + 1 → (b = 0 ∨ ∃ i : Nat, (i : Int) ≤ t0_7.toInt ∧ t1_0 i ≠ 0) → F_DR_isLeft_L4 t0_0 t0_1 t0_2 t0_3 t0_4 t0_5 t0_6 t0_7 t0_8 t0_9 t0_10 t1_0 n k b = 0 ∨ ∃ i : Nat, (i : Int) ≤ t0_7.toInt ∧ t1_0 i ≠ 0 := by
  intro n
  induction n with
  | zero => intro k b h0 h1 hb; exact Or.inl rfl
  | succ n ih =>
    intro k b h0 h1 hb
    rw [F_DR_isLeft_L4.eq_2]
    by_cases c : t0_7 < k
    · rw [if_pos c]; exact hb
    · rw [if_neg c]
      have c2 := q_nltI c
      have ek := q_clI (i := k) rfl h0
      have e2 : (k + 1 : Int32).toInt = k.toInt + 1 := q_addI (y := 1) rfl (by decide) (by omega) (by omega)
      by_cases d : b = 0
      · rw [if_pos d]
        by_cases z : t1_0 k.toNatClampNeg = 0
        · rw [if_pos z]
          exact ih _ _ (by omega) (by omega) (Or.inl rfl)
        · exact Or.inr ⟨k.toNatClampNeg, by omega, z⟩
      · rcases hb with h | h
        · exact absurd h d
        · exact Or.inr h
theorem u_pI {f : Nat → Int32} {i : Nat} : ∀ {n : Nat}, gO f n → i < n → f i ≠ 0 → 0 < uV f n
  | 0, _, h, _ => by omega
  | n + 1, hg, h, hi => by
    show 0 < uV f n * 10 + (f n).toInt
    have a := (hg n (by omega)).1
    by_cases c : i = n
    · subst c
      have b : (f i).toInt ≠ 0 := fun e => hi (Int32.toInt_inj.mp (by rw [e]; rfl))
      have d := u_nn (hg.mono (show i ≤ i + 1 by omega))
      omega
    · have := u_pI (n := n) (hg.mono (by omega)) (by omega) hi
      omega
theorem R_isl {t0_0 : Int32} {t0_1 : Int32} {t0_2 : Int32} {t0_3 : Int64} {t0_4 : Int32} {t0_5 : Int32} {t0_6 : Int32} {t0_7 : Int32} {t0_8 : Int32} {t0_9 : Int32} {t0_10 : Int32} {t1_0 : (Nat → Int32)} (h7 : 0 ≤ t0_7.toInt ∧ t0_7.toInt ≤ 2200) (hg : gO t1_0 (t0_7.toNatClampNeg + 1)) : S_DR_isLeft t0_0 t0_1 t0_2 t0_3 t0_4 t0_5 t0_6 t0_7 t0_8 t0_9 t0_10 t1_0 ∧ (¬ F_DR_isLeft t0_0 t0_1 t0_2 t0_3 t0_4 t0_5 t0_6 t0_7 t0_8 t0_9 t0_10 t1_0 = 0 → wL 0 (uV t1_0 (t0_7.toNatClampNeg + 1))) := by
  refine ⟨T_DR_isLeft h7, fun h => ?_⟩
  have e := q_clI (i := t0_7) rfl h7.1
  have e0 : (0 : Int32).toInt = 0 := rfl
  unfold F_DR_isLeft at h
  rcases u_islL h7 1000000 0 0 (by decide) (by omega) (Or.inl rfl) with h1 | ⟨i, h1, h2⟩
  · exact absurd h1 h
  · exact u_pI hg (by omega) h2
theorem u_hz {a : Int} {P : Prop} (h : a = 0 ∨ P) (h2 : a ≠ 0) : P := by
  rcases h with h | h
  · exact absurd h h2
  · exact h
/-- enough turns are left -/
def uP (n : Nat) (s z : Int32) (le : Nat → Int32) : Prop := (1 ≤ s.toInt ∧ 1002 - s.toInt < (n : Int)) ∨ (s.toInt = 0 ∧ ∃ j : Nat, (uV le (z.toNatClampNeg + 1) = 0 ∨ 10 ^ j ≤ uV le (z.toNatClampNeg + 1)) ∧ j ≤ z.toNatClampNeg ∧ 1003 + z.toNatClampNeg < n + j)
theorem uP.ge {s z : Int32} {le : Nat → Int32} (h : uP 0 s z le) (hs : s.toInt ≤ 1001) : False := by
  rcases h with ⟨-, h⟩ | ⟨-, j, -, h1, h2⟩ <;> omega
theorem u_p10 {j u : Nat} {v : Int} (h : 10 ^ j ≤ v) (h2 : v < 10 ^ u) : j < u := by
  by_cases c : j < u
  · exact c
  · obtain ⟨d, rfl⟩ := Nat.exists_eq_add_of_le (show u ≤ j by omega)
    rw [Int.pow_add] at h
    have a := u_pos u
    have b := u_pos d
    have e := Int.mul_le_mul_of_nonneg_left (show 1 ≤ (10 : Int) ^ d by omega) (Int.le_of_lt a)
    rw [Int.mul_one] at e
    exact absurd (Int.lt_of_le_of_lt (Int.le_trans e h) h2) (Int.lt_irrefl _)
theorem uP.step {n : Nat} {s s1 z d : Int32} {un le le1 : Nat → Int32} (h : uP (n + 1) s z le) (hw : uW z un le) (hp : wL 0 (uV le (z.toNatClampNeg + 1))) (he : wE (d.toInt * uV un z.toNatClampNeg + uV le1 (z.toNatClampNeg + 1)) (uV le (z.toNatClampNeg + 1) * 10 + (0 : Int32).toInt)) (hs : s.toInt ≤ s1.toInt ∧ s1.toInt ≤ s.toInt + 1) (h1 : 0 < s.toInt → s1.toInt = s.toInt + 1) (h2 : s1.toInt = 0 → d.toInt = 0) : uP n s1 z le1 := by
  have e0 : (0 : Int32).toInt = 0 := rfl
  rcases h with ⟨a, b⟩ | ⟨a, j, b, c, f⟩
  · exact Or.inl ⟨by omega, by have := h1 (by omega); omega⟩
  · by_cases w : s1.toInt = 0
    · have hd := h2 w
      have hp : (0 : Int) < uV le (z.toNatClampNeg + 1) := hp
      have b2 : (10 : Int) ^ j ≤ uV le (z.toNatClampNeg + 1) := by
        rcases b with b | b
        · rw [b] at hp; exact absurd hp (by decide)
        · exact b
      have jl : j < z.toNatClampNeg := u_p10 b2 (Int.lt_trans hw.2.2.2 (u_lt hw.2.1))
      refine Or.inr ⟨w, j + 1, Or.inr ?_, by omega, by omega⟩
      have he : _ = _ := he
      rw [hd, e0, Int.zero_mul, Int.zero_add, Int.add_zero] at he
      rw [he, u_pw]
      omega
    · exact Or.inl ⟨by omega, by omega⟩
theorem uP.start {s z : Int32} {un le : Nat → Int32} (hw : uW z un le) (hs : 0 ≤ s.toInt) : uP 1000000 s z le := by
  have e := q_clI (i := z) rfl (by have := hw.1; omega)
  have h1 := hw.1
  by_cases c : s.toInt = 0
  · refine Or.inr ⟨c, 0, ?_, by omega, by omega⟩
    have h2 := u_nn hw.2.2.1
    rw [Int.pow_zero]
    by_cases d : uV le (z.toNatClampNeg + 1) = 0
    · exact Or.inl d
    · exact Or.inr (by omega)
  · exact Or.inl ⟨by omega, by omega⟩
theorem R_app {x2 : Int32} {t0_0 : Int32} {t0_1 : Int32} {t0_2 : Int32} {t0_3 : Int64} {t0_4 : Int32} {t0_5 : Int32} {t0_6 : Int32} {t0_7 : Int32} {t0_8 : Int32} {t0_9 : Int32} {t0_10 : Int32} {t1_0 : (Nat → Int32)} (h2 : 0 ≤ t0_2.toInt ∧ t0_2.toInt ≤ 4398) (hg : gO t1_0 t0_2.toNatClampNeg) (hx : 0 ≤ x2.toInt ∧ x2.toInt ≤ 9) (hz : t0_2.toInt = 0 ∨ t1_0 0 ≠ 0) : S_DR_append x2 t0_0 t0_1 t0_2 t0_3 t0_4 t0_5 t0_6 t0_7 t0_8 t0_9 t0_10 t1_0 ∧ (Q_DR_append t0_0 t0_1 t0_2 t0_3 t0_4 t0_5 t0_7 t0_10 (F_DR_append x2 t0_0 t0_1 t0_2 t0_3 t0_4 t0_5 t0_6 t0_7 t0_8 t0_9 t0_10 t1_0) ∧ (0 < t0_2.toInt → (F_DR_append x2 t0_0 t0_1 t0_2 t0_3 t0_4 t0_5 t0_6 t0_7 t0_8 t0_9 t0_10 t1_0).2.2.1.toInt = t0_2.toInt + 1) ∧ ((F_DR_append x2 t0_0 t0_1 t0_2 t0_3 t0_4 t0_5 t0_6 t0_7 t0_8 t0_9 t0_10 t1_0).2.2.1.toInt = 0 → x2.toInt = 0)) := by
  have h := T_DR_append (t0_0 := t0_0) (t0_1 := t0_1) (t0_3 := t0_3) (t0_4 := t0_4) (t0_5 := t0_5) (t0_6 := t0_6) (t0_7 := t0_7) (t0_8 := t0_8) (t0_9 := t0_9) (t0_10 := t0_10) h2 hg hx hz
  have e0 : (0 : Int32).toInt = 0 := rfl
  have e1 : (t0_2 + 1 : Int32).toInt = t0_2.toInt + 1 := q_addI (y := 1) rfl (by decide) (by omega) (by omega)
  refine ⟨h.1, h.2, ?_⟩
  clear h
  unfold F_DR_append
  by_cases c : 0 < t0_2
  · rw [if_pos c]
    dsimp only
    exact ⟨fun _ => e1, fun h => by omega⟩
  · rw [if_neg c]
    have c2 := q_nltI c
    by_cases d : x2 ≤ 0
    · rw [if_pos d]
      have d2 := q_leI d
      dsimp only
      exact ⟨fun h => by omega, fun _ => by omega⟩
    · rw [if_neg d]
      dsimp only
      exact ⟨fun h => by omega, fun h => by omega⟩
def Q_DR_quotient (p : Int32 × Int32 × Int32 × Int64 × Int32 × Int32 × Int32 × Int32 × Int32 × Int32 × Int32 × (Nat → Int32) × (Nat → Int32) × (Nat → Int32) × (Nat → Int32) × (Nat → Int32) × (Nat → Int32) × (Nat → Int32)) : Prop := gR p.2.2.2.2.2.2.2.2.2.2.2.1 p.2.2.2.2.2.2.2.2.2.2.2.2.1 p.2.2.2.2.2.2.2.2.2.2.2.2.2.1 p.2.2.2.2.2.2.2.2.2.2.2.2.2.2.1
theorem u_nif {P : Prop} {b : Int32} (g : ¬ b = 0) (h : ¬ b = 0 → P) : P := h g
theorem v_qu2 {K_F_DR_quotient_L127 : Int32 → Int32 → Int32 → Int32 → Int64 → Int32 → Int32 → Int32 → Int32 → Int32 → Int32 → Int32 → (Nat → Int32) → (Nat → Int32) → (Int32 × Int32 × Int32 × Int64 × Int32 × Int32 × Int32 × Int32 × Int32 × Int32 × Int32 × (Nat → Int32) × (Nat → Int32) × (Nat → Int32) × (Nat → Int32) × (Nat → Int32) × (Nat → Int32) × (Nat → Int32))} {x2 : Int32} {x3 : Int32} {x4 : Int32} {x5 : Int32} {x6 : Int32} {t0_0 : Int32} {t0_1 : Int32} {t0_2 : Int32} {t0_3 : Int64} {t0_4 : Int32} {t0_5 : Int32} {t0_6 : Int32} {t0_7 : Int32} {t0_8 : Int32} {t0_9 : Int32} {t0_10 : Int32} {t1_0 : (Nat → Int32)} {t2_0 : (Nat → Int32)} {t3_0 : (Nat → Int32)} {t4_0 : (Nat → Int32)} {t5_0 : (Nat → Int32)} {t6_0 : (Nat → Int32)} {t7_0 : (Nat → Int32)} {lx45 : Int32} {j82 : Int64} {lx85 : Int32} {p151 : (Int32 × Int32 × Int32 × Int64 × Int32 × Int32 × Int32 × Int32 × Int32 × Int32 × Int32 × (Nat → Int32))} {f117 : (Nat → Int32)} {p212 : (Int32 × Int32 × Int32 × Int64 × Int32 × Int32 × Int32 × Int32 × Int32 × Int32 × Int32 × (Nat → Int32))} {lx234 : Int32} {lx235 : Int32} {lx236 : Int32} {lx237 : Int32} {lx238 : Int64} {lx239 : Int32} {lx240 : Int32} {lx241 : Int32} {lx242 : Int32} {lx243 : Int32} {lx244 : Int32} {lx245 : Int32} {lx246 : (Nat → Int32)} {lx247 : (Nat → Int32)} {K_S_DR_quotient_L127 : Int32 → Int32 → Int32 → Int32 → Int64 → Int32 → Int32 → Int32 → Int32 → Int32 → Int32 → Int32 → (Nat → Int32) → (Nat → Int32) → Prop} (hR : gR t1_0 t2_0 t3_0 t4_0)(hx2 : 0 ≤ x2.toInt ∧ x2.toInt ≤ 9) (hx4 : 0 ≤ x4.toInt ∧ x4.toInt ≤ 9) (h85 : 1 ≤ lx85.toInt ∧ lx85.toInt ≤ 1000) (hx5 : 0 ≤ x5.toInt ∧ x5.toInt ≤ 1000) (h58 : 0 < x5.toInt → lx85.toInt = x5.toInt) : ∀ (n : Nat) (lx298 : Int32) (lx299 : Int32) (lx300 : Int32) (lx301 : Int64) (lx302 : Int32) (lx303 : Int32) (lx304 : Int32) (lx305 : Int32) (lx306 : Int32) (lx307 : Int32) (lx308 : Int32) (lx309 : (Nat → Int32)) (lx310 : (Nat → Int32)), (0 ≤ lx300.toInt ∧ lx300.toInt ≤ 1001) → (uW lx305 f117 lx310) → (wL 0 (uV f117 lx305.toNatClampNeg)) → (gO lx309 lx300.toNatClampNeg) → (lx300.toInt = 0 ∨ lx309 0 ≠ 0) → (uP n lx300 lx305 lx310) → (S_DR_quotient_L165 K_S_DR_quotient_L127 x2 x3 x4 x5 x6 t0_0 t0_1 t0_2 t0_3 t0_4 t0_5 t0_6 t0_7 t0_8 t0_9 t0_10 t1_0 t2_0 t3_0 t4_0 t5_0 t6_0 t7_0 lx45 j82 lx85 p151 f117 p212 lx234 lx235 lx236 lx237 lx238 lx239 lx240 lx241 lx242 lx243 lx244 lx245 lx246 lx247 n lx298 lx299 lx300 lx301 lx302 lx303 lx304 lx305 lx306 lx307 lx308 lx309 lx310) ∧ Q_DR_quotient (F_DR_quotient_L165 K_F_DR_quotient_L127 x2 x3 x4 x5 x6 t0_0 t0_1 t0_2 t0_3 t0_4 t0_5 t0_6 t0_7 t0_8 t0_9 t0_10 t1_0 t2_0 t3_0 t4_0 t5_0 t6_0 t7_0 lx45 j82 lx85 p151 f117 p212 lx234 lx235 lx236 lx237 lx238 lx239 lx240 lx241 lx242 lx243 lx244 lx245 lx246 lx247 n lx298 lx299 lx300 lx301 lx302 lx303 lx304 lx305 lx306 lx307 lx308 lx309 lx310) := by
  intro n
  induction n with
  | zero => intro lx298 lx299 lx300 lx301 lx302 lx303 lx304 lx305 lx306 lx307 lx308 lx309 lx310 h1 hw hU ho hz hP; exact (hP.ge h1.2).elim
  | succ n ih =>
    intro lx298 lx299 lx300 lx301 lx302 lx303 lx304 lx305 lx306 lx307 lx308 lx309 lx310 h1 hw hU ho hz hP
    have e0 : (0 : Int32).toInt = 0 := rfl
    have eL0 : (0 : Int64).toInt = 0 := rfl
    have eL1 : (10000 : Int64).toInt = 10000 := rfl
    have eL2 : (-10000 : Int64).toInt = -10000 := rfl
    have eL3 : (1000 : Int64).toInt = 1000 := rfl
    have eL4 : (-1 : Int64).toInt = -1 := rfl
    have eI3 : (1000 : Int32).toInt = 1000 := rfl
    have hu1 := hw.1
    have i1 : (1 : Int32).toInt = 1 := rfl
    rw [S_DR_quotient_L165.eq_2, F_DR_quotient_L165.eq_2]
    have h1 := R_isl (t0_0 := lx298) (t0_1 := lx299) (t0_2 := lx300) (t0_3 := lx301) (t0_4 := lx302) (t0_5 := lx303) (t0_6 := lx304) (t0_7 := lx305) (t0_8 := lx306) (t0_9 := lx307) (t0_10 := lx308) (t1_0 := lx310) ⟨by omega, by omega⟩ hw.2.2.1
    have h1p := h1.2
    with_reducible refine v_owe h1.1 ?_
    by_cases g2 : ((F_DR_isLeft lx298 lx299 lx300 lx301 lx302 lx303 lx304 lx305 lx306 lx307 lx308 lx310) : Int32) = (0 : Int32)
    ·
      rw [if_pos g2, if_pos g2]
      have g2i := q_eqI g2
      unfold S_DR_quotient_J203 F_DR_quotient_J203
      with_reducible refine v_owe h1.1 ?_
      by_cases g3 : (t3_0 x2.toNatClampNeg : Int32) = (t3_0 x3.toNatClampNeg : Int32)
      ·
        rw [if_pos g3, if_pos g3]
        unfold S_DR_quotient_J232 F_DR_quotient_J232
        by_cases g4 : lx300 = (0 : Int32)
        ·
          rw [if_pos g4, if_pos g4]
          have g4i := q_eqI g4
          unfold S_DR_quotient_J254 F_DR_quotient_J254
          by_cases g5 : x5 ≤ (0 : Int32)
          ·
            rw [if_pos g5, if_pos g5]
            have g5i := q_leI g5
            rw [if_pos g2, if_pos g2]
            by_cases g6 : ((upd lx309 (0 : Int32).toNatClampNeg 0 : (Nat → Int32)) (0 : Int32).toNatClampNeg : Int32) = (0 : Int32)
            ·
              rw [if_pos g6, if_pos g6]
              have h7 := T_DR_store (x2 := x4) (t0_0 := lx298) (t0_1 := lx299) (t0_2 := (1 : Int32)) (t0_3 := j82) (t0_4 := ((F_DR_isLeft lx298 lx299 lx300 lx301 lx302 lx303 lx304 lx305 lx306 lx307 lx308 lx310) : Int32)) (t0_5 := (0 : Int32)) (t0_6 := lx304) (t0_7 := lx305) (t0_8 := lx306) (t0_9 := lx307) (t0_10 := lx308) (t1_0 := t1_0) (t2_0 := t2_0) (t3_0 := t3_0) (t4_0 := t4_0) (t5_0 := (upd lx309 (0 : Int32).toNatClampNeg 0 : (Nat → Int32))) (by with_reducible assumption) (by with_reducible assumption) ⟨by first | omega | decide, by first | omega | decide⟩ (by first | with_reducible assumption | exact g_one | exact g_cl (by with_reducible assumption) (by omega) (by omega))
              with_reducible refine v_owe h7.1 ?_
              replace h7 := h7.2
              generalize F_DR_store x4 lx298 lx299 (1 : Int32) j82 ((F_DR_isLeft lx298 lx299 lx300 lx301 lx302 lx303 lx304 lx305 lx306 lx307 lx308 lx310) : Int32) (0 : Int32) lx304 lx305 lx306 lx307 lx308 t1_0 t2_0 t3_0 t4_0 (upd lx309 (0 : Int32).toNatClampNeg 0 : (Nat → Int32)) = p776 at *
              unfold Q_DR_store at h7
              unfold S_DR_quotient_c374_14 F_DR_quotient_c374_14
              refine ⟨trivial, ?_⟩
              (unfold Q_DR_quotient; dsimp only; with_reducible assumption)
            ·
              rw [if_neg g6, if_neg g6]
              have h8 := R_need (t0_0 := lx298) (t0_1 := lx299) (t0_2 := (1 : Int32)) (t0_3 := lx301) (t0_4 := ((F_DR_isLeft lx298 lx299 lx300 lx301 lx302 lx303 lx304 lx305 lx306 lx307 lx308 lx310) : Int32)) (t0_5 := (0 : Int32)) (t0_6 := lx304) (t0_7 := lx305) (t0_8 := lx306) (t0_9 := lx307) (t0_10 := lx308) (t1_0 := (upd lx309 (0 : Int32).toNatClampNeg 0 : (Nat → Int32))) ⟨by first | omega | decide, by first | omega | decide⟩
              have h8b := h8.2
              with_reducible refine v_owe h8.1 ?_
              by_cases g9 : (lg_cmp (j82 - (lx301 - (((1 : Int32) - ((F_DR_needed lx298 lx299 (1 : Int32) lx301 ((F_DR_isLeft lx298 lx299 lx300 lx301 lx302 lx303 lx304 lx305 lx306 lx307 lx308 lx310) : Int32) (0 : Int32) lx304 lx305 lx306 lx307 lx308 (upd lx309 (0 : Int32).toNatClampNeg 0 : (Nat → Int32))) : Int32) : Int32).toInt64 : Int64) : Int64) : Int64) 1000 : Int32) ≤ (0 : Int32)
              ·
                rw [if_pos g9, if_pos g9]
                have g9l := g_lc3 g9
                by_cases g10 : (0 : Int32) ≤ (lg_cmp (j82 - (lx301 - (((1 : Int32) - ((F_DR_needed lx298 lx299 (1 : Int32) lx301 ((F_DR_isLeft lx298 lx299 lx300 lx301 lx302 lx303 lx304 lx305 lx306 lx307 lx308 lx310) : Int32) (0 : Int32) lx304 lx305 lx306 lx307 lx308 (upd lx309 (0 : Int32).toNatClampNeg 0 : (Nat → Int32))) : Int32) : Int32).toInt64 : Int64) : Int64) : Int64) 0 : Int32)
                ·
                  rw [if_pos g10, if_pos g10]
                  have g10l := g_lc5 g10
                  have h11 := T_DR_lengthen (x2 := (j82 - (lx301 - (((1 : Int32) - ((F_DR_needed lx298 lx299 (1 : Int32) lx301 ((F_DR_isLeft lx298 lx299 lx300 lx301 lx302 lx303 lx304 lx305 lx306 lx307 lx308 lx310) : Int32) (0 : Int32) lx304 lx305 lx306 lx307 lx308 (upd lx309 (0 : Int32).toNatClampNeg 0 : (Nat → Int32))) : Int32) : Int32).toInt64 : Int64) : Int64) : Int64)) (t0_0 := lx298) (t0_1 := lx299) (t0_2 := ((F_DR_needed lx298 lx299 (1 : Int32) lx301 ((F_DR_isLeft lx298 lx299 lx300 lx301 lx302 lx303 lx304 lx305 lx306 lx307 lx308 lx310) : Int32) (0 : Int32) lx304 lx305 lx306 lx307 lx308 (upd lx309 (0 : Int32).toNatClampNeg 0 : (Nat → Int32))) : Int32)) (t0_3 := (lx301 - (((1 : Int32) - ((F_DR_needed lx298 lx299 (1 : Int32) lx301 ((F_DR_isLeft lx298 lx299 lx300 lx301 lx302 lx303 lx304 lx305 lx306 lx307 lx308 lx310) : Int32) (0 : Int32) lx304 lx305 lx306 lx307 lx308 (upd lx309 (0 : Int32).toNatClampNeg 0 : (Nat → Int32))) : Int32) : Int32).toInt64 : Int64) : Int64)) (t0_4 := ((F_DR_isLeft lx298 lx299 lx300 lx301 lx302 lx303 lx304 lx305 lx306 lx307 lx308 lx310) : Int32)) (t0_5 := (0 : Int32)) (t0_6 := lx304) (t0_7 := lx305) (t0_8 := lx306) (t0_9 := lx307) (t0_10 := lx308) (t1_0 := (upd lx309 (0 : Int32).toNatClampNeg 0 : (Nat → Int32))) ⟨by omega, by omega⟩ (by first | omega | decide) (by first | omega | (have ez : (0 : Int64).toInt = 0 := rfl; omega)) (by first | exact g_cl (by with_reducible assumption) (by omega) (by omega) | exact g_cl g_one (by omega) (by omega))
                  with_reducible refine v_owe h11.1 ?_
                  replace h11 := h11.2
                  generalize F_DR_lengthen (j82 - (lx301 - (((1 : Int32) - ((F_DR_needed lx298 lx299 (1 : Int32) lx301 ((F_DR_isLeft lx298 lx299 lx300 lx301 lx302 lx303 lx304 lx305 lx306 lx307 lx308 lx310) : Int32) (0 : Int32) lx304 lx305 lx306 lx307 lx308 (upd lx309 (0 : Int32).toNatClampNeg 0 : (Nat → Int32))) : Int32) : Int32).toInt64 : Int64) : Int64) : Int64) lx298 lx299 ((F_DR_needed lx298 lx299 (1 : Int32) lx301 ((F_DR_isLeft lx298 lx299 lx300 lx301 lx302 lx303 lx304 lx305 lx306 lx307 lx308 lx310) : Int32) (0 : Int32) lx304 lx305 lx306 lx307 lx308 (upd lx309 (0 : Int32).toNatClampNeg 0 : (Nat → Int32))) : Int32) (lx301 - (((1 : Int32) - ((F_DR_needed lx298 lx299 (1 : Int32) lx301 ((F_DR_isLeft lx298 lx299 lx300 lx301 lx302 lx303 lx304 lx305 lx306 lx307 lx308 lx310) : Int32) (0 : Int32) lx304 lx305 lx306 lx307 lx308 (upd lx309 (0 : Int32).toNatClampNeg 0 : (Nat → Int32))) : Int32) : Int32).toInt64 : Int64) : Int64) ((F_DR_isLeft lx298 lx299 lx300 lx301 lx302 lx303 lx304 lx305 lx306 lx307 lx308 lx310) : Int32) (0 : Int32) lx304 lx305 lx306 lx307 lx308 (upd lx309 (0 : Int32).toNatClampNeg 0 : (Nat → Int32)) = p500 at *
                  unfold Q_DR_lengthen at h11
                  obtain ⟨h111, h11g⟩ := h11
                  unfold S_DR_quotient_c369 F_DR_quotient_c369
                  have h12 := T_DR_store (x2 := x4) (t0_0 := (p500.1 : Int32)) (t0_1 := (p500.2.1 : Int32)) (t0_2 := (p500.2.2.1 : Int32)) (t0_3 := (p500.2.2.2.1 : Int64)) (t0_4 := (p500.2.2.2.2.1 : Int32)) (t0_5 := (p500.2.2.2.2.2.1 : Int32)) (t0_6 := (p500.2.2.2.2.2.2.1 : Int32)) (t0_7 := (p500.2.2.2.2.2.2.2.1 : Int32)) (t0_8 := (p500.2.2.2.2.2.2.2.2.1 : Int32)) (t0_9 := (p500.2.2.2.2.2.2.2.2.2.1 : Int32)) (t0_10 := (p500.2.2.2.2.2.2.2.2.2.2.1 : Int32)) (t1_0 := t1_0) (t2_0 := t2_0) (t3_0 := t3_0) (t4_0 := t4_0) (t5_0 := (p500.2.2.2.2.2.2.2.2.2.2.2 : (Nat → Int32))) (by with_reducible assumption) (by with_reducible assumption) ⟨by first | omega | decide, by first | omega | decide⟩ (by first | with_reducible assumption | exact g_one | exact g_cl (by with_reducible assumption) (by omega) (by omega))
                  with_reducible refine v_owe h12.1 ?_
                  replace h12 := h12.2
                  generalize F_DR_store x4 (p500.1 : Int32) (p500.2.1 : Int32) (p500.2.2.1 : Int32) (p500.2.2.2.1 : Int64) (p500.2.2.2.2.1 : Int32) (p500.2.2.2.2.2.1 : Int32) (p500.2.2.2.2.2.2.1 : Int32) (p500.2.2.2.2.2.2.2.1 : Int32) (p500.2.2.2.2.2.2.2.2.1 : Int32) (p500.2.2.2.2.2.2.2.2.2.1 : Int32) (p500.2.2.2.2.2.2.2.2.2.2.1 : Int32) t1_0 t2_0 t3_0 t4_0 (p500.2.2.2.2.2.2.2.2.2.2.2 : (Nat → Int32)) = p568 at *
                  unfold Q_DR_store at h12
                  unfold S_DR_quotient_c374 F_DR_quotient_c374
                  refine ⟨trivial, ?_⟩
                  (unfold Q_DR_quotient; dsimp only; with_reducible assumption)
                ·
                  rw [if_neg g10, if_neg g10]
                  have g10l := g_lc6 g10
                  have h13 := T_DR_lengthen (x2 := (0 : Int64)) (t0_0 := lx298) (t0_1 := lx299) (t0_2 := ((F_DR_needed lx298 lx299 (1 : Int32) lx301 ((F_DR_isLeft lx298 lx299 lx300 lx301 lx302 lx303 lx304 lx305 lx306 lx307 lx308 lx310) : Int32) (0 : Int32) lx304 lx305 lx306 lx307 lx308 (upd lx309 (0 : Int32).toNatClampNeg 0 : (Nat → Int32))) : Int32)) (t0_3 := (lx301 - (((1 : Int32) - ((F_DR_needed lx298 lx299 (1 : Int32) lx301 ((F_DR_isLeft lx298 lx299 lx300 lx301 lx302 lx303 lx304 lx305 lx306 lx307 lx308 lx310) : Int32) (0 : Int32) lx304 lx305 lx306 lx307 lx308 (upd lx309 (0 : Int32).toNatClampNeg 0 : (Nat → Int32))) : Int32) : Int32).toInt64 : Int64) : Int64)) (t0_4 := ((F_DR_isLeft lx298 lx299 lx300 lx301 lx302 lx303 lx304 lx305 lx306 lx307 lx308 lx310) : Int32)) (t0_5 := (0 : Int32)) (t0_6 := lx304) (t0_7 := lx305) (t0_8 := lx306) (t0_9 := lx307) (t0_10 := lx308) (t1_0 := (upd lx309 (0 : Int32).toNatClampNeg 0 : (Nat → Int32))) ⟨by omega, by omega⟩ (by first | omega | decide) (by first | omega | (have ez : (0 : Int64).toInt = 0 := rfl; omega)) (by first | exact g_cl (by with_reducible assumption) (by omega) (by omega) | exact g_cl g_one (by omega) (by omega))
                  with_reducible refine v_owe h13.1 ?_
                  replace h13 := h13.2
                  generalize F_DR_lengthen (0 : Int64) lx298 lx299 ((F_DR_needed lx298 lx299 (1 : Int32) lx301 ((F_DR_isLeft lx298 lx299 lx300 lx301 lx302 lx303 lx304 lx305 lx306 lx307 lx308 lx310) : Int32) (0 : Int32) lx304 lx305 lx306 lx307 lx308 (upd lx309 (0 : Int32).toNatClampNeg 0 : (Nat → Int32))) : Int32) (lx301 - (((1 : Int32) - ((F_DR_needed lx298 lx299 (1 : Int32) lx301 ((F_DR_isLeft lx298 lx299 lx300 lx301 lx302 lx303 lx304 lx305 lx306 lx307 lx308 lx310) : Int32) (0 : Int32) lx304 lx305 lx306 lx307 lx308 (upd lx309 (0 : Int32).toNatClampNeg 0 : (Nat → Int32))) : Int32) : Int32).toInt64 : Int64) : Int64) ((F_DR_isLeft lx298 lx299 lx300 lx301 lx302 lx303 lx304 lx305 lx306 lx307 lx308 lx310) : Int32) (0 : Int32) lx304 lx305 lx306 lx307 lx308 (upd lx309 (0 : Int32).toNatClampNeg 0 : (Nat → Int32)) = p630 at *
                  unfold Q_DR_lengthen at h13
                  obtain ⟨h131, h13g⟩ := h13
                  unfold S_DR_quotient_c369_12 F_DR_quotient_c369_12
                  have h14 := T_DR_store (x2 := x4) (t0_0 := (p630.1 : Int32)) (t0_1 := (p630.2.1 : Int32)) (t0_2 := (p630.2.2.1 : Int32)) (t0_3 := (p630.2.2.2.1 : Int64)) (t0_4 := (p630.2.2.2.2.1 : Int32)) (t0_5 := (p630.2.2.2.2.2.1 : Int32)) (t0_6 := (p630.2.2.2.2.2.2.1 : Int32)) (t0_7 := (p630.2.2.2.2.2.2.2.1 : Int32)) (t0_8 := (p630.2.2.2.2.2.2.2.2.1 : Int32)) (t0_9 := (p630.2.2.2.2.2.2.2.2.2.1 : Int32)) (t0_10 := (p630.2.2.2.2.2.2.2.2.2.2.1 : Int32)) (t1_0 := t1_0) (t2_0 := t2_0) (t3_0 := t3_0) (t4_0 := t4_0) (t5_0 := (p630.2.2.2.2.2.2.2.2.2.2.2 : (Nat → Int32))) (by with_reducible assumption) (by with_reducible assumption) ⟨by first | omega | decide, by first | omega | decide⟩ (by first | with_reducible assumption | exact g_one | exact g_cl (by with_reducible assumption) (by omega) (by omega))
                  with_reducible refine v_owe h14.1 ?_
                  replace h14 := h14.2
                  generalize F_DR_store x4 (p630.1 : Int32) (p630.2.1 : Int32) (p630.2.2.1 : Int32) (p630.2.2.2.1 : Int64) (p630.2.2.2.2.1 : Int32) (p630.2.2.2.2.2.1 : Int32) (p630.2.2.2.2.2.2.1 : Int32) (p630.2.2.2.2.2.2.2.1 : Int32) (p630.2.2.2.2.2.2.2.2.1 : Int32) (p630.2.2.2.2.2.2.2.2.2.1 : Int32) (p630.2.2.2.2.2.2.2.2.2.2.1 : Int32) t1_0 t2_0 t3_0 t4_0 (p630.2.2.2.2.2.2.2.2.2.2.2 : (Nat → Int32)) = p698 at *
                  unfold Q_DR_store at h14
                  unfold S_DR_quotient_c374_13 F_DR_quotient_c374_13
                  refine ⟨trivial, ?_⟩
                  (unfold Q_DR_quotient; dsimp only; with_reducible assumption)
              ·
                rw [if_neg g9, if_neg g9]
                have g9l := g_lc4 g9
                refine ⟨trivial, ?_⟩
                (unfold Q_DR_quotient; dsimp only; with_reducible assumption)
          ·
            rw [if_neg g5, if_neg g5]
            have g5i := q_nleI g5
            have h15 := T_DR_toPrecision (x2 := x5) (x3 := j82) (x4 := x6) (x5 := x4) (t0_0 := lx298) (t0_1 := lx299) (t0_2 := (1 : Int32)) (t0_3 := lx301) (t0_4 := ((F_DR_isLeft lx298 lx299 lx300 lx301 lx302 lx303 lx304 lx305 lx306 lx307 lx308 lx310) : Int32)) (t0_5 := (0 : Int32)) (t0_6 := lx304) (t0_7 := lx305) (t0_8 := lx306) (t0_9 := lx307) (t0_10 := lx308) (t1_0 := t1_0) (t2_0 := t2_0) (t3_0 := t3_0) (t4_0 := t4_0) (t5_0 := (upd lx309 (0 : Int32).toNatClampNeg 0 : (Nat → Int32))) (by with_reducible assumption) (by with_reducible assumption) ⟨by omega, by omega⟩ ⟨by first | omega | decide, by first | omega | decide⟩ (by first | with_reducible assumption | exact g_one) (fun hne => by first | exact ⟨by omega, u_hz hz (by omega)⟩ | (exfalso; omega))
            with_reducible refine v_owe h15.1 ?_
            replace h15 := h15.2
            generalize F_DR_toPrecision x5 j82 x6 x4 lx298 lx299 (1 : Int32) lx301 ((F_DR_isLeft lx298 lx299 lx300 lx301 lx302 lx303 lx304 lx305 lx306 lx307 lx308 lx310) : Int32) (0 : Int32) lx304 lx305 lx306 lx307 lx308 t1_0 t2_0 t3_0 t4_0 (upd lx309 (0 : Int32).toNatClampNeg 0 : (Nat → Int32)) = p850 at *
            unfold Q_DR_toPrecision at h15
            unfold S_DR_quotient_c267 F_DR_quotient_c267
            refine ⟨trivial, ?_⟩
            (unfold Q_DR_quotient; dsimp only; with_reducible assumption)
        ·
          rw [if_neg g4, if_neg g4]
          have g4i := q_neI g4
          unfold S_DR_quotient_J254 F_DR_quotient_J254
          by_cases g16 : x5 ≤ (0 : Int32)
          ·
            rw [if_pos g16, if_pos g16]
            have g16i := q_leI g16
            rw [if_pos g2, if_pos g2]
            by_cases g17 : (lx309 (0 : Int32).toNatClampNeg : Int32) = (0 : Int32)
            ·
              rw [if_pos g17, if_pos g17]
              have h18 := T_DR_store (x2 := x4) (t0_0 := lx298) (t0_1 := lx299) (t0_2 := lx300) (t0_3 := j82) (t0_4 := ((F_DR_isLeft lx298 lx299 lx300 lx301 lx302 lx303 lx304 lx305 lx306 lx307 lx308 lx310) : Int32)) (t0_5 := (0 : Int32)) (t0_6 := lx304) (t0_7 := lx305) (t0_8 := lx306) (t0_9 := lx307) (t0_10 := lx308) (t1_0 := t1_0) (t2_0 := t2_0) (t3_0 := t3_0) (t4_0 := t4_0) (t5_0 := lx309) (by with_reducible assumption) (by with_reducible assumption) ⟨by first | omega | decide, by first | omega | decide⟩ (by first | with_reducible assumption | exact g_one | exact g_cl (by with_reducible assumption) (by omega) (by omega))
              with_reducible refine v_owe h18.1 ?_
              replace h18 := h18.2
              generalize F_DR_store x4 lx298 lx299 lx300 j82 ((F_DR_isLeft lx298 lx299 lx300 lx301 lx302 lx303 lx304 lx305 lx306 lx307 lx308 lx310) : Int32) (0 : Int32) lx304 lx305 lx306 lx307 lx308 t1_0 t2_0 t3_0 t4_0 lx309 = p776 at *
              unfold Q_DR_store at h18
              unfold S_DR_quotient_c374_14 F_DR_quotient_c374_14
              refine ⟨trivial, ?_⟩
              (unfold Q_DR_quotient; dsimp only; with_reducible assumption)
            ·
              rw [if_neg g17, if_neg g17]
              have h19 := R_need (t0_0 := lx298) (t0_1 := lx299) (t0_2 := lx300) (t0_3 := lx301) (t0_4 := ((F_DR_isLeft lx298 lx299 lx300 lx301 lx302 lx303 lx304 lx305 lx306 lx307 lx308 lx310) : Int32)) (t0_5 := (0 : Int32)) (t0_6 := lx304) (t0_7 := lx305) (t0_8 := lx306) (t0_9 := lx307) (t0_10 := lx308) (t1_0 := lx309) ⟨by first | omega | decide, by first | omega | decide⟩
              have h19b := h19.2
              with_reducible refine v_owe h19.1 ?_
              by_cases g20 : (lg_cmp (j82 - (lx301 - ((lx300 - ((F_DR_needed lx298 lx299 lx300 lx301 ((F_DR_isLeft lx298 lx299 lx300 lx301 lx302 lx303 lx304 lx305 lx306 lx307 lx308 lx310) : Int32) (0 : Int32) lx304 lx305 lx306 lx307 lx308 lx309) : Int32) : Int32).toInt64 : Int64) : Int64) : Int64) 1000 : Int32) ≤ (0 : Int32)
              ·
                rw [if_pos g20, if_pos g20]
                have g20l := g_lc3 g20
                by_cases g21 : (0 : Int32) ≤ (lg_cmp (j82 - (lx301 - ((lx300 - ((F_DR_needed lx298 lx299 lx300 lx301 ((F_DR_isLeft lx298 lx299 lx300 lx301 lx302 lx303 lx304 lx305 lx306 lx307 lx308 lx310) : Int32) (0 : Int32) lx304 lx305 lx306 lx307 lx308 lx309) : Int32) : Int32).toInt64 : Int64) : Int64) : Int64) 0 : Int32)
                ·
                  rw [if_pos g21, if_pos g21]
                  have g21l := g_lc5 g21
                  have h22 := T_DR_lengthen (x2 := (j82 - (lx301 - ((lx300 - ((F_DR_needed lx298 lx299 lx300 lx301 ((F_DR_isLeft lx298 lx299 lx300 lx301 lx302 lx303 lx304 lx305 lx306 lx307 lx308 lx310) : Int32) (0 : Int32) lx304 lx305 lx306 lx307 lx308 lx309) : Int32) : Int32).toInt64 : Int64) : Int64) : Int64)) (t0_0 := lx298) (t0_1 := lx299) (t0_2 := ((F_DR_needed lx298 lx299 lx300 lx301 ((F_DR_isLeft lx298 lx299 lx300 lx301 lx302 lx303 lx304 lx305 lx306 lx307 lx308 lx310) : Int32) (0 : Int32) lx304 lx305 lx306 lx307 lx308 lx309) : Int32)) (t0_3 := (lx301 - ((lx300 - ((F_DR_needed lx298 lx299 lx300 lx301 ((F_DR_isLeft lx298 lx299 lx300 lx301 lx302 lx303 lx304 lx305 lx306 lx307 lx308 lx310) : Int32) (0 : Int32) lx304 lx305 lx306 lx307 lx308 lx309) : Int32) : Int32).toInt64 : Int64) : Int64)) (t0_4 := ((F_DR_isLeft lx298 lx299 lx300 lx301 lx302 lx303 lx304 lx305 lx306 lx307 lx308 lx310) : Int32)) (t0_5 := (0 : Int32)) (t0_6 := lx304) (t0_7 := lx305) (t0_8 := lx306) (t0_9 := lx307) (t0_10 := lx308) (t1_0 := lx309) ⟨by omega, by omega⟩ (by first | omega | decide) (by first | omega | (have ez : (0 : Int64).toInt = 0 := rfl; omega)) (by first | exact g_cl (by with_reducible assumption) (by omega) (by omega) | exact g_cl g_one (by omega) (by omega))
                  with_reducible refine v_owe h22.1 ?_
                  replace h22 := h22.2
                  generalize F_DR_lengthen (j82 - (lx301 - ((lx300 - ((F_DR_needed lx298 lx299 lx300 lx301 ((F_DR_isLeft lx298 lx299 lx300 lx301 lx302 lx303 lx304 lx305 lx306 lx307 lx308 lx310) : Int32) (0 : Int32) lx304 lx305 lx306 lx307 lx308 lx309) : Int32) : Int32).toInt64 : Int64) : Int64) : Int64) lx298 lx299 ((F_DR_needed lx298 lx299 lx300 lx301 ((F_DR_isLeft lx298 lx299 lx300 lx301 lx302 lx303 lx304 lx305 lx306 lx307 lx308 lx310) : Int32) (0 : Int32) lx304 lx305 lx306 lx307 lx308 lx309) : Int32) (lx301 - ((lx300 - ((F_DR_needed lx298 lx299 lx300 lx301 ((F_DR_isLeft lx298 lx299 lx300 lx301 lx302 lx303 lx304 lx305 lx306 lx307 lx308 lx310) : Int32) (0 : Int32) lx304 lx305 lx306 lx307 lx308 lx309) : Int32) : Int32).toInt64 : Int64) : Int64) ((F_DR_isLeft lx298 lx299 lx300 lx301 lx302 lx303 lx304 lx305 lx306 lx307 lx308 lx310) : Int32) (0 : Int32) lx304 lx305 lx306 lx307 lx308 lx309 = p500 at *
                  unfold Q_DR_lengthen at h22
                  obtain ⟨h221, h22g⟩ := h22
                  unfold S_DR_quotient_c369 F_DR_quotient_c369
                  have h23 := T_DR_store (x2 := x4) (t0_0 := (p500.1 : Int32)) (t0_1 := (p500.2.1 : Int32)) (t0_2 := (p500.2.2.1 : Int32)) (t0_3 := (p500.2.2.2.1 : Int64)) (t0_4 := (p500.2.2.2.2.1 : Int32)) (t0_5 := (p500.2.2.2.2.2.1 : Int32)) (t0_6 := (p500.2.2.2.2.2.2.1 : Int32)) (t0_7 := (p500.2.2.2.2.2.2.2.1 : Int32)) (t0_8 := (p500.2.2.2.2.2.2.2.2.1 : Int32)) (t0_9 := (p500.2.2.2.2.2.2.2.2.2.1 : Int32)) (t0_10 := (p500.2.2.2.2.2.2.2.2.2.2.1 : Int32)) (t1_0 := t1_0) (t2_0 := t2_0) (t3_0 := t3_0) (t4_0 := t4_0) (t5_0 := (p500.2.2.2.2.2.2.2.2.2.2.2 : (Nat → Int32))) (by with_reducible assumption) (by with_reducible assumption) ⟨by first | omega | decide, by first | omega | decide⟩ (by first | with_reducible assumption | exact g_one | exact g_cl (by with_reducible assumption) (by omega) (by omega))
                  with_reducible refine v_owe h23.1 ?_
                  replace h23 := h23.2
                  generalize F_DR_store x4 (p500.1 : Int32) (p500.2.1 : Int32) (p500.2.2.1 : Int32) (p500.2.2.2.1 : Int64) (p500.2.2.2.2.1 : Int32) (p500.2.2.2.2.2.1 : Int32) (p500.2.2.2.2.2.2.1 : Int32) (p500.2.2.2.2.2.2.2.1 : Int32) (p500.2.2.2.2.2.2.2.2.1 : Int32) (p500.2.2.2.2.2.2.2.2.2.1 : Int32) (p500.2.2.2.2.2.2.2.2.2.2.1 : Int32) t1_0 t2_0 t3_0 t4_0 (p500.2.2.2.2.2.2.2.2.2.2.2 : (Nat → Int32)) = p568 at *
                  unfold Q_DR_store at h23
                  unfold S_DR_quotient_c374 F_DR_quotient_c374
                  refine ⟨trivial, ?_⟩
                  (unfold Q_DR_quotient; dsimp only; with_reducible assumption)
                ·
                  rw [if_neg g21, if_neg g21]
                  have g21l := g_lc6 g21
                  have h24 := T_DR_lengthen (x2 := (0 : Int64)) (t0_0 := lx298) (t0_1 := lx299) (t0_2 := ((F_DR_needed lx298 lx299 lx300 lx301 ((F_DR_isLeft lx298 lx299 lx300 lx301 lx302 lx303 lx304 lx305 lx306 lx307 lx308 lx310) : Int32) (0 : Int32) lx304 lx305 lx306 lx307 lx308 lx309) : Int32)) (t0_3 := (lx301 - ((lx300 - ((F_DR_needed lx298 lx299 lx300 lx301 ((F_DR_isLeft lx298 lx299 lx300 lx301 lx302 lx303 lx304 lx305 lx306 lx307 lx308 lx310) : Int32) (0 : Int32) lx304 lx305 lx306 lx307 lx308 lx309) : Int32) : Int32).toInt64 : Int64) : Int64)) (t0_4 := ((F_DR_isLeft lx298 lx299 lx300 lx301 lx302 lx303 lx304 lx305 lx306 lx307 lx308 lx310) : Int32)) (t0_5 := (0 : Int32)) (t0_6 := lx304) (t0_7 := lx305) (t0_8 := lx306) (t0_9 := lx307) (t0_10 := lx308) (t1_0 := lx309) ⟨by omega, by omega⟩ (by first | omega | decide) (by first | omega | (have ez : (0 : Int64).toInt = 0 := rfl; omega)) (by first | exact g_cl (by with_reducible assumption) (by omega) (by omega) | exact g_cl g_one (by omega) (by omega))
                  with_reducible refine v_owe h24.1 ?_
                  replace h24 := h24.2
                  generalize F_DR_lengthen (0 : Int64) lx298 lx299 ((F_DR_needed lx298 lx299 lx300 lx301 ((F_DR_isLeft lx298 lx299 lx300 lx301 lx302 lx303 lx304 lx305 lx306 lx307 lx308 lx310) : Int32) (0 : Int32) lx304 lx305 lx306 lx307 lx308 lx309) : Int32) (lx301 - ((lx300 - ((F_DR_needed lx298 lx299 lx300 lx301 ((F_DR_isLeft lx298 lx299 lx300 lx301 lx302 lx303 lx304 lx305 lx306 lx307 lx308 lx310) : Int32) (0 : Int32) lx304 lx305 lx306 lx307 lx308 lx309) : Int32) : Int32).toInt64 : Int64) : Int64) ((F_DR_isLeft lx298 lx299 lx300 lx301 lx302 lx303 lx304 lx305 lx306 lx307 lx308 lx310) : Int32) (0 : Int32) lx304 lx305 lx306 lx307 lx308 lx309 = p630 at *
                  unfold Q_DR_lengthen at h24
                  obtain ⟨h241, h24g⟩ := h24
                  unfold S_DR_quotient_c369_12 F_DR_quotient_c369_12
                  have h25 := T_DR_store (x2 := x4) (t0_0 := (p630.1 : Int32)) (t0_1 := (p630.2.1 : Int32)) (t0_2 := (p630.2.2.1 : Int32)) (t0_3 := (p630.2.2.2.1 : Int64)) (t0_4 := (p630.2.2.2.2.1 : Int32)) (t0_5 := (p630.2.2.2.2.2.1 : Int32)) (t0_6 := (p630.2.2.2.2.2.2.1 : Int32)) (t0_7 := (p630.2.2.2.2.2.2.2.1 : Int32)) (t0_8 := (p630.2.2.2.2.2.2.2.2.1 : Int32)) (t0_9 := (p630.2.2.2.2.2.2.2.2.2.1 : Int32)) (t0_10 := (p630.2.2.2.2.2.2.2.2.2.2.1 : Int32)) (t1_0 := t1_0) (t2_0 := t2_0) (t3_0 := t3_0) (t4_0 := t4_0) (t5_0 := (p630.2.2.2.2.2.2.2.2.2.2.2 : (Nat → Int32))) (by with_reducible assumption) (by with_reducible assumption) ⟨by first | omega | decide, by first | omega | decide⟩ (by first | with_reducible assumption | exact g_one | exact g_cl (by with_reducible assumption) (by omega) (by omega))
                  with_reducible refine v_owe h25.1 ?_
                  replace h25 := h25.2
                  generalize F_DR_store x4 (p630.1 : Int32) (p630.2.1 : Int32) (p630.2.2.1 : Int32) (p630.2.2.2.1 : Int64) (p630.2.2.2.2.1 : Int32) (p630.2.2.2.2.2.1 : Int32) (p630.2.2.2.2.2.2.1 : Int32) (p630.2.2.2.2.2.2.2.1 : Int32) (p630.2.2.2.2.2.2.2.2.1 : Int32) (p630.2.2.2.2.2.2.2.2.2.1 : Int32) (p630.2.2.2.2.2.2.2.2.2.2.1 : Int32) t1_0 t2_0 t3_0 t4_0 (p630.2.2.2.2.2.2.2.2.2.2.2 : (Nat → Int32)) = p698 at *
                  unfold Q_DR_store at h25
                  unfold S_DR_quotient_c374_13 F_DR_quotient_c374_13
                  refine ⟨trivial, ?_⟩
                  (unfold Q_DR_quotient; dsimp only; with_reducible assumption)
              ·
                rw [if_neg g20, if_neg g20]
                have g20l := g_lc4 g20
                refine ⟨trivial, ?_⟩
                (unfold Q_DR_quotient; dsimp only; with_reducible assumption)
          ·
            rw [if_neg g16, if_neg g16]
            have g16i := q_nleI g16
            have h26 := T_DR_toPrecision (x2 := x5) (x3 := j82) (x4 := x6) (x5 := x4) (t0_0 := lx298) (t0_1 := lx299) (t0_2 := lx300) (t0_3 := lx301) (t0_4 := ((F_DR_isLeft lx298 lx299 lx300 lx301 lx302 lx303 lx304 lx305 lx306 lx307 lx308 lx310) : Int32)) (t0_5 := (0 : Int32)) (t0_6 := lx304) (t0_7 := lx305) (t0_8 := lx306) (t0_9 := lx307) (t0_10 := lx308) (t1_0 := t1_0) (t2_0 := t2_0) (t3_0 := t3_0) (t4_0 := t4_0) (t5_0 := lx309) (by with_reducible assumption) (by with_reducible assumption) ⟨by omega, by omega⟩ ⟨by first | omega | decide, by first | omega | decide⟩ (by first | with_reducible assumption | exact g_one) (fun hne => by first | exact ⟨by omega, u_hz hz (by omega)⟩ | (exfalso; omega))
            with_reducible refine v_owe h26.1 ?_
            replace h26 := h26.2
            generalize F_DR_toPrecision x5 j82 x6 x4 lx298 lx299 lx300 lx301 ((F_DR_isLeft lx298 lx299 lx300 lx301 lx302 lx303 lx304 lx305 lx306 lx307 lx308 lx310) : Int32) (0 : Int32) lx304 lx305 lx306 lx307 lx308 t1_0 t2_0 t3_0 t4_0 lx309 = p850 at *
            unfold Q_DR_toPrecision at h26
            unfold S_DR_quotient_c267 F_DR_quotient_c267
            refine ⟨trivial, ?_⟩
            (unfold Q_DR_quotient; dsimp only; with_reducible assumption)
      ·
        rw [if_neg g3, if_neg g3]
        unfold S_DR_quotient_J232 F_DR_quotient_J232
        by_cases g27 : lx300 = (0 : Int32)
        ·
          rw [if_pos g27, if_pos g27]
          have g27i := q_eqI g27
          unfold S_DR_quotient_J254 F_DR_quotient_J254
          by_cases g28 : x5 ≤ (0 : Int32)
          ·
            rw [if_pos g28, if_pos g28]
            have g28i := q_leI g28
            rw [if_pos g2, if_pos g2]
            by_cases g29 : ((upd lx309 (0 : Int32).toNatClampNeg 0 : (Nat → Int32)) (0 : Int32).toNatClampNeg : Int32) = (0 : Int32)
            ·
              rw [if_pos g29, if_pos g29]
              have h30 := T_DR_store (x2 := x4) (t0_0 := lx298) (t0_1 := lx299) (t0_2 := (1 : Int32)) (t0_3 := j82) (t0_4 := ((F_DR_isLeft lx298 lx299 lx300 lx301 lx302 lx303 lx304 lx305 lx306 lx307 lx308 lx310) : Int32)) (t0_5 := (1 : Int32)) (t0_6 := lx304) (t0_7 := lx305) (t0_8 := lx306) (t0_9 := lx307) (t0_10 := lx308) (t1_0 := t1_0) (t2_0 := t2_0) (t3_0 := t3_0) (t4_0 := t4_0) (t5_0 := (upd lx309 (0 : Int32).toNatClampNeg 0 : (Nat → Int32))) (by with_reducible assumption) (by with_reducible assumption) ⟨by first | omega | decide, by first | omega | decide⟩ (by first | with_reducible assumption | exact g_one | exact g_cl (by with_reducible assumption) (by omega) (by omega))
              with_reducible refine v_owe h30.1 ?_
              replace h30 := h30.2
              generalize F_DR_store x4 lx298 lx299 (1 : Int32) j82 ((F_DR_isLeft lx298 lx299 lx300 lx301 lx302 lx303 lx304 lx305 lx306 lx307 lx308 lx310) : Int32) (1 : Int32) lx304 lx305 lx306 lx307 lx308 t1_0 t2_0 t3_0 t4_0 (upd lx309 (0 : Int32).toNatClampNeg 0 : (Nat → Int32)) = p776 at *
              unfold Q_DR_store at h30
              unfold S_DR_quotient_c374_14 F_DR_quotient_c374_14
              refine ⟨trivial, ?_⟩
              (unfold Q_DR_quotient; dsimp only; with_reducible assumption)
            ·
              rw [if_neg g29, if_neg g29]
              have h31 := R_need (t0_0 := lx298) (t0_1 := lx299) (t0_2 := (1 : Int32)) (t0_3 := lx301) (t0_4 := ((F_DR_isLeft lx298 lx299 lx300 lx301 lx302 lx303 lx304 lx305 lx306 lx307 lx308 lx310) : Int32)) (t0_5 := (1 : Int32)) (t0_6 := lx304) (t0_7 := lx305) (t0_8 := lx306) (t0_9 := lx307) (t0_10 := lx308) (t1_0 := (upd lx309 (0 : Int32).toNatClampNeg 0 : (Nat → Int32))) ⟨by first | omega | decide, by first | omega | decide⟩
              have h31b := h31.2
              with_reducible refine v_owe h31.1 ?_
              by_cases g32 : (lg_cmp (j82 - (lx301 - (((1 : Int32) - ((F_DR_needed lx298 lx299 (1 : Int32) lx301 ((F_DR_isLeft lx298 lx299 lx300 lx301 lx302 lx303 lx304 lx305 lx306 lx307 lx308 lx310) : Int32) (1 : Int32) lx304 lx305 lx306 lx307 lx308 (upd lx309 (0 : Int32).toNatClampNeg 0 : (Nat → Int32))) : Int32) : Int32).toInt64 : Int64) : Int64) : Int64) 1000 : Int32) ≤ (0 : Int32)
              ·
                rw [if_pos g32, if_pos g32]
                have g32l := g_lc3 g32
                by_cases g33 : (0 : Int32) ≤ (lg_cmp (j82 - (lx301 - (((1 : Int32) - ((F_DR_needed lx298 lx299 (1 : Int32) lx301 ((F_DR_isLeft lx298 lx299 lx300 lx301 lx302 lx303 lx304 lx305 lx306 lx307 lx308 lx310) : Int32) (1 : Int32) lx304 lx305 lx306 lx307 lx308 (upd lx309 (0 : Int32).toNatClampNeg 0 : (Nat → Int32))) : Int32) : Int32).toInt64 : Int64) : Int64) : Int64) 0 : Int32)
                ·
                  rw [if_pos g33, if_pos g33]
                  have g33l := g_lc5 g33
                  have h34 := T_DR_lengthen (x2 := (j82 - (lx301 - (((1 : Int32) - ((F_DR_needed lx298 lx299 (1 : Int32) lx301 ((F_DR_isLeft lx298 lx299 lx300 lx301 lx302 lx303 lx304 lx305 lx306 lx307 lx308 lx310) : Int32) (1 : Int32) lx304 lx305 lx306 lx307 lx308 (upd lx309 (0 : Int32).toNatClampNeg 0 : (Nat → Int32))) : Int32) : Int32).toInt64 : Int64) : Int64) : Int64)) (t0_0 := lx298) (t0_1 := lx299) (t0_2 := ((F_DR_needed lx298 lx299 (1 : Int32) lx301 ((F_DR_isLeft lx298 lx299 lx300 lx301 lx302 lx303 lx304 lx305 lx306 lx307 lx308 lx310) : Int32) (1 : Int32) lx304 lx305 lx306 lx307 lx308 (upd lx309 (0 : Int32).toNatClampNeg 0 : (Nat → Int32))) : Int32)) (t0_3 := (lx301 - (((1 : Int32) - ((F_DR_needed lx298 lx299 (1 : Int32) lx301 ((F_DR_isLeft lx298 lx299 lx300 lx301 lx302 lx303 lx304 lx305 lx306 lx307 lx308 lx310) : Int32) (1 : Int32) lx304 lx305 lx306 lx307 lx308 (upd lx309 (0 : Int32).toNatClampNeg 0 : (Nat → Int32))) : Int32) : Int32).toInt64 : Int64) : Int64)) (t0_4 := ((F_DR_isLeft lx298 lx299 lx300 lx301 lx302 lx303 lx304 lx305 lx306 lx307 lx308 lx310) : Int32)) (t0_5 := (1 : Int32)) (t0_6 := lx304) (t0_7 := lx305) (t0_8 := lx306) (t0_9 := lx307) (t0_10 := lx308) (t1_0 := (upd lx309 (0 : Int32).toNatClampNeg 0 : (Nat → Int32))) ⟨by omega, by omega⟩ (by first | omega | decide) (by first | omega | (have ez : (0 : Int64).toInt = 0 := rfl; omega)) (by first | exact g_cl (by with_reducible assumption) (by omega) (by omega) | exact g_cl g_one (by omega) (by omega))
                  with_reducible refine v_owe h34.1 ?_
                  replace h34 := h34.2
                  generalize F_DR_lengthen (j82 - (lx301 - (((1 : Int32) - ((F_DR_needed lx298 lx299 (1 : Int32) lx301 ((F_DR_isLeft lx298 lx299 lx300 lx301 lx302 lx303 lx304 lx305 lx306 lx307 lx308 lx310) : Int32) (1 : Int32) lx304 lx305 lx306 lx307 lx308 (upd lx309 (0 : Int32).toNatClampNeg 0 : (Nat → Int32))) : Int32) : Int32).toInt64 : Int64) : Int64) : Int64) lx298 lx299 ((F_DR_needed lx298 lx299 (1 : Int32) lx301 ((F_DR_isLeft lx298 lx299 lx300 lx301 lx302 lx303 lx304 lx305 lx306 lx307 lx308 lx310) : Int32) (1 : Int32) lx304 lx305 lx306 lx307 lx308 (upd lx309 (0 : Int32).toNatClampNeg 0 : (Nat → Int32))) : Int32) (lx301 - (((1 : Int32) - ((F_DR_needed lx298 lx299 (1 : Int32) lx301 ((F_DR_isLeft lx298 lx299 lx300 lx301 lx302 lx303 lx304 lx305 lx306 lx307 lx308 lx310) : Int32) (1 : Int32) lx304 lx305 lx306 lx307 lx308 (upd lx309 (0 : Int32).toNatClampNeg 0 : (Nat → Int32))) : Int32) : Int32).toInt64 : Int64) : Int64) ((F_DR_isLeft lx298 lx299 lx300 lx301 lx302 lx303 lx304 lx305 lx306 lx307 lx308 lx310) : Int32) (1 : Int32) lx304 lx305 lx306 lx307 lx308 (upd lx309 (0 : Int32).toNatClampNeg 0 : (Nat → Int32)) = p500 at *
                  unfold Q_DR_lengthen at h34
                  obtain ⟨h341, h34g⟩ := h34
                  unfold S_DR_quotient_c369 F_DR_quotient_c369
                  have h35 := T_DR_store (x2 := x4) (t0_0 := (p500.1 : Int32)) (t0_1 := (p500.2.1 : Int32)) (t0_2 := (p500.2.2.1 : Int32)) (t0_3 := (p500.2.2.2.1 : Int64)) (t0_4 := (p500.2.2.2.2.1 : Int32)) (t0_5 := (p500.2.2.2.2.2.1 : Int32)) (t0_6 := (p500.2.2.2.2.2.2.1 : Int32)) (t0_7 := (p500.2.2.2.2.2.2.2.1 : Int32)) (t0_8 := (p500.2.2.2.2.2.2.2.2.1 : Int32)) (t0_9 := (p500.2.2.2.2.2.2.2.2.2.1 : Int32)) (t0_10 := (p500.2.2.2.2.2.2.2.2.2.2.1 : Int32)) (t1_0 := t1_0) (t2_0 := t2_0) (t3_0 := t3_0) (t4_0 := t4_0) (t5_0 := (p500.2.2.2.2.2.2.2.2.2.2.2 : (Nat → Int32))) (by with_reducible assumption) (by with_reducible assumption) ⟨by first | omega | decide, by first | omega | decide⟩ (by first | with_reducible assumption | exact g_one | exact g_cl (by with_reducible assumption) (by omega) (by omega))
                  with_reducible refine v_owe h35.1 ?_
                  replace h35 := h35.2
                  generalize F_DR_store x4 (p500.1 : Int32) (p500.2.1 : Int32) (p500.2.2.1 : Int32) (p500.2.2.2.1 : Int64) (p500.2.2.2.2.1 : Int32) (p500.2.2.2.2.2.1 : Int32) (p500.2.2.2.2.2.2.1 : Int32) (p500.2.2.2.2.2.2.2.1 : Int32) (p500.2.2.2.2.2.2.2.2.1 : Int32) (p500.2.2.2.2.2.2.2.2.2.1 : Int32) (p500.2.2.2.2.2.2.2.2.2.2.1 : Int32) t1_0 t2_0 t3_0 t4_0 (p500.2.2.2.2.2.2.2.2.2.2.2 : (Nat → Int32)) = p568 at *
                  unfold Q_DR_store at h35
                  unfold S_DR_quotient_c374 F_DR_quotient_c374
                  refine ⟨trivial, ?_⟩
                  (unfold Q_DR_quotient; dsimp only; with_reducible assumption)
                ·
                  rw [if_neg g33, if_neg g33]
                  have g33l := g_lc6 g33
                  have h36 := T_DR_lengthen (x2 := (0 : Int64)) (t0_0 := lx298) (t0_1 := lx299) (t0_2 := ((F_DR_needed lx298 lx299 (1 : Int32) lx301 ((F_DR_isLeft lx298 lx299 lx300 lx301 lx302 lx303 lx304 lx305 lx306 lx307 lx308 lx310) : Int32) (1 : Int32) lx304 lx305 lx306 lx307 lx308 (upd lx309 (0 : Int32).toNatClampNeg 0 : (Nat → Int32))) : Int32)) (t0_3 := (lx301 - (((1 : Int32) - ((F_DR_needed lx298 lx299 (1 : Int32) lx301 ((F_DR_isLeft lx298 lx299 lx300 lx301 lx302 lx303 lx304 lx305 lx306 lx307 lx308 lx310) : Int32) (1 : Int32) lx304 lx305 lx306 lx307 lx308 (upd lx309 (0 : Int32).toNatClampNeg 0 : (Nat → Int32))) : Int32) : Int32).toInt64 : Int64) : Int64)) (t0_4 := ((F_DR_isLeft lx298 lx299 lx300 lx301 lx302 lx303 lx304 lx305 lx306 lx307 lx308 lx310) : Int32)) (t0_5 := (1 : Int32)) (t0_6 := lx304) (t0_7 := lx305) (t0_8 := lx306) (t0_9 := lx307) (t0_10 := lx308) (t1_0 := (upd lx309 (0 : Int32).toNatClampNeg 0 : (Nat → Int32))) ⟨by omega, by omega⟩ (by first | omega | decide) (by first | omega | (have ez : (0 : Int64).toInt = 0 := rfl; omega)) (by first | exact g_cl (by with_reducible assumption) (by omega) (by omega) | exact g_cl g_one (by omega) (by omega))
                  with_reducible refine v_owe h36.1 ?_
                  replace h36 := h36.2
                  generalize F_DR_lengthen (0 : Int64) lx298 lx299 ((F_DR_needed lx298 lx299 (1 : Int32) lx301 ((F_DR_isLeft lx298 lx299 lx300 lx301 lx302 lx303 lx304 lx305 lx306 lx307 lx308 lx310) : Int32) (1 : Int32) lx304 lx305 lx306 lx307 lx308 (upd lx309 (0 : Int32).toNatClampNeg 0 : (Nat → Int32))) : Int32) (lx301 - (((1 : Int32) - ((F_DR_needed lx298 lx299 (1 : Int32) lx301 ((F_DR_isLeft lx298 lx299 lx300 lx301 lx302 lx303 lx304 lx305 lx306 lx307 lx308 lx310) : Int32) (1 : Int32) lx304 lx305 lx306 lx307 lx308 (upd lx309 (0 : Int32).toNatClampNeg 0 : (Nat → Int32))) : Int32) : Int32).toInt64 : Int64) : Int64) ((F_DR_isLeft lx298 lx299 lx300 lx301 lx302 lx303 lx304 lx305 lx306 lx307 lx308 lx310) : Int32) (1 : Int32) lx304 lx305 lx306 lx307 lx308 (upd lx309 (0 : Int32).toNatClampNeg 0 : (Nat → Int32)) = p630 at *
                  unfold Q_DR_lengthen at h36
                  obtain ⟨h361, h36g⟩ := h36
                  unfold S_DR_quotient_c369_12 F_DR_quotient_c369_12
                  have h37 := T_DR_store (x2 := x4) (t0_0 := (p630.1 : Int32)) (t0_1 := (p630.2.1 : Int32)) (t0_2 := (p630.2.2.1 : Int32)) (t0_3 := (p630.2.2.2.1 : Int64)) (t0_4 := (p630.2.2.2.2.1 : Int32)) (t0_5 := (p630.2.2.2.2.2.1 : Int32)) (t0_6 := (p630.2.2.2.2.2.2.1 : Int32)) (t0_7 := (p630.2.2.2.2.2.2.2.1 : Int32)) (t0_8 := (p630.2.2.2.2.2.2.2.2.1 : Int32)) (t0_9 := (p630.2.2.2.2.2.2.2.2.2.1 : Int32)) (t0_10 := (p630.2.2.2.2.2.2.2.2.2.2.1 : Int32)) (t1_0 := t1_0) (t2_0 := t2_0) (t3_0 := t3_0) (t4_0 := t4_0) (t5_0 := (p630.2.2.2.2.2.2.2.2.2.2.2 : (Nat → Int32))) (by with_reducible assumption) (by with_reducible assumption) ⟨by first | omega | decide, by first | omega | decide⟩ (by first | with_reducible assumption | exact g_one | exact g_cl (by with_reducible assumption) (by omega) (by omega))
                  with_reducible refine v_owe h37.1 ?_
                  replace h37 := h37.2
                  generalize F_DR_store x4 (p630.1 : Int32) (p630.2.1 : Int32) (p630.2.2.1 : Int32) (p630.2.2.2.1 : Int64) (p630.2.2.2.2.1 : Int32) (p630.2.2.2.2.2.1 : Int32) (p630.2.2.2.2.2.2.1 : Int32) (p630.2.2.2.2.2.2.2.1 : Int32) (p630.2.2.2.2.2.2.2.2.1 : Int32) (p630.2.2.2.2.2.2.2.2.2.1 : Int32) (p630.2.2.2.2.2.2.2.2.2.2.1 : Int32) t1_0 t2_0 t3_0 t4_0 (p630.2.2.2.2.2.2.2.2.2.2.2 : (Nat → Int32)) = p698 at *
                  unfold Q_DR_store at h37
                  unfold S_DR_quotient_c374_13 F_DR_quotient_c374_13
                  refine ⟨trivial, ?_⟩
                  (unfold Q_DR_quotient; dsimp only; with_reducible assumption)
              ·
                rw [if_neg g32, if_neg g32]
                have g32l := g_lc4 g32
                refine ⟨trivial, ?_⟩
                (unfold Q_DR_quotient; dsimp only; with_reducible assumption)
          ·
            rw [if_neg g28, if_neg g28]
            have g28i := q_nleI g28
            have h38 := T_DR_toPrecision (x2 := x5) (x3 := j82) (x4 := x6) (x5 := x4) (t0_0 := lx298) (t0_1 := lx299) (t0_2 := (1 : Int32)) (t0_3 := lx301) (t0_4 := ((F_DR_isLeft lx298 lx299 lx300 lx301 lx302 lx303 lx304 lx305 lx306 lx307 lx308 lx310) : Int32)) (t0_5 := (1 : Int32)) (t0_6 := lx304) (t0_7 := lx305) (t0_8 := lx306) (t0_9 := lx307) (t0_10 := lx308) (t1_0 := t1_0) (t2_0 := t2_0) (t3_0 := t3_0) (t4_0 := t4_0) (t5_0 := (upd lx309 (0 : Int32).toNatClampNeg 0 : (Nat → Int32))) (by with_reducible assumption) (by with_reducible assumption) ⟨by omega, by omega⟩ ⟨by first | omega | decide, by first | omega | decide⟩ (by first | with_reducible assumption | exact g_one) (fun hne => by first | exact ⟨by omega, u_hz hz (by omega)⟩ | (exfalso; omega))
            with_reducible refine v_owe h38.1 ?_
            replace h38 := h38.2
            generalize F_DR_toPrecision x5 j82 x6 x4 lx298 lx299 (1 : Int32) lx301 ((F_DR_isLeft lx298 lx299 lx300 lx301 lx302 lx303 lx304 lx305 lx306 lx307 lx308 lx310) : Int32) (1 : Int32) lx304 lx305 lx306 lx307 lx308 t1_0 t2_0 t3_0 t4_0 (upd lx309 (0 : Int32).toNatClampNeg 0 : (Nat → Int32)) = p850 at *
            unfold Q_DR_toPrecision at h38
            unfold S_DR_quotient_c267 F_DR_quotient_c267
            refine ⟨trivial, ?_⟩
            (unfold Q_DR_quotient; dsimp only; with_reducible assumption)
        ·
          rw [if_neg g27, if_neg g27]
          have g27i := q_neI g27
          unfold S_DR_quotient_J254 F_DR_quotient_J254
          by_cases g39 : x5 ≤ (0 : Int32)
          ·
            rw [if_pos g39, if_pos g39]
            have g39i := q_leI g39
            rw [if_pos g2, if_pos g2]
            by_cases g40 : (lx309 (0 : Int32).toNatClampNeg : Int32) = (0 : Int32)
            ·
              rw [if_pos g40, if_pos g40]
              have h41 := T_DR_store (x2 := x4) (t0_0 := lx298) (t0_1 := lx299) (t0_2 := lx300) (t0_3 := j82) (t0_4 := ((F_DR_isLeft lx298 lx299 lx300 lx301 lx302 lx303 lx304 lx305 lx306 lx307 lx308 lx310) : Int32)) (t0_5 := (1 : Int32)) (t0_6 := lx304) (t0_7 := lx305) (t0_8 := lx306) (t0_9 := lx307) (t0_10 := lx308) (t1_0 := t1_0) (t2_0 := t2_0) (t3_0 := t3_0) (t4_0 := t4_0) (t5_0 := lx309) (by with_reducible assumption) (by with_reducible assumption) ⟨by first | omega | decide, by first | omega | decide⟩ (by first | with_reducible assumption | exact g_one | exact g_cl (by with_reducible assumption) (by omega) (by omega))
              with_reducible refine v_owe h41.1 ?_
              replace h41 := h41.2
              generalize F_DR_store x4 lx298 lx299 lx300 j82 ((F_DR_isLeft lx298 lx299 lx300 lx301 lx302 lx303 lx304 lx305 lx306 lx307 lx308 lx310) : Int32) (1 : Int32) lx304 lx305 lx306 lx307 lx308 t1_0 t2_0 t3_0 t4_0 lx309 = p776 at *
              unfold Q_DR_store at h41
              unfold S_DR_quotient_c374_14 F_DR_quotient_c374_14
              refine ⟨trivial, ?_⟩
              (unfold Q_DR_quotient; dsimp only; with_reducible assumption)
            ·
              rw [if_neg g40, if_neg g40]
              have h42 := R_need (t0_0 := lx298) (t0_1 := lx299) (t0_2 := lx300) (t0_3 := lx301) (t0_4 := ((F_DR_isLeft lx298 lx299 lx300 lx301 lx302 lx303 lx304 lx305 lx306 lx307 lx308 lx310) : Int32)) (t0_5 := (1 : Int32)) (t0_6 := lx304) (t0_7 := lx305) (t0_8 := lx306) (t0_9 := lx307) (t0_10 := lx308) (t1_0 := lx309) ⟨by first | omega | decide, by first | omega | decide⟩
              have h42b := h42.2
              with_reducible refine v_owe h42.1 ?_
              by_cases g43 : (lg_cmp (j82 - (lx301 - ((lx300 - ((F_DR_needed lx298 lx299 lx300 lx301 ((F_DR_isLeft lx298 lx299 lx300 lx301 lx302 lx303 lx304 lx305 lx306 lx307 lx308 lx310) : Int32) (1 : Int32) lx304 lx305 lx306 lx307 lx308 lx309) : Int32) : Int32).toInt64 : Int64) : Int64) : Int64) 1000 : Int32) ≤ (0 : Int32)
              ·
                rw [if_pos g43, if_pos g43]
                have g43l := g_lc3 g43
                by_cases g44 : (0 : Int32) ≤ (lg_cmp (j82 - (lx301 - ((lx300 - ((F_DR_needed lx298 lx299 lx300 lx301 ((F_DR_isLeft lx298 lx299 lx300 lx301 lx302 lx303 lx304 lx305 lx306 lx307 lx308 lx310) : Int32) (1 : Int32) lx304 lx305 lx306 lx307 lx308 lx309) : Int32) : Int32).toInt64 : Int64) : Int64) : Int64) 0 : Int32)
                ·
                  rw [if_pos g44, if_pos g44]
                  have g44l := g_lc5 g44
                  have h45 := T_DR_lengthen (x2 := (j82 - (lx301 - ((lx300 - ((F_DR_needed lx298 lx299 lx300 lx301 ((F_DR_isLeft lx298 lx299 lx300 lx301 lx302 lx303 lx304 lx305 lx306 lx307 lx308 lx310) : Int32) (1 : Int32) lx304 lx305 lx306 lx307 lx308 lx309) : Int32) : Int32).toInt64 : Int64) : Int64) : Int64)) (t0_0 := lx298) (t0_1 := lx299) (t0_2 := ((F_DR_needed lx298 lx299 lx300 lx301 ((F_DR_isLeft lx298 lx299 lx300 lx301 lx302 lx303 lx304 lx305 lx306 lx307 lx308 lx310) : Int32) (1 : Int32) lx304 lx305 lx306 lx307 lx308 lx309) : Int32)) (t0_3 := (lx301 - ((lx300 - ((F_DR_needed lx298 lx299 lx300 lx301 ((F_DR_isLeft lx298 lx299 lx300 lx301 lx302 lx303 lx304 lx305 lx306 lx307 lx308 lx310) : Int32) (1 : Int32) lx304 lx305 lx306 lx307 lx308 lx309) : Int32) : Int32).toInt64 : Int64) : Int64)) (t0_4 := ((F_DR_isLeft lx298 lx299 lx300 lx301 lx302 lx303 lx304 lx305 lx306 lx307 lx308 lx310) : Int32)) (t0_5 := (1 : Int32)) (t0_6 := lx304) (t0_7 := lx305) (t0_8 := lx306) (t0_9 := lx307) (t0_10 := lx308) (t1_0 := lx309) ⟨by omega, by omega⟩ (by first | omega | decide) (by first | omega | (have ez : (0 : Int64).toInt = 0 := rfl; omega)) (by first | exact g_cl (by with_reducible assumption) (by omega) (by omega) | exact g_cl g_one (by omega) (by omega))
                  with_reducible refine v_owe h45.1 ?_
                  replace h45 := h45.2
                  generalize F_DR_lengthen (j82 - (lx301 - ((lx300 - ((F_DR_needed lx298 lx299 lx300 lx301 ((F_DR_isLeft lx298 lx299 lx300 lx301 lx302 lx303 lx304 lx305 lx306 lx307 lx308 lx310) : Int32) (1 : Int32) lx304 lx305 lx306 lx307 lx308 lx309) : Int32) : Int32).toInt64 : Int64) : Int64) : Int64) lx298 lx299 ((F_DR_needed lx298 lx299 lx300 lx301 ((F_DR_isLeft lx298 lx299 lx300 lx301 lx302 lx303 lx304 lx305 lx306 lx307 lx308 lx310) : Int32) (1 : Int32) lx304 lx305 lx306 lx307 lx308 lx309) : Int32) (lx301 - ((lx300 - ((F_DR_needed lx298 lx299 lx300 lx301 ((F_DR_isLeft lx298 lx299 lx300 lx301 lx302 lx303 lx304 lx305 lx306 lx307 lx308 lx310) : Int32) (1 : Int32) lx304 lx305 lx306 lx307 lx308 lx309) : Int32) : Int32).toInt64 : Int64) : Int64) ((F_DR_isLeft lx298 lx299 lx300 lx301 lx302 lx303 lx304 lx305 lx306 lx307 lx308 lx310) : Int32) (1 : Int32) lx304 lx305 lx306 lx307 lx308 lx309 = p500 at *
                  unfold Q_DR_lengthen at h45
                  obtain ⟨h451, h45g⟩ := h45
                  unfold S_DR_quotient_c369 F_DR_quotient_c369
                  have h46 := T_DR_store (x2 := x4) (t0_0 := (p500.1 : Int32)) (t0_1 := (p500.2.1 : Int32)) (t0_2 := (p500.2.2.1 : Int32)) (t0_3 := (p500.2.2.2.1 : Int64)) (t0_4 := (p500.2.2.2.2.1 : Int32)) (t0_5 := (p500.2.2.2.2.2.1 : Int32)) (t0_6 := (p500.2.2.2.2.2.2.1 : Int32)) (t0_7 := (p500.2.2.2.2.2.2.2.1 : Int32)) (t0_8 := (p500.2.2.2.2.2.2.2.2.1 : Int32)) (t0_9 := (p500.2.2.2.2.2.2.2.2.2.1 : Int32)) (t0_10 := (p500.2.2.2.2.2.2.2.2.2.2.1 : Int32)) (t1_0 := t1_0) (t2_0 := t2_0) (t3_0 := t3_0) (t4_0 := t4_0) (t5_0 := (p500.2.2.2.2.2.2.2.2.2.2.2 : (Nat → Int32))) (by with_reducible assumption) (by with_reducible assumption) ⟨by first | omega | decide, by first | omega | decide⟩ (by first | with_reducible assumption | exact g_one | exact g_cl (by with_reducible assumption) (by omega) (by omega))
                  with_reducible refine v_owe h46.1 ?_
                  replace h46 := h46.2
                  generalize F_DR_store x4 (p500.1 : Int32) (p500.2.1 : Int32) (p500.2.2.1 : Int32) (p500.2.2.2.1 : Int64) (p500.2.2.2.2.1 : Int32) (p500.2.2.2.2.2.1 : Int32) (p500.2.2.2.2.2.2.1 : Int32) (p500.2.2.2.2.2.2.2.1 : Int32) (p500.2.2.2.2.2.2.2.2.1 : Int32) (p500.2.2.2.2.2.2.2.2.2.1 : Int32) (p500.2.2.2.2.2.2.2.2.2.2.1 : Int32) t1_0 t2_0 t3_0 t4_0 (p500.2.2.2.2.2.2.2.2.2.2.2 : (Nat → Int32)) = p568 at *
                  unfold Q_DR_store at h46
                  unfold S_DR_quotient_c374 F_DR_quotient_c374
                  refine ⟨trivial, ?_⟩
                  (unfold Q_DR_quotient; dsimp only; with_reducible assumption)
                ·
                  rw [if_neg g44, if_neg g44]
                  have g44l := g_lc6 g44
                  have h47 := T_DR_lengthen (x2 := (0 : Int64)) (t0_0 := lx298) (t0_1 := lx299) (t0_2 := ((F_DR_needed lx298 lx299 lx300 lx301 ((F_DR_isLeft lx298 lx299 lx300 lx301 lx302 lx303 lx304 lx305 lx306 lx307 lx308 lx310) : Int32) (1 : Int32) lx304 lx305 lx306 lx307 lx308 lx309) : Int32)) (t0_3 := (lx301 - ((lx300 - ((F_DR_needed lx298 lx299 lx300 lx301 ((F_DR_isLeft lx298 lx299 lx300 lx301 lx302 lx303 lx304 lx305 lx306 lx307 lx308 lx310) : Int32) (1 : Int32) lx304 lx305 lx306 lx307 lx308 lx309) : Int32) : Int32).toInt64 : Int64) : Int64)) (t0_4 := ((F_DR_isLeft lx298 lx299 lx300 lx301 lx302 lx303 lx304 lx305 lx306 lx307 lx308 lx310) : Int32)) (t0_5 := (1 : Int32)) (t0_6 := lx304) (t0_7 := lx305) (t0_8 := lx306) (t0_9 := lx307) (t0_10 := lx308) (t1_0 := lx309) ⟨by omega, by omega⟩ (by first | omega | decide) (by first | omega | (have ez : (0 : Int64).toInt = 0 := rfl; omega)) (by first | exact g_cl (by with_reducible assumption) (by omega) (by omega) | exact g_cl g_one (by omega) (by omega))
                  with_reducible refine v_owe h47.1 ?_
                  replace h47 := h47.2
                  generalize F_DR_lengthen (0 : Int64) lx298 lx299 ((F_DR_needed lx298 lx299 lx300 lx301 ((F_DR_isLeft lx298 lx299 lx300 lx301 lx302 lx303 lx304 lx305 lx306 lx307 lx308 lx310) : Int32) (1 : Int32) lx304 lx305 lx306 lx307 lx308 lx309) : Int32) (lx301 - ((lx300 - ((F_DR_needed lx298 lx299 lx300 lx301 ((F_DR_isLeft lx298 lx299 lx300 lx301 lx302 lx303 lx304 lx305 lx306 lx307 lx308 lx310) : Int32) (1 : Int32) lx304 lx305 lx306 lx307 lx308 lx309) : Int32) : Int32).toInt64 : Int64) : Int64) ((F_DR_isLeft lx298 lx299 lx300 lx301 lx302 lx303 lx304 lx305 lx306 lx307 lx308 lx310) : Int32) (1 : Int32) lx304 lx305 lx306 lx307 lx308 lx309 = p630 at *
                  unfold Q_DR_lengthen at h47
                  obtain ⟨h471, h47g⟩ := h47
                  unfold S_DR_quotient_c369_12 F_DR_quotient_c369_12
                  have h48 := T_DR_store (x2 := x4) (t0_0 := (p630.1 : Int32)) (t0_1 := (p630.2.1 : Int32)) (t0_2 := (p630.2.2.1 : Int32)) (t0_3 := (p630.2.2.2.1 : Int64)) (t0_4 := (p630.2.2.2.2.1 : Int32)) (t0_5 := (p630.2.2.2.2.2.1 : Int32)) (t0_6 := (p630.2.2.2.2.2.2.1 : Int32)) (t0_7 := (p630.2.2.2.2.2.2.2.1 : Int32)) (t0_8 := (p630.2.2.2.2.2.2.2.2.1 : Int32)) (t0_9 := (p630.2.2.2.2.2.2.2.2.2.1 : Int32)) (t0_10 := (p630.2.2.2.2.2.2.2.2.2.2.1 : Int32)) (t1_0 := t1_0) (t2_0 := t2_0) (t3_0 := t3_0) (t4_0 := t4_0) (t5_0 := (p630.2.2.2.2.2.2.2.2.2.2.2 : (Nat → Int32))) (by with_reducible assumption) (by with_reducible assumption) ⟨by first | omega | decide, by first | omega | decide⟩ (by first | with_reducible assumption | exact g_one | exact g_cl (by with_reducible assumption) (by omega) (by omega))
                  with_reducible refine v_owe h48.1 ?_
                  replace h48 := h48.2
                  generalize F_DR_store x4 (p630.1 : Int32) (p630.2.1 : Int32) (p630.2.2.1 : Int32) (p630.2.2.2.1 : Int64) (p630.2.2.2.2.1 : Int32) (p630.2.2.2.2.2.1 : Int32) (p630.2.2.2.2.2.2.1 : Int32) (p630.2.2.2.2.2.2.2.1 : Int32) (p630.2.2.2.2.2.2.2.2.1 : Int32) (p630.2.2.2.2.2.2.2.2.2.1 : Int32) (p630.2.2.2.2.2.2.2.2.2.2.1 : Int32) t1_0 t2_0 t3_0 t4_0 (p630.2.2.2.2.2.2.2.2.2.2.2 : (Nat → Int32)) = p698 at *
                  unfold Q_DR_store at h48
                  unfold S_DR_quotient_c374_13 F_DR_quotient_c374_13
                  refine ⟨trivial, ?_⟩
                  (unfold Q_DR_quotient; dsimp only; with_reducible assumption)
              ·
                rw [if_neg g43, if_neg g43]
                have g43l := g_lc4 g43
                refine ⟨trivial, ?_⟩
                (unfold Q_DR_quotient; dsimp only; with_reducible assumption)
          ·
            rw [if_neg g39, if_neg g39]
            have g39i := q_nleI g39
            have h49 := T_DR_toPrecision (x2 := x5) (x3 := j82) (x4 := x6) (x5 := x4) (t0_0 := lx298) (t0_1 := lx299) (t0_2 := lx300) (t0_3 := lx301) (t0_4 := ((F_DR_isLeft lx298 lx299 lx300 lx301 lx302 lx303 lx304 lx305 lx306 lx307 lx308 lx310) : Int32)) (t0_5 := (1 : Int32)) (t0_6 := lx304) (t0_7 := lx305) (t0_8 := lx306) (t0_9 := lx307) (t0_10 := lx308) (t1_0 := t1_0) (t2_0 := t2_0) (t3_0 := t3_0) (t4_0 := t4_0) (t5_0 := lx309) (by with_reducible assumption) (by with_reducible assumption) ⟨by omega, by omega⟩ ⟨by first | omega | decide, by first | omega | decide⟩ (by first | with_reducible assumption | exact g_one) (fun hne => by first | exact ⟨by omega, u_hz hz (by omega)⟩ | (exfalso; omega))
            with_reducible refine v_owe h49.1 ?_
            replace h49 := h49.2
            generalize F_DR_toPrecision x5 j82 x6 x4 lx298 lx299 lx300 lx301 ((F_DR_isLeft lx298 lx299 lx300 lx301 lx302 lx303 lx304 lx305 lx306 lx307 lx308 lx310) : Int32) (1 : Int32) lx304 lx305 lx306 lx307 lx308 t1_0 t2_0 t3_0 t4_0 lx309 = p850 at *
            unfold Q_DR_toPrecision at h49
            unfold S_DR_quotient_c267 F_DR_quotient_c267
            refine ⟨trivial, ?_⟩
            (unfold Q_DR_quotient; dsimp only; with_reducible assumption)
    ·
      rw [if_neg g2, if_neg g2]
      have isp := u_nif g2 (by with_reducible assumption)
      by_cases g50 : lx85 < lx300
      ·
        rw [if_pos g50, if_pos g50]
        have g50i := q_ltI g50
        unfold S_DR_quotient_J203 F_DR_quotient_J203
        with_reducible refine v_owe h1.1 ?_
        by_cases g51 : (t3_0 x2.toNatClampNeg : Int32) = (t3_0 x3.toNatClampNeg : Int32)
        ·
          rw [if_pos g51, if_pos g51]
          unfold S_DR_quotient_J232 F_DR_quotient_J232
          by_cases g52 : lx300 = (0 : Int32)
          ·
            rw [if_pos g52, if_pos g52]
            have g52i := q_eqI g52
            unfold S_DR_quotient_J254 F_DR_quotient_J254
            by_cases g53 : x5 ≤ (0 : Int32)
            ·
              rw [if_pos g53, if_pos g53]
              have g53i := q_leI g53
              rw [if_neg g2, if_neg g2]
              refine ⟨trivial, ?_⟩
              (unfold Q_DR_quotient; dsimp only; with_reducible assumption)
            ·
              rw [if_neg g53, if_neg g53]
              have g53i := q_nleI g53
              have h54 := T_DR_toPrecision (x2 := x5) (x3 := j82) (x4 := x6) (x5 := x4) (t0_0 := lx298) (t0_1 := lx299) (t0_2 := (1 : Int32)) (t0_3 := lx301) (t0_4 := ((F_DR_isLeft lx298 lx299 lx300 lx301 lx302 lx303 lx304 lx305 lx306 lx307 lx308 lx310) : Int32)) (t0_5 := (0 : Int32)) (t0_6 := lx304) (t0_7 := lx305) (t0_8 := lx306) (t0_9 := lx307) (t0_10 := lx308) (t1_0 := t1_0) (t2_0 := t2_0) (t3_0 := t3_0) (t4_0 := t4_0) (t5_0 := (upd lx309 (0 : Int32).toNatClampNeg 0 : (Nat → Int32))) (by with_reducible assumption) (by with_reducible assumption) ⟨by omega, by omega⟩ ⟨by first | omega | decide, by first | omega | decide⟩ (by first | with_reducible assumption | exact g_one) (fun hne => by first | exact ⟨by omega, u_hz hz (by omega)⟩ | (exfalso; omega))
              with_reducible refine v_owe h54.1 ?_
              replace h54 := h54.2
              generalize F_DR_toPrecision x5 j82 x6 x4 lx298 lx299 (1 : Int32) lx301 ((F_DR_isLeft lx298 lx299 lx300 lx301 lx302 lx303 lx304 lx305 lx306 lx307 lx308 lx310) : Int32) (0 : Int32) lx304 lx305 lx306 lx307 lx308 t1_0 t2_0 t3_0 t4_0 (upd lx309 (0 : Int32).toNatClampNeg 0 : (Nat → Int32)) = p850 at *
              unfold Q_DR_toPrecision at h54
              unfold S_DR_quotient_c267 F_DR_quotient_c267
              refine ⟨trivial, ?_⟩
              (unfold Q_DR_quotient; dsimp only; with_reducible assumption)
          ·
            rw [if_neg g52, if_neg g52]
            have g52i := q_neI g52
            unfold S_DR_quotient_J254 F_DR_quotient_J254
            by_cases g55 : x5 ≤ (0 : Int32)
            ·
              rw [if_pos g55, if_pos g55]
              have g55i := q_leI g55
              rw [if_neg g2, if_neg g2]
              refine ⟨trivial, ?_⟩
              (unfold Q_DR_quotient; dsimp only; with_reducible assumption)
            ·
              rw [if_neg g55, if_neg g55]
              have g55i := q_nleI g55
              have h56 := T_DR_toPrecision (x2 := x5) (x3 := j82) (x4 := x6) (x5 := x4) (t0_0 := lx298) (t0_1 := lx299) (t0_2 := lx300) (t0_3 := lx301) (t0_4 := ((F_DR_isLeft lx298 lx299 lx300 lx301 lx302 lx303 lx304 lx305 lx306 lx307 lx308 lx310) : Int32)) (t0_5 := (0 : Int32)) (t0_6 := lx304) (t0_7 := lx305) (t0_8 := lx306) (t0_9 := lx307) (t0_10 := lx308) (t1_0 := t1_0) (t2_0 := t2_0) (t3_0 := t3_0) (t4_0 := t4_0) (t5_0 := lx309) (by with_reducible assumption) (by with_reducible assumption) ⟨by omega, by omega⟩ ⟨by first | omega | decide, by first | omega | decide⟩ (by first | with_reducible assumption | exact g_one) (fun hne => by first | exact ⟨by omega, u_hz hz (by omega)⟩ | (exfalso; omega))
              with_reducible refine v_owe h56.1 ?_
              replace h56 := h56.2
              generalize F_DR_toPrecision x5 j82 x6 x4 lx298 lx299 lx300 lx301 ((F_DR_isLeft lx298 lx299 lx300 lx301 lx302 lx303 lx304 lx305 lx306 lx307 lx308 lx310) : Int32) (0 : Int32) lx304 lx305 lx306 lx307 lx308 t1_0 t2_0 t3_0 t4_0 lx309 = p850 at *
              unfold Q_DR_toPrecision at h56
              unfold S_DR_quotient_c267 F_DR_quotient_c267
              refine ⟨trivial, ?_⟩
              (unfold Q_DR_quotient; dsimp only; with_reducible assumption)
        ·
          rw [if_neg g51, if_neg g51]
          unfold S_DR_quotient_J232 F_DR_quotient_J232
          by_cases g57 : lx300 = (0 : Int32)
          ·
            rw [if_pos g57, if_pos g57]
            have g57i := q_eqI g57
            unfold S_DR_quotient_J254 F_DR_quotient_J254
            by_cases g58 : x5 ≤ (0 : Int32)
            ·
              rw [if_pos g58, if_pos g58]
              have g58i := q_leI g58
              rw [if_neg g2, if_neg g2]
              refine ⟨trivial, ?_⟩
              (unfold Q_DR_quotient; dsimp only; with_reducible assumption)
            ·
              rw [if_neg g58, if_neg g58]
              have g58i := q_nleI g58
              have h59 := T_DR_toPrecision (x2 := x5) (x3 := j82) (x4 := x6) (x5 := x4) (t0_0 := lx298) (t0_1 := lx299) (t0_2 := (1 : Int32)) (t0_3 := lx301) (t0_4 := ((F_DR_isLeft lx298 lx299 lx300 lx301 lx302 lx303 lx304 lx305 lx306 lx307 lx308 lx310) : Int32)) (t0_5 := (1 : Int32)) (t0_6 := lx304) (t0_7 := lx305) (t0_8 := lx306) (t0_9 := lx307) (t0_10 := lx308) (t1_0 := t1_0) (t2_0 := t2_0) (t3_0 := t3_0) (t4_0 := t4_0) (t5_0 := (upd lx309 (0 : Int32).toNatClampNeg 0 : (Nat → Int32))) (by with_reducible assumption) (by with_reducible assumption) ⟨by omega, by omega⟩ ⟨by first | omega | decide, by first | omega | decide⟩ (by first | with_reducible assumption | exact g_one) (fun hne => by first | exact ⟨by omega, u_hz hz (by omega)⟩ | (exfalso; omega))
              with_reducible refine v_owe h59.1 ?_
              replace h59 := h59.2
              generalize F_DR_toPrecision x5 j82 x6 x4 lx298 lx299 (1 : Int32) lx301 ((F_DR_isLeft lx298 lx299 lx300 lx301 lx302 lx303 lx304 lx305 lx306 lx307 lx308 lx310) : Int32) (1 : Int32) lx304 lx305 lx306 lx307 lx308 t1_0 t2_0 t3_0 t4_0 (upd lx309 (0 : Int32).toNatClampNeg 0 : (Nat → Int32)) = p850 at *
              unfold Q_DR_toPrecision at h59
              unfold S_DR_quotient_c267 F_DR_quotient_c267
              refine ⟨trivial, ?_⟩
              (unfold Q_DR_quotient; dsimp only; with_reducible assumption)
          ·
            rw [if_neg g57, if_neg g57]
            have g57i := q_neI g57
            unfold S_DR_quotient_J254 F_DR_quotient_J254
            by_cases g60 : x5 ≤ (0 : Int32)
            ·
              rw [if_pos g60, if_pos g60]
              have g60i := q_leI g60
              rw [if_neg g2, if_neg g2]
              refine ⟨trivial, ?_⟩
              (unfold Q_DR_quotient; dsimp only; with_reducible assumption)
            ·
              rw [if_neg g60, if_neg g60]
              have g60i := q_nleI g60
              have h61 := T_DR_toPrecision (x2 := x5) (x3 := j82) (x4 := x6) (x5 := x4) (t0_0 := lx298) (t0_1 := lx299) (t0_2 := lx300) (t0_3 := lx301) (t0_4 := ((F_DR_isLeft lx298 lx299 lx300 lx301 lx302 lx303 lx304 lx305 lx306 lx307 lx308 lx310) : Int32)) (t0_5 := (1 : Int32)) (t0_6 := lx304) (t0_7 := lx305) (t0_8 := lx306) (t0_9 := lx307) (t0_10 := lx308) (t1_0 := t1_0) (t2_0 := t2_0) (t3_0 := t3_0) (t4_0 := t4_0) (t5_0 := lx309) (by with_reducible assumption) (by with_reducible assumption) ⟨by omega, by omega⟩ ⟨by first | omega | decide, by first | omega | decide⟩ (by first | with_reducible assumption | exact g_one) (fun hne => by first | exact ⟨by omega, u_hz hz (by omega)⟩ | (exfalso; omega))
              with_reducible refine v_owe h61.1 ?_
              replace h61 := h61.2
              generalize F_DR_toPrecision x5 j82 x6 x4 lx298 lx299 lx300 lx301 ((F_DR_isLeft lx298 lx299 lx300 lx301 lx302 lx303 lx304 lx305 lx306 lx307 lx308 lx310) : Int32) (1 : Int32) lx304 lx305 lx306 lx307 lx308 t1_0 t2_0 t3_0 t4_0 lx309 = p850 at *
              unfold Q_DR_toPrecision at h61
              unfold S_DR_quotient_c267 F_DR_quotient_c267
              refine ⟨trivial, ?_⟩
              (unfold Q_DR_quotient; dsimp only; with_reducible assumption)
      ·
        rw [if_neg g50, if_neg g50]
        have g50i := q_nltI g50
        have h62 := R_next  (x2 := (0 : Int32)) (t0_0 := lx298) (t0_1 := lx299) (t0_2 := lx300) (t0_3 := lx301) (t0_4 := lx302) (t0_5 := lx303) (t0_6 := lx304) (t0_7 := lx305) (t0_8 := lx306) (t0_9 := lx307) (t0_10 := lx308) (un := f117) (l0 := lx310) hw hU (by first | decide | exact g_kx hR.1 hx2 (by omega) (by omega))
        with_reducible refine v_owe h62.1 ?_
        replace h62 := h62.2
        generalize F_DR_nextFigure (0 : Int32) lx298 lx299 lx300 lx301 lx302 lx303 lx304 lx305 lx306 lx307 lx308 f117 lx310 = p899 at *
        obtain ⟨nxd, nxw, nxe⟩ := h62
        unfold S_DR_quotient_c184 F_DR_quotient_c184
        have h63 := R_app (x2 := (p899.1 : Int32)) (t0_0 := lx298) (t0_1 := lx299) (t0_2 := lx300) (t0_3 := lx301) (t0_4 := lx302) (t0_5 := lx303) (t0_6 := lx304) (t0_7 := lx305) (t0_8 := lx306) (t0_9 := lx307) (t0_10 := lx308) (t1_0 := lx309) ⟨by omega, by omega⟩ (by with_reducible assumption) (by with_reducible assumption) (by with_reducible assumption)
        with_reducible refine v_owe h63.1 ?_
        replace h63 := h63.2
        generalize F_DR_append (p899.1 : Int32) lx298 lx299 lx300 lx301 lx302 lx303 lx304 lx305 lx306 lx307 lx308 lx309 = p954 at *
        obtain ⟨h63q, ap1, ap2⟩ := h63
        unfold Q_DR_append at h63q
        obtain ⟨h632, h63g, h63z, h63a, h63b, h63d, h63e, h635, h637, h63k⟩ := h63q
        have app7 := h637
        have app7i := congrArg Int32.toInt h637
        unfold S_DR_quotient_c187 F_DR_quotient_c187
        exact ih _ _ _ _ _ _ _ _ _ _ _ _ _ ⟨by omega, by omega⟩ (by rw [app7]; exact nxw) (by rw [app7]; exact hU) (by with_reducible assumption) (by with_reducible assumption) (by rw [app7]; exact hP.step hw isp nxe (by with_reducible assumption) ap1 ap2)
theorem v_qu1 {x2 : Int32} {x3 : Int32} {x4 : Int32} {x5 : Int32} {x6 : Int32} {t0_0 : Int32} {t0_1 : Int32} {t0_2 : Int32} {t0_3 : Int64} {t0_4 : Int32} {t0_5 : Int32} {t0_6 : Int32} {t0_7 : Int32} {t0_8 : Int32} {t0_9 : Int32} {t0_10 : Int32} {t1_0 : (Nat → Int32)} {t2_0 : (Nat → Int32)} {t3_0 : (Nat → Int32)} {t4_0 : (Nat → Int32)} {t5_0 : (Nat → Int32)} {t6_0 : (Nat → Int32)} {t7_0 : (Nat → Int32)} {lx45 : Int32} {j82 : Int64} {lx85 : Int32} {p151 : (Int32 × Int32 × Int32 × Int64 × Int32 × Int32 × Int32 × Int32 × Int32 × Int32 × Int32 × (Nat → Int32))} {f117 : (Nat → Int32)} {p212 : (Int32 × Int32 × Int32 × Int64 × Int32 × Int32 × Int32 × Int32 × Int32 × Int32 × Int32 × (Nat → Int32))} (hR : gR t1_0 t2_0 t3_0 t4_0)(hx2 : 0 ≤ x2.toInt ∧ x2.toInt ≤ 9) (hx4 : 0 ≤ x4.toInt ∧ x4.toInt ≤ 9) (h85 : 1 ≤ lx85.toInt ∧ lx85.toInt ≤ 1000) (hx5 : 0 ≤ x5.toInt ∧ x5.toInt ≤ 1000) (h58 : 0 < x5.toInt → lx85.toInt = x5.toInt) : ∀ (n : Nat) (lx234 : Int32) (lx235 : Int32) (lx236 : Int32) (lx237 : Int32) (lx238 : Int64) (lx239 : Int32) (lx240 : Int32) (lx241 : Int32) (lx242 : Int32) (lx243 : Int32) (lx244 : Int32) (lx245 : Int32) (lx246 : (Nat → Int32)) (lx247 : (Nat → Int32)), (0 ≤ lx234.toInt ∧ lx234.toInt ≤ 1000) → (1001 - lx234.toInt < (n : Int)) → (0 ≤ lx237.toInt ∧ lx237.toInt ≤ lx234.toInt) → (uW lx242 f117 lx247) → (wL 0 (uV f117 lx242.toNatClampNeg)) → (gO lx246 lx237.toNatClampNeg) → (lx237.toInt = 0 ∨ lx246 0 ≠ 0) → (S_DR_quotient_L127 x2 x3 x4 x5 x6 t0_0 t0_1 t0_2 t0_3 t0_4 t0_5 t0_6 t0_7 t0_8 t0_9 t0_10 t1_0 t2_0 t3_0 t4_0 t5_0 t6_0 t7_0 lx45 j82 lx85 p151 f117 p212 n lx234 lx235 lx236 lx237 lx238 lx239 lx240 lx241 lx242 lx243 lx244 lx245 lx246 lx247) ∧ Q_DR_quotient (F_DR_quotient_L127 x2 x3 x4 x5 x6 t0_0 t0_1 t0_2 t0_3 t0_4 t0_5 t0_6 t0_7 t0_8 t0_9 t0_10 t1_0 t2_0 t3_0 t4_0 t5_0 t6_0 t7_0 lx45 j82 lx85 p151 f117 p212 n lx234 lx235 lx236 lx237 lx238 lx239 lx240 lx241 lx242 lx243 lx244 lx245 lx246 lx247) := by
  intro n
  induction n with
  | zero => intro lx234 lx235 lx236 lx237 lx238 lx239 lx240 lx241 lx242 lx243 lx244 lx245 lx246 lx247 h0 hm h1 hw hU ho hz; exact absurd (show False by omega) id
  | succ n ih =>
    intro lx234 lx235 lx236 lx237 lx238 lx239 lx240 lx241 lx242 lx243 lx244 lx245 lx246 lx247 h0 hm h1 hw hU ho hz
    have e0 : (0 : Int32).toInt = 0 := rfl
    have eL0 : (0 : Int64).toInt = 0 := rfl
    have eL1 : (10000 : Int64).toInt = 10000 := rfl
    have eL2 : (-10000 : Int64).toInt = -10000 := rfl
    have eL3 : (1000 : Int64).toInt = 1000 := rfl
    have eL4 : (-1 : Int64).toInt = -1 := rfl
    have eI3 : (1000 : Int32).toInt = 1000 := rfl
    have hu1 := hw.1
    have hmn := (gR.at hR hx2).1
    rw [S_DR_quotient_L127.eq_2, F_DR_quotient_L127.eq_2]
    by_cases g1 : (t2_0 x2.toNatClampNeg : Int32) ≤ lx234
    ·
      rw [if_pos g1, if_pos g1]
      have g1i := q_leI g1
      exact v_qu2 hR hx2 hx4 h85 hx5 h58 1000000 _ _ _ _ _ _ _ _ _ _ _ _ _ ⟨by omega, by omega⟩ hw hU ho hz (uP.start hw (by omega))
    ·
      rw [if_neg g1, if_neg g1]
      have g1i := q_nleI g1
      refine v_cons (by have := (g_ix (x := x2) (k := lx234) (by with_reducible assumption) ⟨by omega, by omega⟩).1; omega) ?_
      refine v_cons (by have := (g_ix (x := x2) (k := lx234) (by with_reducible assumption) ⟨by omega, by omega⟩).1; omega) ?_
      have h2 := R_next  (x2 := (t1_0 ((1000 * x2 : Int32) + lx234 : Int32).toNatClampNeg : Int32)) (t0_0 := lx235) (t0_1 := lx236) (t0_2 := lx237) (t0_3 := lx238) (t0_4 := lx239) (t0_5 := lx240) (t0_6 := lx241) (t0_7 := lx242) (t0_8 := lx243) (t0_9 := lx244) (t0_10 := lx245) (un := f117) (l0 := lx247) hw hU (by first | decide | exact g_kx hR.1 hx2 (by omega) (by omega))
      with_reducible refine v_owe h2.1 ?_
      replace h2 := h2.2
      generalize F_DR_nextFigure (t1_0 ((1000 * x2 : Int32) + lx234 : Int32).toNatClampNeg : Int32) lx235 lx236 lx237 lx238 lx239 lx240 lx241 lx242 lx243 lx244 lx245 f117 lx247 = p995 at *
      obtain ⟨nxd, nxw, nxe⟩ := h2
      unfold S_DR_quotient_c153 F_DR_quotient_c153
      have h3 := R_app (x2 := (p995.1 : Int32)) (t0_0 := lx235) (t0_1 := lx236) (t0_2 := lx237) (t0_3 := lx238) (t0_4 := lx239) (t0_5 := lx240) (t0_6 := lx241) (t0_7 := lx242) (t0_8 := lx243) (t0_9 := lx244) (t0_10 := lx245) (t1_0 := lx246) ⟨by omega, by omega⟩ (by with_reducible assumption) (by with_reducible assumption) (by with_reducible assumption)
      with_reducible refine v_owe h3.1 ?_
      replace h3 := h3.2
      generalize F_DR_append (p995.1 : Int32) lx235 lx236 lx237 lx238 lx239 lx240 lx241 lx242 lx243 lx244 lx245 lx246 = p1050 at *
      obtain ⟨h3q, ap1, ap2⟩ := h3
      unfold Q_DR_append at h3q
      obtain ⟨h32, h3g, h3z, h3a, h3b, h3d, h3e, h35, h37, h3k⟩ := h3q
      have app7 := h37
      have app7i := congrArg Int32.toInt h37
      unfold S_DR_quotient_c156 F_DR_quotient_c156
      obtain ⟨a4, e5⟩ := q_nm (lx234 + 1 : Int32)
      rw [e5]
      have a4i : a4.toInt = lx234.toInt + 1 := by rw [← e5]; exact q_addI (x := lx234.toInt) (y := 1) rfl (by decide) (by omega) (by omega)
      exact ih _ _ _ _ _ _ _ _ _ _ _ _ _ _ ⟨by omega, by omega⟩ (by omega) ⟨by omega, by omega⟩ (by rw [app7]; exact nxw) (by rw [app7]; exact hU) (by with_reducible assumption) (by with_reducible assumption)
theorem T_DR_quotient {x2 : Int32} {x3 : Int32} {x4 : Int32} {x5 : Int32} {x6 : Int32} {t0_0 : Int32} {t0_1 : Int32} {t0_2 : Int32} {t0_3 : Int64} {t0_4 : Int32} {t0_5 : Int32} {t0_6 : Int32} {t0_7 : Int32} {t0_8 : Int32} {t0_9 : Int32} {t0_10 : Int32} {t1_0 : (Nat → Int32)} {t2_0 : (Nat → Int32)} {t3_0 : (Nat → Int32)} {t4_0 : (Nat → Int32)} {t5_0 : (Nat → Int32)} {t6_0 : (Nat → Int32)} {t7_0 : (Nat → Int32)} (hR : gR t1_0 t2_0 t3_0 t4_0) : (S_DR_quotient x2 x3 x4 x5 x6 t0_0 t0_1 t0_2 t0_3 t0_4 t0_5 t0_6 t0_7 t0_8 t0_9 t0_10 t1_0 t2_0 t3_0 t4_0 t5_0 t6_0 t7_0) ∧ Q_DR_quotient (F_DR_quotient x2 x3 x4 x5 x6 t0_0 t0_1 t0_2 t0_3 t0_4 t0_5 t0_6 t0_7 t0_8 t0_9 t0_10 t1_0 t2_0 t3_0 t4_0 t5_0 t6_0 t7_0) := by
  have e0 : (0 : Int32).toInt = 0 := rfl
  have eL0 : (0 : Int64).toInt = 0 := rfl
  have eL1 : (10000 : Int64).toInt = 10000 := rfl
  have eL2 : (-10000 : Int64).toInt = -10000 := rfl
  have eL3 : (1000 : Int64).toInt = 1000 := rfl
  have eL4 : (-1 : Int64).toInt = -1 := rfl
  have eI3 : (1000 : Int32).toInt = 1000 := rfl
  have i1 : (1 : Int32).toInt = 1 := rfl
  unfold S_DR_quotient F_DR_quotient
  by_cases g1 : ((F_DR_no x2) : Int32) = (0 : Int32)
  ·
    rw [if_pos g1, if_pos g1]
    have g1r := g_no g1
    by_cases g2 : ((F_DR_no x3) : Int32) = (0 : Int32)
    ·
      rw [if_pos g2, if_pos g2]
      have g2r := g_no g2
      by_cases g3 : ((F_DR_no x4) : Int32) = (0 : Int32)
      ·
        rw [if_pos g3, if_pos g3]
        have g3r := g_no g3
        by_cases g4 : ((F_DR_noMode x6) : Int32) = (0 : Int32)
        ·
          rw [if_pos g4, if_pos g4]
          by_cases g5 : x5 < (0 : Int32)
          ·
            rw [if_pos g5, if_pos g5]
            have g5i : x5.toInt < 0 := q_ltI g5
            unfold S_DR_quotient_J43 F_DR_quotient_J43
            unfold S_DR_quotient_J60 F_DR_quotient_J60
            have g6 : ¬ ((1 : Int32) ≤ (0 : Int32)) := (by decide)
            rw [if_neg g6, if_neg g6]
            refine ⟨trivial, ?_⟩
            (unfold Q_DR_quotient; dsimp only; with_reducible assumption)
          ·
            rw [if_neg g5, if_neg g5]
            have g5i : 0 ≤ x5.toInt := q_nltI g5
            by_cases g7 : x5 ≤ (1000 : Int32)
            ·
              rw [if_pos g7, if_pos g7]
              have g7i : x5.toInt ≤ 1000 := q_leI g7
              have h8 := R_dz (x2 := x3) (t0_0 := t0_0) (t0_1 := t0_1) (t0_2 := t0_2) (t0_3 := t0_3) (t0_4 := t0_4) (t0_5 := t0_5) (t0_6 := t0_6) (t0_7 := t0_7) (t0_8 := t0_8) (t0_9 := t0_9) (t0_10 := t0_10) (t1_0 := t1_0) (by with_reducible assumption)
              have h8z := h8.2
              with_reducible refine v_owe h8.1 ?_
              by_cases g9 : ((F_DR_isZero x3 t0_0 t0_1 t0_2 t0_3 t0_4 t0_5 t0_6 t0_7 t0_8 t0_9 t0_10 t1_0) : Int32) = (0 : Int32)
              ·
                rw [if_pos g9, if_pos g9]
                have nz3 := u_if g9 (by with_reducible assumption)
                have m2 := gR.at hR (by with_reducible assumption : 0 ≤ x2.toInt ∧ x2.toInt ≤ 9)
                have m3 := gR.at hR (by with_reducible assumption : 0 ≤ x3.toInt ∧ x3.toInt ≤ 9)
                unfold S_DR_quotient_J60 F_DR_quotient_J60
                have g10 : ((0 : Int32) ≤ (0 : Int32)) := (by decide)
                rw [if_pos g10, if_pos g10]
                refine v_cons (by omega) ?_
                refine v_cons (by omega) ?_
                refine v_cons (by omega) ?_
                refine v_cons (by omega) ?_
                by_cases g11 : x5 = (0 : Int32)
                ·
                  rw [if_pos g11, if_pos g11]
                  have g11i := q_eqI g11
                  unfold S_DR_quotient_J106 F_DR_quotient_J106
                  have h12 := T_DR_loadUnder (x2 := x3) (x3 := (0 : Int32)) (t0_0 := (0 : Int32)) (t0_1 := t0_1) (t0_2 := t0_2) (t0_3 := t0_3) (t0_4 := t0_4) (t0_5 := t0_5) (t0_6 := t0_6) (t0_7 := t0_7) (t0_8 := t0_8) (t0_9 := t0_9) (t0_10 := (2 : Int32)) (t1_0 := t1_0) (t2_0 := t2_0) (t3_0 := t6_0) hR.1 (gR.at hR (by with_reducible assumption)).1 (by with_reducible assumption) ⟨by decide, by omega⟩
                  with_reducible refine v_owe h12.1 ?_
                  replace h12 := h12.2
                  generalize F_DR_loadUnder x3 (0 : Int32) (0 : Int32) t0_1 t0_2 t0_3 t0_4 t0_5 t0_6 t0_7 t0_8 t0_9 (2 : Int32) t1_0 t2_0 t6_0 = p151 at *
                  unfold Q_DR_loadUnder at h12
                  obtain ⟨h127, h12g, h12z, h12a, h12b, h12c, h12d, h12e, h12f, h12k⟩ := h12
                  have unz := h12z
                  have unf := congrArg Int32.toInt h12f
                  have unp := u_p1 h12g (by have e9 := q_clI (i := p151.2.2.2.2.2.2.2.1) rfl (by omega); omega) (by rw [unz]; exact nz3)
                  unfold S_DR_quotient_c111 F_DR_quotient_c111
                  have h13 := T_DR_beginQuotient (t0_0 := (p151.1 : Int32)) (t0_1 := (p151.2.1 : Int32)) (t0_2 := (p151.2.2.1 : Int32)) (t0_3 := (p151.2.2.2.1 : Int64)) (t0_4 := (p151.2.2.2.2.1 : Int32)) (t0_5 := (p151.2.2.2.2.2.1 : Int32)) (t0_6 := (p151.2.2.2.2.2.2.1 : Int32)) (t0_7 := (p151.2.2.2.2.2.2.2.1 : Int32)) (t0_8 := (p151.2.2.2.2.2.2.2.2.1 : Int32)) (t0_9 := (p151.2.2.2.2.2.2.2.2.2.1 : Int32)) (t0_10 := (p151.2.2.2.2.2.2.2.2.2.2.1 : Int32)) (t1_0 := t7_0) ⟨by omega, by omega⟩
                  with_reducible refine v_owe h13.1 ?_
                  replace h13 := h13.2
                  generalize F_DR_beginQuotient (p151.1 : Int32) (p151.2.1 : Int32) (p151.2.2.1 : Int32) (p151.2.2.2.1 : Int64) (p151.2.2.2.2.1 : Int32) (p151.2.2.2.2.2.1 : Int32) (p151.2.2.2.2.2.2.1 : Int32) (p151.2.2.2.2.2.2.2.1 : Int32) (p151.2.2.2.2.2.2.2.2.1 : Int32) (p151.2.2.2.2.2.2.2.2.2.1 : Int32) (p151.2.2.2.2.2.2.2.2.2.2.1 : Int32) t7_0 = p212 at *
                  unfold Q_DR_beginQuotient at h13
                  obtain ⟨h13o, h13a, h13b, h132, h13d, h13e, h135, h137, h13k⟩ := h13
                  have beg0 := h13o
                  have beg2 := congrArg Int32.toInt h132
                  have beg5 := congrArg Int32.toInt h135
                  have beg7 := congrArg Int32.toInt h137
                  have beq7 := h137
                  have beq2 := h132
                  unfold S_DR_quotient_c115 F_DR_quotient_c115
                  exact v_qu1 hR (by with_reducible assumption) (by with_reducible assumption) ⟨by first | omega | decide, by first | omega | decide⟩ ⟨by omega, by omega⟩ (fun h => by first | rfl | omega) _ _ _ _ _ _ _ _ _ _ _ _ _ _ _ (by decide) (by decide) ⟨by omega, by omega⟩ (by rw [beq7]; exact u_w0 ⟨by omega, by omega⟩ (by with_reducible assumption) unp beg0) (by rw [beq7]; exact unp) (u_gz beq2) (Or.inl (by omega))
                ·
                  rw [if_neg g11, if_neg g11]
                  have g11i := q_neI g11
                  unfold S_DR_quotient_J106 F_DR_quotient_J106
                  have h14 := T_DR_loadUnder (x2 := x3) (x3 := (0 : Int32)) (t0_0 := (0 : Int32)) (t0_1 := t0_1) (t0_2 := t0_2) (t0_3 := t0_3) (t0_4 := t0_4) (t0_5 := t0_5) (t0_6 := t0_6) (t0_7 := t0_7) (t0_8 := t0_8) (t0_9 := t0_9) (t0_10 := (2 : Int32)) (t1_0 := t1_0) (t2_0 := t2_0) (t3_0 := t6_0) hR.1 (gR.at hR (by with_reducible assumption)).1 (by with_reducible assumption) ⟨by decide, by omega⟩
                  with_reducible refine v_owe h14.1 ?_
                  replace h14 := h14.2
                  generalize F_DR_loadUnder x3 (0 : Int32) (0 : Int32) t0_1 t0_2 t0_3 t0_4 t0_5 t0_6 t0_7 t0_8 t0_9 (2 : Int32) t1_0 t2_0 t6_0 = p151 at *
                  unfold Q_DR_loadUnder at h14
                  obtain ⟨h147, h14g, h14z, h14a, h14b, h14c, h14d, h14e, h14f, h14k⟩ := h14
                  have unz := h14z
                  have unf := congrArg Int32.toInt h14f
                  have unp := u_p1 h14g (by have e9 := q_clI (i := p151.2.2.2.2.2.2.2.1) rfl (by omega); omega) (by rw [unz]; exact nz3)
                  unfold S_DR_quotient_c111 F_DR_quotient_c111
                  have h15 := T_DR_beginQuotient (t0_0 := (p151.1 : Int32)) (t0_1 := (p151.2.1 : Int32)) (t0_2 := (p151.2.2.1 : Int32)) (t0_3 := (p151.2.2.2.1 : Int64)) (t0_4 := (p151.2.2.2.2.1 : Int32)) (t0_5 := (p151.2.2.2.2.2.1 : Int32)) (t0_6 := (p151.2.2.2.2.2.2.1 : Int32)) (t0_7 := (p151.2.2.2.2.2.2.2.1 : Int32)) (t0_8 := (p151.2.2.2.2.2.2.2.2.1 : Int32)) (t0_9 := (p151.2.2.2.2.2.2.2.2.2.1 : Int32)) (t0_10 := (p151.2.2.2.2.2.2.2.2.2.2.1 : Int32)) (t1_0 := t7_0) ⟨by omega, by omega⟩
                  with_reducible refine v_owe h15.1 ?_
                  replace h15 := h15.2
                  generalize F_DR_beginQuotient (p151.1 : Int32) (p151.2.1 : Int32) (p151.2.2.1 : Int32) (p151.2.2.2.1 : Int64) (p151.2.2.2.2.1 : Int32) (p151.2.2.2.2.2.1 : Int32) (p151.2.2.2.2.2.2.1 : Int32) (p151.2.2.2.2.2.2.2.1 : Int32) (p151.2.2.2.2.2.2.2.2.1 : Int32) (p151.2.2.2.2.2.2.2.2.2.1 : Int32) (p151.2.2.2.2.2.2.2.2.2.2.1 : Int32) t7_0 = p212 at *
                  unfold Q_DR_beginQuotient at h15
                  obtain ⟨h15o, h15a, h15b, h152, h15d, h15e, h155, h157, h15k⟩ := h15
                  have beg0 := h15o
                  have beg2 := congrArg Int32.toInt h152
                  have beg5 := congrArg Int32.toInt h155
                  have beg7 := congrArg Int32.toInt h157
                  have beq7 := h157
                  have beq2 := h152
                  unfold S_DR_quotient_c115 F_DR_quotient_c115
                  exact v_qu1 hR (by with_reducible assumption) (by with_reducible assumption) ⟨by first | omega | decide, by first | omega | decide⟩ ⟨by omega, by omega⟩ (fun h => by first | rfl | omega) _ _ _ _ _ _ _ _ _ _ _ _ _ _ _ (by decide) (by decide) ⟨by omega, by omega⟩ (by rw [beq7]; exact u_w0 ⟨by omega, by omega⟩ (by with_reducible assumption) unp beg0) (by rw [beq7]; exact unp) (u_gz beq2) (Or.inl (by omega))
              ·
                rw [if_neg g9, if_neg g9]
                unfold S_DR_quotient_J60 F_DR_quotient_J60
                have g16 : ¬ ((2 : Int32) ≤ (0 : Int32)) := (by decide)
                rw [if_neg g16, if_neg g16]
                refine ⟨trivial, ?_⟩
                (unfold Q_DR_quotient; dsimp only; with_reducible assumption)
            ·
              rw [if_neg g7, if_neg g7]
              have g7i : 1000 < x5.toInt := q_nleI g7
              unfold S_DR_quotient_J43 F_DR_quotient_J43
              unfold S_DR_quotient_J60 F_DR_quotient_J60
              have g17 : ¬ ((1 : Int32) ≤ (0 : Int32)) := (by decide)
              rw [if_neg g17, if_neg g17]
              refine ⟨trivial, ?_⟩
              (unfold Q_DR_quotient; dsimp only; with_reducible assumption)
        ·
          rw [if_neg g4, if_neg g4]
          unfold S_DR_quotient_J43 F_DR_quotient_J43
          unfold S_DR_quotient_J60 F_DR_quotient_J60
          have g18 : ¬ ((1 : Int32) ≤ (0 : Int32)) := (by decide)
          rw [if_neg g18, if_neg g18]
          refine ⟨trivial, ?_⟩
          (unfold Q_DR_quotient; dsimp only; with_reducible assumption)
      ·
        rw [if_neg g3, if_neg g3]
        unfold S_DR_quotient_J43 F_DR_quotient_J43
        unfold S_DR_quotient_J60 F_DR_quotient_J60
        have g19 : ¬ ((1 : Int32) ≤ (0 : Int32)) := (by decide)
        rw [if_neg g19, if_neg g19]
        refine ⟨trivial, ?_⟩
        (unfold Q_DR_quotient; dsimp only; with_reducible assumption)
    ·
      rw [if_neg g2, if_neg g2]
      unfold S_DR_quotient_J43 F_DR_quotient_J43
      unfold S_DR_quotient_J60 F_DR_quotient_J60
      have g20 : ¬ ((1 : Int32) ≤ (0 : Int32)) := (by decide)
      rw [if_neg g20, if_neg g20]
      refine ⟨trivial, ?_⟩
      (unfold Q_DR_quotient; dsimp only; with_reducible assumption)
  ·
    rw [if_neg g1, if_neg g1]
    unfold S_DR_quotient_J43 F_DR_quotient_J43
    unfold S_DR_quotient_J60 F_DR_quotient_J60
    have g21 : ¬ ((1 : Int32) ≤ (0 : Int32)) := (by decide)
    rw [if_neg g21, if_neg g21]
    refine ⟨trivial, ?_⟩
    (unfold Q_DR_quotient; dsimp only; with_reducible assumption)
