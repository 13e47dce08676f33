/-! WholeRows: read, written, shift -/
theorem w_dig {x : Int32} : 0 ≤ (F_WR_digit x).toInt ∧ (F_WR_digit x).toInt ≤ 99 := by
  have e1 : (48 : Int32).toInt = 48 := rfl
  have e2 : (57 : Int32).toInt = 57 := rfl
  have e3 : (97 : Int32).toInt = 97 := rfl
  have e4 : (122 : Int32).toInt = 122 := rfl
  have e5 : (65 : Int32).toInt = 65 := rfl
  have e6 : (90 : Int32).toInt = 90 := rfl
  have e9 : (99 : Int32).toInt = 99 := rfl
  have l41 : 0 ≤ (F_WR_digit_J41 x).toInt ∧ (F_WR_digit_J41 x).toInt ≤ 99 := by
    unfold F_WR_digit_J41
    by_cases h1 : x < 65
    · rw [if_pos h1]; omega
    · rw [if_neg h1]
      by_cases h2 : 90 < x
      · rw [if_pos h2]; omega
      · rw [if_neg h2]
        have a := q_nltI h1
        have b := q_nltI h2
        have f1 : (x - 65 : Int32).toInt = x.toInt - 65 := q_subI rfl e5 (by omega) (by omega)
        have f2 : (x - 65 + 10 : Int32).toInt = (x.toInt - 65) + 10 := q_addI (y := 10) f1 (by decide) (by omega) (by omega)
        omega
  have l19 : 0 ≤ (F_WR_digit_J19 x).toInt ∧ (F_WR_digit_J19 x).toInt ≤ 99 := by
    unfold F_WR_digit_J19
    by_cases h1 : x < 97
    · rw [if_pos h1]; exact l41
    · rw [if_neg h1]
      by_cases h2 : 122 < x
      · rw [if_pos h2]; exact l41
      · rw [if_neg h2]
        have a := q_nltI h1
        have b := q_nltI h2
        have f1 : (x - 97 : Int32).toInt = x.toInt - 97 := q_subI rfl e3 (by omega) (by omega)
        have f2 : (x - 97 + 10 : Int32).toInt = (x.toInt - 97) + 10 := q_addI (y := 10) f1 (by decide) (by omega) (by omega)
        omega
  unfold F_WR_digit
  by_cases h1 : x < 48
  · rw [if_pos h1]; exact l19
  · rw [if_neg h1]
    by_cases h2 : 57 < x
    · rw [if_pos h2]; exact l19
    · rw [if_neg h2]
      have a := q_nltI h1
      have b := q_nltI h2
      have f1 : (x - 48 : Int32).toInt = x.toInt - 48 := q_subI rfl e1 (by omega) (by omega)
      omega
theorem R_growD {y x : Int32} {f : Nat → Int32} (hy : 0 ≤ y.toInt ∧ y.toInt ≤ 65536) (ho : wO f 264) : wO (F_WR_grow 264 y (F_WR_digit x) f) 264 := (R_grow (N := 264) (by decide) (by decide) hy ⟨w_dig.1, by have := (w_dig (x := x)).2; omega⟩ ho).1
theorem R_shr4 {y : Int32} {f : Nat → Int32} (hy : 0 < y.toInt ∧ y.toInt ≤ 65536) (ho : wO f 264) : S_WR_shrink 264 y f ∧ wH 264 y.toInt (wV f 264) (F_WR_shrink 264 y f) := R_shrink (N := 264) (by decide) (by decide) hy ho
/-- what is left to be written is short enough -/
def wPw (k : Int32) (v : Int) : Prop := v < 2 ^ (2048 - k.toInt).toNat
theorem w_wr {k k1 : Int32} {v v1 y d : Int} (hp : wPw k v) (hk : 0 ≤ k.toInt) (hk2 : k.toInt ≤ 2048) (h1 : k1.toInt = k.toInt + 1) (hy : 2 ≤ y) (hd : 0 ≤ d) (h0 : 0 ≤ v1) (e : wE (v1 * y + d) v) (hv : 0 < v ∨ k.toInt = 0) : wPw k1 v1 ∧ k.toInt < 2048 := by
  have hp : v < 2 ^ (2048 - k.toInt).toNat := hp
  have e : v1 * y + d = v := e
  have h2 := Int.mul_le_mul_of_nonneg_left hy h0
  have kl : k.toInt < 2048 := by
    rcases hv with hv | hv
    · by_cases c : k.toInt < 2048
      · exact c
      · have : (2048 - k.toInt).toNat = 0 := by omega
        rw [this, Int.pow_zero] at hp
        omega
    · omega
  refine ⟨?_, kl⟩
  show v1 < 2 ^ (2048 - k1.toInt).toNat
  have e3 : (2048 - k.toInt).toNat = (2048 - k1.toInt).toNat + 1 := by omega
  rw [e3, Int.pow_succ] at hp
  generalize (2 : Int) ^ (2048 - k1.toInt).toNat = P at hp ⊢
  omega
theorem w_wr0 {k : Nat → Int32} {x : Int32} {r : Nat → Int32} (hx : 0 ≤ x.toInt ∧ x.toInt ≤ 10) (ho : wO k 1408) (h : wK (wVk k x) r) : wPw 0 (wV r 264) := by
  have h1 : wV r 264 = wVk k x := h.2
  show _ < _
  have h2 := (wVk_nn hx ho).2
  rw [h1]
  rw [w_p16] at h2
  exact h2
def Q_WR_read (p : Int32 × Int32 × Int32 × Int32 × Int32 × Int32 × Int32 × (Nat → Int32) × (Nat → Int32) × (Nat → Int32)) : Prop := wR p.2.2.2.2.2.2.2.1 p.2.2.2.2.2.2.2.2.1
theorem v_rd1 {K_F_WR_read_L90 : Int32 → Int32 → (Int32 × Int32 × Int32 × Int32 × Int32 × Int32 × Int32 × (Nat → Int32) × (Nat → Int32) × (Nat → Int32))} {x2 : Int32} {x3 : Int32} {t0_0 : Int32} {t0_1 : Int32} {t0_2 : Int32} {t0_3 : Int32} {t0_4 : Int32} {t0_5 : Int32} {t0_6 : Int32} {t1_0 : (Nat → Int32)} {t2_0 : (Nat → Int32)} {t3_0 : (Nat → Int32)} {t4_0 : (Nat → Int32)} {lx33 : Int32} {lx51 : Int32} {lx66 : Int32} {lx85 : Int32} {lx86 : Int32} {K_S_WR_read_L90 : Int32 → Int32 → Prop} (hr : wR t2_0 t3_0) (hl : 0 ≤ t0_2.toInt ∧ t0_2.toInt ≤ 4100)(hx2 : 0 ≤ x2.toInt ∧ x2.toInt ≤ 10)(hx3 : 2 ≤ x3.toInt ∧ x3.toInt ≤ 36) : ∀ (n : Nat) (lx115 : Int32) (lx116 : (Nat → Int32)), (0 ≤ lx115.toInt ∧ lx115.toInt ≤ 4100) → (4100 - lx115.toInt < (n : Int)) → (wO lx116 264) → (S_WR_read_L149 K_S_WR_read_L90 x2 x3 t0_0 t0_1 t0_2 t0_3 t0_4 t0_5 t0_6 t1_0 t2_0 t3_0 t4_0 lx33 lx51 lx66 lx85 lx86 n lx115 lx116) ∧ Q_WR_read (F_WR_read_L149 K_F_WR_read_L90 x2 x3 t0_0 t0_1 t0_2 t0_3 t0_4 t0_5 t0_6 t1_0 t2_0 t3_0 t4_0 lx33 lx51 lx66 lx85 lx86 n lx115 lx116) := by
  intro n
  induction n with
  | zero => intro lx115 lx116 h0 hm ho; exact absurd (show False by omega) id
  | succ n ih =>
    intro lx115 lx116 h0 hm ho
    rw [S_WR_read_L149.eq_2, F_WR_read_L149.eq_2]
    by_cases g1 : t0_2 ≤ lx115
    ·
      rw [if_pos g1, if_pos g1]
      have g1i : t0_2.toInt ≤ lx115.toInt := q_leI g1
      by_cases g2 : (t1_0 (0 : Int32).toNatClampNeg : Int32) = (45 : Int32)
      ·
        rw [if_pos g2, if_pos g2]
        have h3 := R_store  (x2 := x2) (t0_0 := lx86) (t0_1 := t0_1) (t0_2 := t0_2) (t0_3 := (1 : Int32)) (t0_4 := t0_4) (t0_5 := t0_5) (t0_6 := t0_6) (t1_0 := t2_0) (t2_0 := t3_0) (t3_0 := lx116) (by first | with_reducible assumption | with_reducible exact R_cl | (with_reducible apply R_cp; first | with_reducible assumption | with_reducible exact R_cl) | (with_reducible refine wO_upd ?_ w_m16; with_reducible assumption) | (with_reducible apply wR.mi <;> with_reducible assumption)  | omega | decide) (by first | with_reducible assumption | with_reducible exact R_cl | (with_reducible apply R_cp; first | with_reducible assumption | with_reducible exact R_cl) | (with_reducible refine wO_upd ?_ w_m16; with_reducible assumption) | (with_reducible apply wR.mi <;> with_reducible assumption)  | omega | decide) (by first | with_reducible assumption | with_reducible exact R_cl | (with_reducible apply R_cp; first | with_reducible assumption | with_reducible exact R_cl) | (with_reducible refine wO_upd ?_ w_m16; with_reducible assumption) | (with_reducible apply wR.mi <;> with_reducible assumption)  | omega | decide)
        have h3r := h3.2
        with_reducible refine v_owe h3.1 ?_
        replace h3 := h3.2
        generalize F_WR_store x2 lx86 t0_1 t0_2 (1 : Int32) t0_4 t0_5 t0_6 t2_0 t3_0 lx116 = p218 at *
        unfold S_WR_read_c223_7 F_WR_read_c223_7
        refine ⟨trivial, ?_⟩
        (unfold Q_WR_read; dsimp only; first | with_reducible assumption | exact hr)
      ·
        rw [if_neg g2, if_neg g2]
        have h4 := R_store  (x2 := x2) (t0_0 := lx86) (t0_1 := t0_1) (t0_2 := t0_2) (t0_3 := (0 : Int32)) (t0_4 := t0_4) (t0_5 := t0_5) (t0_6 := t0_6) (t1_0 := t2_0) (t2_0 := t3_0) (t3_0 := lx116) (by first | with_reducible assumption | with_reducible exact R_cl | (with_reducible apply R_cp; first | with_reducible assumption | with_reducible exact R_cl) | (with_reducible refine wO_upd ?_ w_m16; with_reducible assumption) | (with_reducible apply wR.mi <;> with_reducible assumption)  | omega | decide) (by first | with_reducible assumption | with_reducible exact R_cl | (with_reducible apply R_cp; first | with_reducible assumption | with_reducible exact R_cl) | (with_reducible refine wO_upd ?_ w_m16; with_reducible assumption) | (with_reducible apply wR.mi <;> with_reducible assumption)  | omega | decide) (by first | with_reducible assumption | with_reducible exact R_cl | (with_reducible apply R_cp; first | with_reducible assumption | with_reducible exact R_cl) | (with_reducible refine wO_upd ?_ w_m16; with_reducible assumption) | (with_reducible apply wR.mi <;> with_reducible assumption)  | omega | decide)
        have h4r := h4.2
        with_reducible refine v_owe h4.1 ?_
        replace h4 := h4.2
        generalize F_WR_store x2 lx86 t0_1 t0_2 (0 : Int32) t0_4 t0_5 t0_6 t2_0 t3_0 lx116 = p168 at *
        unfold S_WR_read_c223 F_WR_read_c223
        refine ⟨trivial, ?_⟩
        (unfold Q_WR_read; dsimp only; first | with_reducible assumption | exact hr)
    ·
      rw [if_neg g1, if_neg g1]
      have g1i : lx115.toInt < t0_2.toInt := q_nleI g1
      by_cases g5 : ((F_WR_size (264 : Int32) ((F_WR_grow (264 : Int32) x3 ((F_WR_digit (t1_0 lx115.toNatClampNeg : Int32)) : Int32) lx116) : (Nat → Int32))) : Int32) ≤ (128 : Int32)
      ·
        rw [if_pos g5, if_pos g5]
        obtain ⟨a6, e7⟩ := q_nm (lx115 + 1 : Int32)
        rw [e7]
        have a6i : a6.toInt = lx115.toInt + 1 := by rw [← e7]; exact q_addI (x := lx115.toInt) (y := 1) rfl (by decide) (by omega) (by omega)
        exact ih _ _ ⟨by omega, by omega⟩ (by omega) (R_growD ⟨by omega, by omega⟩ ho)
      ·
        rw [if_neg g5, if_neg g5]
        refine ⟨trivial, ?_⟩
        (unfold Q_WR_read; dsimp only; first | with_reducible assumption | exact hr)
theorem v_rd2 {x2 : Int32} {x3 : Int32} {t0_0 : Int32} {t0_1 : Int32} {t0_2 : Int32} {t0_3 : Int32} {t0_4 : Int32} {t0_5 : Int32} {t0_6 : Int32} {t1_0 : (Nat → Int32)} {t2_0 : (Nat → Int32)} {t3_0 : (Nat → Int32)} {t4_0 : (Nat → Int32)} {lx33 : Int32} {lx51 : Int32} {lx66 : Int32} (hr : wR t2_0 t3_0) (hl : 0 ≤ t0_2.toInt ∧ t0_2.toInt ≤ 4100)(hx2 : 0 ≤ x2.toInt ∧ x2.toInt ≤ 10)(hx3 : 2 ≤ x3.toInt ∧ x3.toInt ≤ 36)(h51 : 0 ≤ lx51.toInt ∧ lx51.toInt ≤ 1) : ∀ (n : Nat) (lx85 : Int32) (lx86 : Int32), (0 ≤ lx85.toInt ∧ lx85.toInt ≤ 4100) → (4100 - lx85.toInt < (n : Int)) → (S_WR_read_L90 x2 x3 t0_0 t0_1 t0_2 t0_3 t0_4 t0_5 t0_6 t1_0 t2_0 t3_0 t4_0 lx33 lx51 lx66 n lx85 lx86) ∧ Q_WR_read (F_WR_read_L90 x2 x3 t0_0 t0_1 t0_2 t0_3 t0_4 t0_5 t0_6 t1_0 t2_0 t3_0 t4_0 lx33 lx51 lx66 n lx85 lx86) := by
  intro n
  induction n with
  | zero => intro lx85 lx86 h0 hm; exact absurd (show False by omega) id
  | succ n ih =>
    intro lx85 lx86 h0 hm
    rw [S_WR_read_L90.eq_2, F_WR_read_L90.eq_2]
    by_cases g1 : t0_2 ≤ lx85
    ·
      rw [if_pos g1, if_pos g1]
      have g1i : t0_2.toInt ≤ lx85.toInt := q_leI g1
      by_cases g2 : lx86 ≤ (0 : Int32)
      ·
        rw [if_pos g2, if_pos g2]
        have g2i : lx86.toInt ≤ 0 := q_leI g2
        exact v_rd1 hr hl hx2 hx3 _ _ _ ⟨by omega, by omega⟩ (by omega) R_cl
      ·
        rw [if_neg g2, if_neg g2]
        have g2i : 0 < lx86.toInt := q_nleI g2
        refine ⟨trivial, ?_⟩
        (unfold Q_WR_read; dsimp only; first | with_reducible assumption | exact hr)
    ·
      rw [if_neg g1, if_neg g1]
      have g1i : lx85.toInt < t0_2.toInt := q_nleI g1
      by_cases g3 : ((F_WR_digit (t1_0 lx85.toNatClampNeg : Int32)) : Int32) < x3
      ·
        rw [if_pos g3, if_pos g3]
        obtain ⟨a4, e5⟩ := q_nm (lx85 + 1 : Int32)
        rw [e5]
        have a4i : a4.toInt = lx85.toInt + 1 := by rw [← e5]; exact q_addI (x := lx85.toInt) (y := 1) rfl (by decide) (by omega) (by omega)
        exact ih _ _ (by first | with_reducible assumption | with_reducible exact R_cl | (with_reducible apply R_cp; first | with_reducible assumption | with_reducible exact R_cl) | (with_reducible refine wO_upd ?_ w_m16; with_reducible assumption) | (with_reducible apply wR.mi <;> with_reducible assumption)  | omega | decide) (by first | with_reducible assumption | with_reducible exact R_cl | (with_reducible apply R_cp; first | with_reducible assumption | with_reducible exact R_cl) | (with_reducible refine wO_upd ?_ w_m16; with_reducible assumption) | (with_reducible apply wR.mi <;> with_reducible assumption)  | omega | decide)
      ·
        rw [if_neg g3, if_neg g3]
        obtain ⟨a6, e7⟩ := q_nm (lx85 + 1 : Int32)
        rw [e7]
        have a6i : a6.toInt = lx85.toInt + 1 := by rw [← e7]; exact q_addI (x := lx85.toInt) (y := 1) rfl (by decide) (by omega) (by omega)
        exact ih _ _ (by first | with_reducible assumption | with_reducible exact R_cl | (with_reducible apply R_cp; first | with_reducible assumption | with_reducible exact R_cl) | (with_reducible refine wO_upd ?_ w_m16; with_reducible assumption) | (with_reducible apply wR.mi <;> with_reducible assumption)  | omega | decide) (by first | with_reducible assumption | with_reducible exact R_cl | (with_reducible apply R_cp; first | with_reducible assumption | with_reducible exact R_cl) | (with_reducible refine wO_upd ?_ w_m16; with_reducible assumption) | (with_reducible apply wR.mi <;> with_reducible assumption)  | omega | decide)
theorem T_WR_read {x2 : Int32} {x3 : Int32} {t0_0 : Int32} {t0_1 : Int32} {t0_2 : Int32} {t0_3 : Int32} {t0_4 : Int32} {t0_5 : Int32} {t0_6 : Int32} {t1_0 : (Nat → Int32)} {t2_0 : (Nat → Int32)} {t3_0 : (Nat → Int32)} {t4_0 : (Nat → Int32)} (hr : wR t2_0 t3_0) (hl : 0 ≤ t0_2.toInt ∧ t0_2.toInt ≤ 4100) : (S_WR_read x2 x3 t0_0 t0_1 t0_2 t0_3 t0_4 t0_5 t0_6 t1_0 t2_0 t3_0 t4_0) ∧ Q_WR_read (F_WR_read x2 x3 t0_0 t0_1 t0_2 t0_3 t0_4 t0_5 t0_6 t1_0 t2_0 t3_0 t4_0) := by
  have e0 : (0 : Int32).toInt = 0 := rfl
  have e2 : (2 : Int32).toInt = 2 := rfl
  have e36 : (36 : Int32).toInt = 36 := rfl
  unfold S_WR_read F_WR_read
  by_cases g1 : ((F_WR_no x2) : Int32) = (0 : Int32)
  ·
    rw [if_pos g1, if_pos g1]
    have g1r := w_no g1
    by_cases g2 : x3 < (2 : Int32)
    ·
      rw [if_pos g2, if_pos g2]
      have g2i : x3.toInt < 2 := q_ltI g2
      unfold S_WR_read_J19 F_WR_read_J19
      unfold S_WR_read_J24 F_WR_read_J24
      have g3 : ¬ ((1 : Int32) ≤ (0 : Int32)) := (by decide)
      rw [if_neg g3, if_neg g3]
      refine ⟨trivial, ?_⟩
      (unfold Q_WR_read; dsimp only; first | with_reducible assumption | exact hr)
    ·
      rw [if_neg g2, if_neg g2]
      have g2i : 2 ≤ x3.toInt := q_nltI g2
      by_cases g4 : x3 ≤ (36 : Int32)
      ·
        rw [if_pos g4, if_pos g4]
        have g4i : x3.toInt ≤ 36 := q_leI g4
        unfold S_WR_read_J24 F_WR_read_J24
        have g5 : ((0 : Int32) ≤ (0 : Int32)) := (by decide)
        rw [if_pos g5, if_pos g5]
        by_cases g6 : t0_2 ≤ (0 : Int32)
        ·
          rw [if_pos g6, if_pos g6]
          have g6i : t0_2.toInt ≤ 0 := q_leI g6
          unfold S_WR_read_J68 F_WR_read_J68
          unfold S_WR_read_J69 F_WR_read_J69
          by_cases g7 : (0 : Int32) = t0_2
          ·
            rw [if_pos g7, if_pos g7]
            unfold S_WR_read_J84 F_WR_read_J84
            exact v_rd2 hr hl (by with_reducible assumption) ⟨by omega, by omega⟩ (by decide) _ _ _ (by decide) (by decide)
          ·
            rw [if_neg g7, if_neg g7]
            unfold S_WR_read_J84 F_WR_read_J84
            exact v_rd2 hr hl (by with_reducible assumption) ⟨by omega, by omega⟩ (by decide) _ _ _ (by decide) (by decide)
        ·
          rw [if_neg g6, if_neg g6]
          have g6i : 0 < t0_2.toInt := q_nleI g6
          by_cases g8 : (t1_0 (0 : Int32).toNatClampNeg : Int32) = (43 : Int32)
          ·
            rw [if_pos g8, if_pos g8]
            unfold S_WR_read_J64 F_WR_read_J64
            unfold S_WR_read_J69 F_WR_read_J69
            by_cases g9 : (1 : Int32) = t0_2
            ·
              rw [if_pos g9, if_pos g9]
              unfold S_WR_read_J84 F_WR_read_J84
              exact v_rd2 hr hl (by with_reducible assumption) ⟨by omega, by omega⟩ (by decide) _ _ _ (by decide) (by decide)
            ·
              rw [if_neg g9, if_neg g9]
              unfold S_WR_read_J84 F_WR_read_J84
              exact v_rd2 hr hl (by with_reducible assumption) ⟨by omega, by omega⟩ (by decide) _ _ _ (by decide) (by decide)
          ·
            rw [if_neg g8, if_neg g8]
            by_cases g10 : (t1_0 (0 : Int32).toNatClampNeg : Int32) = (45 : Int32)
            ·
              rw [if_pos g10, if_pos g10]
              unfold S_WR_read_J64 F_WR_read_J64
              unfold S_WR_read_J69 F_WR_read_J69
              by_cases g11 : (1 : Int32) = t0_2
              ·
                rw [if_pos g11, if_pos g11]
                unfold S_WR_read_J84 F_WR_read_J84
                exact v_rd2 hr hl (by with_reducible assumption) ⟨by omega, by omega⟩ (by decide) _ _ _ (by decide) (by decide)
              ·
                rw [if_neg g11, if_neg g11]
                unfold S_WR_read_J84 F_WR_read_J84
                exact v_rd2 hr hl (by with_reducible assumption) ⟨by omega, by omega⟩ (by decide) _ _ _ (by decide) (by decide)
            ·
              rw [if_neg g10, if_neg g10]
              unfold S_WR_read_J68 F_WR_read_J68
              unfold S_WR_read_J69 F_WR_read_J69
              by_cases g12 : (0 : Int32) = t0_2
              ·
                rw [if_pos g12, if_pos g12]
                unfold S_WR_read_J84 F_WR_read_J84
                exact v_rd2 hr hl (by with_reducible assumption) ⟨by omega, by omega⟩ (by decide) _ _ _ (by decide) (by decide)
              ·
                rw [if_neg g12, if_neg g12]
                unfold S_WR_read_J84 F_WR_read_J84
                exact v_rd2 hr hl (by with_reducible assumption) ⟨by omega, by omega⟩ (by decide) _ _ _ (by decide) (by decide)
      ·
        rw [if_neg g4, if_neg g4]
        have g4i : 36 < x3.toInt := q_nleI g4
        unfold S_WR_read_J19 F_WR_read_J19
        unfold S_WR_read_J24 F_WR_read_J24
        have g13 : ¬ ((1 : Int32) ≤ (0 : Int32)) := (by decide)
        rw [if_neg g13, if_neg g13]
        refine ⟨trivial, ?_⟩
        (unfold Q_WR_read; dsimp only; first | with_reducible assumption | exact hr)
  ·
    rw [if_neg g1, if_neg g1]
    unfold S_WR_read_J19 F_WR_read_J19
    unfold S_WR_read_J24 F_WR_read_J24
    have g14 : ¬ ((1 : Int32) ≤ (0 : Int32)) := (by decide)
    rw [if_neg g14, if_neg g14]
    refine ⟨trivial, ?_⟩
    (unfold Q_WR_read; dsimp only; first | with_reducible assumption | exact hr)
def Q_WR_written (p : Int32 × Int32 × Int32 × Int32 × Int32 × Int32 × Int32 × Int32 × (Nat → Int32) × (Nat → Int32)) : Prop := 0 ≤ p.1.toInt ∧ p.1.toInt ≤ 2100
theorem v_wr1 {K_F_WR_written_L50 : Int32 → (Nat → Int32) → (Nat → Int32) → (Int32 × Int32 × Int32 × Int32 × Int32 × Int32 × Int32 × Int32 × (Nat → Int32) × (Nat → Int32))} {x2 : Int32} {x3 : Int32} {t0_0 : Int32} {t0_1 : Int32} {t0_2 : Int32} {t0_3 : Int32} {t0_4 : Int32} {t0_5 : Int32} {t0_6 : Int32} {t1_0 : (Nat → Int32)} {t2_0 : (Nat → Int32)} {t3_0 : (Nat → Int32)} {t4_0 : (Nat → Int32)} {lx33 : Int32} {lx61 : Int32} {lx62 : (Nat → Int32)} {lx63 : (Nat → Int32)} {lx152 : Int32} {lx153 : (Nat → Int32)} {K_S_WR_written_L50 : Int32 → (Nat → Int32) → (Nat → Int32) → Prop} (h152 : 0 ≤ lx152.toInt ∧ lx152.toInt ≤ 2100) : ∀ (n : Nat) (lx174 : Int32) (lx175 : Int32) (lx176 : (Nat → Int32)), (-1 ≤ lx174.toInt ∧ lx174.toInt ≤ 2099) → (lx174.toInt + 1 < (n : Int)) → (0 ≤ lx175.toInt) → (S_WR_written_L158 K_S_WR_written_L50 x2 x3 t0_0 t0_1 t0_2 t0_3 t0_4 t0_5 t0_6 t1_0 t2_0 t3_0 t4_0 lx33 lx61 lx62 lx63 lx152 lx153 n lx174 lx175 lx176) ∧ Q_WR_written (F_WR_written_L158 K_F_WR_written_L50 x2 x3 t0_0 t0_1 t0_2 t0_3 t0_4 t0_5 t0_6 t1_0 t2_0 t3_0 t4_0 lx33 lx61 lx62 lx63 lx152 lx153 n lx174 lx175 lx176) := by
  intro n
  induction n with
  | zero => intro lx174 lx175 lx176 h0 hm h1; exact absurd (show False by omega) id
  | succ n ih =>
    intro lx174 lx175 lx176 h0 hm h1
    rw [S_WR_written_L158.eq_2, F_WR_written_L158.eq_2]
    by_cases g1 : lx174 ≤ lx175
    ·
      rw [if_pos g1, if_pos g1]
      have g1i : lx174.toInt ≤ lx175.toInt := q_leI g1
      refine ⟨trivial, ?_⟩
      (unfold Q_WR_written; dsimp only; omega)
    ·
      rw [if_neg g1, if_neg g1]
      have g1i : lx175.toInt < lx174.toInt := q_nleI g1
      refine v_cons (by omega) ?_
      obtain ⟨a2, e3⟩ := q_nm (lx174 + (-1) : Int32)
      rw [e3]
      have a2i : a2.toInt = lx174.toInt + (-1) := by rw [← e3]; exact q_addI (x := lx174.toInt) (y := (-1)) rfl (by decide) (by omega) (by omega)
      obtain ⟨a4, e5⟩ := q_nm (lx175 + 1 : Int32)
      rw [e5]
      have a4i : a4.toInt = lx175.toInt + 1 := by rw [← e5]; exact q_addI (x := lx175.toInt) (y := 1) rfl (by decide) (by omega) (by omega)
      exact ih _ _ _ (by first | with_reducible assumption | with_reducible exact R_cl | (with_reducible apply R_cp; first | with_reducible assumption | with_reducible exact R_cl) | (with_reducible refine wO_upd ?_ w_m16; with_reducible assumption) | (with_reducible apply wR.mi <;> with_reducible assumption)  | omega | decide) (by first | with_reducible assumption | with_reducible exact R_cl | (with_reducible apply R_cp; first | with_reducible assumption | with_reducible exact R_cl) | (with_reducible refine wO_upd ?_ w_m16; with_reducible assumption) | (with_reducible apply wR.mi <;> with_reducible assumption)  | omega | decide) (by first | with_reducible assumption | with_reducible exact R_cl | (with_reducible apply R_cp; first | with_reducible assumption | with_reducible exact R_cl) | (with_reducible refine wO_upd ?_ w_m16; with_reducible assumption) | (with_reducible apply wR.mi <;> with_reducible assumption)  | omega | decide)
theorem v_wr2 {x2 : Int32} {x3 : Int32} {t0_0 : Int32} {t0_1 : Int32} {t0_2 : Int32} {t0_3 : Int32} {t0_4 : Int32} {t0_5 : Int32} {t0_6 : Int32} {t1_0 : (Nat → Int32)} {t2_0 : (Nat → Int32)} {t3_0 : (Nat → Int32)} {t4_0 : (Nat → Int32)} {lx33 : Int32} (hr : wR t1_0 t2_0)(hx2 : 0 ≤ x2.toInt ∧ x2.toInt ≤ 10)(hx3 : 2 ≤ x3.toInt ∧ x3.toInt ≤ 36) : ∀ (n : Nat) (lx61 : Int32) (lx62 : (Nat → Int32)) (lx63 : (Nat → Int32)), (0 ≤ lx61.toInt ∧ lx61.toInt ≤ 2048) → (2100 - lx61.toInt < (n : Int)) → (wO lx62 264) → (wPw lx61 (wV lx62 264)) → (S_WR_written_L50 x2 x3 t0_0 t0_1 t0_2 t0_3 t0_4 t0_5 t0_6 t1_0 t2_0 t3_0 t4_0 lx33 n lx61 lx62 lx63) ∧ Q_WR_written (F_WR_written_L50 x2 x3 t0_0 t0_1 t0_2 t0_3 t0_4 t0_5 t0_6 t1_0 t2_0 t3_0 t4_0 lx33 n lx61 lx62 lx63) := by
  intro n
  induction n with
  | zero => intro lx61 lx62 lx63 h0 hm ho hp; exact absurd (show False by omega) id
  | succ n ih =>
    intro lx61 lx62 lx63 h0 hm ho hp
    have ew : (0 : Int32).toInt = 0 := rfl
    rw [S_WR_written_L50.eq_2, F_WR_written_L50.eq_2]
    by_cases g1 : (0 : Int32) < ((F_WR_size (264 : Int32) lx62) : Int32)
    ·
      rw [if_pos g1, if_pos g1]
      have hv : 0 < wV lx62 264 ∨ lx61.toInt = 0 := Or.inl (w_sz1 ho (fun h => by have a := q_leI h; have b := q_ltI g1; omega))
      unfold S_WR_written_J67 F_WR_written_J67
      have h2 := R_shr4  (y := x3) (f := lx62) ⟨by omega, by omega⟩ (by first | with_reducible assumption | with_reducible exact R_cl | (with_reducible apply R_cp; first | with_reducible assumption | with_reducible exact R_cl) | (with_reducible refine wO_upd ?_ w_m16; with_reducible assumption) | (with_reducible apply wR.mi <;> with_reducible assumption)  | omega | decide)
      have h2k := h2.2.1
      have h2d := h2.2.2.1
      have h2e := h2.2.2.2.2
      with_reducible refine v_owe h2.1 ?_
      replace h2 := h2.2
      generalize F_WR_shrink (264 : Int32) x3 lx62 = p104 at *
      unfold S_WR_written_c72 F_WR_written_c72
      by_cases g3 : (10 : Int32) ≤ (p104.1 : Int32)
      ·
        rw [if_pos g3, if_pos g3]
        refine v_cons (by omega) ?_
        obtain ⟨a4, e5⟩ := q_nm (lx61 + 1 : Int32)
        rw [e5]
        have a4i : a4.toInt = lx61.toInt + 1 := by rw [← e5]; exact q_addI (x := lx61.toInt) (y := 1) rfl (by decide) (by omega) (by omega)
        have hw := w_wr hp h0.1 h0.2 a4i hx3.1 (by with_reducible assumption) (w_nn (by with_reducible assumption)) (by with_reducible assumption) hv; exact ih _ _ _ ⟨by omega, by omega⟩ (by omega) (by with_reducible assumption) hw.1
      ·
        rw [if_neg g3, if_neg g3]
        refine v_cons (by omega) ?_
        obtain ⟨a6, e7⟩ := q_nm (lx61 + 1 : Int32)
        rw [e7]
        have a6i : a6.toInt = lx61.toInt + 1 := by rw [← e7]; exact q_addI (x := lx61.toInt) (y := 1) rfl (by decide) (by omega) (by omega)
        have hw := w_wr hp h0.1 h0.2 a6i hx3.1 (by with_reducible assumption) (w_nn (by with_reducible assumption)) (by with_reducible assumption) hv; exact ih _ _ _ ⟨by omega, by omega⟩ (by omega) (by with_reducible assumption) hw.1
    ·
      rw [if_neg g1, if_neg g1]
      by_cases g8 : lx61 = (0 : Int32)
      ·
        rw [if_pos g8, if_pos g8]
        have hv : 0 < wV lx62 264 ∨ lx61.toInt = 0 := Or.inr (by rw [g8]; rfl)
        unfold S_WR_written_J67 F_WR_written_J67
        have h9 := R_shr4  (y := x3) (f := lx62) ⟨by omega, by omega⟩ (by first | with_reducible assumption | with_reducible exact R_cl | (with_reducible apply R_cp; first | with_reducible assumption | with_reducible exact R_cl) | (with_reducible refine wO_upd ?_ w_m16; with_reducible assumption) | (with_reducible apply wR.mi <;> with_reducible assumption)  | omega | decide)
        have h9k := h9.2.1
        have h9d := h9.2.2.1
        have h9e := h9.2.2.2.2
        with_reducible refine v_owe h9.1 ?_
        replace h9 := h9.2
        generalize F_WR_shrink (264 : Int32) x3 lx62 = p104 at *
        unfold S_WR_written_c72 F_WR_written_c72
        by_cases g10 : (10 : Int32) ≤ (p104.1 : Int32)
        ·
          rw [if_pos g10, if_pos g10]
          refine v_cons (by omega) ?_
          obtain ⟨a11, e12⟩ := q_nm (lx61 + 1 : Int32)
          rw [e12]
          have a11i : a11.toInt = lx61.toInt + 1 := by rw [← e12]; exact q_addI (x := lx61.toInt) (y := 1) rfl (by decide) (by omega) (by omega)
          have hw := w_wr hp h0.1 h0.2 a11i hx3.1 (by with_reducible assumption) (w_nn (by with_reducible assumption)) (by with_reducible assumption) hv; exact ih _ _ _ ⟨by omega, by omega⟩ (by omega) (by with_reducible assumption) hw.1
        ·
          rw [if_neg g10, if_neg g10]
          refine v_cons (by omega) ?_
          obtain ⟨a13, e14⟩ := q_nm (lx61 + 1 : Int32)
          rw [e14]
          have a13i : a13.toInt = lx61.toInt + 1 := by rw [← e14]; exact q_addI (x := lx61.toInt) (y := 1) rfl (by decide) (by omega) (by omega)
          have hw := w_wr hp h0.1 h0.2 a13i hx3.1 (by with_reducible assumption) (w_nn (by with_reducible assumption)) (by with_reducible assumption) hv; exact ih _ _ _ ⟨by omega, by omega⟩ (by omega) (by with_reducible assumption) hw.1
      ·
        rw [if_neg g8, if_neg g8]
        refine v_cons (by omega) ?_
        refine v_cons (by omega) ?_
        by_cases g15 : (t2_0 x2.toNatClampNeg : Int32) = (0 : Int32)
        ·
          rw [if_pos g15, if_pos g15]
          unfold S_WR_written_J148 F_WR_written_J148
          have ez : (lx61 - 1 : Int32).toInt = lx61.toInt - 1 := q_subI (y := 1) rfl (by decide) (by omega) (by omega); exact v_wr1 ⟨by omega, by omega⟩ _ _ _ _ ⟨by omega, by omega⟩ (by omega) (by decide)
        ·
          rw [if_neg g15, if_neg g15]
          refine v_cons (by omega) ?_
          obtain ⟨lx152, e16⟩ := q_nm ((lx61 + 1 : Int32) : Int32)
          rw [e16]
          have lx152i : lx152.toInt = lx61.toInt + 1 := by rw [← e16]; exact q_addI (y := 1) rfl (by decide) (by omega) (by omega)
          unfold S_WR_written_J148 F_WR_written_J148
          have ez : (lx152 - 1 : Int32).toInt = lx152.toInt - 1 := q_subI (y := 1) rfl (by decide) (by omega) (by omega); exact v_wr1 ⟨by omega, by omega⟩ _ _ _ _ ⟨by omega, by omega⟩ (by omega) (by decide)
theorem T_WR_written {x2 : Int32} {x3 : Int32} {t0_0 : Int32} {t0_1 : Int32} {t0_2 : Int32} {t0_3 : Int32} {t0_4 : Int32} {t0_5 : Int32} {t0_6 : Int32} {t1_0 : (Nat → Int32)} {t2_0 : (Nat → Int32)} {t3_0 : (Nat → Int32)} {t4_0 : (Nat → Int32)} (hr : wR t1_0 t2_0) : (S_WR_written x2 x3 t0_0 t0_1 t0_2 t0_3 t0_4 t0_5 t0_6 t1_0 t2_0 t3_0 t4_0) ∧ Q_WR_written (F_WR_written x2 x3 t0_0 t0_1 t0_2 t0_3 t0_4 t0_5 t0_6 t1_0 t2_0 t3_0 t4_0) := by
  have e0 : (0 : Int32).toInt = 0 := rfl
  have e2 : (2 : Int32).toInt = 2 := rfl
  have e36 : (36 : Int32).toInt = 36 := rfl
  unfold S_WR_written F_WR_written
  by_cases g1 : ((F_WR_no x2) : Int32) = (0 : Int32)
  ·
    rw [if_pos g1, if_pos g1]
    have g1r := w_no g1
    by_cases g2 : x3 < (2 : Int32)
    ·
      rw [if_pos g2, if_pos g2]
      have g2i : x3.toInt < 2 := q_ltI g2
      unfold S_WR_written_J19 F_WR_written_J19
      unfold S_WR_written_J24 F_WR_written_J24
      have g3 : ¬ ((1 : Int32) ≤ (0 : Int32)) := (by decide)
      rw [if_neg g3, if_neg g3]
      refine ⟨trivial, ?_⟩
      (unfold Q_WR_written; dsimp only; omega)
    ·
      rw [if_neg g2, if_neg g2]
      have g2i : 2 ≤ x3.toInt := q_nltI g2
      by_cases g4 : x3 ≤ (36 : Int32)
      ·
        rw [if_pos g4, if_pos g4]
        have g4i : x3.toInt ≤ 36 := q_leI g4
        unfold S_WR_written_J24 F_WR_written_J24
        have g5 : ((0 : Int32) ≤ (0 : Int32)) := (by decide)
        rw [if_pos g5, if_pos g5]
        have h6 := R_take  (x2 := x2) (t0_0 := (0 : Int32)) (t0_1 := t0_1) (t0_2 := t0_2) (t0_3 := t0_3) (t0_4 := t0_4) (t0_5 := t0_5) (t0_6 := t0_6) (t1_0 := t1_0) (t2_0 := t3_0) (by first | with_reducible assumption | with_reducible exact R_cl | (with_reducible apply R_cp; first | with_reducible assumption | with_reducible exact R_cl) | (with_reducible refine wO_upd ?_ w_m16; with_reducible assumption) | (with_reducible apply wR.mi <;> with_reducible assumption)  | omega | decide) (wR.o (by with_reducible assumption))
        have h6k := h6.2.1
        have h6v := h6.2
        with_reducible refine v_owe h6.1 ?_
        exact v_wr2 hr (by with_reducible assumption) ⟨by omega, by omega⟩ _ _ _ _ (by decide) (by decide) (by with_reducible assumption) (w_wr0 (x := x2) (by with_reducible assumption) (wR.o hr) (by with_reducible assumption))
      ·
        rw [if_neg g4, if_neg g4]
        have g4i : 36 < x3.toInt := q_nleI g4
        unfold S_WR_written_J19 F_WR_written_J19
        unfold S_WR_written_J24 F_WR_written_J24
        have g7 : ¬ ((1 : Int32) ≤ (0 : Int32)) := (by decide)
        rw [if_neg g7, if_neg g7]
        refine ⟨trivial, ?_⟩
        (unfold Q_WR_written; dsimp only; omega)
  ·
    rw [if_neg g1, if_neg g1]
    unfold S_WR_written_J19 F_WR_written_J19
    unfold S_WR_written_J24 F_WR_written_J24
    have g8 : ¬ ((1 : Int32) ≤ (0 : Int32)) := (by decide)
    rw [if_neg g8, if_neg g8]
    refine ⟨trivial, ?_⟩
    (unfold Q_WR_written; dsimp only; omega)
theorem w_lc {a : Int64} (h : ¬ lg_cmp a 0 < 0) : 0 ≤ a.toInt := by
  have h1 := q_nltI h
  have h2 := s_lcmp (a := a) (b := 0)
  have e0 : (0 : Int32).toInt = 0 := rfl
  have e9 : (0 : Int64).toInt = 0 := rfl
  omega
theorem w_j16 {j : Int64} (h : 0 ≤ j.toInt ∧ j.toInt ≤ 2047) : (j.toInt32 / 16).toInt = j.toInt / 16 ∧ j.toInt32.toInt = j.toInt := by
  have e : j.toInt32.toInt = j.toInt := s_l2i (by omega) (by omega)
  refine ⟨?_, e⟩
  rw [w_div16 (by omega), e]
theorem w_bitA {a b : Int32} (ha : 0 ≤ a.toInt ∧ a.toInt ≤ 1) (h : 0 ≤ b.toInt) : 0 ≤ (a <<< ((b - b / 16 * 16) &&& 31)).toInt ∧ (a <<< ((b - b / 16 * 16) &&& 31)).toInt ≤ 65535 := by
  by_cases c : a.toInt = 1
  · have : a = 1 := Int32.toInt_inj.mp c
    rw [this]
    exact w_bitI h
  · have : a = 0 := Int32.toInt_inj.mp (show a.toInt = 0 by omega)
    rw [this]
    have h1 := s_rem' (x := b) (b := 16) h (by decide)
    have e16 : (16 : Int32).toInt = 16 := rfl
    generalize (b - b / 16 * 16 : Int32) = r at h1 ⊢
    obtain ⟨k, hk⟩ : ∃ k : Nat, r.toInt = k := ⟨r.toInt.toNat, by omega⟩
    have e := v_shlN (x := 0) hk (by omega)
    have e1 : (0 : Int32).toBitVec.toNat = 0 := by decide
    rw [e1, Nat.zero_mul, Nat.zero_mod] at e
    have h4 := s_of e (by omega)
    rw [h4]
    decide
theorem w_shU {r : Nat → Int32} {j : Int64} {a : Int32} (ho : wO r 264) (h : 0 ≤ j.toInt ∧ j.toInt ≤ 2047) (ha : 0 ≤ a.toInt ∧ a.toInt ≤ 1) : wO (upd r (j.toInt32 / 16).toNatClampNeg ((r (j.toInt32 / 16).toNatClampNeg) ||| (a <<< ((j.toInt32 - j.toInt32 / 16 * 16) &&& 31)))) 264 := by
  obtain ⟨e, e2⟩ := w_j16 h
  have e1 := q_clI (i := j.toInt32 / 16) e (by omega)
  exact wO_upd ho (w_or16 (ho _ (by omega)) (w_bitA ha (by omega)))
theorem w_hi {x k : Int32} (hx : 0 ≤ x.toInt ∧ x.toInt < 65536) (hk : 0 ≤ k.toInt) : 0 ≤ ((((x.toInt64) <<< ((k - k / 16 * 16 : Int32).toInt64 &&& 63)) >>> ((16 : Int32).toInt64 &&& 63)).toInt32).toInt ∧ ((((x.toInt64) <<< ((k - k / 16 * 16 : Int32).toInt64 &&& 63)) >>> ((16 : Int32).toInt64 &&& 63)).toInt32).toInt < 65536 := by
  have h1 := s_rem' (x := k) (b := 16) hk (by decide)
  have e16 : (16 : Int32).toInt = 16 := rfl
  generalize (k - k / 16 * 16 : Int32) = r at h1 ⊢
  have key : ∀ m : Fin 16, ((Int32.ofNat m.val).toInt64 &&& 63).toBitVec.smod 64 = BitVec.ofNat 64 m.val := by decide
  have er : r = Int32.ofNat r.toInt.toNat := by
    apply Int32.toInt_inj.mp
    have h5 : (Int32.ofNat r.toInt.toNat).toInt = (r.toInt.toNat : Int) := Int32.toInt_ofNat_of_lt (by omega)
    omega
  have hm : r.toInt.toNat < 16 := by omega
  generalize r.toInt.toNat = m at er hm
  subst er
  have hc := key ⟨m, hm⟩
  have ex : x.toInt64.toInt = x.toInt := q_i2l rfl
  obtain ⟨a1, a2, -⟩ := s_nnL (x := x.toInt64) (by omega)
  have hp : 2 ^ m ≤ 2 ^ 15 := Nat.pow_le_pow_right (by decide) (by omega)
  have hp0 : 0 < 2 ^ m := Nat.pow_pos (by decide)
  have hxm : x.toInt64.toBitVec.toNat * 2 ^ m ≤ 65535 * 32768 := Nat.mul_le_mul (by omega) (by omega)
  have e : (x.toInt64 <<< ((Int32.ofNat m).toInt64 &&& 63)).toBitVec.toNat = x.toInt64.toBitVec.toNat * 2 ^ m := by
    rw [Int64.toBitVec_shiftLeft, hc, BitVec.shiftLeft_eq', BitVec.toNat_shiftLeft, Nat.shiftLeft_eq]
    have : (BitVec.ofNat 64 m).toNat = m := by rw [BitVec.toNat_ofNat]; exact Nat.mod_eq_of_lt (by omega)
    rw [this]
    exact Nat.mod_eq_of_lt (by omega)
  have h5 := s_ofL e (by omega)
  generalize (x.toInt64 <<< ((Int32.ofNat m).toInt64 &&& 63) : Int64) = y at h5 ⊢
  have h6 := w_shr (x := y)
  have h7 : 0 ≤ (y >>> ((16 : Int32).toInt64 &&& 63)).toInt ∧ (y >>> ((16 : Int32).toInt64 &&& 63)).toInt < 65536 := by rw [h6]; omega
  rw [s_l2i (by omega) (by omega)]
  exact h7
theorem w_shV {r f : Nat → Int32} {i x : Int32} (ho : wO r 264) (hf : wO f 264) (hi : 0 ≤ i.toInt) (hi2 : i.toInt ≤ 127) (hx : 0 ≤ x.toInt) (hx2 : x.toInt ≤ 2048) : wO (upd (upd r (i + (x / 16)).toNatClampNeg ((r (i + (x / 16)).toNatClampNeg) ||| (((((f i.toNatClampNeg).toInt64) <<< ((x - x / 16 * 16 : Int32).toInt64 &&& 63)) &&& 65535).toInt32))) ((i + (x / 16)) + 1).toNatClampNeg (((((f i.toNatClampNeg).toInt64) <<< ((x - x / 16 * 16 : Int32).toInt64 &&& 63)) >>> ((16 : Int32).toInt64 &&& 63)).toInt32)) 264 := by
  have e := w_div16 hx
  have e1 : (i + (x / 16) : Int32).toInt = i.toInt + x.toInt / 16 := q_addI rfl e (by omega) (by omega)
  have e2 := q_clI (i := i + (x / 16)) e1 (by omega)
  have e3 := q_clI (i := i) rfl hi
  exact wO_upd (wO_upd ho (w_or17 (ho _ (by omega)) w_m16)) (w_hi (hf _ (by omega)) hx)
theorem w_shI {i x : Int32} (hi : 0 ≤ i.toInt) (hi2 : i.toInt ≤ 127) (hx : 0 ≤ x.toInt) (hx2 : x.toInt ≤ 2048) : (i + (x / 16) : Int32).toInt = i.toInt + x.toInt / 16 ∧ ((i + (x / 16)) + 1 : Int32).toInt = (i.toInt + x.toInt / 16) + 1 := by
  have e := w_div16 hx
  have e1 : (i + (x / 16) : Int32).toInt = i.toInt + x.toInt / 16 := q_addI rfl e (by omega) (by omega)
  exact ⟨e1, q_addI (y := 1) e1 (by decide) (by omega) (by omega)⟩
def Q_WR_shift (p : Int32 × Int32 × Int32 × Int32 × Int32 × Int32 × Int32 × (Nat → Int32) × (Nat → Int32) × (Nat → Int32) × (Nat → Int32) × (Nat → Int32)) : Prop := wR p.2.2.2.2.2.2.2.1 p.2.2.2.2.2.2.2.2.1
theorem v_sh1 {x2 : Int32} {x3 : Int32} {x4 : Int32} {t0_0 : Int32} {t0_1 : Int32} {t0_2 : Int32} {t0_3 : Int32} {t0_4 : Int32} {t0_5 : Int32} {t0_6 : Int32} {t1_0 : (Nat → Int32)} {t2_0 : (Nat → Int32)} {t3_0 : (Nat → Int32)} {t4_0 : (Nat → Int32)} {t5_0 : (Nat → Int32)} {lx36 : Int32} {a67 : Int32} {f60 : (Nat → Int32)} (hr : wR t1_0 t2_0)(hx4 : 0 ≤ x4.toInt ∧ x4.toInt ≤ 10)(ha : 0 ≤ a67.toInt ∧ a67.toInt ≤ 1) (hf : wO f60 264)(hx3 : x3.toInt < 0) : ∀ (n : Nat) (lx84 : Int32) (lx85 : Int32) (lx86 : (Nat → Int32)), (0 ≤ lx84.toInt ∧ lx84.toInt ≤ 2048) → (2048 - lx84.toInt < (n : Int)) → (wO lx86 264) → (S_WR_shift_L189 x2 x3 x4 t0_0 t0_1 t0_2 t0_3 t0_4 t0_5 t0_6 t1_0 t2_0 t3_0 t4_0 t5_0 lx36 a67 f60 n lx84 lx85 lx86) ∧ Q_WR_shift (F_WR_shift_L189 x2 x3 x4 t0_0 t0_1 t0_2 t0_3 t0_4 t0_5 t0_6 t1_0 t2_0 t3_0 t4_0 t5_0 lx36 a67 f60 n lx84 lx85 lx86) := by
  intro n
  induction n with
  | zero => intro lx84 lx85 lx86 h0 hm ho; exact absurd (show False by omega) id
  | succ n ih =>
    intro lx84 lx85 lx86 h0 hm ho
    have e0 : (0 : Int32).toInt = 0 := rfl
    have e2048 : (2048 : Int32).toInt = 2048 := rfl
    have hxl := Int32.le_toInt x3
    rw [S_WR_shift_L189.eq_2, F_WR_shift_L189.eq_2]
    by_cases g1 : (2048 : Int32) ≤ lx84
    ·
      rw [if_pos g1, if_pos g1]
      have g1i : 2048 ≤ lx84.toInt := q_leI g1
      by_cases g2 : a67 = (0 : Int32)
      ·
        rw [if_pos g2, if_pos g2]
        have h3 := R_store  (x2 := x4) (t0_0 := lx36) (t0_1 := (2 : Int32)) (t0_2 := t0_2) (t0_3 := a67) (t0_4 := t0_4) (t0_5 := t0_5) (t0_6 := t0_6) (t1_0 := t1_0) (t2_0 := t2_0) (t3_0 := lx86) (by first | with_reducible assumption | with_reducible exact R_cl | (with_reducible apply R_cp; first | with_reducible assumption | with_reducible exact R_cl) | (with_reducible refine wO_upd ?_ w_m16; with_reducible assumption) | (with_reducible apply wR.mi <;> with_reducible assumption)  | omega | decide) (by first | with_reducible assumption | with_reducible exact R_cl | (with_reducible apply R_cp; first | with_reducible assumption | with_reducible exact R_cl) | (with_reducible refine wO_upd ?_ w_m16; with_reducible assumption) | (with_reducible apply wR.mi <;> with_reducible assumption)  | omega | decide) (by first | with_reducible assumption | with_reducible exact R_cl | (with_reducible apply R_cp; first | with_reducible assumption | with_reducible exact R_cl) | (with_reducible refine wO_upd ?_ w_m16; with_reducible assumption) | (with_reducible apply wR.mi <;> with_reducible assumption)  | omega | decide)
        have h3r := h3.2
        with_reducible refine v_owe h3.1 ?_
        replace h3 := h3.2
        generalize F_WR_store x4 lx36 (2 : Int32) t0_2 a67 t0_4 t0_5 t0_6 t1_0 t2_0 lx86 = p137 at *
        unfold S_WR_shift_c331 F_WR_shift_c331
        refine ⟨trivial, ?_⟩
        (unfold Q_WR_shift; dsimp only; first | with_reducible assumption | exact hr)
      ·
        rw [if_neg g2, if_neg g2]
        by_cases g4 : lx85 = (0 : Int32)
        ·
          rw [if_pos g4, if_pos g4]
          have h5 := R_store  (x2 := x4) (t0_0 := lx36) (t0_1 := (2 : Int32)) (t0_2 := t0_2) (t0_3 := a67) (t0_4 := t0_4) (t0_5 := t0_5) (t0_6 := t0_6) (t1_0 := t1_0) (t2_0 := t2_0) (t3_0 := lx86) (by first | with_reducible assumption | with_reducible exact R_cl | (with_reducible apply R_cp; first | with_reducible assumption | with_reducible exact R_cl) | (with_reducible refine wO_upd ?_ w_m16; with_reducible assumption) | (with_reducible apply wR.mi <;> with_reducible assumption)  | omega | decide) (by first | with_reducible assumption | with_reducible exact R_cl | (with_reducible apply R_cp; first | with_reducible assumption | with_reducible exact R_cl) | (with_reducible refine wO_upd ?_ w_m16; with_reducible assumption) | (with_reducible apply wR.mi <;> with_reducible assumption)  | omega | decide) (by first | with_reducible assumption | with_reducible exact R_cl | (with_reducible apply R_cp; first | with_reducible assumption | with_reducible exact R_cl) | (with_reducible refine wO_upd ?_ w_m16; with_reducible assumption) | (with_reducible apply wR.mi <;> with_reducible assumption)  | omega | decide)
          have h5r := h5.2
          with_reducible refine v_owe h5.1 ?_
          replace h5 := h5.2
          generalize F_WR_store x4 lx36 (2 : Int32) t0_2 a67 t0_4 t0_5 t0_6 t1_0 t2_0 lx86 = p185 at *
          unfold S_WR_shift_c331_4 F_WR_shift_c331_4
          refine ⟨trivial, ?_⟩
          (unfold Q_WR_shift; dsimp only; first | with_reducible assumption | exact hr)
        ·
          rw [if_neg g4, if_neg g4]
          have h6 := R_setOne  (t0_0 := lx36) (t0_1 := (2 : Int32)) (t0_2 := t0_2) (t0_3 := a67) (t0_4 := t0_4) (t0_5 := t0_5) (t0_6 := t0_6) (f := t4_0) 
          have h6k := h6.2.1
          with_reducible refine v_owe h6.1 ?_
          have h7 := R_j1  (f := lx86) (g := ((F_WR_setOne (264 : Int32) lx36 (2 : Int32) t0_2 a67 t0_4 t0_5 t0_6 t4_0) : (Nat → Int32))) (by first | with_reducible assumption | with_reducible exact R_cl | (with_reducible apply R_cp; first | with_reducible assumption | with_reducible exact R_cl) | (with_reducible refine wO_upd ?_ w_m16; with_reducible assumption) | (with_reducible apply wR.mi <;> with_reducible assumption)  | omega | decide) (by first | with_reducible assumption | with_reducible exact R_cl | (with_reducible apply R_cp; first | with_reducible assumption | with_reducible exact R_cl) | (with_reducible refine wO_upd ?_ w_m16; with_reducible assumption) | (with_reducible apply wR.mi <;> with_reducible assumption)  | omega | decide)
          have h7k := h7.2
          with_reducible refine v_owe h7.1 ?_
          have h8 := R_store  (x2 := x4) (t0_0 := lx36) (t0_1 := (2 : Int32)) (t0_2 := t0_2) (t0_3 := a67) (t0_4 := t0_4) (t0_5 := t0_5) (t0_6 := t0_6) (t1_0 := t1_0) (t2_0 := t2_0) (t3_0 := ((F_WR_join (264 : Int32) (264 : Int32) (1 : Int32) (1 : Int64) (0 : Int32) lx86 ((F_WR_setOne (264 : Int32) lx36 (2 : Int32) t0_2 a67 t0_4 t0_5 t0_6 t4_0) : (Nat → Int32))) : (Nat → Int32))) (by first | with_reducible assumption | with_reducible exact R_cl | (with_reducible apply R_cp; first | with_reducible assumption | with_reducible exact R_cl) | (with_reducible refine wO_upd ?_ w_m16; with_reducible assumption) | (with_reducible apply wR.mi <;> with_reducible assumption)  | omega | decide) (by first | with_reducible assumption | with_reducible exact R_cl | (with_reducible apply R_cp; first | with_reducible assumption | with_reducible exact R_cl) | (with_reducible refine wO_upd ?_ w_m16; with_reducible assumption) | (with_reducible apply wR.mi <;> with_reducible assumption)  | omega | decide) (by first | with_reducible assumption | with_reducible exact R_cl | (with_reducible apply R_cp; first | with_reducible assumption | with_reducible exact R_cl) | (with_reducible refine wO_upd ?_ w_m16; with_reducible assumption) | (with_reducible apply wR.mi <;> with_reducible assumption)  | omega | decide)
          have h8r := h8.2
          with_reducible refine v_owe h8.1 ?_
          replace h8 := h8.2
          generalize F_WR_store x4 lx36 (2 : Int32) t0_2 a67 t0_4 t0_5 t0_6 t1_0 t2_0 ((F_WR_join (264 : Int32) (264 : Int32) (1 : Int32) (1 : Int64) (0 : Int32) lx86 ((F_WR_setOne (264 : Int32) lx36 (2 : Int32) t0_2 a67 t0_4 t0_5 t0_6 t4_0) : (Nat → Int32))) : (Nat → Int32)) = p247 at *
          replace h6 := h6.2
          generalize F_WR_setOne (264 : Int32) lx36 (2 : Int32) t0_2 a67 t0_4 t0_5 t0_6 t4_0 = f205 at *
          replace h7 := h7.2
          generalize F_WR_join (264 : Int32) (264 : Int32) (1 : Int32) (1 : Int64) (0 : Int32) lx86 ((F_WR_setOne (264 : Int32) lx36 (2 : Int32) t0_2 a67 t0_4 t0_5 t0_6 t4_0) : (Nat → Int32)) = f213 at *
          unfold S_WR_shift_c331_5 F_WR_shift_c331_5
          refine ⟨trivial, ?_⟩
          (unfold Q_WR_shift; dsimp only; first | with_reducible assumption | exact hr)
    ·
      rw [if_neg g1, if_neg g1]
      have g1i : lx84.toInt < 2048 := q_nleI g1
      refine v_cons (by rw [w_div16 (by omega)]; omega) ?_
      by_cases g9 : lx85 = (0 : Int32)
      ·
        rw [if_pos g9, if_pos g9]
        by_cases g10 : (((f60 (lx84 / 16 : Int32).toNatClampNeg : Int32) >>> ((lx84 - lx84 / 16 * 16 : Int32) &&& 31) : Int32) &&& 1 : Int32) = (1 : Int32)
        ·
          rw [if_pos g10, if_pos g10]
          by_cases g11 : (0 : Int32) ≤ (lg_cmp ((lx84.toInt64 : Int64) + (x3.toInt64 : Int64) : Int64) 0 : Int32)
          ·
            rw [if_pos g11, if_pos g11]
            obtain ⟨j284, e12⟩ := q_nm (((lx84.toInt64 : Int64) + (x3.toInt64 : Int64) : Int64) : Int64)
            rw [e12]
            have j284i : j284.toInt = lx84.toInt + x3.toInt := by rw [← e12]; exact q_addL (q_i2l rfl) (q_i2l rfl) (by omega) (by omega)
            obtain ⟨a275, e13⟩ := q_nm ((((f60 (lx84 / 16 : Int32).toNatClampNeg : Int32) >>> ((lx84 - lx84 / 16 * 16 : Int32) &&& 31) : Int32) &&& 1 : Int32) : Int32)
            rw [e13]
            have a275b : 0 ≤ a275.toInt ∧ a275.toInt ≤ 1 := by rw [← e13]; exact s_and (by decide)
            unfold S_WR_shift_J247 F_WR_shift_J247
            unfold S_WR_shift_J248 F_WR_shift_J248
            by_cases g14 : (lg_cmp j284 0 : Int32) < (0 : Int32)
            ·
              rw [if_pos g14, if_pos g14]
              obtain ⟨a15, e16⟩ := q_nm (lx84 + 1 : Int32)
              rw [e16]
              have a15i : a15.toInt = lx84.toInt + 1 := by rw [← e16]; exact q_addI (x := lx84.toInt) (y := 1) rfl (by decide) (by omega) (by omega)
              exact ih _ _ _ ⟨by omega, by omega⟩ (by omega) (by first | with_reducible assumption | exact w_shU ho ⟨hj, by omega⟩ a275b)
            ·
              rw [if_neg g14, if_neg g14]
              have hj := w_lc g14
              refine v_cons (by have := w_j16 (j := j284) ⟨by omega, by omega⟩; omega) ?_
              refine v_cons (by have := w_j16 (j := j284) ⟨by omega, by omega⟩; omega) ?_
              refine v_cons (by have := w_j16 (j := j284) ⟨by omega, by omega⟩; omega) ?_
              refine v_cons (by have := w_j16 (j := j284) ⟨by omega, by omega⟩; omega) ?_
              obtain ⟨a17, e18⟩ := q_nm (lx84 + 1 : Int32)
              rw [e18]
              have a17i : a17.toInt = lx84.toInt + 1 := by rw [← e18]; exact q_addI (x := lx84.toInt) (y := 1) rfl (by decide) (by omega) (by omega)
              exact ih _ _ _ ⟨by omega, by omega⟩ (by omega) (by first | with_reducible assumption | exact w_shU ho ⟨hj, by omega⟩ a275b)
          ·
            rw [if_neg g11, if_neg g11]
            obtain ⟨j284, e19⟩ := q_nm (((lx84.toInt64 : Int64) + (x3.toInt64 : Int64) : Int64) : Int64)
            rw [e19]
            have j284i : j284.toInt = lx84.toInt + x3.toInt := by rw [← e19]; exact q_addL (q_i2l rfl) (q_i2l rfl) (by omega) (by omega)
            obtain ⟨a275, e20⟩ := q_nm ((((f60 (lx84 / 16 : Int32).toNatClampNeg : Int32) >>> ((lx84 - lx84 / 16 * 16 : Int32) &&& 31) : Int32) &&& 1 : Int32) : Int32)
            rw [e20]
            have a275b : 0 ≤ a275.toInt ∧ a275.toInt ≤ 1 := by rw [← e20]; exact s_and (by decide)
            unfold S_WR_shift_J243 F_WR_shift_J243
            unfold S_WR_shift_J248 F_WR_shift_J248
            by_cases g21 : (lg_cmp j284 0 : Int32) < (0 : Int32)
            ·
              rw [if_pos g21, if_pos g21]
              obtain ⟨a22, e23⟩ := q_nm (lx84 + 1 : Int32)
              rw [e23]
              have a22i : a22.toInt = lx84.toInt + 1 := by rw [← e23]; exact q_addI (x := lx84.toInt) (y := 1) rfl (by decide) (by omega) (by omega)
              exact ih _ _ _ ⟨by omega, by omega⟩ (by omega) (by first | with_reducible assumption | exact w_shU ho ⟨hj, by omega⟩ a275b)
            ·
              rw [if_neg g21, if_neg g21]
              have hj := w_lc g21
              refine v_cons (by have := w_j16 (j := j284) ⟨by omega, by omega⟩; omega) ?_
              refine v_cons (by have := w_j16 (j := j284) ⟨by omega, by omega⟩; omega) ?_
              refine v_cons (by have := w_j16 (j := j284) ⟨by omega, by omega⟩; omega) ?_
              refine v_cons (by have := w_j16 (j := j284) ⟨by omega, by omega⟩; omega) ?_
              obtain ⟨a24, e25⟩ := q_nm (lx84 + 1 : Int32)
              rw [e25]
              have a24i : a24.toInt = lx84.toInt + 1 := by rw [← e25]; exact q_addI (x := lx84.toInt) (y := 1) rfl (by decide) (by omega) (by omega)
              exact ih _ _ _ ⟨by omega, by omega⟩ (by omega) (by first | with_reducible assumption | exact w_shU ho ⟨hj, by omega⟩ a275b)
        ·
          rw [if_neg g10, if_neg g10]
          obtain ⟨j284, e26⟩ := q_nm (((lx84.toInt64 : Int64) + (x3.toInt64 : Int64) : Int64) : Int64)
          rw [e26]
          have j284i : j284.toInt = lx84.toInt + x3.toInt := by rw [← e26]; exact q_addL (q_i2l rfl) (q_i2l rfl) (by omega) (by omega)
          obtain ⟨a275, e27⟩ := q_nm ((((f60 (lx84 / 16 : Int32).toNatClampNeg : Int32) >>> ((lx84 - lx84 / 16 * 16 : Int32) &&& 31) : Int32) &&& 1 : Int32) : Int32)
          rw [e27]
          have a275b : 0 ≤ a275.toInt ∧ a275.toInt ≤ 1 := by rw [← e27]; exact s_and (by decide)
          unfold S_WR_shift_J247 F_WR_shift_J247
          unfold S_WR_shift_J248 F_WR_shift_J248
          by_cases g28 : (lg_cmp j284 0 : Int32) < (0 : Int32)
          ·
            rw [if_pos g28, if_pos g28]
            obtain ⟨a29, e30⟩ := q_nm (lx84 + 1 : Int32)
            rw [e30]
            have a29i : a29.toInt = lx84.toInt + 1 := by rw [← e30]; exact q_addI (x := lx84.toInt) (y := 1) rfl (by decide) (by omega) (by omega)
            exact ih _ _ _ ⟨by omega, by omega⟩ (by omega) (by first | with_reducible assumption | exact w_shU ho ⟨hj, by omega⟩ a275b)
          ·
            rw [if_neg g28, if_neg g28]
            have hj := w_lc g28
            refine v_cons (by have := w_j16 (j := j284) ⟨by omega, by omega⟩; omega) ?_
            refine v_cons (by have := w_j16 (j := j284) ⟨by omega, by omega⟩; omega) ?_
            refine v_cons (by have := w_j16 (j := j284) ⟨by omega, by omega⟩; omega) ?_
            refine v_cons (by have := w_j16 (j := j284) ⟨by omega, by omega⟩; omega) ?_
            obtain ⟨a31, e32⟩ := q_nm (lx84 + 1 : Int32)
            rw [e32]
            have a31i : a31.toInt = lx84.toInt + 1 := by rw [← e32]; exact q_addI (x := lx84.toInt) (y := 1) rfl (by decide) (by omega) (by omega)
            exact ih _ _ _ ⟨by omega, by omega⟩ (by omega) (by first | with_reducible assumption | exact w_shU ho ⟨hj, by omega⟩ a275b)
      ·
        rw [if_neg g9, if_neg g9]
        obtain ⟨j284, e33⟩ := q_nm (((lx84.toInt64 : Int64) + (x3.toInt64 : Int64) : Int64) : Int64)
        rw [e33]
        have j284i : j284.toInt = lx84.toInt + x3.toInt := by rw [← e33]; exact q_addL (q_i2l rfl) (q_i2l rfl) (by omega) (by omega)
        obtain ⟨a275, e34⟩ := q_nm ((((f60 (lx84 / 16 : Int32).toNatClampNeg : Int32) >>> ((lx84 - lx84 / 16 * 16 : Int32) &&& 31) : Int32) &&& 1 : Int32) : Int32)
        rw [e34]
        have a275b : 0 ≤ a275.toInt ∧ a275.toInt ≤ 1 := by rw [← e34]; exact s_and (by decide)
        unfold S_WR_shift_J243 F_WR_shift_J243
        unfold S_WR_shift_J248 F_WR_shift_J248
        by_cases g35 : (lg_cmp j284 0 : Int32) < (0 : Int32)
        ·
          rw [if_pos g35, if_pos g35]
          obtain ⟨a36, e37⟩ := q_nm (lx84 + 1 : Int32)
          rw [e37]
          have a36i : a36.toInt = lx84.toInt + 1 := by rw [← e37]; exact q_addI (x := lx84.toInt) (y := 1) rfl (by decide) (by omega) (by omega)
          exact ih _ _ _ ⟨by omega, by omega⟩ (by omega) (by first | with_reducible assumption | exact w_shU ho ⟨hj, by omega⟩ a275b)
        ·
          rw [if_neg g35, if_neg g35]
          have hj := w_lc g35
          refine v_cons (by have := w_j16 (j := j284) ⟨by omega, by omega⟩; omega) ?_
          refine v_cons (by have := w_j16 (j := j284) ⟨by omega, by omega⟩; omega) ?_
          refine v_cons (by have := w_j16 (j := j284) ⟨by omega, by omega⟩; omega) ?_
          refine v_cons (by have := w_j16 (j := j284) ⟨by omega, by omega⟩; omega) ?_
          obtain ⟨a38, e39⟩ := q_nm (lx84 + 1 : Int32)
          rw [e39]
          have a38i : a38.toInt = lx84.toInt + 1 := by rw [← e39]; exact q_addI (x := lx84.toInt) (y := 1) rfl (by decide) (by omega) (by omega)
          exact ih _ _ _ ⟨by omega, by omega⟩ (by omega) (by first | with_reducible assumption | exact w_shU ho ⟨hj, by omega⟩ a275b)
theorem v_sh2 {x2 : Int32} {x3 : Int32} {x4 : Int32} {t0_0 : Int32} {t0_1 : Int32} {t0_2 : Int32} {t0_3 : Int32} {t0_4 : Int32} {t0_5 : Int32} {t0_6 : Int32} {t1_0 : (Nat → Int32)} {t2_0 : (Nat → Int32)} {t3_0 : (Nat → Int32)} {t4_0 : (Nat → Int32)} {t5_0 : (Nat → Int32)} {lx36 : Int32} {a67 : Int32} {f75 : (Nat → Int32)} {f60 : (Nat → Int32)} (hr : wR t1_0 t2_0)(hx4 : 0 ≤ x4.toInt ∧ x4.toInt ≤ 10)(ha : 0 ≤ a67.toInt ∧ a67.toInt ≤ 1) (hf : wO f60 264)(hx3 : 0 ≤ x3.toInt) (hz : (F_WR_size 264 f60).toInt ≤ 128) (hz2 : x3.toInt ≤ 2048 ∨ (F_WR_size 264 f60).toInt ≤ 0) : ∀ (n : Nat) (lx396 : Int32) (lx397 : (Nat → Int32)), (0 ≤ lx396.toInt ∧ lx396.toInt ≤ 128) → (2100 - lx396.toInt < (n : Int)) → (wO lx397 264) → (S_WR_shift_L92 x2 x3 x4 t0_0 t0_1 t0_2 t0_3 t0_4 t0_5 t0_6 t1_0 t2_0 t3_0 t4_0 t5_0 lx36 a67 f75 f60 n lx396 lx397) ∧ Q_WR_shift (F_WR_shift_L92 x2 x3 x4 t0_0 t0_1 t0_2 t0_3 t0_4 t0_5 t0_6 t1_0 t2_0 t3_0 t4_0 t5_0 lx36 a67 f75 f60 n lx396 lx397) := by
  intro n
  induction n with
  | zero => intro lx396 lx397 h0 hm ho; exact absurd (show False by omega) id
  | succ n ih =>
    intro lx396 lx397 h0 hm ho
    have e0 : (0 : Int32).toInt = 0 := rfl
    have e2048 : (2048 : Int32).toInt = 2048 := rfl
    have hxl := Int32.le_toInt x3
    rw [S_WR_shift_L92.eq_2, F_WR_shift_L92.eq_2]
    by_cases g1 : ((F_WR_size (264 : Int32) f60) : Int32) ≤ lx396
    ·
      rw [if_pos g1, if_pos g1]
      have h2 := R_store  (x2 := x4) (t0_0 := lx36) (t0_1 := (2 : Int32)) (t0_2 := t0_2) (t0_3 := a67) (t0_4 := t0_4) (t0_5 := t0_5) (t0_6 := t0_6) (t1_0 := t1_0) (t2_0 := t2_0) (t3_0 := lx397) (by first | with_reducible assumption | with_reducible exact R_cl | (with_reducible apply R_cp; first | with_reducible assumption | with_reducible exact R_cl) | (with_reducible refine wO_upd ?_ w_m16; with_reducible assumption) | (with_reducible apply wR.mi <;> with_reducible assumption)  | omega | decide) (by first | with_reducible assumption | with_reducible exact R_cl | (with_reducible apply R_cp; first | with_reducible assumption | with_reducible exact R_cl) | (with_reducible refine wO_upd ?_ w_m16; with_reducible assumption) | (with_reducible apply wR.mi <;> with_reducible assumption)  | omega | decide) (by first | with_reducible assumption | with_reducible exact R_cl | (with_reducible apply R_cp; first | with_reducible assumption | with_reducible exact R_cl) | (with_reducible refine wO_upd ?_ w_m16; with_reducible assumption) | (with_reducible apply wR.mi <;> with_reducible assumption)  | omega | decide)
      have h2r := h2.2
      with_reducible refine v_owe h2.1 ?_
      replace h2 := h2.2
      generalize F_WR_store x4 lx36 (2 : Int32) t0_2 a67 t0_4 t0_5 t0_6 t1_0 t2_0 lx397 = p451 at *
      unfold S_WR_shift_c179 F_WR_shift_c179
      refine ⟨trivial, ?_⟩
      (unfold Q_WR_shift; dsimp only; first | with_reducible assumption | exact hr)
    ·
      rw [if_neg g1, if_neg g1]
      have hs := q_nleI g1
      have hx3b : x3.toInt ≤ 2048 := by omega
      refine v_cons (by have := w_shI (i := lx396) (x := x3) (by omega) (by omega) (by omega) (by omega); omega) ?_
      refine v_cons (by have := w_shI (i := lx396) (x := x3) (by omega) (by omega) (by omega) (by omega); omega) ?_
      refine v_cons (by have := w_shI (i := lx396) (x := x3) (by omega) (by omega) (by omega) (by omega); omega) ?_
      obtain ⟨a3, e4⟩ := q_nm (lx396 + 1 : Int32)
      rw [e4]
      have a3i : a3.toInt = lx396.toInt + 1 := by rw [← e4]; exact q_addI (x := lx396.toInt) (y := 1) rfl (by decide) (by omega) (by omega)
      exact ih _ _ ⟨by omega, by omega⟩ (by omega) (w_shV ho hf (by omega) (by omega) (by omega) (by omega))
theorem T_WR_shift {x2 : Int32} {x3 : Int32} {x4 : Int32} {t0_0 : Int32} {t0_1 : Int32} {t0_2 : Int32} {t0_3 : Int32} {t0_4 : Int32} {t0_5 : Int32} {t0_6 : Int32} {t1_0 : (Nat → Int32)} {t2_0 : (Nat → Int32)} {t3_0 : (Nat → Int32)} {t4_0 : (Nat → Int32)} {t5_0 : (Nat → Int32)} (hr : wR t1_0 t2_0) : (S_WR_shift x2 x3 x4 t0_0 t0_1 t0_2 t0_3 t0_4 t0_5 t0_6 t1_0 t2_0 t3_0 t4_0 t5_0) ∧ Q_WR_shift (F_WR_shift x2 x3 x4 t0_0 t0_1 t0_2 t0_3 t0_4 t0_5 t0_6 t1_0 t2_0 t3_0 t4_0 t5_0) := by
  have e0 : (0 : Int32).toInt = 0 := rfl
  have e2048 : (2048 : Int32).toInt = 2048 := rfl
  have hxl := Int32.le_toInt x3
  unfold S_WR_shift F_WR_shift
  by_cases g1 : ((F_WR_no x2) : Int32) = (0 : Int32)
  ·
    rw [if_pos g1, if_pos g1]
    have g1r := w_no g1
    by_cases g2 : ((F_WR_no x4) : Int32) = (0 : Int32)
    ·
      rw [if_pos g2, if_pos g2]
      have g2r := w_no g2
      unfold S_WR_shift_J20 F_WR_shift_J20
      have g3 : ((0 : Int32) ≤ (0 : Int32)) := (by decide)
      rw [if_pos g3, if_pos g3]
      have h4 := R_take  (x2 := x2) (t0_0 := (0 : Int32)) (t0_1 := (2 : Int32)) (t0_2 := t0_2) (t0_3 := t0_3) (t0_4 := t0_4) (t0_5 := t0_5) (t0_6 := t0_6) (t1_0 := t1_0) (t2_0 := t5_0) (by first | with_reducible assumption | with_reducible exact R_cl | (with_reducible apply R_cp; first | with_reducible assumption | with_reducible exact R_cl) | (with_reducible refine wO_upd ?_ w_m16; with_reducible assumption) | (with_reducible apply wR.mi <;> with_reducible assumption)  | omega | decide) (wR.o (by with_reducible assumption))
      have h4k := h4.2.1
      have h4v := h4.2
      with_reducible refine v_owe h4.1 ?_
      refine v_cons (by omega) ?_
      refine v_cons (by omega) ?_
      refine v_cons (by first | omega | exact (wR.mi (by with_reducible assumption) (by with_reducible assumption)).1 | exact (wR.mi (by with_reducible assumption) (by with_reducible assumption)).2) ?_
      refine v_cons (by first | omega | exact (wR.mi (by with_reducible assumption) (by with_reducible assumption)).1 | exact (wR.mi (by with_reducible assumption) (by with_reducible assumption)).2) ?_
      by_cases g5 : x3 < (0 : Int32)
      ·
        rw [if_pos g5, if_pos g5]
        have g5i : x3.toInt < 0 := q_ltI g5
        exact v_sh1 hr (by with_reducible assumption) (wR.mi hr (by with_reducible assumption)) (by with_reducible assumption) (by omega) _ _ _ _ (by decide) (by decide) R_cl
      ·
        rw [if_neg g5, if_neg g5]
        have g5i : 0 ≤ x3.toInt := q_nltI g5
        by_cases g6 : x3 ≤ (2048 : Int32)
        ·
          rw [if_pos g6, if_pos g6]
          have g6i : x3.toInt ≤ 2048 := q_leI g6
          have h7 := R_cl  (f := t3_0)
          replace h4 := h4.2
          generalize F_WR_take x2 (264 : Int32) (0 : Int32) (2 : Int32) t0_2 t0_3 t0_4 t0_5 t0_6 t1_0 t5_0 = f60 at *
          generalize F_WR_clear (264 : Int32) t3_0 = f75 at *
          unfold S_WR_shift_J89 F_WR_shift_J89
          have hq := w_sz128 (v := wVk t1_0 x2) (by with_reducible assumption) (wVk_nn (by with_reducible assumption) (wR.o hr)).2; exact v_sh2 hr (by with_reducible assumption) (by first | with_reducible assumption | exact wR.mi hr (by with_reducible assumption)) (by with_reducible assumption) (by omega) hq (by omega) _ _ _ (by decide) (by decide) (by first | with_reducible assumption | exact R_cl)
        ·
          rw [if_neg g6, if_neg g6]
          have g6i : 2048 < x3.toInt := q_nleI g6
          by_cases g8 : ((F_WR_size (264 : Int32) ((F_WR_take x2 (264 : Int32) (0 : Int32) (2 : Int32) t0_2 t0_3 t0_4 t0_5 t0_6 t1_0 t5_0) : (Nat → Int32))) : Int32) ≤ (0 : Int32)
          ·
            rw [if_pos g8, if_pos g8]
            have hsz := q_leI g8
            have h9 := R_cl  (f := t3_0)
            replace h4 := h4.2
            generalize F_WR_take x2 (264 : Int32) (0 : Int32) (2 : Int32) t0_2 t0_3 t0_4 t0_5 t0_6 t1_0 t5_0 = f60 at *
            generalize F_WR_clear (264 : Int32) t3_0 = f75 at *
            unfold S_WR_shift_J89 F_WR_shift_J89
            have hq := w_sz128 (v := wVk t1_0 x2) (by with_reducible assumption) (wVk_nn (by with_reducible assumption) (wR.o hr)).2; exact v_sh2 hr (by with_reducible assumption) (by first | with_reducible assumption | exact wR.mi hr (by with_reducible assumption)) (by with_reducible assumption) (by omega) hq (by omega) _ _ _ (by decide) (by decide) (by first | with_reducible assumption | exact R_cl)
          ·
            rw [if_neg g8, if_neg g8]
            refine ⟨trivial, ?_⟩
            (unfold Q_WR_shift; dsimp only; first | with_reducible assumption | exact hr)
    ·
      rw [if_neg g2, if_neg g2]
      unfold S_WR_shift_J15 F_WR_shift_J15
      unfold S_WR_shift_J20 F_WR_shift_J20
      have g10 : ¬ ((1 : Int32) ≤ (0 : Int32)) := (by decide)
      rw [if_neg g10, if_neg g10]
      refine ⟨trivial, ?_⟩
      (unfold Q_WR_shift; dsimp only; first | with_reducible assumption | exact hr)
  ·
    rw [if_neg g1, if_neg g1]
    unfold S_WR_shift_J15 F_WR_shift_J15
    unfold S_WR_shift_J20 F_WR_shift_J20
    have g11 : ¬ ((1 : Int32) ≤ (0 : Int32)) := (by decide)
    rw [if_neg g11, if_neg g11]
    refine ⟨trivial, ?_⟩
    (unfold Q_WR_shift; dsimp only; first | with_reducible assumption | exact hr)
