/-! values, for whole: texts of whole numbers: what they say; the reference's read -/
theorem yuB_mono {b : Nat} {f : Nat → Int} (hb : 1 ≤ b) {n : Nat} : ∀ (k : Nat), yuB b f n ≤ yuB b f (n + k)
  | 0 => Nat.le_refl _
  | k + 1 => by
    refine Nat.le_trans (yuB_mono hb k) ?_
    show yuB b f (n + k) ≤ yuB b f (n + k) * b + (f (n + k)).toNat
    exact Nat.le_trans (Nat.le_mul_of_pos_right _ hb) (Nat.le_add_right _ _)
/-- a whole number's text: is it one, and its size -/
def yWt (B : Nat → Int) (b : Int) (L : Nat) : Prop := yS1 B L 0 < L ∧ ∀ i, yS1 B L 0 ≤ i → i < L → yDv (B i) < b
def yWn (B : Nat → Int) (b L : Nat) : Nat := yuB b (fun j => yDv (B (yS1 B L 0 + j))) (L - yS1 B L 0)
theorem V_WR_digit {x : Int32} : (F_WR_digit x).toInt = yDv x.toInt := by
  have e48 : (48 : Int32).toInt = 48 := rfl
  have e57 : (57 : Int32).toInt = 57 := rfl
  have e97 : (97 : Int32).toInt = 97 := rfl
  have e122 : (122 : Int32).toInt = 122 := rfl
  have e65 : (65 : Int32).toInt = 65 := rfl
  have e90 : (90 : Int32).toInt = 90 := rfl
  have big : ¬ (48 ≤ x.toInt ∧ x.toInt ≤ 57) → ¬ (97 ≤ x.toInt ∧ x.toInt ≤ 122) → (F_WR_digit_J41 x).toInt = yDv x.toInt := fun h1 h2 => by
    unfold F_WR_digit_J41 yDv
    rw [if_neg h1, if_neg h2]
    by_cases c1 : x < 65
    · rw [if_pos c1]
      have := q_ltI c1
      rw [if_neg (by omega)]
      rfl
    · rw [if_neg c1]
      have := q_nltI c1
      by_cases c2 : (90 : Int32) < x
      · rw [if_pos c2]
        have := q_ltI c2
        rw [if_neg (by omega)]
        rfl
      · rw [if_neg c2]
        have := q_nltI c2
        rw [if_pos (by omega)]
        have w1 : (x - 65 : Int32).toInt = x.toInt - 65 := q_subI rfl rfl (by omega) (by omega)
        rw [q_addI (y := 10) w1 rfl (by omega) (by omega)]
        omega
  have mid : ¬ (48 ≤ x.toInt ∧ x.toInt ≤ 57) → (F_WR_digit_J19 x).toInt = yDv x.toInt := fun h1 => by
    unfold F_WR_digit_J19
    by_cases c1 : x < 97
    · rw [if_pos c1]
      have := q_ltI c1
      exact big h1 (by omega)
    · rw [if_neg c1]
      have := q_nltI c1
      by_cases c2 : (122 : Int32) < x
      · rw [if_pos c2]
        have := q_ltI c2
        exact big h1 (by omega)
      · rw [if_neg c2]
        have := q_nltI c2
        unfold yDv
        rw [if_neg h1, if_pos (by omega)]
        have w1 : (x - 97 : Int32).toInt = x.toInt - 97 := q_subI rfl rfl (by omega) (by omega)
        rw [q_addI (y := 10) w1 rfl (by omega) (by omega)]
        omega
  unfold F_WR_digit
  by_cases c1 : x < 48
  · rw [if_pos c1]
    have := q_ltI c1
    exact mid (by omega)
  · rw [if_neg c1]
    have := q_nltI c1
    by_cases c2 : (57 : Int32) < x
    · rw [if_pos c2]
      have := q_ltI c2
      exact mid (by omega)
    · rw [if_neg c2]
      have := q_nltI c2
      rw [q_subI rfl (show (48 : Int32).toInt = 48 from rfl) (by omega) (by omega), yDv_v (by omega)]
/-- what read leaves, of a text that is a number -/
def QV_wr (W : Nat → Int) (V : Nat) (x2 : Int32) (neg : Prop) (len : Int32) (y : Int32 × Int32 × Int32 × Int32 × Int32 × Int32 × Int32 × (Nat → Int32) × (Nat → Int32) × (Nat → Int32)) : Prop := (65536 ^ 128 ≤ V ∧ y.1 = 3 ∧ y.2.2.1 = len ∧ wRv y.2.2.2.2.2.2.2.1 y.2.2.2.2.2.2.2.2.1 W) ∨ (V < 65536 ^ 128 ∧ y.1 = 0 ∧ y.2.2.1 = 0 ∧ ∃ g : Int, ((neg ∧ g = -1) ∨ (¬ neg ∧ g = 1)) ∧ wRv y.2.2.2.2.2.2.2.1 y.2.2.2.2.2.2.2.2.1 (updW W x2.toNatClampNeg (g * (V : Int))))
theorem y_128 : (36 : Int) * 65536 ^ 128 + 36 < 65536 ^ 264 ∧ (0 : Int) < 65536 ^ 128 := by decide +kernel
theorem y_n128 {v : Nat} : ((v : Int) < 65536 ^ 128 ↔ v < 65536 ^ 128) ∧ ((65536 : Int) ^ 128 ≤ (v : Int) ↔ 65536 ^ 128 ≤ v) := by
  rw [show (65536 : Int) ^ 128 = ((65536 ^ 128 : Nat) : Int) from (Int.natCast_pow 65536 128).symm]
  exact ⟨Int.ofNat_lt, Int.ofNat_le⟩
theorem V_wr149 {K_F_WR_read_L90 : Int32 → Int32 → (Int32 × Int32 × Int32 × Int32 × Int32 × Int32 × Int32 × (Nat → Int32) × (Nat → Int32) × (Nat → Int32))} {x2 : Int32} {x3 : Int32} {t0_0 : Int32} {t0_1 : Int32} {t0_2 : Int32} {t0_3 : Int32} {t0_4 : Int32} {t0_5 : Int32} {t0_6 : Int32} {t1_0 : (Nat → Int32)} {t2_0 : (Nat → Int32)} {t3_0 : (Nat → Int32)} {t4_0 : (Nat → Int32)} {lx33 : Int32} {lx51 : Int32} {lx66 : Int32} {lx85 : Int32} {lx86 : Int32} {L s b : Nat} {W : Nat → Int} {B : Nat → Int} (hT : yTr t1_0 L B) (h2 : t0_2.toInt = (L : Int)) (hL : L ≤ 4100) (hx : 0 ≤ x2.toInt ∧ x2.toInt ≤ 10) (hr : wRv t2_0 t3_0 W) (hb : x3.toInt = (b : Int)) (hb2 : 2 ≤ b ∧ b ≤ 36) (h86 : lx86 = 0) (hL0 : 0 < L) (hd : ∀ i, s ≤ i → i < L → yDv (B i) < (b : Int)) : ∀ (n : Nat) (lx115 : Int32) (lx116 : (Nat → Int32)), ∀ i : Nat, lx115.toInt = (i : Int) → s ≤ i → i ≤ L → L < n + i → wK ((yuB b (fun j => yDv (B (s + j))) (i - s) : Nat) : Int) lx116 → ((yuB b (fun j => yDv (B (s + j))) (i - s) : Nat) : Int) < 65536 ^ 128 → QV_wr W (yuB b (fun j => yDv (B (s + j))) (L - s)) x2 (B 0 = 45) t0_2 (F_WR_read_L149 K_F_WR_read_L90 x2 x3 t0_0 t0_1 t0_2 t0_3 t0_4 t0_5 t0_6 t1_0 t2_0 t3_0 t4_0 lx33 lx51 lx66 lx85 lx86 n lx115 lx116) := by
  obtain ⟨u1, u2⟩ := y_128
  intro n
  induction n with
  | zero =>
    intro lx115 lx116 i h0 h1 h3 h4
    omega
  | succ n ih =>
    intro lx115 lx116 i h0 h1 h3 h4 hk hv
    have ic := q_clI h0 (by omega)
    rw [F_WR_read_L149.eq_2]
    by_cases c : t0_2 ≤ lx115
    · rw [if_pos c]
      have c := q_leI c
      have iL : i = L := by omega
      subst iL
      have z0 : (0 : Int32).toNatClampNeg = 0 := rfl
      have hB0 := hT 0 (by omega)
      rw [z0]
      have st := fun be => (R_storeV (x2 := x2) (t0_0 := lx86) (t0_1 := t0_1) (t0_2 := t0_2) (t0_3 := be) (t0_4 := t0_4) (t0_5 := t0_5) (t0_6 := t0_6) hx hr hk).2
      have fin : ∀ (be : Int32) (g : Int), ((B 0 = 45 ∧ g = -1) ∨ (¬ B 0 = 45 ∧ g = 1)) → sgI be ((yuB b (fun j => yDv (B (s + j))) (i - s) : Nat) : Int) = g * ((yuB b (fun j => yDv (B (s + j))) (i - s) : Nat) : Int) → QV_wr W (yuB b (fun j => yDv (B (s + j))) (i - s)) x2 (B 0 = 45) t0_2 ((F_WR_store x2 lx86 t0_1 t0_2 be t0_4 t0_5 t0_6 t2_0 t3_0 lx116).1, (F_WR_store x2 lx86 t0_1 t0_2 be t0_4 t0_5 t0_6 t2_0 t3_0 lx116).2.1, 0, (F_WR_store x2 lx86 t0_1 t0_2 be t0_4 t0_5 t0_6 t2_0 t3_0 lx116).2.2.2.1, (F_WR_store x2 lx86 t0_1 t0_2 be t0_4 t0_5 t0_6 t2_0 t3_0 lx116).2.2.2.2.1, (F_WR_store x2 lx86 t0_1 t0_2 be t0_4 t0_5 t0_6 t2_0 t3_0 lx116).2.2.2.2.2.1, (F_WR_store x2 lx86 t0_1 t0_2 be t0_4 t0_5 t0_6 t2_0 t3_0 lx116).2.2.2.2.2.2.1, (F_WR_store x2 lx86 t0_1 t0_2 be t0_4 t0_5 t0_6 t2_0 t3_0 lx116).2.2.2.2.2.2.2.1, (F_WR_store x2 lx86 t0_1 t0_2 be t0_4 t0_5 t0_6 t2_0 t3_0 lx116).2.2.2.2.2.2.2.2, lx116) := fun be g hg he => by
        have s1 := st be
        rcases s1.2 with ⟨a1, a2, a3⟩ | ⟨a1, a2, a3⟩
        · rw [he] at a3
          exact Or.inr ⟨y_n128.1.mp a1, by rw [← h86]; exact a2, rfl, g, hg, a3⟩
        · exact absurd a1 (by omega)
      by_cases d : t1_0 0 = 45
      · rw [if_pos d]
        unfold F_WR_read_c223_7
        refine fin 1 (-1) (Or.inl ⟨by rw [← hB0, d]; rfl, rfl⟩) ?_
        unfold sgI
        rw [if_neg (show ¬ (1 : Int32) = 0 by decide)]
        omega
      · rw [if_neg d]
        unfold F_WR_read_c223
        refine fin 0 1 (Or.inr ⟨fun h => d (Int32.toInt_inj.mp (by rw [hB0, h]; rfl)), rfl⟩) ?_
        unfold sgI
        rw [if_pos rfl, Int.one_mul]
    · rw [if_neg c]
      have c := q_nleI c
      have iL : i < L := by omega
      rw [show lx115.toNatClampNeg = i by omega]
      have hB := hT i iL
      have dg := V_WR_digit (x := t1_0 i)
      rw [hB] at dg
      have dn := yDv_nn (c := B i)
      have db := hd i h1 iL
      have gr := R_grow (N := 264) (y := x3) (x := F_WR_digit (t1_0 i)) (f := lx116) (by decide) (by decide) (by omega) (by omega) hk.1
      have e264 : (264 : Int32).toNatClampNeg = 264 := rfl
      have hkv : wV lx116 264 = ((yuB b (fun j => yDv (B (s + j))) (i - s) : Nat) : Int) := hk.2
      rw [e264, hkv, hb, dg] at gr
      have stp : yuB b (fun j => yDv (B (s + j))) (i + 1 - s) = yuB b (fun j => yDv (B (s + j))) (i - s) * b + (yDv (B i)).toNat := by
        rw [show i + 1 - s = (i - s) + 1 by omega]
        show yuB b (fun j => yDv (B (s + j))) (i - s) * b + (yDv (B (s + (i - s)))).toNat = _
        rw [show s + (i - s) = i by omega]
      have val : (b : Int) * ((yuB b (fun j => yDv (B (s + j))) (i - s) : Nat) : Int) + yDv (B i) = ((yuB b (fun j => yDv (B (s + j))) (i + 1 - s) : Nat) : Int) := by
        rw [stp, Int.mul_comm]
        omega
      have ub : ((yuB b (fun j => yDv (B (s + j))) (i + 1 - s) : Nat) : Int) < 65536 ^ 264 := by
        rw [← val]
        have m1 : (b : Int) * ((yuB b (fun j => yDv (B (s + j))) (i - s) : Nat) : Int) ≤ 36 * 65536 ^ 128 := Int.mul_le_mul (by omega) (by omega) (by omega) (by omega)
        omega
      have hk2 : wK ((yuB b (fun j => yDv (B (s + j))) (i + 1 - s) : Nat) : Int) (F_WR_grow 264 x3 (F_WR_digit (t1_0 i)) lx116) := by
        refine ⟨gr.1, ?_⟩
        have := gr.val (by rw [val]; omega) (by rw [val]; exact ub)
        rw [val] at this
        exact this
      have sz := w_szV hk2
      by_cases g : F_WR_size 264 (F_WR_grow 264 x3 (F_WR_digit (t1_0 i)) lx116) ≤ 128
      · rw [if_pos g]
        refine ih _ _ (i + 1) ?_ (by omega) (by omega) (by omega) hk2 (sz.1 g)
        rw [q_addI (y := 1) h0 rfl (by omega) (by omega)]
        omega
      · rw [if_neg g]
        have big := sz.2 g
        refine Or.inl ⟨?_, rfl, rfl, hr⟩
        have m := yuB_mono (b := b) (f := fun j => yDv (B (s + j))) (by omega) (n := i + 1 - s) (L - (i + 1))
        rw [show i + 1 - s + (L - (i + 1)) = L - s by omega] at m
        have b2 : 65536 ^ 128 ≤ yuB b (fun j => yDv (B (s + j))) (i + 1 - s) := y_n128.2.mp big
        exact Nat.le_trans b2 m
theorem V_wr90 {x2 : Int32} {x3 : Int32} {t0_0 : Int32} {t0_1 : Int32} {t0_2 : Int32} {t0_3 : Int32} {t0_4 : Int32} {t0_5 : Int32} {t0_6 : Int32} {t1_0 : (Nat → Int32)} {t2_0 : (Nat → Int32)} {t3_0 : (Nat → Int32)} {t4_0 : (Nat → Int32)} {lx33 : Int32} {lx51 : Int32} {lx66 : Int32} {L s b : Nat} {W : Nat → Int} {B : Nat → Int} (hT : yTr t1_0 L B) (h2 : t0_2.toInt = (L : Int)) (hL : L ≤ 4100) (hx : 0 ≤ x2.toInt ∧ x2.toInt ≤ 10) (hr : wRv t2_0 t3_0 W) (hb : x3.toInt = (b : Int)) (hb2 : 2 ≤ b ∧ b ≤ 36) (h51 : lx51.toInt = (s : Int)) (hs : yS1 B L 0 = s) : ∀ (n : Nat) (lx85 : Int32) (lx86 : Int32), ∀ i : Nat, lx85.toInt = (i : Int) → s ≤ i → i ≤ L → L < n + i → ((lx86 = 0 ∧ s < L ∧ ∀ j, s ≤ j → j < i → yDv (B j) < (b : Int)) ∨ (lx86 = 2 ∧ ¬ yWt B b L)) → (yWt B b L ∧ QV_wr W (yWn B b L) x2 (B 0 = 45) t0_2 (F_WR_read_L90 x2 x3 t0_0 t0_1 t0_2 t0_3 t0_4 t0_5 t0_6 t1_0 t2_0 t3_0 t4_0 lx33 lx51 lx66 n lx85 lx86)) ∨ (¬ yWt B b L ∧ (F_WR_read_L90 x2 x3 t0_0 t0_1 t0_2 t0_3 t0_4 t0_5 t0_6 t1_0 t2_0 t3_0 t4_0 lx33 lx51 lx66 n lx85 lx86).1 = 2 ∧ (F_WR_read_L90 x2 x3 t0_0 t0_1 t0_2 t0_3 t0_4 t0_5 t0_6 t1_0 t2_0 t3_0 t4_0 lx33 lx51 lx66 n lx85 lx86).2.2.1 = t0_2 ∧ wRv (F_WR_read_L90 x2 x3 t0_0 t0_1 t0_2 t0_3 t0_4 t0_5 t0_6 t1_0 t2_0 t3_0 t4_0 lx33 lx51 lx66 n lx85 lx86).2.2.2.2.2.2.2.1 (F_WR_read_L90 x2 x3 t0_0 t0_1 t0_2 t0_3 t0_4 t0_5 t0_6 t1_0 t2_0 t3_0 t4_0 lx33 lx51 lx66 n lx85 lx86).2.2.2.2.2.2.2.2.1 W) := by
  intro n
  induction n with
  | zero =>
    intro lx85 lx86 i h0 h1 h3 h4
    omega
  | succ n ih =>
    intro lx85 lx86 i h0 h1 h3 h4 h86
    have ic := q_clI h0 (by omega)
    rw [F_WR_read_L90.eq_2]
    by_cases c : t0_2 ≤ lx85
    · rw [if_pos c]
      have c := q_leI c
      have iL : i = L := by omega
      subst iL
      rcases h86 with ⟨z1, z2, z3⟩ | ⟨z1, z2⟩
      · rw [if_pos (show lx86 ≤ 0 by rw [z1]; decide)]
        refine Or.inl ⟨by unfold yWt; rw [hs]; exact ⟨z2, z3⟩, ?_⟩
        unfold yWn
        rw [hs]
        refine V_wr149 hT h2 hL hx hr hb hb2 z1 (by omega) z3 _ lx51 _ s h51 (Nat.le_refl _) h1 (by omega) ?_ ?_
        · rw [Nat.sub_self]
          exact R_clear4
        · rw [Nat.sub_self]
          exact y_128.2
      · rw [if_neg (show ¬ lx86 ≤ 0 by rw [z1]; decide)]
        exact Or.inr ⟨z2, z1, rfl, hr⟩
    · rw [if_neg c]
      have c := q_nleI c
      have iL : i < L := by omega
      rw [show lx85.toNatClampNeg = i by omega]
      have hB := hT i iL
      have dg := V_WR_digit (x := t1_0 i)
      rw [hB] at dg
      have ea : (lx85 + 1 : Int32).toInt = ((i + 1 : Nat) : Int) := by
        rw [q_addI (y := 1) h0 rfl (by omega) (by omega)]
        omega
      by_cases d : F_WR_digit (t1_0 i) < x3
      · rw [if_pos d]
        have d := q_ltI d
        refine ih _ _ (i + 1) ea (by omega) (by omega) (by omega) ?_
        rcases h86 with ⟨z1, z2, z3⟩ | z
        · refine Or.inl ⟨z1, z2, fun j a b => ?_⟩
          by_cases e : j = i
          · rw [e]
            omega
          · exact z3 j a (by omega)
        · exact Or.inr z
      · rw [if_neg d]
        have d := q_nltI d
        refine ih _ _ (i + 1) ea (by omega) (by omega) (by omega) (Or.inr ⟨rfl, fun h => ?_⟩)
        have := h.2 i (by omega) iL
        omega
theorem V_WR_read {x2 : Int32} {x3 : Int32} {t0_0 : Int32} {t0_1 : Int32} {t0_2 : Int32} {t0_3 : Int32} {t0_4 : Int32} {t0_5 : Int32} {t0_6 : Int32} {t1_0 : (Nat → Int32)} {t2_0 : (Nat → Int32)} {t3_0 : (Nat → Int32)} {t4_0 : (Nat → Int32)} {L b : Nat} {W : Nat → Int} {B : Nat → Int} (hT : yTr t1_0 L B) (h2 : t0_2.toInt = (L : Int)) (hL : L ≤ 4100) (hx : 0 ≤ x2.toInt ∧ x2.toInt ≤ 10) (hr : wRv t2_0 t3_0 W) (hb : x3.toInt = (b : Int)) (hb2 : 2 ≤ b ∧ b ≤ 36) : (yWt B b L ∧ QV_wr W (yWn B b L) x2 (B 0 = 45) t0_2 (F_WR_read x2 x3 t0_0 t0_1 t0_2 t0_3 t0_4 t0_5 t0_6 t1_0 t2_0 t3_0 t4_0)) ∨ (¬ yWt B b L ∧ (F_WR_read x2 x3 t0_0 t0_1 t0_2 t0_3 t0_4 t0_5 t0_6 t1_0 t2_0 t3_0 t4_0).1 = 2 ∧ (F_WR_read x2 x3 t0_0 t0_1 t0_2 t0_3 t0_4 t0_5 t0_6 t1_0 t2_0 t3_0 t4_0).2.2.1 = t0_2 ∧ wRv (F_WR_read x2 x3 t0_0 t0_1 t0_2 t0_3 t0_4 t0_5 t0_6 t1_0 t2_0 t3_0 t4_0).2.2.2.2.2.2.2.1 (F_WR_read x2 x3 t0_0 t0_1 t0_2 t0_3 t0_4 t0_5 t0_6 t1_0 t2_0 t3_0 t4_0).2.2.2.2.2.2.2.2.1 W) := by
  have e0 : (0 : Int32).toInt = 0 := rfl
  have e2 : (2 : Int32).toInt = 2 := rfl
  have e36 : (36 : Int32).toInt = 36 := rfl
  have e11 : (11 : Int32).toInt = 11 := rfl
  have no : F_WR_no x2 = 0 := by
    unfold F_WR_no
    rw [if_neg (fun h => by have := q_ltI h; omega), if_pos (Int32.lt_iff_toInt_lt.mpr (by omega))]
  unfold F_WR_read
  rw [no, if_pos rfl, if_neg (fun h => by have := q_ltI h; omega), if_pos (q_leI2 (by omega))]
  have J69 : ∀ (lx51 : Int32) (s : Nat), lx51.toInt = (s : Int) → yS1 B L 0 = s → ∀ lx33, (yWt B b L ∧ QV_wr W (yWn B b L) x2 (B 0 = 45) t0_2 (F_WR_read_J69 x2 x3 t0_0 t0_1 t0_2 t0_3 t0_4 t0_5 t0_6 t1_0 t2_0 t3_0 t4_0 lx33 lx51)) ∨ (¬ yWt B b L ∧ (F_WR_read_J69 x2 x3 t0_0 t0_1 t0_2 t0_3 t0_4 t0_5 t0_6 t1_0 t2_0 t3_0 t4_0 lx33 lx51).1 = 2 ∧ (F_WR_read_J69 x2 x3 t0_0 t0_1 t0_2 t0_3 t0_4 t0_5 t0_6 t1_0 t2_0 t3_0 t4_0 lx33 lx51).2.2.1 = t0_2 ∧ wRv (F_WR_read_J69 x2 x3 t0_0 t0_1 t0_2 t0_3 t0_4 t0_5 t0_6 t1_0 t2_0 t3_0 t4_0 lx33 lx51).2.2.2.2.2.2.2.1 (F_WR_read_J69 x2 x3 t0_0 t0_1 t0_2 t0_3 t0_4 t0_5 t0_6 t1_0 t2_0 t3_0 t4_0 lx33 lx51).2.2.2.2.2.2.2.2.1 W) := fun lx51 s h51 hs lx33 => by
    have sl := (yS1_le (B := B) (L := L) (s := 0) (by omega)).2
    unfold F_WR_read_J69
    by_cases c : lx51 = t0_2
    · rw [if_pos c]
      rw [c, h2] at h51
      unfold F_WR_read_J84
      exact V_wr90 hT h2 hL hx hr hb hb2 (by rw [c, h2]; exact h51) hs _ lx51 2 s (by rw [c, h2]; exact h51) (Nat.le_refl _) (by omega) (by rw [c, h2]; omega) (Or.inr ⟨rfl, fun h => by have := h.1; omega⟩)
    · rw [if_neg c]
      have sL : s < L := by
        have : s ≠ L := fun h => c (Int32.toInt_inj.mp (by rw [h51, h2, h]))
        omega
      unfold F_WR_read_J84
      exact V_wr90 hT h2 hL hx hr hb hb2 h51 hs _ lx51 0 s h51 (Nat.le_refl _) (by omega) (by omega) (Or.inl ⟨rfl, sL, fun j a b => by omega⟩)
  unfold F_WR_read_J24
  rw [if_pos (show (0 : Int32) ≤ 0 by decide)]
  have s0 : ¬ (0 < L ∧ (B 0 = 45 ∨ B 0 = 43)) → yS1 B L 0 = 0 := fun h => by
    unfold yS1
    rw [if_neg h]
  have s1 : (0 < L ∧ (B 0 = 45 ∨ B 0 = 43)) → yS1 B L 0 = 1 := fun h => by
    unfold yS1
    rw [if_pos h]
  have z0 : (0 : Int32).toNatClampNeg = 0 := rfl
  by_cases c1 : t0_2 ≤ 0
  · rw [if_pos c1]
    have c1 := q_leI c1
    unfold F_WR_read_J68
    exact J69 0 0 rfl (s0 (by omega)) _
  · rw [if_neg c1]
    have c1 := q_nleI c1
    have hB := hT 0 (by omega)
    rw [z0]
    by_cases c2 : t1_0 0 = 43
    · rw [if_pos c2]
      unfold F_WR_read_J64
      exact J69 1 1 rfl (s1 ⟨by omega, Or.inr (by rw [← hB, c2]; rfl)⟩) _
    · rw [if_neg c2]
      by_cases c3 : t1_0 0 = 45
      · rw [if_pos c3]
        unfold F_WR_read_J64
        exact J69 1 1 rfl (s1 ⟨by omega, Or.inl (by rw [← hB, c3]; rfl)⟩) _
      · rw [if_neg c3]
        unfold F_WR_read_J68
        refine J69 0 0 rfl (s0 (fun h => ?_)) _
        rcases h.2 with e | e
        · exact c3 (Int32.toInt_inj.mp (by rw [hB, e]; rfl))
        · exact c2 (Int32.toInt_inj.mp (by rw [hB, e]; rfl))
