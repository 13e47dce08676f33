/-! values, for whole: texts: the class's Reader: here, digitHere, takeSign, trimBlanks -/
theorem y_let : ∀ v : Fin 256, (v.val ||| 32) = if v.val / 32 % 2 = 1 then v.val else v.val + 32 := by decide +kernel
theorem y_or32 {c : Int32} {v : Nat} (h : c.toInt = (v : Int)) (hv : v < 256) : (c ||| 32).toInt = (((if v / 32 % 2 = 1 then v else v + 32) : Nat) : Int) := by
  have hn : c.toBitVec.toNat = v := by
    have hx : c.toBitVec.toInt = (v : Int) := h
    have := BitVec.toInt_eq_toNat_cond c.toBitVec
    have hl := c.toBitVec.isLt
    rw [hx] at this
    split at this <;> omega
  have h1 : (c ||| 32).toBitVec.toNat = if v / 32 % 2 = 1 then v else v + 32 := by
    rw [Int32.toBitVec_or, BitVec.toNat_or, hn]
    exact y_let ⟨v, hv⟩
  show (c ||| 32).toBitVec.toInt = _
  rw [BitVec.toInt_eq_toNat_of_lt (by rw [h1]; split <;> omega), h1]
theorem y_shlt {c : Nat → Int64} {i : Nat} : ySh c i < 256 := Nat.mod_lt _ (by decide)
/-- the bytes of a sheet as a row -/
def ySB (c : Nat → Int64) (i : Nat) : Int := ((ySh c i : Nat) : Int)
theorem ySB_b {c : Nat → Int64} {i : Nat} : 0 ≤ ySB c i ∧ ySB c i < 256 := by
  have := y_shlt (c := c) (i := i)
  unfold ySB
  omega
theorem y_atR {x : Int32} {L : Nat} {s : Int32} {t : Nat → Int64} {p : Nat} (hs : s.toInt = (L : Int)) (hL : L ≤ 4100) (h2 : x.toInt = (p : Int)) : (F_She_at 4100 513 4100 x.toInt64 s t).toInt = if p < L then ySB t p else 0 := by
  rw [V_She_at (R := 4100) (N := 513) (K := 4100) (n := L) (r := 4100) (i := (p : Int)) hs rfl hL (by rw [Int32.toInt_toInt64]; exact h2)]
  by_cases c : p < L
  · rw [if_pos c, if_pos ⟨by omega, by omega⟩]
    rfl
  · rw [if_neg c, if_neg (fun h => c (by omega))]
theorem V_R_here {t0_0 : Int64} {t0_1 : Int64} {t0_2 : Int32} {t0_3 : Int32} {t0_4 : Int32} {t0_5 : Int32} {t0_6 : Int32} {t0_7 : Int32} {t0_8 : Int32} {t0_9 : Int64} {t1_0 : Int32} {t2_0 : (Nat → Int64)} {L e p : Nat} (hs : t1_0.toInt = (L : Int)) (hL : L ≤ 4100) (h3 : t0_3.toInt = (e : Int)) (he : e ≤ L) (h2 : t0_2.toInt = (p : Int)) : (F_Rea_here t0_0 t0_1 t0_2 t0_3 t0_4 t0_5 t0_6 t0_7 t0_8 t0_9 t1_0 t2_0).toInt = if p < e then ySB t2_0 p else -1 := by
  unfold F_Rea_here
  by_cases c : t0_3 ≤ t0_2
  · rw [if_pos c]
    have := q_leI c
    rw [if_neg (by omega)]
    rfl
  · rw [if_neg c]
    have := q_nleI c
    rw [y_atR hs hL h2, if_pos (by omega), if_pos (by omega)]
/-- what a letter says, of a byte or of the end -/
theorem y_hL {c : Int32} {p e : Nat} {B : Nat → Int} (hB : ∀ i, 0 ≤ B i ∧ B i < 256) (h : c.toInt = if p < e then B p else -1) {x : Int32} {a b : Int} (hx : x.toInt = b) (hab : a = b - 32) (hb : 97 ≤ b ∧ b ≤ 122) : (c ||| 32 = x ↔ yAt B e p b a) := by
  unfold yAt
  by_cases d : p < e
  · rw [if_pos d] at h
    have := hB p
    have o := y_or32 (c := c) (v := (B p).toNat) (by omega) (by omega)
    constructor
    · intro k
      rw [k, hx] at o
      refine ⟨d, ?_⟩
      split at o <;> omega
    · intro k
      refine Int32.toInt_inj.mp ?_
      rw [o, hx]
      split <;> omega
  · rw [if_neg d] at h
    have hc : c = -1 := Int32.toInt_inj.mp h
    constructor
    · intro k
      rw [hc, show ((-1 : Int32) ||| 32) = -1 by decide] at k
      rw [← k, show (-1 : Int32).toInt = -1 from rfl] at hx
      omega
    · intro k
      exact absurd k.1 d
theorem V_R_digit {t0_0 : Int64} {t0_1 : Int64} {t0_2 : Int32} {t0_3 : Int32} {t0_4 : Int32} {t0_5 : Int32} {t0_6 : Int32} {t0_7 : Int32} {t0_8 : Int32} {t0_9 : Int64} {t1_0 : Int32} {t2_0 : (Nat → Int64)} {L e p : Nat} (hs : t1_0.toInt = (L : Int)) (hL : L ≤ 4100) (h3 : t0_3.toInt = (e : Int)) (he : e ≤ L) (h2 : t0_2.toInt = (p : Int)) : (F_Rea_digitHere t0_0 t0_1 t0_2 t0_3 t0_4 t0_5 t0_6 t0_7 t0_8 t0_9 t1_0 t2_0).toInt = if p < e then yDv (ySB t2_0 p) else 99 := by
  have hh := V_R_here (t0_0 := t0_0) (t0_1 := t0_1) (t0_4 := t0_4) (t0_5 := t0_5) (t0_6 := t0_6) (t0_7 := t0_7) (t0_8 := t0_8) (t0_9 := t0_9) (t2_0 := t2_0) hs hL h3 he h2
  have hB := ySB_b (c := t2_0) (i := p)
  have e48 : (48 : Int32).toInt = 48 := rfl
  have e57 : (57 : Int32).toInt = 57 := rfl
  have e97 : (97 : Int32).toInt = 97 := rfl
  have e122 : (122 : Int32).toInt = 122 := rfl
  have e99 : (99 : Int32).toInt = 99 := rfl
  unfold F_Rea_digitHere
  generalize F_Rea_here t0_0 t0_1 t0_2 t0_3 t0_4 t0_5 t0_6 t0_7 t0_8 t0_9 t1_0 t2_0 = c at hh ⊢
  generalize ySB t2_0 p = v at hh hB ⊢
  have letter : (p < e → ¬ (48 ≤ v ∧ v ≤ 57)) → (F_Rea_digitHere_J22 t0_0 t0_1 t0_2 t0_3 t0_4 t0_5 t0_6 t0_7 t0_8 t0_9 t1_0 t2_0 c).toInt = if p < e then yDv v else 99 := fun nd => by
    unfold F_Rea_digitHere_J22
    by_cases d : p < e
    · rw [if_pos d] at hh ⊢
      have o := y_or32 (c := c) (v := v.toNat) (by omega) (by omega)
      have nd := nd d
      unfold yDv
      rw [if_neg nd]
      generalize c ||| 32 = w at o ⊢
      by_cases g1 : w < 97
      · rw [if_pos g1]
        have g1 := q_ltI g1
        rw [if_neg (by split at o <;> omega), if_neg (by split at o <;> omega)]
        rfl
      · rw [if_neg g1]
        have g1 := q_nltI g1
        by_cases g2 : (122 : Int32) < w
        · rw [if_pos g2]
          have g2 := q_ltI g2
          rw [if_neg (by split at o <;> omega), if_neg (by split at o <;> omega)]
          rfl
        · rw [if_neg g2]
          have g2 := q_nltI g2
          have w1 : (w - 97 : Int32).toInt = w.toInt - 97 := q_subI rfl rfl (by omega) (by omega)
          rw [q_addI (y := 10) w1 rfl (by omega) (by omega)]
          split at o
          · rw [if_pos (by omega)]
            omega
          · rw [if_neg (by omega), if_pos (by omega)]
            omega
    · rw [if_neg d] at hh ⊢
      have hc : c = -1 := Int32.toInt_inj.mp hh
      rw [hc]
      rfl
  by_cases g1 : c < 48
  · rw [if_pos g1]
    have g1 := q_ltI g1
    exact letter (fun d => by rw [if_pos d] at hh; omega)
  · rw [if_neg g1]
    have g1 := q_nltI g1
    by_cases g2 : (57 : Int32) < c
    · rw [if_pos g2]
      have g2 := q_ltI g2
      exact letter (fun d => by rw [if_pos d] at hh; omega)
    · rw [if_neg g2]
      have g2 := q_nltI g2
      have d : p < e := by
        by_cases d : p < e
        · exact d
        · rw [if_neg d] at hh
          omega
      rw [if_pos d] at hh ⊢
      rw [q_subI (y := 48) hh rfl (by omega) (by omega), yDv_v (by omega)]
theorem V_R_sign {t0_0 : Int64} {t0_1 : Int64} {t0_2 : Int32} {t0_3 : Int32} {t0_4 : Int32} {t0_5 : Int32} {t0_6 : Int32} {t0_7 : Int32} {t0_8 : Int32} {t0_9 : Int64} {t1_0 : Int32} {t2_0 : (Nat → Int64)} {L e a : Nat} (hs : t1_0.toInt = (L : Int)) (hL : L ≤ 4100) (h3 : t0_3.toInt = (e : Int)) (he : e ≤ L) (h2 : t0_2.toInt = (a : Int)) : ∃ q g : Int32, (F_Rea_takeSign t0_0 t0_1 t0_2 t0_3 t0_4 t0_5 t0_6 t0_7 t0_8 t0_9 t1_0 t2_0) = (t0_0, t0_1, q, t0_3, g, t0_5, t0_6, t0_7, t0_8, t0_9) ∧ q.toInt = ((yS1 (ySB t2_0) e a : Nat) : Int) ∧ ((g = 0 ∧ ¬ yNg (ySB t2_0) e a) ∨ (g = 1 ∧ yNg (ySB t2_0) e a)) := by
  have hh := V_R_here (t0_0 := t0_0) (t0_1 := t0_1) (t0_4 := t0_4) (t0_5 := t0_5) (t0_6 := t0_6) (t0_7 := t0_7) (t0_8 := t0_8) (t0_9 := t0_9) (t2_0 := t2_0) hs hL h3 he h2
  unfold F_Rea_takeSign
  generalize F_Rea_here t0_0 t0_1 t0_2 t0_3 t0_4 t0_5 t0_6 t0_7 t0_8 t0_9 t1_0 t2_0 = c at hh ⊢
  have at' : ∀ {x : Int32} {v : Int}, x.toInt = v → 0 ≤ v → (c = x ↔ a < e ∧ ySB t2_0 a = v) := fun {x v} h1 h2 => by
    constructor
    · intro k
      rw [k, h1] at hh
      by_cases d : a < e
      · rw [if_pos d] at hh
        exact ⟨d, hh.symm⟩
      · rw [if_neg d] at hh
        omega
    · intro k
      rw [if_pos k.1, k.2] at hh
      exact Int32.toInt_inj.mp (by rw [hh, h1])
  have a45 := at' (x := 45) (v := 45) rfl (by decide)
  have a43 := at' (x := 43) (v := 43) rfl (by decide)
  have ea : a < e → (t0_2 + 1 : Int32).toInt = ((a + 1 : Nat) : Int) := fun h => by
    rw [q_addI (y := 1) h2 rfl (by omega) (by omega)]
    omega
  by_cases c1 : c = 45
  · rw [if_pos c1]
    have k := a45.mp c1
    unfold F_Rea_takeSign_J17
    rw [if_pos c1]
    refine ⟨_, 1, rfl, ?_, Or.inr ⟨rfl, k⟩⟩
    rw [ea k.1]
    unfold yS1
    rw [if_pos ⟨k.1, Or.inl k.2⟩]
  · rw [if_neg c1]
    unfold F_Rea_takeSign_J17
    rw [if_neg c1]
    by_cases c2 : c = 43
    · rw [if_pos c2]
      have k := a43.mp c2
      refine ⟨_, 0, rfl, ?_, Or.inl ⟨rfl, fun h => c1 (a45.mpr h)⟩⟩
      rw [ea k.1]
      unfold yS1
      rw [if_pos ⟨k.1, Or.inr k.2⟩]
    · rw [if_neg c2]
      refine ⟨_, 0, rfl, ?_, Or.inl ⟨rfl, fun h => c1 (a45.mpr h)⟩⟩
      rw [h2]
      unfold yS1
      rw [if_neg (fun h => h.2.elim (fun k => c1 (a45.mpr ⟨h.1, k⟩)) (fun k => c2 (a43.mpr ⟨h.1, k⟩)))]
/-- the end without the blanks before it -/
def yTe (B : Nat → Int) (L a e : Nat) : Prop := a ≤ e ∧ e ≤ L ∧ (∀ i, e ≤ i → i < L → B i ≤ 32) ∧ (e = a ∨ 32 < B (e - 1))
theorem V_tbE {K_F_Rea_trimBlanks_L0 : Int32 → (Int64 × Int64 × Int32 × Int32 × Int32 × Int32 × Int32 × Int32 × Int32 × Int64)} {t0_0 : Int64} {t0_1 : Int64} {t0_2 : Int32} {t0_3 : Int32} {t0_4 : Int32} {t0_5 : Int32} {t0_6 : Int32} {t0_7 : Int32} {t0_8 : Int32} {t0_9 : Int64} {t1_0 : Int32} {t2_0 : (Nat → Int64)} {lx19 : Int32} {L a : Nat} (hs : t1_0.toInt = (L : Int)) (hL : L ≤ 4100) (h19 : lx19.toInt = (a : Int)) : ∀ (n : Nat) (lx40 : Int32), ∀ i : Nat, lx40.toInt = (i : Int) → a ≤ i → i ≤ L → i - a < n → (∀ j, i ≤ j → j < L → ySB t2_0 j ≤ 32) → ∃ (e : Nat) (q : Int32), yTe (ySB t2_0) L a e ∧ q.toInt = (e : Int) ∧ (F_Rea_trimBlanks_L41 K_F_Rea_trimBlanks_L0 t0_0 t0_1 t0_2 t0_3 t0_4 t0_5 t0_6 t0_7 t0_8 t0_9 t1_0 t2_0 lx19 n lx40) = (t0_0, t0_1, lx19, q, t0_4, t0_5, t0_6, t0_7, t0_8, t0_9) := by
  have e32 : (32 : Int32).toInt = 32 := rfl
  intro n
  induction n with
  | zero =>
    intro lx40 i h0 h1 h2 h3
    omega
  | succ n ih =>
    intro lx40 i h0 h1 h2 h3 h4
    rw [F_Rea_trimBlanks_L41.eq_2]
    by_cases c : lx40 ≤ lx19
    · rw [if_pos c]
      have := q_leI c
      exact ⟨i, lx40, ⟨h1, h2, h4, Or.inl (by omega)⟩, h0, rfl⟩
    · rw [if_neg c]
      have := q_nleI c
      have em : (lx40 - 1 : Int32).toInt = ((i - 1 : Nat) : Int) := by
        rw [q_subI (y := 1) h0 rfl (by omega) (by omega)]
        omega
      have at' := y_atR (t := t2_0) hs hL em
      rw [if_pos (by omega)] at at'
      by_cases d : (32 : Int32) < F_She_at 4100 513 4100 ((lx40 - 1 : Int32).toInt64) t1_0 t2_0
      · rw [if_pos d]
        have := q_ltI d
        exact ⟨i, lx40, ⟨h1, h2, h4, Or.inr (by omega)⟩, h0, rfl⟩
      · rw [if_neg d]
        have := q_nltI d
        refine ih _ (i - 1) em (by omega) (by omega) (by omega) (fun j a b => ?_)
        by_cases k : j = i - 1
        · rw [k]
          omega
        · exact h4 j (by omega) b
theorem V_tbJ {K_F_Rea_trimBlanks_L0 : Int32 → (Int64 × Int64 × Int32 × Int32 × Int32 × Int32 × Int32 × Int32 × Int32 × Int64)} {t0_0 : Int64} {t0_1 : Int64} {t0_2 : Int32} {t0_3 : Int32} {t0_4 : Int32} {t0_5 : Int32} {t0_6 : Int32} {t0_7 : Int32} {t0_8 : Int32} {t0_9 : Int64} {t1_0 : Int32} {t2_0 : (Nat → Int64)} {lx19 : Int32} {L i : Nat} (hs : t1_0.toInt = (L : Int)) (hL : L ≤ 4100) (h3 : t0_3.toInt = (L : Int)) (h0 : lx19.toInt = (i : Int)) (hi : i ≤ L) (hb : yBl (ySB t2_0) L 0 i) : ∃ (a e : Nat) (p q : Int32), yBl (ySB t2_0) L 0 a ∧ yTe (ySB t2_0) L a e ∧ p.toInt = (a : Int) ∧ q.toInt = (e : Int) ∧ (F_Rea_trimBlanks_J41 K_F_Rea_trimBlanks_L0 t0_0 t0_1 t0_2 t0_3 t0_4 t0_5 t0_6 t0_7 t0_8 t0_9 t1_0 t2_0 lx19) = (t0_0, t0_1, p, q, t0_4, t0_5, t0_6, t0_7, t0_8, t0_9) := by
  unfold F_Rea_trimBlanks_J41
  obtain ⟨e, q, h1, h2, h4⟩ := V_tbE (K_F_Rea_trimBlanks_L0 := K_F_Rea_trimBlanks_L0) (t0_0 := t0_0) (t0_1 := t0_1) (t0_2 := t0_2) (t0_3 := t0_3) (t0_4 := t0_4) (t0_5 := t0_5) (t0_6 := t0_6) (t0_7 := t0_7) (t0_8 := t0_8) (t0_9 := t0_9) (t2_0 := t2_0) hs hL h0 ((t0_3.toInt - lx19.toInt).toNat + 1) t0_3 L h3 hi (Nat.le_refl _) (by omega) (fun j a b => by omega)
  exact ⟨i, e, lx19, q, hb, h1, h0, h2, h4⟩
theorem V_tbB {t0_0 : Int64} {t0_1 : Int64} {t0_2 : Int32} {t0_3 : Int32} {t0_4 : Int32} {t0_5 : Int32} {t0_6 : Int32} {t0_7 : Int32} {t0_8 : Int32} {t0_9 : Int64} {t1_0 : Int32} {t2_0 : (Nat → Int64)} {L : Nat} (hs : t1_0.toInt = (L : Int)) (hL : L ≤ 4100) (h3 : t0_3.toInt = (L : Int)) : ∀ (n : Nat) (lx19 : Int32), ∀ i : Nat, lx19.toInt = (i : Int) → i ≤ L → L < n + i → (∀ j, j < i → ySB t2_0 j ≤ 32) → ∃ (a e : Nat) (p q : Int32), yBl (ySB t2_0) L 0 a ∧ yTe (ySB t2_0) L a e ∧ p.toInt = (a : Int) ∧ q.toInt = (e : Int) ∧ (F_Rea_trimBlanks_L0 t0_0 t0_1 t0_2 t0_3 t0_4 t0_5 t0_6 t0_7 t0_8 t0_9 t1_0 t2_0 n lx19) = (t0_0, t0_1, p, q, t0_4, t0_5, t0_6, t0_7, t0_8, t0_9) := by
  have e32 : (32 : Int32).toInt = 32 := rfl
  intro n
  induction n with
  | zero =>
    intro lx19 i h0 h1 h2
    omega
  | succ n ih =>
    intro lx19 i h0 h1 h2 h4
    rw [F_Rea_trimBlanks_L0.eq_2]
    by_cases c : t0_3 ≤ lx19
    · rw [if_pos c]
      have := q_leI c
      exact V_tbJ hs hL h3 h0 h1 ⟨Nat.zero_le _, h1, fun j a b => h4 j b, Or.inl (by omega)⟩
    · rw [if_neg c]
      have := q_nleI c
      have at' := y_atR (t := t2_0) hs hL h0
      rw [if_pos (by omega)] at at'
      by_cases d : (32 : Int32) < F_She_at 4100 513 4100 lx19.toInt64 t1_0 t2_0
      · rw [if_pos d]
        have := q_ltI d
        exact V_tbJ hs hL h3 h0 h1 ⟨Nat.zero_le _, h1, fun j a b => h4 j b, Or.inr (by omega)⟩
      · rw [if_neg d]
        have := q_nltI d
        refine ih _ (i + 1) ?_ (by omega) (by omega) (fun j b => ?_)
        · rw [q_addI (y := 1) h0 rfl (by omega) (by omega)]
          omega
        · by_cases k : j = i
          · rw [k]
            omega
          · exact h4 j (by omega)
theorem V_R_trim {t0_0 : Int64} {t0_1 : Int64} {t0_2 : Int32} {t0_3 : Int32} {t0_4 : Int32} {t0_5 : Int32} {t0_6 : Int32} {t0_7 : Int32} {t0_8 : Int32} {t0_9 : Int64} {t1_0 : Int32} {t2_0 : (Nat → Int64)} {L : Nat} (hs : t1_0.toInt = (L : Int)) (hL : L ≤ 4100) (h2 : t0_2 = 0) (h3 : t0_3.toInt = (L : Int)) : ∃ (a e : Nat) (p q : Int32), yBl (ySB t2_0) L 0 a ∧ yTe (ySB t2_0) L a e ∧ p.toInt = (a : Int) ∧ q.toInt = (e : Int) ∧ (F_Rea_trimBlanks t0_0 t0_1 t0_2 t0_3 t0_4 t0_5 t0_6 t0_7 t0_8 t0_9 t1_0 t2_0) = (t0_0, t0_1, p, q, t0_4, t0_5, t0_6, t0_7, t0_8, t0_9) := by
  unfold F_Rea_trimBlanks
  exact V_tbB hs hL h3 _ t0_2 0 (by rw [h2]; rfl) (Nat.zero_le _) (by rw [h2]; have : (0 : Int32).toInt = 0 := rfl; omega) (fun j h => by omega)
