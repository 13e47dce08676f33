/-! values, for whole: a directive, parsed by the class -/
def yFs (B : Nat → Int) (n p : Nat) (f t : Int32) : Int32 × Int32 × Nat := match n with
  | 0 => (f, t, p)
  | n + 1 => if yFlg (B p) = 0 then (f, t, p) else yFs B n (p + 1) (f ||| yFlg (B p)) (if f &&& yFlg (B p) = 0 then t else 1)
theorem yFs_p {B : Nat → Int} : ∀ {n p : Nat} {f t : Int32}, p ≤ (yFs B n p f t).2.2 ∧ (yFs B n p f t).2.2 ≤ p + n ∧ ((yFs B n p f t).2.2 = p + n ∨ yFlg (B (yFs B n p f t).2.2) = 0) := by
  intro n
  induction n with
  | zero => intro p f t; exact ⟨Nat.le_refl _, Nat.le_refl _, Or.inl rfl⟩
  | succ n ih =>
    intro p f t
    unfold yFs
    by_cases h : yFlg (B p) = 0
    · rw [if_pos h]
      exact ⟨Nat.le_refl _, by show p ≤ p + (n + 1); omega, Or.inr h⟩
    · rw [if_neg h]
      have := ih (p := p + 1) (f := f ||| yFlg (B p)) (t := if f &&& yFlg (B p) = 0 then t else 1)
      refine ⟨by omega, by omega, ?_⟩
      rcases this.2.2 with q | q
      · left; omega
      · exact Or.inr q
theorem yFs_t {B : Nat → Int} : ∀ {n p : Nat} {f t : Int32}, (t = 0 ∨ t = 1) → ((yFs B n p f t).2.1 = 0 ∨ (yFs B n p f t).2.1 = 1) := by
  intro n
  induction n with
  | zero => intro p f t h; exact h
  | succ n ih =>
    intro p f t h
    unfold yFs
    by_cases g : yFlg (B p) = 0
    · rw [if_pos g]; exact h
    · rw [if_neg g]
      apply ih
      split
      · exact h
      · exact Or.inr rfl
/-- the pieces of a directive from place p on -/
def yHasI (B : Nat → Int) (L p e : Nat) : Prop := 0 < yFg0 B L p ∧ e < L ∧ B e = 36
noncomputable def yIdx (B : Nat → Int) (L p : Nat) : Nat := @ite _ (yHasI B L p (yDe B L p)) (Classical.propDecidable _) (yNm B L p) 0
noncomputable def yP1 (B : Nat → Int) (L p : Nat) : Nat := @ite _ (yHasI B L p (yDe B L p)) (Classical.propDecidable _) (yDe B L p + 1) p
noncomputable def zF3 (B : Nat → Int) (L p : Nat) : Int32 × Int32 × Nat := yFs B (L - yP1 B L p) (yP1 B L p) 0 0
noncomputable def yWd (B : Nat → Int) (L p : Nat) : Int := if 0 < yFg0 B L (zF3 B L p).2.2 then (yNm B L (zF3 B L p).2.2 : Int) else -1
noncomputable def yP3 (B : Nat → Int) (L p : Nat) : Nat := if 0 < yFg0 B L (zF3 B L p).2.2 then yDe B L (zF3 B L p).2.2 else (zF3 B L p).2.2
noncomputable def yPc (B : Nat → Int) (L p : Nat) : Int := if (yP3 B L p < L ∧ B (yP3 B L p) = 46) ∧ 0 ≤ yFg0 B L (yP3 B L p + 1) then (yNm B L (yP3 B L p + 1) : Int) else -1
noncomputable def yP4 (B : Nat → Int) (L p : Nat) : Nat := if (yP3 B L p < L ∧ B (yP3 B L p) = 46) ∧ 0 ≤ yFg0 B L (yP3 B L p + 1) then yDe B L (yP3 B L p + 1) else yP3 B L p
noncomputable def yCv (B : Nat → Int) (L p : Nat) : Int := if yP4 B L p < L then B (yP4 B L p) else -1
theorem yDe_b {B : Nat → Int} {L p : Nat} (h : p ≤ L) : p ≤ yDe B L p ∧ yDe B L p ≤ L := ⟨(yDe_s h).1, (yDe_s h).2.1⟩
theorem yP1_b {B : Nat → Int} {L p : Nat} (h : p ≤ L) : p ≤ yP1 B L p ∧ yP1 B L p ≤ L := by
  have := yDe_b (B := B) h
  unfold yP1
  split
  · rename_i q
    have := q.2.1
    omega
  · omega
theorem zF3_b {B : Nat → Int} {L p : Nat} (h : p ≤ L) : yP1 B L p ≤ (zF3 B L p).2.2 ∧ (zF3 B L p).2.2 ≤ L ∧ ((zF3 B L p).2.2 = L ∨ yFlg (B (zF3 B L p).2.2) = 0) := by
  have a := yP1_b (B := B) h
  have b := yFs_p (B := B) (n := L - yP1 B L p) (p := yP1 B L p) (f := 0) (t := 0)
  unfold zF3
  refine ⟨b.1, by omega, ?_⟩
  rcases b.2.2 with q | q
  · left; omega
  · exact Or.inr q
theorem yP3_b {B : Nat → Int} {L p : Nat} (h : p ≤ L) : (zF3 B L p).2.2 ≤ yP3 B L p ∧ yP3 B L p ≤ L := by
  have a := zF3_b (B := B) h
  have b := yDe_b (B := B) a.2.1
  unfold yP3
  split <;> omega
theorem yP4_b {B : Nat → Int} {L p : Nat} (h : p ≤ L) : yP3 B L p ≤ yP4 B L p ∧ yP4 B L p ≤ L := by
  have a := yP3_b (B := B) h
  unfold yP4
  split
  · rename_i q
    have b := yDe_b (B := B) (L := L) (p := yP3 B L p + 1) (by omega)
    omega
  · omega
theorem yNm_b {B : Nat → Int} {L p : Nat} : yNm B L p ≤ 9999 := Nat.min_le_right _ _
theorem yWd_b {B : Nat → Int} {L p : Nat} : -1 ≤ yWd B L p ∧ yWd B L p ≤ 9999 := by
  unfold yWd
  have := yNm_b (B := B) (L := L) (p := (zF3 B L p).2.2)
  split <;> omega
theorem yPc_b {B : Nat → Int} {L p : Nat} : -1 ≤ yPc B L p ∧ yPc B L p ≤ 9999 := by
  unfold yPc
  have := yNm_b (B := B) (L := L) (p := yP3 B L p + 1)
  split <;> omega
theorem Z_dfL {t0_0 : Int32} {t0_1 : Int32} {t0_2 : Int32} {t0_3 : Int32} {t0_4 : Int32} {t0_5 : Int32} {t0_6 : Int32} {t1_0 : Int32} {t2_0 : (Nat → Int64)} {L : Nat} (hs : t1_0.toInt = (L : Int)) (hL : L ≤ 4100) : ∀ (n : Nat) (lx17 : Int32) (lx18 : Int32) (lx19 : Int32), ∀ i : Nat, lx18.toInt = (i : Int) → i ≤ L → L < n + i → (lx19 = 0 ∨ lx19 = 1) → (F_Dir_takeFlags_L0 t0_0 t0_1 t0_2 t0_3 t0_4 t0_5 t0_6 t1_0 t2_0 n lx17 lx18 lx19).1 = t0_0 ∧ (F_Dir_takeFlags_L0 t0_0 t0_1 t0_2 t0_3 t0_4 t0_5 t0_6 t1_0 t2_0 n lx17 lx18 lx19).2.1 = (yFs (ySB t2_0) (L - i) i lx17 lx19).1 ∧ (F_Dir_takeFlags_L0 t0_0 t0_1 t0_2 t0_3 t0_4 t0_5 t0_6 t1_0 t2_0 n lx17 lx18 lx19).2.2.1 = t0_2 ∧ (F_Dir_takeFlags_L0 t0_0 t0_1 t0_2 t0_3 t0_4 t0_5 t0_6 t1_0 t2_0 n lx17 lx18 lx19).2.2.2.1 = t0_3 ∧ (F_Dir_takeFlags_L0 t0_0 t0_1 t0_2 t0_3 t0_4 t0_5 t0_6 t1_0 t2_0 n lx17 lx18 lx19).2.2.2.2.1 = t0_4 ∧ (F_Dir_takeFlags_L0 t0_0 t0_1 t0_2 t0_3 t0_4 t0_5 t0_6 t1_0 t2_0 n lx17 lx18 lx19).2.2.2.2.2.1.toInt = (((yFs (ySB t2_0) (L - i) i lx17 lx19).2.2 : Nat) : Int) ∧ (F_Dir_takeFlags_L0 t0_0 t0_1 t0_2 t0_3 t0_4 t0_5 t0_6 t1_0 t2_0 n lx17 lx18 lx19).2.2.2.2.2.2 = (yFs (ySB t2_0) (L - i) i lx17 lx19).2.1 := by
  intro n
  induction n with
  | zero =>
    intro _ _ _ i _ q1 q2
    omega
  | succ n ih =>
    intro lx17 lx18 lx19 i hi h1 h2 h3
    unfold F_Dir_takeFlags_L0
    by_cases c : t1_0 ≤ lx18
    · rw [if_pos c]
      have c' := q_leI c
      have : L - i = 0 := by omega
      rw [this]
      exact ⟨rfl, rfl, rfl, rfl, rfl, hi, rfl⟩
    · rw [if_neg c]
      have c' := q_nleI c
      have a := y_atR (t := t2_0) hs hL hi
      rw [← y_atpE, if_pos (by omega)] at a
      generalize F_She_at_p 4100 513 4100 lx18.toInt64 t1_0 t2_0 = ch at a ⊢
      have b : 0 ≤ ch.toInt ∧ ch.toInt ≤ 255 := by
        rw [a]
        have := y_shlt (c := t2_0) (i := i)
        show 0 ≤ ((ySh t2_0 i : Nat) : Int) ∧ ((ySh t2_0 i : Nat) : Int) ≤ 255
        omega
      have f := y_flgC b
      rw [a] at f
      obtain ⟨k, hk⟩ : ∃ k, L - i = k + 1 := ⟨L - i - 1, by omega⟩
      have hk2 : L - (i + 1) = k := by omega
      rw [hk]
      unfold yFs
      rcases f with ⟨f1, f2, f3⟩ | ⟨f1, f2⟩
      · rw [if_pos f1, if_neg f3, f2]
        have tw : (lx19 ||| F_Dir_has (yFlg (ySB t2_0 i)) t0_0 lx17 t0_2 t0_3 t0_4 lx18 lx19) = (if lx17 &&& yFlg (ySB t2_0 i) = 0 then lx19 else 1) := by
          unfold F_Dir_has
          by_cases z : lx17 &&& yFlg (ySB t2_0 i) = 0
          · rw [if_pos z, if_pos z]
            rcases h3 with h | h <;> rw [h] <;> decide
          · rw [if_neg z, if_neg z]
            rcases h3 with h | h <;> rw [h] <;> decide
        rw [tw]
        have r := ih (lx17 ||| yFlg (ySB t2_0 i)) (lx18 + 1) (if lx17 &&& yFlg (ySB t2_0 i) = 0 then lx19 else 1) (i + 1) (by rw [q_addI (y := 1) hi rfl (by omega) (by omega)]; omega) (by omega) (by omega) (by
          split
          · exact h3
          · exact Or.inr rfl)
        rw [hk2] at r
        exact r
      · rw [if_neg f1, if_pos f2]
        exact ⟨rfl, rfl, rfl, rfl, rfl, hi, rfl⟩
theorem V_diI {t0_0 : Int32} {t0_1 : Int32} {t0_2 : Int32} {t0_3 : Int32} {t0_4 : Int32} {t0_5 : Int32} {t0_6 : Int32} {t1_0 : Int32} {t2_0 : (Nat → Int64)} {L p : Nat} (hs : t1_0.toInt = (L : Int)) (hL : L ≤ 4100) (hp : p ≤ L) (h5 : t0_5.toInt = (p : Int)) : (F_Dir_takeIndex t0_0 t0_1 t0_2 t0_3 t0_4 t0_5 t0_6 t1_0 t2_0).1.toInt = (if yIdx (ySB t2_0) L p = 0 then -1 else (yIdx (ySB t2_0) L p : Int)) ∧ (F_Dir_takeIndex t0_0 t0_1 t0_2 t0_3 t0_4 t0_5 t0_6 t1_0 t2_0).2.1 = t0_1 ∧ (F_Dir_takeIndex t0_0 t0_1 t0_2 t0_3 t0_4 t0_5 t0_6 t1_0 t2_0).2.2.1 = t0_2 ∧ (F_Dir_takeIndex t0_0 t0_1 t0_2 t0_3 t0_4 t0_5 t0_6 t1_0 t2_0).2.2.2.1 = t0_3 ∧ (F_Dir_takeIndex t0_0 t0_1 t0_2 t0_3 t0_4 t0_5 t0_6 t1_0 t2_0).2.2.2.2.1 = t0_4 ∧ (F_Dir_takeIndex t0_0 t0_1 t0_2 t0_3 t0_4 t0_5 t0_6 t1_0 t2_0).2.2.2.2.2.1.toInt = ((yP1 (ySB t2_0) L p : Nat) : Int) ∧ (F_Dir_takeIndex t0_0 t0_1 t0_2 t0_3 t0_4 t0_5 t0_6 t1_0 t2_0).2.2.2.2.2.2 = t0_6 := by
  have e0 : (0 : Int32).toInt = 0 := rfl
  have em : (-1 : Int32).toInt = -1 := rfl
  have e36 : (36 : Int32).toInt = 36 := rfl
  have f := V_figAt (x2 := t0_5) (t1_0 := t2_0) hs hL h5
  unfold F_Dir_takeIndex
  by_cases c : F_Dir_figureAt t0_5 t1_0 t2_0 ≤ 0
  · rw [if_pos c]
    have c' := q_leI c
    have no : ¬ yHasI (ySB t2_0) L p (yDe (ySB t2_0) L p) := fun z => by have := z.1; omega
    unfold F_Dir_takeIndex_J25 yIdx yP1
    rw [if_pos rfl, if_neg no, if_neg no, if_pos rfl]
    exact ⟨rfl, rfl, rfl, rfl, rfl, h5, rfl⟩
  · rw [if_neg c]
    have c' := q_nleI c
    obtain ⟨r1, r2, r3, r4, r5, r6, r7, r8⟩ := V_dtn (t0_0 := t0_0) (t0_1 := t0_1) (t0_2 := t0_2) (t0_3 := t0_3) (t0_4 := t0_4) (t0_6 := t0_6) (t2_0 := t2_0) hs hL hp h5
    revert r1 r2 r3 r4 r5 r6 r7 r8
    generalize F_Dir_takeNumber t0_0 t0_1 t0_2 t0_3 t0_4 t0_5 t0_6 t1_0 t2_0 = q
    intro r1 r2 r3 r4 r5 r6 r7 r8
    unfold F_Dir_takeIndex_c18 F_Dir_takeIndex_J25
    have n1 : ¬ q.1 = -1 := fun z => by rw [z] at r1; omega
    rw [if_neg n1]
    have a := y_atR (t := t2_0) hs hL r7
    rw [← y_atpE] at a
    generalize F_She_at_p 4100 513 4100 q.2.2.2.2.2.2.1.toInt64 t1_0 t2_0 = ch at a ⊢
    have pos : 1 ≤ yNm (ySB t2_0) L p := by
      have f1 : 0 < yFg0 (ySB t2_0) L p := by omega
      have w : p < L ∧ 48 ≤ ySB t2_0 p ∧ ySB t2_0 p ≤ 57 := by
        unfold yFg0 at f1
        by_cases w : p < L ∧ 48 ≤ ySB t2_0 p ∧ ySB t2_0 p ≤ 57
        · exact w
        · rw [if_neg w] at f1; omega
      unfold yFg0 at f1
      rw [if_pos w] at f1
      have d := yDe_s (B := ySB t2_0) hp
      have lt : p < yDe (ySB t2_0) L p := by
        rcases Nat.lt_or_ge p (yDe (ySB t2_0) L p) with z | z
        · exact z
        · have e : yDe (ySB t2_0) L p = p := by have := d.1; omega
          have d4 := d.2.2.2
          rw [e] at d4
          rcases d4 with z | z
          · omega
          · exact absurd w.2 z
      have mono : ∀ m : Nat, 1 ≤ m → 1 ≤ yDx (ySB t2_0) p m := by
        intro m hm
        induction m with
        | zero => omega
        | succ m ih =>
          rw [yDx_s]
          rcases Nat.eq_zero_or_pos m with z | z
          · rw [z]
            show 1 ≤ 0 * 10 + (ySB t2_0 (p + 0) - 48).toNat
            rw [Nat.add_zero]
            omega
          · have := ih z
            omega
      have := mono (yDe (ySB t2_0) L p - p) (by omega)
      unfold yNm
      omega
    by_cases g : ch = 36
    · rw [if_pos g]
      have g' := q_eqI g
      have lt : yDe (ySB t2_0) L p < L := by
        by_cases z : yDe (ySB t2_0) L p < L
        · exact z
        · rw [if_neg z] at a; omega
      rw [if_pos lt] at a
      have has : yHasI (ySB t2_0) L p (yDe (ySB t2_0) L p) := ⟨by omega, lt, by omega⟩
      unfold yIdx yP1
      rw [if_pos has, if_pos has, if_neg (by omega)]
      refine ⟨r1, r3, r4, r5, r6, ?_, r8⟩
      show (q.2.2.2.2.2.2.1 + 1).toInt = _
      rw [q_addI (y := 1) r7 rfl (by omega) (by omega)]
      omega
    · rw [if_neg g]
      have g' := q_neI g
      have no : ¬ yHasI (ySB t2_0) L p (yDe (ySB t2_0) L p) := fun z => by
        rw [if_pos z.2.1] at a
        have := z.2.2
        omega
      unfold yIdx yP1
      rw [if_neg no, if_neg no, if_pos rfl]
      exact ⟨rfl, r3, r4, r5, r6, h5, r8⟩
def QV_dir (B : Nat → Int) (L p : Nat) (ix fl wd pr cv pl tw : Int32) : Prop := ix.toInt = (if yIdx B L p = 0 then -1 else (yIdx B L p : Int)) ∧ fl = (zF3 B L p).1 ∧ wd.toInt = yWd B L p ∧ pr.toInt = yPc B L p ∧ cv.toInt = yCv B L p ∧ pl.toInt = ((yP4 B L p : Nat) : Int) + 1 ∧ tw = (zF3 B L p).2.1
theorem V_dp101 {x2 : Int32} {t0_0 : Int32} {t0_1 : Int32} {t0_2 : Int32} {t0_3 : Int32} {t0_4 : Int32} {t0_5 : Int32} {t0_6 : Int32} {t1_0 : Int32} {t2_0 : (Nat → Int64)} {p49 : (Int32 × Int32 × Int32 × Int32 × Int32 × Int32 × Int32)} {p86 : (Int32 × Int32 × Int32 × Int32 × Int32 × Int32 × Int32)} {lx107 : Int32} {lx108 : Int32} {lx109 : Int32} {lx110 : Int32} {lx111 : Int32} {lx112 : Int32} {lx113 : Int32} {lx114 : Int32} {lx157 : Int32} {lx158 : Int32} {lx159 : Int32} {lx160 : Int32} {lx161 : Int32} {lx162 : Int32} {lx163 : Int32} {L p : Nat} (hs : t1_0.toInt = (L : Int)) (hL : L ≤ 4100) (hp : p ≤ L) (h1 : lx157.toInt = (if yIdx (ySB t2_0) L p = 0 then -1 else (yIdx (ySB t2_0) L p : Int))) (h2 : lx158 = (zF3 (ySB t2_0) L p).1) (h3 : lx159.toInt = yWd (ySB t2_0) L p) (h4 : lx160.toInt = yPc (ySB t2_0) L p) (h5 : lx162.toInt = ((yP4 (ySB t2_0) L p : Nat) : Int)) (h6 : lx163 = (zF3 (ySB t2_0) L p).2.1) : QV_dir (ySB t2_0) L p (F_Dir_parse_J101 x2 t0_0 t0_1 t0_2 t0_3 t0_4 t0_5 t0_6 t1_0 t2_0 p49 p86 lx107 lx108 lx109 lx110 lx111 lx112 lx113 lx114 lx157 lx158 lx159 lx160 lx161 lx162 lx163).1 (F_Dir_parse_J101 x2 t0_0 t0_1 t0_2 t0_3 t0_4 t0_5 t0_6 t1_0 t2_0 p49 p86 lx107 lx108 lx109 lx110 lx111 lx112 lx113 lx114 lx157 lx158 lx159 lx160 lx161 lx162 lx163).2.1 (F_Dir_parse_J101 x2 t0_0 t0_1 t0_2 t0_3 t0_4 t0_5 t0_6 t1_0 t2_0 p49 p86 lx107 lx108 lx109 lx110 lx111 lx112 lx113 lx114 lx157 lx158 lx159 lx160 lx161 lx162 lx163).2.2.1 (F_Dir_parse_J101 x2 t0_0 t0_1 t0_2 t0_3 t0_4 t0_5 t0_6 t1_0 t2_0 p49 p86 lx107 lx108 lx109 lx110 lx111 lx112 lx113 lx114 lx157 lx158 lx159 lx160 lx161 lx162 lx163).2.2.2.1 (F_Dir_parse_J101 x2 t0_0 t0_1 t0_2 t0_3 t0_4 t0_5 t0_6 t1_0 t2_0 p49 p86 lx107 lx108 lx109 lx110 lx111 lx112 lx113 lx114 lx157 lx158 lx159 lx160 lx161 lx162 lx163).2.2.2.2.1 (F_Dir_parse_J101 x2 t0_0 t0_1 t0_2 t0_3 t0_4 t0_5 t0_6 t1_0 t2_0 p49 p86 lx107 lx108 lx109 lx110 lx111 lx112 lx113 lx114 lx157 lx158 lx159 lx160 lx161 lx162 lx163).2.2.2.2.2.1 (F_Dir_parse_J101 x2 t0_0 t0_1 t0_2 t0_3 t0_4 t0_5 t0_6 t1_0 t2_0 p49 p86 lx107 lx108 lx109 lx110 lx111 lx112 lx113 lx114 lx157 lx158 lx159 lx160 lx161 lx162 lx163).2.2.2.2.2.2 := by
  have b := yP4_b (B := ySB t2_0) hp
  have ad : (lx162 + 1).toInt = ((yP4 (ySB t2_0) L p : Nat) : Int) + 1 := q_addI (y := 1) h5 rfl (by omega) (by omega)
  unfold F_Dir_parse_J101
  by_cases c : t1_0 ≤ lx162
  · rw [if_pos c]
    have c' := q_leI c
    refine ⟨h1, h2, h3, h4, ?_, ad, h6⟩
    unfold yCv
    rw [if_neg (by omega)]
    rfl
  · rw [if_neg c]
    have c' := q_nleI c
    refine ⟨h1, h2, h3, h4, ?_, ad, h6⟩
    have a := y_atR (t := t2_0) hs hL h5
    rw [← y_atpE] at a
    unfold yCv
    rw [if_pos (by omega)] at a ⊢
    exact a
theorem V_dp45 {x2 : Int32} {t0_0 : Int32} {t0_1 : Int32} {t0_2 : Int32} {t0_3 : Int32} {t0_4 : Int32} {t0_5 : Int32} {t0_6 : Int32} {t1_0 : Int32} {t2_0 : (Nat → Int64)} {p49 : (Int32 × Int32 × Int32 × Int32 × Int32 × Int32 × Int32)} {p86 : (Int32 × Int32 × Int32 × Int32 × Int32 × Int32 × Int32)} {lx107 : Int32} {lx108 : Int32} {lx109 : Int32} {lx110 : Int32} {lx111 : Int32} {lx112 : Int32} {lx113 : Int32} {lx114 : Int32} {L p : Nat} (hs : t1_0.toInt = (L : Int)) (hL : L ≤ 4100) (hp : p ≤ L) (h1 : lx108.toInt = (if yIdx (ySB t2_0) L p = 0 then -1 else (yIdx (ySB t2_0) L p : Int))) (h2 : lx109 = (zF3 (ySB t2_0) L p).1) (h3 : lx107.toInt = yWd (ySB t2_0) L p) (h5 : lx113.toInt = ((yP3 (ySB t2_0) L p : Nat) : Int)) (h6 : lx114 = (zF3 (ySB t2_0) L p).2.1) : QV_dir (ySB t2_0) L p (F_Dir_parse_J45 x2 t0_0 t0_1 t0_2 t0_3 t0_4 t0_5 t0_6 t1_0 t2_0 p49 p86 lx107 lx108 lx109 lx110 lx111 lx112 lx113 lx114).1 (F_Dir_parse_J45 x2 t0_0 t0_1 t0_2 t0_3 t0_4 t0_5 t0_6 t1_0 t2_0 p49 p86 lx107 lx108 lx109 lx110 lx111 lx112 lx113 lx114).2.1 (F_Dir_parse_J45 x2 t0_0 t0_1 t0_2 t0_3 t0_4 t0_5 t0_6 t1_0 t2_0 p49 p86 lx107 lx108 lx109 lx110 lx111 lx112 lx113 lx114).2.2.1 (F_Dir_parse_J45 x2 t0_0 t0_1 t0_2 t0_3 t0_4 t0_5 t0_6 t1_0 t2_0 p49 p86 lx107 lx108 lx109 lx110 lx111 lx112 lx113 lx114).2.2.2.1 (F_Dir_parse_J45 x2 t0_0 t0_1 t0_2 t0_3 t0_4 t0_5 t0_6 t1_0 t2_0 p49 p86 lx107 lx108 lx109 lx110 lx111 lx112 lx113 lx114).2.2.2.2.1 (F_Dir_parse_J45 x2 t0_0 t0_1 t0_2 t0_3 t0_4 t0_5 t0_6 t1_0 t2_0 p49 p86 lx107 lx108 lx109 lx110 lx111 lx112 lx113 lx114).2.2.2.2.2.1 (F_Dir_parse_J45 x2 t0_0 t0_1 t0_2 t0_3 t0_4 t0_5 t0_6 t1_0 t2_0 p49 p86 lx107 lx108 lx109 lx110 lx111 lx112 lx113 lx114).2.2.2.2.2.2 := by
  have e0 : (0 : Int32).toInt = 0 := rfl
  have e46 : (46 : Int32).toInt = 46 := rfl
  have b := yP3_b (B := ySB t2_0) hp
  have a := y_atR (t := t2_0) hs hL h5
  rw [← y_atpE] at a
  have ad : (lx113 + 1).toInt = ((yP3 (ySB t2_0) L p + 1 : Nat) : Int) := by
    rw [q_addI (y := 1) h5 rfl (by omega) (by omega)]
    omega
  have f := V_figAt (x2 := lx113 + 1) (t1_0 := t2_0) hs hL ad
  unfold F_Dir_parse_J45
  generalize F_She_at_p 4100 513 4100 lx113.toInt64 t1_0 t2_0 = ch at a ⊢
  have noC : ¬ ((yP3 (ySB t2_0) L p < L ∧ ySB t2_0 (yP3 (ySB t2_0) L p) = 46) ∧ 0 ≤ yFg0 (ySB t2_0) L (yP3 (ySB t2_0) L p + 1)) → yPc (ySB t2_0) L p = -1 ∧ yP4 (ySB t2_0) L p = yP3 (ySB t2_0) L p := by
    intro z
    unfold yPc yP4
    rw [if_neg z, if_neg z]
    exact ⟨rfl, rfl⟩
  by_cases g : ch = 46
  · rw [if_pos g]
    have g' := q_eqI g
    have lt : yP3 (ySB t2_0) L p < L := by
      by_cases z : yP3 (ySB t2_0) L p < L
      · exact z
      · rw [if_neg z] at a; omega
    rw [if_pos lt] at a
    by_cases c : F_Dir_figureAt (lx113 + 1) t1_0 t2_0 < 0
    · rw [if_pos c]
      have c' := q_ltI c
      obtain ⟨z1, z2⟩ := noC (fun z => by have := z.2; omega)
      exact V_dp101 hs hL hp h1 h2 h3 (by rw [z1]; rfl) (by rw [z2]; exact h5) h6
    · rw [if_neg c]
      have c' := q_nltI c
      have yes : (yP3 (ySB t2_0) L p < L ∧ ySB t2_0 (yP3 (ySB t2_0) L p) = 46) ∧ 0 ≤ yFg0 (ySB t2_0) L (yP3 (ySB t2_0) L p + 1) := ⟨⟨lt, by omega⟩, by omega⟩
      obtain ⟨r1, r2, r3, r4, r5, r6, r7, r8⟩ := V_dtn (t0_0 := lx108) (t0_1 := lx109) (t0_2 := lx107) (t0_3 := -1) (t0_4 := lx112) (t0_5 := lx113 + 1) (t0_6 := lx114) (t2_0 := t2_0) hs hL (p := yP3 (ySB t2_0) L p + 1) (by omega) ad
      revert r1 r2 r3 r4 r5 r6 r7 r8
      generalize F_Dir_takeNumber lx108 lx109 lx107 (-1) lx112 (lx113 + 1) lx114 t1_0 t2_0 = q
      intro r1 r2 r3 r4 r5 r6 r7 r8
      unfold F_Dir_parse_c95
      refine V_dp101 hs hL hp (by rw [r2]; exact h1) (by rw [r3]; exact h2) (by rw [r4]; exact h3) ?_ ?_ (by rw [r8]; exact h6)
      · unfold yPc
        rw [if_pos yes]
        exact r1
      · unfold yP4
        rw [if_pos yes]
        exact r7
  · rw [if_neg g]
    have g' := q_neI g
    obtain ⟨z1, z2⟩ := noC (fun z => by
      rw [if_pos z.1.1] at a
      have := z.1.2
      omega)
    exact V_dp101 hs hL hp h1 h2 h3 (by rw [z1]; rfl) (by rw [z2]; exact h5) h6
theorem V_parse {x2 : Int32} {t0_0 : Int32} {t0_1 : Int32} {t0_2 : Int32} {t0_3 : Int32} {t0_4 : Int32} {t0_5 : Int32} {t0_6 : Int32} {t1_0 : Int32} {t2_0 : (Nat → Int64)} {L a : Nat} (hs : t1_0.toInt = (L : Int)) (hL : L ≤ 4100) (ha : a < L) (hx : x2.toInt = (a : Int)) : QV_dir (ySB t2_0) L (a + 1) (F_Dir_parse x2 t0_0 t0_1 t0_2 t0_3 t0_4 t0_5 t0_6 t1_0 t2_0).1 (F_Dir_parse x2 t0_0 t0_1 t0_2 t0_3 t0_4 t0_5 t0_6 t1_0 t2_0).2.1 (F_Dir_parse x2 t0_0 t0_1 t0_2 t0_3 t0_4 t0_5 t0_6 t1_0 t2_0).2.2.1 (F_Dir_parse x2 t0_0 t0_1 t0_2 t0_3 t0_4 t0_5 t0_6 t1_0 t2_0).2.2.2.1 (F_Dir_parse x2 t0_0 t0_1 t0_2 t0_3 t0_4 t0_5 t0_6 t1_0 t2_0).2.2.2.2.1 (F_Dir_parse x2 t0_0 t0_1 t0_2 t0_3 t0_4 t0_5 t0_6 t1_0 t2_0).2.2.2.2.2.1 (F_Dir_parse x2 t0_0 t0_1 t0_2 t0_3 t0_4 t0_5 t0_6 t1_0 t2_0).2.2.2.2.2.2 := by
  have e0 : (0 : Int32).toInt = 0 := rfl
  have hp : a + 1 ≤ L := ha
  have ad : (x2 + 1).toInt = ((a + 1 : Nat) : Int) := by
    rw [q_addI (y := 1) hx rfl (by omega) (by omega)]
    omega
  unfold F_Dir_parse
  obtain ⟨i1, i2, i3, i4, i5, i6, i7⟩ := V_diI (t0_0 := t0_0) (t0_1 := 0) (t0_2 := t0_2) (t0_3 := t0_3) (t0_4 := t0_4) (t0_5 := x2 + 1) (t0_6 := 0) (t2_0 := t2_0) hs hL hp ad
  revert i1 i2 i3 i4 i5 i6 i7
  generalize F_Dir_takeIndex t0_0 0 t0_2 t0_3 t0_4 (x2 + 1) 0 t1_0 t2_0 = p
  intro i1 i2 i3 i4 i5 i6 i7
  unfold F_Dir_parse_c18
  have b1 := yP1_b (B := ySB t2_0) hp
  have fl : ∀ q, q = F_Dir_takeFlags p.1 p.2.1 p.2.2.1 p.2.2.2.1 p.2.2.2.2.1 p.2.2.2.2.2.1 p.2.2.2.2.2.2 t1_0 t2_0 → q.1 = p.1 ∧ q.2.1 = (zF3 (ySB t2_0) L (a + 1)).1 ∧ q.2.2.2.2.2.1.toInt = (((zF3 (ySB t2_0) L (a + 1)).2.2 : Nat) : Int) ∧ q.2.2.2.2.2.2 = (zF3 (ySB t2_0) L (a + 1)).2.1 := by
    intro q hq
    rw [hq]
    unfold F_Dir_takeFlags
    have r := Z_dfL (t0_0 := p.1) (t0_1 := p.2.1) (t0_2 := p.2.2.1) (t0_3 := p.2.2.2.1) (t0_4 := p.2.2.2.2.1) (t0_5 := p.2.2.2.2.2.1) (t0_6 := p.2.2.2.2.2.2) (t2_0 := t2_0) hs hL ((4100 - p.2.2.2.2.2.1.toInt).toNat + 1) p.2.1 p.2.2.2.2.2.1 p.2.2.2.2.2.2 (yP1 (ySB t2_0) L (a + 1)) i6 b1.2 (by omega) (Or.inl i7)
    rw [i2, i7] at r
    rw [i2, i7]
    exact ⟨r.1, r.2.1, r.2.2.2.2.2.1, r.2.2.2.2.2.2⟩
  generalize hq : F_Dir_takeFlags p.1 p.2.1 p.2.2.1 p.2.2.2.1 p.2.2.2.2.1 p.2.2.2.2.2.1 p.2.2.2.2.2.2 t1_0 t2_0 = q
  obtain ⟨f1, f2, f3, f4⟩ := fl q hq.symm
  unfold F_Dir_parse_c22
  have b2 := zF3_b (B := ySB t2_0) hp
  have f := V_figAt (x2 := q.2.2.2.2.2.1) (t1_0 := t2_0) hs hL f3
  by_cases c : F_Dir_figureAt q.2.2.2.2.2.1 t1_0 t2_0 ≤ 0
  · rw [if_pos c]
    have c' := q_leI c
    refine V_dp45 hs hL hp (by rw [f1]; exact i1) f2 ?_ ?_ f4
    · unfold yWd
      rw [if_neg (by omega)]
      rfl
    · unfold yP3
      rw [if_neg (by omega)]
      exact f3
  · rw [if_neg c]
    have c' := q_nleI c
    obtain ⟨r1, r2, r3, r4, r5, r6, r7, r8⟩ := V_dtn (t0_0 := q.1) (t0_1 := q.2.1) (t0_2 := q.2.2.1) (t0_3 := q.2.2.2.1) (t0_4 := q.2.2.2.2.1) (t0_5 := q.2.2.2.2.2.1) (t0_6 := q.2.2.2.2.2.2) (t2_0 := t2_0) hs hL b2.2.1 f3
    revert r1 r2 r3 r4 r5 r6 r7 r8
    generalize F_Dir_takeNumber q.1 q.2.1 q.2.2.1 q.2.2.2.1 q.2.2.2.2.1 q.2.2.2.2.2.1 q.2.2.2.2.2.2 t1_0 t2_0 = s
    intro r1 r2 r3 r4 r5 r6 r7 r8
    unfold F_Dir_parse_c38
    refine V_dp45 hs hL hp (by rw [r2, f1]; exact i1) (by rw [r3]; exact f2) ?_ ?_ (by rw [r8]; exact f4)
    · unfold yWd
      rw [if_pos (by omega)]
      exact r1
    · unfold yP3
      rw [if_pos (by omega)]
      exact r7
