/-! values, for whole: what conversions are one of; numbers in a format -/
theorem y_c256 {c : Int32} (h : 0 ≤ c.toInt ∧ c.toInt ≤ 255) : ∃ n : Nat, n < 256 ∧ c = Int32.ofNat n := by
  refine ⟨c.toInt.toNat, by omega, ?_⟩
  apply Int32.toInt_inj.mp
  rw [Int32.toInt_ofNat_of_lt (by omega)]
  omega
def yO1 : List Int32 := [98, 66, 115, 83, 99, 67, 100, 111, 120, 88, 102, 101, 69, 103, 71, 37, 110]
theorem y_one1 {a0 a1 a2 a3 c a5 a6 : Int32} (h : 0 ≤ c.toInt ∧ c.toInt ≤ 255) : F_Dir_isOneOf_1 a0 a1 a2 a3 c a5 a6 = if c ∈ yO1 then 1 else 0 := by
  have e : F_Dir_isOneOf_1 a0 a1 a2 a3 c a5 a6 = F_Dir_isOneOf_1 0 0 0 0 c 0 0 := by
    unfold F_Dir_isOneOf_1
    rfl
  obtain ⟨n, hn, rfl⟩ := y_c256 h
  rw [e]
  have key : ∀ n : Nat, n < 256 → F_Dir_isOneOf_1 0 0 0 0 (Int32.ofNat n) 0 0 = if Int32.ofNat n ∈ yO1 then 1 else 0 := by decide +kernel
  exact key n hn
def yO2 : List Int32 := [99, 67, 100, 111, 120, 88, 37]
theorem y_one2 {a0 a1 a2 a3 c a5 a6 : Int32} (h : 0 ≤ c.toInt ∧ c.toInt ≤ 255) : F_Dir_isOneOf_2 a0 a1 a2 a3 c a5 a6 = if c ∈ yO2 then 1 else 0 := by
  have e : F_Dir_isOneOf_2 a0 a1 a2 a3 c a5 a6 = F_Dir_isOneOf_2 0 0 0 0 c 0 0 := by
    unfold F_Dir_isOneOf_2
    rfl
  obtain ⟨n, hn, rfl⟩ := y_c256 h
  rw [e]
  have key : ∀ n : Nat, n < 256 → F_Dir_isOneOf_2 0 0 0 0 (Int32.ofNat n) 0 0 = if Int32.ofNat n ∈ yO2 then 1 else 0 := by decide +kernel
  exact key n hn
def yO3 : List Int32 := [98, 66, 115, 83, 99, 67, 37]
theorem y_one3 {a0 a1 a2 a3 c a5 a6 : Int32} (h : 0 ≤ c.toInt ∧ c.toInt ≤ 255) : F_Dir_isOneOf_3 a0 a1 a2 a3 c a5 a6 = if c ∈ yO3 then 1 else 0 := by
  have e : F_Dir_isOneOf_3 a0 a1 a2 a3 c a5 a6 = F_Dir_isOneOf_3 0 0 0 0 c 0 0 := by
    unfold F_Dir_isOneOf_3
    rfl
  obtain ⟨n, hn, rfl⟩ := y_c256 h
  rw [e]
  have key : ∀ n : Nat, n < 256 → F_Dir_isOneOf_3 0 0 0 0 (Int32.ofNat n) 0 0 = if Int32.ofNat n ∈ yO3 then 1 else 0 := by decide +kernel
  exact key n hn
def yO4 : List Int32 := [111, 120, 88]
theorem y_one4 {a0 a1 a2 a3 c a5 a6 : Int32} (h : 0 ≤ c.toInt ∧ c.toInt ≤ 255) : F_Dir_isOneOf_4 a0 a1 a2 a3 c a5 a6 = if c ∈ yO4 then 1 else 0 := by
  have e : F_Dir_isOneOf_4 a0 a1 a2 a3 c a5 a6 = F_Dir_isOneOf_4 0 0 0 0 c 0 0 := by
    unfold F_Dir_isOneOf_4
    rfl
  obtain ⟨n, hn, rfl⟩ := y_c256 h
  rw [e]
  have key : ∀ n : Nat, n < 256 → F_Dir_isOneOf_4 0 0 0 0 (Int32.ofNat n) 0 0 = if Int32.ofNat n ∈ yO4 then 1 else 0 := by decide +kernel
  exact key n hn
def yO5 : List Int32 := [100, 103, 71]
theorem y_one5 {a0 a1 a2 a3 c a5 a6 : Int32} (h : 0 ≤ c.toInt ∧ c.toInt ≤ 255) : F_Dir_isOneOf_5 a0 a1 a2 a3 c a5 a6 = if c ∈ yO5 then 1 else 0 := by
  have e : F_Dir_isOneOf_5 a0 a1 a2 a3 c a5 a6 = F_Dir_isOneOf_5 0 0 0 0 c 0 0 := by
    unfold F_Dir_isOneOf_5
    rfl
  obtain ⟨n, hn, rfl⟩ := y_c256 h
  rw [e]
  have key : ∀ n : Nat, n < 256 → F_Dir_isOneOf_5 0 0 0 0 (Int32.ofNat n) 0 0 = if Int32.ofNat n ∈ yO5 then 1 else 0 := by decide +kernel
  exact key n hn
def yO6 : List Int32 := [101, 69]
theorem y_one6 {a0 a1 a2 a3 c a5 a6 : Int32} (h : 0 ≤ c.toInt ∧ c.toInt ≤ 255) : F_Dir_isOneOf_6 a0 a1 a2 a3 c a5 a6 = if c ∈ yO6 then 1 else 0 := by
  have e : F_Dir_isOneOf_6 a0 a1 a2 a3 c a5 a6 = F_Dir_isOneOf_6 0 0 0 0 c 0 0 := by
    unfold F_Dir_isOneOf_6
    rfl
  obtain ⟨n, hn, rfl⟩ := y_c256 h
  rw [e]
  have key : ∀ n : Nat, n < 256 → F_Dir_isOneOf_6 0 0 0 0 (Int32.ofNat n) 0 0 = if Int32.ofNat n ∈ yO6 then 1 else 0 := by decide +kernel
  exact key n hn
def yO7 : List Int32 := [37, 110]
theorem y_one7 {a0 a1 a2 a3 c a5 a6 : Int32} (h : 0 ≤ c.toInt ∧ c.toInt ≤ 255) : F_Dir_isOneOf_7 a0 a1 a2 a3 c a5 a6 = if c ∈ yO7 then 1 else 0 := by
  have e : F_Dir_isOneOf_7 a0 a1 a2 a3 c a5 a6 = F_Dir_isOneOf_7 0 0 0 0 c 0 0 := by
    unfold F_Dir_isOneOf_7
    rfl
  obtain ⟨n, hn, rfl⟩ := y_c256 h
  rw [e]
  have key : ∀ n : Nat, n < 256 → F_Dir_isOneOf_7 0 0 0 0 (Int32.ofNat n) 0 0 = if Int32.ofNat n ∈ yO7 then 1 else 0 := by decide +kernel
  exact key n hn
def yO8 : List Int32 := [98, 66, 115, 83]
theorem y_one8 {a0 a1 a2 a3 c a5 a6 : Int32} (h : 0 ≤ c.toInt ∧ c.toInt ≤ 255) : F_Dir_isOneOf_8 a0 a1 a2 a3 c a5 a6 = if c ∈ yO8 then 1 else 0 := by
  have e : F_Dir_isOneOf_8 a0 a1 a2 a3 c a5 a6 = F_Dir_isOneOf_8 0 0 0 0 c 0 0 := by
    unfold F_Dir_isOneOf_8
    rfl
  obtain ⟨n, hn, rfl⟩ := y_c256 h
  rw [e]
  have key : ∀ n : Nat, n < 256 → F_Dir_isOneOf_8 0 0 0 0 (Int32.ofNat n) 0 0 = if Int32.ofNat n ∈ yO8 then 1 else 0 := by decide +kernel
  exact key n hn
def yO9 : List Int32 := [99, 67]
theorem y_one9 {a0 a1 a2 a3 c a5 a6 : Int32} (h : 0 ≤ c.toInt ∧ c.toInt ≤ 255) : F_Dir_isOneOf_9 a0 a1 a2 a3 c a5 a6 = if c ∈ yO9 then 1 else 0 := by
  have e : F_Dir_isOneOf_9 a0 a1 a2 a3 c a5 a6 = F_Dir_isOneOf_9 0 0 0 0 c 0 0 := by
    unfold F_Dir_isOneOf_9
    rfl
  obtain ⟨n, hn, rfl⟩ := y_c256 h
  rw [e]
  have key : ∀ n : Nat, n < 256 → F_Dir_isOneOf_9 0 0 0 0 (Int32.ofNat n) 0 0 = if Int32.ofNat n ∈ yO9 then 1 else 0 := by decide +kernel
  exact key n hn
def yO10 : List Int32 := [100, 111, 120, 88]
theorem y_one10 {a0 a1 a2 a3 c a5 a6 : Int32} (h : 0 ≤ c.toInt ∧ c.toInt ≤ 255) : F_Dir_isOneOf_10 a0 a1 a2 a3 c a5 a6 = if c ∈ yO10 then 1 else 0 := by
  have e : F_Dir_isOneOf_10 a0 a1 a2 a3 c a5 a6 = F_Dir_isOneOf_10 0 0 0 0 c 0 0 := by
    unfold F_Dir_isOneOf_10
    rfl
  obtain ⟨n, hn, rfl⟩ := y_c256 h
  rw [e]
  have key : ∀ n : Nat, n < 256 → F_Dir_isOneOf_10 0 0 0 0 (Int32.ofNat n) 0 0 = if Int32.ofNat n ∈ yO10 then 1 else 0 := by decide +kernel
  exact key n hn
def yO11 : List Int32 := [98, 66]
theorem y_one11 {a0 a1 a2 a3 c a5 a6 : Int32} (h : 0 ≤ c.toInt ∧ c.toInt ≤ 255) : F_Dir_isOneOf_11 a0 a1 a2 a3 c a5 a6 = if c ∈ yO11 then 1 else 0 := by
  have e : F_Dir_isOneOf_11 a0 a1 a2 a3 c a5 a6 = F_Dir_isOneOf_11 0 0 0 0 c 0 0 := by
    unfold F_Dir_isOneOf_11
    rfl
  obtain ⟨n, hn, rfl⟩ := y_c256 h
  rw [e]
  have key : ∀ n : Nat, n < 256 → F_Dir_isOneOf_11 0 0 0 0 (Int32.ofNat n) 0 0 = if Int32.ofNat n ∈ yO11 then 1 else 0 := by decide +kernel
  exact key n hn
def yO14 : List Int32 := [115, 83]
theorem y_one14 {a0 a1 a2 a3 c a5 a6 : Int32} (h : 0 ≤ c.toInt ∧ c.toInt ≤ 255) : F_Dir_isOneOf_14 a0 a1 a2 a3 c a5 a6 = if c ∈ yO14 then 1 else 0 := by
  have e : F_Dir_isOneOf_14 a0 a1 a2 a3 c a5 a6 = F_Dir_isOneOf_14 0 0 0 0 c 0 0 := by
    unfold F_Dir_isOneOf_14
    rfl
  obtain ⟨n, hn, rfl⟩ := y_c256 h
  rw [e]
  have key : ∀ n : Nat, n < 256 → F_Dir_isOneOf_14 0 0 0 0 (Int32.ofNat n) 0 0 = if Int32.ofNat n ∈ yO14 then 1 else 0 := by decide +kernel
  exact key n hn
def yO16 : List Int32 := [111, 120, 88]
theorem y_one16 {a0 a1 a2 a3 c a5 a6 : Int32} (h : 0 ≤ c.toInt ∧ c.toInt ≤ 255) : F_Dir_isOneOf_16 a0 a1 a2 a3 c a5 a6 = if c ∈ yO16 then 1 else 0 := by
  have e : F_Dir_isOneOf_16 a0 a1 a2 a3 c a5 a6 = F_Dir_isOneOf_16 0 0 0 0 c 0 0 := by
    unfold F_Dir_isOneOf_16
    rfl
  obtain ⟨n, hn, rfl⟩ := y_c256 h
  rw [e]
  have key : ∀ n : Nat, n < 256 → F_Dir_isOneOf_16 0 0 0 0 (Int32.ofNat n) 0 0 = if Int32.ofNat n ∈ yO16 then 1 else 0 := by decide +kernel
  exact key n hn
/-- a flag's bit -/
def yFlg (c : Int) : Int32 := if c = 45 then 1 else if c = 35 then 2 else if c = 43 then 4 else if c = 48 then 8 else if c = 44 then 16 else if c = 40 then 32 else if c = 60 then 64 else if c = 32 then 128 else 0
theorem y_flgR {x : Int32} : F_VR_flag x = yFlg x.toInt := by
  have k : ∀ {y : Int32}, (x = y) = (x.toInt = y.toInt) := fun {y} => propext Int32.toInt_inj.symm
  unfold F_VR_flag yFlg
  simp only [k]
  rfl
theorem y_flgC {c : Int32} (h : 0 ≤ c.toInt ∧ c.toInt ≤ 255) : (0 ≤ F_jStr_indexOf_II_0 ((c.toUInt32 % 65536).toInt32) ∧ (1 <<< (F_jStr_indexOf_II_0 ((c.toUInt32 % 65536).toInt32) &&& 31) : Int32) = yFlg c.toInt ∧ yFlg c.toInt ≠ 0) ∨ (¬ 0 ≤ F_jStr_indexOf_II_0 ((c.toUInt32 % 65536).toInt32) ∧ yFlg c.toInt = 0) := by
  obtain ⟨n, hn, rfl⟩ := y_c256 h
  have key : ∀ n : Nat, n < 256 → (0 ≤ F_jStr_indexOf_II_0 (((Int32.ofNat n).toUInt32 % 65536).toInt32) ∧ (1 <<< (F_jStr_indexOf_II_0 (((Int32.ofNat n).toUInt32 % 65536).toInt32) &&& 31) : Int32) = yFlg (Int32.ofNat n).toInt ∧ yFlg (Int32.ofNat n).toInt ≠ 0) ∨ (¬ 0 ≤ F_jStr_indexOf_II_0 (((Int32.ofNat n).toUInt32 % 65536).toInt32) ∧ yFlg (Int32.ofNat n).toInt = 0) := by decide +kernel
  exact key n hn
/-- where a run of figures ends -/
noncomputable def yDe (B : Nat → Int) (L p : Nat) : Nat := if h : p ≤ L then Classical.choose (yDr_ex (B := B) (L - p) p rfl h) else p
theorem yDe_s {B : Nat → Int} {L p : Nat} (h : p ≤ L) : yDr B L p (yDe B L p) := by
  unfold yDe
  rw [dif_pos h]
  exact Classical.choose_spec (yDr_ex (B := B) (L - p) p rfl h)
theorem yDe_U {B : Nat → Int} {L p e : Nat} (h : yDr B L p e) : e = yDe B L p := yDr_U h (yDe_s (Nat.le_trans h.1 h.2.1))
noncomputable def yNm (B : Nat → Int) (L p : Nat) : Nat := min (yDx B p (yDe B L p - p)) 9999
def yFg0 (B : Nat → Int) (L p : Nat) : Int := if p < L ∧ 48 ≤ B p ∧ B p ≤ 57 then B p - 48 else -1
theorem yDx_s {B : Nat → Int} {p m : Nat} : yDx B p (m + 1) = yDx B p m * 10 + (B (p + m) - 48).toNat := rfl
theorem V_figAt {x2 : Int32} {t0_0 : Int32} {t1_0 : (Nat → Int64)} {L p : Nat} (hs : t0_0.toInt = (L : Int)) (hL : L ≤ 4100) (hx : x2.toInt = (p : Int)) : (F_Dir_figureAt x2 t0_0 t1_0).toInt = yFg0 (ySB t1_0) L p := by
  have e48 : (48 : Int32).toInt = 48 := rfl
  have e57 : (57 : Int32).toInt = 57 := rfl
  have a := y_atR (t := t1_0) hs hL hx
  rw [← y_atpE] at a
  unfold F_Dir_figureAt yFg0
  generalize F_She_at_p 4100 513 4100 x2.toInt64 t0_0 t1_0 = c at a ⊢
  by_cases q : p < L
  · rw [if_pos q] at a
    by_cases g : c < 48
    · rw [if_pos g, if_neg (fun z => by have := q_ltI g; omega)]
      rfl
    · rw [if_neg g]
      have g' := q_nltI g
      by_cases g2 : 57 < c
      · rw [if_pos g2, if_neg (fun z => by have := q_ltI g2; omega)]
        rfl
      · rw [if_neg g2]
        have g3 := q_nltI g2
        rw [if_pos ⟨q, by omega, by omega⟩, q_subI a e48 (by omega) (by omega)]
  · rw [if_neg q] at a
    rw [if_pos (Int32.lt_iff_toInt_lt.mpr (by omega)), if_neg (fun z => q z.1)]
    rfl
theorem V_dtnL {t0_0 : Int32} {t0_1 : Int32} {t0_2 : Int32} {t0_3 : Int32} {t0_4 : Int32} {t0_5 : Int32} {t0_6 : Int32} {t1_0 : Int32} {t2_0 : (Nat → Int64)} {L p : Nat} (hs : t1_0.toInt = (L : Int)) (hL : L ≤ 4100) (hp : p ≤ L) : ∀ (n : Nat) (lx20 : Int32) (lx21 : Int32), ∀ i : Nat, lx21.toInt = (i : Int) → p ≤ i → i ≤ L → L < n + i → (∀ j, p ≤ j → j < i → 48 ≤ ySB t2_0 j ∧ ySB t2_0 j ≤ 57) → lx20.toInt = ((min (yDx (ySB t2_0) p (i - p)) 9999 : Nat) : Int) → (F_Dir_takeNumber_L2 t0_0 t0_1 t0_2 t0_3 t0_4 t0_5 t0_6 t1_0 t2_0 n lx20 lx21).1.toInt = ((yNm (ySB t2_0) L p : Nat) : Int) ∧ (F_Dir_takeNumber_L2 t0_0 t0_1 t0_2 t0_3 t0_4 t0_5 t0_6 t1_0 t2_0 n lx20 lx21).2.1 = t0_0 ∧ (F_Dir_takeNumber_L2 t0_0 t0_1 t0_2 t0_3 t0_4 t0_5 t0_6 t1_0 t2_0 n lx20 lx21).2.2.1 = t0_1 ∧ (F_Dir_takeNumber_L2 t0_0 t0_1 t0_2 t0_3 t0_4 t0_5 t0_6 t1_0 t2_0 n lx20 lx21).2.2.2.1 = t0_2 ∧ (F_Dir_takeNumber_L2 t0_0 t0_1 t0_2 t0_3 t0_4 t0_5 t0_6 t1_0 t2_0 n lx20 lx21).2.2.2.2.1 = t0_3 ∧ (F_Dir_takeNumber_L2 t0_0 t0_1 t0_2 t0_3 t0_4 t0_5 t0_6 t1_0 t2_0 n lx20 lx21).2.2.2.2.2.1 = t0_4 ∧ (F_Dir_takeNumber_L2 t0_0 t0_1 t0_2 t0_3 t0_4 t0_5 t0_6 t1_0 t2_0 n lx20 lx21).2.2.2.2.2.2.1.toInt = ((yDe (ySB t2_0) L p : Nat) : Int) ∧ (F_Dir_takeNumber_L2 t0_0 t0_1 t0_2 t0_3 t0_4 t0_5 t0_6 t1_0 t2_0 n lx20 lx21).2.2.2.2.2.2.2 = t0_6 := by
  have e0 : (0 : Int32).toInt = 0 := rfl
  have e9 : (9999 : Int32).toInt = 9999 := rfl
  intro n
  induction n with
  | zero =>
    intro _ _ i _ _ q1 q2
    omega
  | succ n ih =>
    intro lx20 lx21 i hi h1 h2 h3 h4 h5
    unfold F_Dir_takeNumber_L2
    have f := V_figAt (x2 := lx21) (t1_0 := t2_0) hs hL hi
    have fin : (i = L ∨ ¬ (48 ≤ ySB t2_0 i ∧ ySB t2_0 i ≤ 57)) → lx20.toInt = ((yNm (ySB t2_0) L p : Nat) : Int) ∧ lx21.toInt = ((yDe (ySB t2_0) L p : Nat) : Int) := by
      intro q
      have e := yDe_U (B := ySB t2_0) (L := L) (p := p) (e := i) ⟨h1, h2, h4, q⟩
      unfold yNm
      rw [← e]
      exact ⟨h5, hi⟩
    generalize F_Dir_figureAt lx21 t1_0 t2_0 = g at f ⊢
    unfold yFg0 at f
    by_cases c : g < 0
    · rw [if_pos c]
      have c' := q_ltI c
      have q : i = L ∨ ¬ (48 ≤ ySB t2_0 i ∧ ySB t2_0 i ≤ 57) := by
        by_cases w : i < L ∧ 48 ≤ ySB t2_0 i ∧ ySB t2_0 i ≤ 57
        · rw [if_pos w] at f
          omega
        · omega
      obtain ⟨r1, r2⟩ := fin q
      exact ⟨r1, rfl, rfl, rfl, rfl, rfl, r2, rfl⟩
    · rw [if_neg c]
      have c' := q_nltI c
      by_cases d : t1_0 ≤ lx21
      · rw [if_pos d]
        have d' := q_leI d
        obtain ⟨r1, r2⟩ := fin (Or.inl (by omega))
        exact ⟨r1, rfl, rfl, rfl, rfl, rfl, r2, rfl⟩
      · rw [if_neg d]
        have d' := q_nleI d
        have w : i < L ∧ 48 ≤ ySB t2_0 i ∧ ySB t2_0 i ≤ 57 := by
          by_cases w : i < L ∧ 48 ≤ ySB t2_0 i ∧ ySB t2_0 i ≤ 57
          · exact w
          · rw [if_neg w] at f
            omega
        rw [if_pos w] at f
        have m1 : (lx20 * 10 : Int32).toInt = ((min (yDx (ySB t2_0) p (i - p)) 9999 : Nat) : Int) * 10 := q_mulI (y := 10) h5 rfl (by omega) (by omega)
        have m2 := q_addI m1 f (by omega) (by omega)
        have st : yDx (ySB t2_0) p (i + 1 - p) = yDx (ySB t2_0) p (i - p) * 10 + (ySB t2_0 i - 48).toNat := by
          rw [show i + 1 - p = (i - p) + 1 by omega, yDx_s, show p + (i - p) = i by omega]
        refine ih _ (lx21 + 1) (i + 1) (by rw [q_addI (y := 1) hi rfl (by omega) (by omega)]; omega) (by omega) (by omega) (by omega) (fun j j1 j2 => ?_) ?_
        · by_cases e : j = i
          · rw [e]; exact w.2
          · exact h4 j j1 (by omega)
        · rw [st]
          generalize yDx (ySB t2_0) p (i - p) = X at m2
          have tb := w.2
          generalize ySB t2_0 i = b at m2 tb
          by_cases k : (9999 : Int32) < (lx20 * 10 + g : Int32)
          · rw [if_pos k]
            have k' := q_ltI k
            omega
          · rw [if_neg k]
            have k' := q_nltI k
            omega
theorem V_dtn {t0_0 : Int32} {t0_1 : Int32} {t0_2 : Int32} {t0_3 : Int32} {t0_4 : Int32} {t0_5 : Int32} {t0_6 : Int32} {t1_0 : Int32} {t2_0 : (Nat → Int64)} {L p : Nat} (hs : t1_0.toInt = (L : Int)) (hL : L ≤ 4100) (hp : p ≤ L) (h5 : t0_5.toInt = (p : Int)) : (F_Dir_takeNumber t0_0 t0_1 t0_2 t0_3 t0_4 t0_5 t0_6 t1_0 t2_0).1.toInt = ((yNm (ySB t2_0) L p : Nat) : Int) ∧ (F_Dir_takeNumber t0_0 t0_1 t0_2 t0_3 t0_4 t0_5 t0_6 t1_0 t2_0).2.1 = t0_0 ∧ (F_Dir_takeNumber t0_0 t0_1 t0_2 t0_3 t0_4 t0_5 t0_6 t1_0 t2_0).2.2.1 = t0_1 ∧ (F_Dir_takeNumber t0_0 t0_1 t0_2 t0_3 t0_4 t0_5 t0_6 t1_0 t2_0).2.2.2.1 = t0_2 ∧ (F_Dir_takeNumber t0_0 t0_1 t0_2 t0_3 t0_4 t0_5 t0_6 t1_0 t2_0).2.2.2.2.1 = t0_3 ∧ (F_Dir_takeNumber t0_0 t0_1 t0_2 t0_3 t0_4 t0_5 t0_6 t1_0 t2_0).2.2.2.2.2.1 = t0_4 ∧ (F_Dir_takeNumber t0_0 t0_1 t0_2 t0_3 t0_4 t0_5 t0_6 t1_0 t2_0).2.2.2.2.2.2.1.toInt = ((yDe (ySB t2_0) L p : Nat) : Int) ∧ (F_Dir_takeNumber t0_0 t0_1 t0_2 t0_3 t0_4 t0_5 t0_6 t1_0 t2_0).2.2.2.2.2.2.2 = t0_6 := by
  unfold F_Dir_takeNumber
  exact V_dtnL hs hL hp _ 0 t0_5 p h5 (Nat.le_refl _) hp (by omega) (fun j j1 j2 => by omega) (by rw [Nat.sub_self]; rfl)
