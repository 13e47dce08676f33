/-! values, for whole: a directive's faults -/
def zSm (c : Int32) : Int32 := if c ∈ [66, 67, 69, 71, 83, 88] then c + 32 else if c ∈ yO1 then c else 0
theorem Z_sm {t0_0 t0_1 t0_2 t0_3 t0_4 t0_5 t0_6 t0_7 t0_8 t0_9 t0_10 t0_11 t0_12 t0_13 t0_14 t0_15 t0_16 t0_17 t0_18 t0_19 t0_20 t0_21 : Int32} (h : 0 ≤ t0_13.toInt ∧ t0_13.toInt ≤ 255) : F_VR_small t0_0 t0_1 t0_2 t0_3 t0_4 t0_5 t0_6 t0_7 t0_8 t0_9 t0_10 t0_11 t0_12 t0_13 t0_14 t0_15 t0_16 t0_17 t0_18 t0_19 t0_20 t0_21 = zSm t0_13 := by
  have e : F_VR_small t0_0 t0_1 t0_2 t0_3 t0_4 t0_5 t0_6 t0_7 t0_8 t0_9 t0_10 t0_11 t0_12 t0_13 t0_14 t0_15 t0_16 t0_17 t0_18 t0_19 t0_20 t0_21 = F_VR_small 0 0 0 0 0 0 0 0 0 0 0 0 0 t0_13 0 0 0 0 0 0 0 0 := by
    unfold F_VR_small
    rfl
  obtain ⟨n, hn, rfl⟩ := y_c256 h
  rw [e]
  have key : ∀ n : Nat, n < 256 → F_VR_small 0 0 0 0 0 0 0 0 0 0 0 0 0 (Int32.ofNat n) 0 0 0 0 0 0 0 0 = zSm (Int32.ofNat n) := by decide +kernel
  exact key n hn
def zPos (c : Int32) : Int32 := F_Dir_possibleFlags 0 0 0 0 c 0 0
theorem Z_pos {a0 a1 a2 a3 c a5 a6 : Int32} : F_Dir_possibleFlags a0 a1 a2 a3 c a5 a6 = zPos c := by
  unfold zPos F_Dir_possibleFlags F_Dir_isOneOf_3 F_Dir_isOneOf_4 F_Dir_isOneOf_5 F_Dir_isOneOf_6
  rfl
theorem Z_sm0 {c : Int32} (h : 0 ≤ c.toInt ∧ c.toInt ≤ 255) : zSm c = 0 ↔ ¬ c ∈ yO1 := by
  obtain ⟨n, hn, rfl⟩ := y_c256 h
  have key : ∀ n : Nat, n < 256 → (zSm (Int32.ofNat n) = 0 ↔ ¬ Int32.ofNat n ∈ yO1) := by decide +kernel
  exact key n hn
abbrev zNum (c : Int32) : Prop := c = 100 ∨ c = 111 ∨ c = 120
theorem Z_nume {x2 t0_0 t0_1 t0_2 t0_3 t0_4 t0_5 t0_6 t0_7 t0_8 t0_9 t0_10 t0_11 t0_12 t0_13 t0_14 t0_15 t0_16 t0_17 t0_18 t0_19 t0_20 t0_21 : Int32} : F_VR_isNumeric x2 t0_0 t0_1 t0_2 t0_3 t0_4 t0_5 t0_6 t0_7 t0_8 t0_9 t0_10 t0_11 t0_12 t0_13 t0_14 t0_15 t0_16 t0_17 t0_18 t0_19 t0_20 t0_21 = if zNum x2 then 1 else 0 := by
  unfold F_VR_isNumeric
  by_cases a : x2 = 100
  · rw [if_pos a, if_pos (Or.inl a)]
  · rw [if_neg a]
    by_cases b : x2 = 111
    · rw [if_pos b, if_pos (Or.inr (Or.inl b))]
    · rw [if_neg b]
      by_cases c : x2 = 120
      · rw [if_pos c, if_pos (Or.inr (Or.inr c))]
      · rw [if_neg c, if_neg (fun z => z.elim a (fun z => z.elim b c))]
theorem Z_tab {c : Int32} (h : c ∈ yO1) : zSm c ≠ 0 ∧ (zSm c = 110 ↔ c = 110) ∧ (zSm c = 37 ↔ c = 37) ∧ (c ≠ 110 → F_VR_allowed (zSm c) = zPos c) ∧ ((zSm c = 99 ∨ zSm c = 37 ∨ zNum (zSm c)) ↔ c ∈ yO2) ∧ (zNum (zSm c) ↔ c ∈ yO10) ∧ (zSm c = 99 ↔ c ∈ yO9) ∧ ((zSm c = 98 ∨ zSm c = 115) ↔ c ∈ yO8) ∧ (zSm c = 98 ↔ c ∈ yO11) ∧ (zSm c = 115 ↔ c ∈ yO14) ∧ ((c = 37 ∨ c = 110) ↔ c ∈ yO7) ∧ ((zSm c = 111 ∨ zSm c = 120) ↔ c ∈ yO16) ∧ (zSm c = 111 ↔ c = 111) := by
  have key : ∀ c : Int32, c ∈ yO1 → zSm c ≠ 0 ∧ (zSm c = 110 ↔ c = 110) ∧ (zSm c = 37 ↔ c = 37) ∧ (c ≠ 110 → F_VR_allowed (zSm c) = zPos c) ∧ ((zSm c = 99 ∨ zSm c = 37 ∨ zNum (zSm c)) ↔ c ∈ yO2) ∧ (zNum (zSm c) ↔ c ∈ yO10) ∧ (zSm c = 99 ↔ c ∈ yO9) ∧ ((zSm c = 98 ∨ zSm c = 115) ↔ c ∈ yO8) ∧ (zSm c = 98 ↔ c ∈ yO11) ∧ (zSm c = 115 ↔ c ∈ yO14) ∧ ((c = 37 ∨ c = 110) ↔ c ∈ yO7) ∧ ((zSm c = 111 ∨ zSm c = 120) ↔ c ∈ yO16) ∧ (zSm c = 111 ↔ c = 111) := by decide +kernel
  exact key c h
theorem Z_or0 {a b : Int32} : a ||| b = 0 ↔ a = 0 ∧ b = 0 := by
  constructor
  · intro h
    have h' : a.toBitVec ||| b.toBitVec = 0#32 := by
      have := congrArg Int32.toBitVec h
      rw [Int32.toBitVec_or] at this
      exact this
    have := BitVec.or_eq_zero_iff.mp h'
    exact ⟨Int32.toBitVec_inj.mp this.1, Int32.toBitVec_inj.mp this.2⟩
  · rintro ⟨rfl, rfl⟩
    decide
theorem Z_and9 {x : Int32} : x &&& 9 = 0 ↔ x &&& 1 = 0 ∧ x &&& 8 = 0 := by
  have e : x &&& 9 = (x &&& 1) ||| (x &&& 8) := by
    apply Int32.toBitVec_inj.mp
    simp only [Int32.toBitVec_and, Int32.toBitVec_or]
    ext i hi
    simp only [BitVec.getElem_and, BitVec.getElem_or]
    rw [← Bool.and_or_distrib_left]
    congr 1
    revert i
    decide
  rw [e]
  exact Z_or0
theorem Z_has0 {k a0 fl a2 a3 a4 a5 a6 : Int32} : F_Dir_has k a0 fl a2 a3 a4 a5 a6 = if fl &&& k = 0 then 0 else 1 := rfl
theorem Z_hasR {c k t0_0 t0_1 t0_2 t0_3 t0_4 t0_5 t0_6 t0_7 t0_8 t0_9 t0_10 t0_11 t0_12 t0_13 t0_14 t0_15 t0_16 t0_17 t0_18 t0_19 t0_20 t0_21 : Int32} (h : F_VR_flag c = k) : F_VR_has c t0_0 t0_1 t0_2 t0_3 t0_4 t0_5 t0_6 t0_7 t0_8 t0_9 t0_10 t0_11 t0_12 t0_13 t0_14 t0_15 t0_16 t0_17 t0_18 t0_19 t0_20 t0_21 = if t0_9 &&& k = 0 then 0 else 1 := by
  unfold F_VR_has
  rw [h]
/-- what is wrong with a directive by itself -/
def zBs (fl wd pr cv tw : Int32) : Int32 := F_Dir_fault 0 fl wd pr cv 0 tw
theorem Z_bs {ix fl wd pr cv pl tw : Int32} : F_Dir_fault ix fl wd pr cv pl tw = zBs fl wd pr cv tw := by
  unfold zBs F_Dir_fault F_Dir_fault_J63 F_Dir_fault_J82 F_Dir_fault_J119 F_Dir_fault_J136 F_Dir_isOneOf_1 F_Dir_isOneOf_2 F_Dir_has
  simp only [Z_pos]
theorem Z_136 {a0 fl wd pr cv a5 tw : Int32} : F_Dir_fault_J136 a0 fl wd pr cv a5 tw = if fl &&& 4 = 0 then 0 else if fl &&& 128 = 0 then 0 else 8 := by
  unfold F_Dir_fault_J136
  rw [Z_has0, Z_has0]
  by_cases a : fl &&& 4 = 0
  · rw [if_pos a, if_pos rfl, if_pos a]
  · rw [if_neg a, if_neg (by decide), if_neg a]
    by_cases b : fl &&& 128 = 0
    · rw [if_pos b, if_pos rfl, if_pos b]
    · rw [if_neg b, if_neg (by decide), if_neg b]
theorem Z_119 {a0 fl wd pr cv a5 tw : Int32} : F_Dir_fault_J119 a0 fl wd pr cv a5 tw = if fl &&& 1 = 0 then F_Dir_fault_J136 a0 fl wd pr cv a5 tw else if fl &&& 8 = 0 then F_Dir_fault_J136 a0 fl wd pr cv a5 tw else 8 := by
  unfold F_Dir_fault_J119
  rw [Z_has0, Z_has0]
  by_cases a : fl &&& 1 = 0
  · rw [if_pos a, if_pos rfl, if_pos a]
  · rw [if_neg a, if_neg (by decide), if_neg a]
    by_cases b : fl &&& 8 = 0
    · rw [if_pos b, if_pos rfl, if_pos b]
    · rw [if_neg b, if_neg (by decide), if_neg b]
/-- what comes of a look at a directive -/
def QZ_lk (F : Int32) (pc : Prop) (t14 t15 t16 : Int32) (ch R : Int32 × Int32 × Int32 × Int32) : Prop := (F ≠ 0 ∧ R = (F, t14, t15, t16)) ∨ (F = 0 ∧ pc ∧ R = (0, t14, t15, t16)) ∨ (F = 0 ∧ ¬ pc ∧ R = ch)
theorem Z_163 {t0_0 : Int32} {t0_1 : Int32} {t0_2 : Int32} {t0_3 : Int32} {t0_4 : Int32} {t0_5 : Int32} {t0_6 : Int32} {t0_7 : Int32} {t0_8 : Int32} {t0_9 : Int32} {t0_10 : Int32} {t0_11 : Int32} {t0_12 : Int32} {t0_13 : Int32} {t0_14 : Int32} {t0_15 : Int32} {t0_16 : Int32} {t0_17 : Int32} {t0_18 : Int32} {t0_19 : Int32} {t0_20 : Int32} {t0_21 : Int32} {t1_0 : (Nat → Int32)} {t2_0 : (Nat → Int32)} {t3_0 : (Nat → Int64)} {a39 : Int32} (ha : a39 ≠ 110) : QZ_lk (F_Dir_fault_J136 0 t0_9 t0_11 t0_12 t0_13 0 t0_10) (a39 = 37) t0_14 t0_15 t0_16 (F_VR_chosen a39 t0_0 t0_1 t0_2 t0_3 t0_4 t0_5 t0_6 t0_7 t0_8 t0_9 t0_10 t0_11 t0_12 t0_13 t0_14 t0_15 t0_16 t0_17 t0_18 t0_19 t0_20 t0_21 t1_0 t2_0 t3_0) (F_VR_looked_J163 t0_0 t0_1 t0_2 t0_3 t0_4 t0_5 t0_6 t0_7 t0_8 t0_9 t0_10 t0_11 t0_12 t0_13 t0_14 t0_15 t0_16 t0_17 t0_18 t0_19 t0_20 t0_21 t1_0 t2_0 t3_0 a39) := by
  unfold F_VR_looked_J163
  rw [Z_hasR (k := 4) rfl, Z_hasR (k := 128) rfl, Z_136]
  by_cases a : t0_9 &&& 4 = 0
  · simp only [if_pos a, if_pos (rfl : (0 : Int32) = 0)]
    by_cases b : a39 = 37
    · rw [if_pos b]
      exact Or.inr (Or.inl ⟨rfl, b, rfl⟩)
    · rw [if_neg b]
      unfold F_VR_looked_c196
      exact Or.inr (Or.inr ⟨rfl, b, rfl⟩)
  · simp only [if_neg a, if_neg (show ¬ (1 : Int32) = 0 by decide)]
    by_cases c : t0_9 &&& 128 = 0
    · simp only [if_pos c, if_pos (rfl : (0 : Int32) = 0)]
      by_cases b : a39 = 37
      · rw [if_pos b]
        exact Or.inr (Or.inl ⟨rfl, b, rfl⟩)
      · rw [if_neg b]
        unfold F_VR_looked_c196_5
        exact Or.inr (Or.inr ⟨rfl, b, rfl⟩)
    · simp only [if_neg c, if_neg (show ¬ (1 : Int32) = 0 by decide)]
      first | exact Or.inl ⟨(by decide : (8 : Int32) ≠ 0), rfl⟩ | exact Or.inl ⟨(by decide : (7 : Int32) ≠ 0), rfl⟩ | exact Or.inl ⟨(by decide : (6 : Int32) ≠ 0), rfl⟩
theorem Z_145 {t0_0 : Int32} {t0_1 : Int32} {t0_2 : Int32} {t0_3 : Int32} {t0_4 : Int32} {t0_5 : Int32} {t0_6 : Int32} {t0_7 : Int32} {t0_8 : Int32} {t0_9 : Int32} {t0_10 : Int32} {t0_11 : Int32} {t0_12 : Int32} {t0_13 : Int32} {t0_14 : Int32} {t0_15 : Int32} {t0_16 : Int32} {t0_17 : Int32} {t0_18 : Int32} {t0_19 : Int32} {t0_20 : Int32} {t0_21 : Int32} {t1_0 : (Nat → Int32)} {t2_0 : (Nat → Int32)} {t3_0 : (Nat → Int64)} {a39 : Int32} (ha : a39 ≠ 110) : QZ_lk (F_Dir_fault_J119 0 t0_9 t0_11 t0_12 t0_13 0 t0_10) (a39 = 37) t0_14 t0_15 t0_16 (F_VR_chosen a39 t0_0 t0_1 t0_2 t0_3 t0_4 t0_5 t0_6 t0_7 t0_8 t0_9 t0_10 t0_11 t0_12 t0_13 t0_14 t0_15 t0_16 t0_17 t0_18 t0_19 t0_20 t0_21 t1_0 t2_0 t3_0) (F_VR_looked_J145 t0_0 t0_1 t0_2 t0_3 t0_4 t0_5 t0_6 t0_7 t0_8 t0_9 t0_10 t0_11 t0_12 t0_13 t0_14 t0_15 t0_16 t0_17 t0_18 t0_19 t0_20 t0_21 t1_0 t2_0 t3_0 a39) := by
  unfold F_VR_looked_J145
  rw [Z_hasR (k := 1) rfl, Z_hasR (k := 8) rfl, Z_119]
  by_cases a : t0_9 &&& 1 = 0
  · simp only [if_pos a, if_pos (rfl : (0 : Int32) = 0)]
    exact Z_163 ha
  · simp only [if_neg a, if_neg (show ¬ (1 : Int32) = 0 by decide)]
    by_cases c : t0_9 &&& 8 = 0
    · simp only [if_pos c, if_pos (rfl : (0 : Int32) = 0)]
      exact Z_163 ha
    · simp only [if_neg c, if_neg (show ¬ (1 : Int32) = 0 by decide)]
      first | exact Or.inl ⟨(by decide : (8 : Int32) ≠ 0), rfl⟩ | exact Or.inl ⟨(by decide : (7 : Int32) ≠ 0), rfl⟩ | exact Or.inl ⟨(by decide : (6 : Int32) ≠ 0), rfl⟩
theorem Z_100 {t0_0 : Int32} {t0_1 : Int32} {t0_2 : Int32} {t0_3 : Int32} {t0_4 : Int32} {t0_5 : Int32} {t0_6 : Int32} {t0_7 : Int32} {t0_8 : Int32} {t0_9 : Int32} {t0_10 : Int32} {t0_11 : Int32} {t0_12 : Int32} {t0_13 : Int32} {t0_14 : Int32} {t0_15 : Int32} {t0_16 : Int32} {t0_17 : Int32} {t0_18 : Int32} {t0_19 : Int32} {t0_20 : Int32} {t0_21 : Int32} {t1_0 : (Nat → Int32)} {t2_0 : (Nat → Int32)} {t3_0 : (Nat → Int64)} {a39 : Int32} (ha : a39 ≠ 110) (hw : t0_11 = -1 ∨ 0 ≤ t0_11.toInt) (hc : F_VR_allowed a39 = zPos t0_13) : QZ_lk (F_Dir_fault_J82 0 t0_9 t0_11 t0_12 t0_13 0 t0_10) (a39 = 37) t0_14 t0_15 t0_16 (F_VR_chosen a39 t0_0 t0_1 t0_2 t0_3 t0_4 t0_5 t0_6 t0_7 t0_8 t0_9 t0_10 t0_11 t0_12 t0_13 t0_14 t0_15 t0_16 t0_17 t0_18 t0_19 t0_20 t0_21 t1_0 t2_0 t3_0) (F_VR_looked_J100 t0_0 t0_1 t0_2 t0_3 t0_4 t0_5 t0_6 t0_7 t0_8 t0_9 t0_10 t0_11 t0_12 t0_13 t0_14 t0_15 t0_16 t0_17 t0_18 t0_19 t0_20 t0_21 t1_0 t2_0 t3_0 a39) := by
  have e0 : (0 : Int32).toInt = 0 := rfl
  have wd : (t0_11 = -1 ∧ ¬ 0 ≤ t0_11) ∨ (¬ t0_11 = -1 ∧ 0 ≤ t0_11) := by
    rcases hw with z | z
    · exact Or.inl ⟨z, by rw [z]; decide⟩
    · exact Or.inr ⟨fun q => by rw [q] at z; exact absurd z (by decide), Int32.le_iff_toInt_le.mpr (by omega)⟩
  unfold F_VR_looked_J100 F_Dir_fault_J82 F_VR_looked_J135
  rw [Z_hasR (k := 1) rfl, Z_hasR (k := 8) rfl, hc, Z_pos, Z_has0]
  by_cases p : t0_9 &&& (zPos t0_13 ^^^ -1) = 0
  · rw [if_pos p, if_pos p]
    by_cases a : t0_9 &&& 1 = 0
    · simp only [if_pos a, if_pos (rfl : (0 : Int32) = 0)]
      by_cases b : t0_9 &&& 8 = 0
      · simp only [if_pos b, if_pos (rfl : (0 : Int32) = 0), if_pos (Z_and9.mpr ⟨a, b⟩)]
        exact Z_145 ha
      · have n9 : ¬ t0_9 &&& 9 = 0 := fun z => b (Z_and9.mp z).2
        simp only [if_neg b, if_neg (show ¬ (1 : Int32) = 0 by decide), if_neg n9]
        rcases wd with ⟨w1, w2⟩ | ⟨w1, w2⟩
        · rw [if_neg w2, if_pos w1]
          first | exact Or.inl ⟨(by decide : (8 : Int32) ≠ 0), rfl⟩ | exact Or.inl ⟨(by decide : (7 : Int32) ≠ 0), rfl⟩ | exact Or.inl ⟨(by decide : (6 : Int32) ≠ 0), rfl⟩
        · rw [if_pos w2, if_neg w1]
          exact Z_145 ha
    · have n9 : ¬ t0_9 &&& 9 = 0 := fun z => a (Z_and9.mp z).1
      simp only [if_neg a, if_neg (show ¬ (1 : Int32) = 0 by decide), if_neg n9]
      rcases wd with ⟨w1, w2⟩ | ⟨w1, w2⟩
      · rw [if_neg w2, if_pos w1]
        first | exact Or.inl ⟨(by decide : (8 : Int32) ≠ 0), rfl⟩ | exact Or.inl ⟨(by decide : (7 : Int32) ≠ 0), rfl⟩ | exact Or.inl ⟨(by decide : (6 : Int32) ≠ 0), rfl⟩
      · rw [if_pos w2, if_neg w1]
        exact Z_145 ha
  · rw [if_neg p, if_neg p]
    first | exact Or.inl ⟨(by decide : (8 : Int32) ≠ 0), rfl⟩ | exact Or.inl ⟨(by decide : (7 : Int32) ≠ 0), rfl⟩ | exact Or.inl ⟨(by decide : (6 : Int32) ≠ 0), rfl⟩
theorem Z_look {t0_0 : Int32} {t0_1 : Int32} {t0_2 : Int32} {t0_3 : Int32} {t0_4 : Int32} {t0_5 : Int32} {t0_6 : Int32} {t0_7 : Int32} {t0_8 : Int32} {t0_9 : Int32} {t0_10 : Int32} {t0_11 : Int32} {t0_12 : Int32} {t0_13 : Int32} {t0_14 : Int32} {t0_15 : Int32} {t0_16 : Int32} {t0_17 : Int32} {t0_18 : Int32} {t0_19 : Int32} {t0_20 : Int32} {t0_21 : Int32} {t1_0 : (Nat → Int32)} {t2_0 : (Nat → Int32)} {t3_0 : (Nat → Int64)} (hc : -1 ≤ t0_13.toInt ∧ t0_13.toInt ≤ 255) (hw : t0_11 = -1 ∨ 0 ≤ t0_11.toInt) (hp : t0_12 = -1 ∨ 0 ≤ t0_12.toInt) (ht : t0_10 = 0 ∨ t0_10 = 1) : QZ_lk (zBs t0_9 t0_11 t0_12 t0_13 t0_10) (t0_13 = 37 ∨ t0_13 = 110) t0_14 t0_15 t0_16 (F_VR_chosen (zSm t0_13) t0_0 t0_1 t0_2 t0_3 t0_4 t0_5 t0_6 t0_7 t0_8 t0_9 t0_10 t0_11 t0_12 t0_13 t0_14 t0_15 t0_16 t0_17 t0_18 t0_19 t0_20 t0_21 t1_0 t2_0 t3_0) (F_VR_looked t0_0 t0_1 t0_2 t0_3 t0_4 t0_5 t0_6 t0_7 t0_8 t0_9 t0_10 t0_11 t0_12 t0_13 t0_14 t0_15 t0_16 t0_17 t0_18 t0_19 t0_20 t0_21 t1_0 t2_0 t3_0) ∧ (zBs t0_9 t0_11 t0_12 t0_13 t0_10 = 0 → t0_13 ∈ yO1) := by
  have e0 : (0 : Int32).toInt = 0 := rfl
  have wd : (t0_11 = -1 ∧ ¬ 0 ≤ t0_11) ∨ (¬ t0_11 = -1 ∧ 0 ≤ t0_11) := by
    rcases hw with z | z
    · exact Or.inl ⟨z, by rw [z]; decide⟩
    · exact Or.inr ⟨fun q => by rw [q] at z; exact absurd z (by decide), Int32.le_iff_toInt_le.mpr (by omega)⟩
  have pr : (t0_12 = -1 ∧ ¬ 0 ≤ t0_12 ∧ t0_12 < 0) ∨ (¬ t0_12 = -1 ∧ 0 ≤ t0_12 ∧ ¬ t0_12 < 0) := by
    rcases hp with z | z
    · exact Or.inl ⟨z, by rw [z]; decide, by rw [z]; decide⟩
    · exact Or.inr ⟨fun q => by rw [q] at z; exact absurd z (by decide), Int32.le_iff_toInt_le.mpr (by omega), fun q => by have := q_ltI q; omega⟩
  unfold F_VR_looked zBs F_Dir_fault
  by_cases n : t0_13 < 0
  · rw [if_pos n]
    have n' := q_ltI n
    rw [if_neg (fun q => by have := q_leI q; omega)]
    exact ⟨Or.inl ⟨by decide, rfl⟩, fun z => absurd z (by decide)⟩
  · rw [if_neg n]
    have n' := q_nltI n
    have cb : 0 ≤ t0_13.toInt ∧ t0_13.toInt ≤ 255 := ⟨by omega, hc.2⟩
    rw [if_pos (Int32.le_iff_toInt_le.mpr (by omega)), Z_sm cb, y_one1 cb]
    by_cases m : t0_13 ∈ yO1
    · obtain ⟨q1, q2, q3, q4, q5, _⟩ := Z_tab m
      rw [if_neg q1, if_pos m, if_neg (show ¬ (1 : Int32) = 0 by decide)]
      refine ⟨?_, fun _ => m⟩
      rcases ht with t | t
      · rw [if_pos t, if_pos t]
        by_cases c : t0_13 = 110
        · rw [if_pos (q2.mpr c), if_pos c]
          rcases wd with ⟨w1, w2⟩ | ⟨w1, w2⟩
          · rw [if_neg w2, if_pos w1]
            rcases pr with ⟨p1, p2, p3⟩ | ⟨p1, p2, p3⟩
            · rw [if_neg p2, if_pos p1]
              by_cases f : t0_9 = 0
              · rw [if_pos f, if_pos f]
                have z : F_Dir_fault_J63 0 t0_9 t0_11 t0_12 t0_13 0 t0_10 = 0 := by
                  unfold F_Dir_fault_J63 F_Dir_fault_J82
                  rw [if_pos p1, Z_119, Z_136, Z_has0, f]
                  have z1 : ∀ k : Int32, (0 : Int32) &&& k = 0 := fun k => Int32.zero_and
                  rw [if_pos (z1 _), if_pos (z1 _), if_pos rfl, if_pos (z1 _), if_pos (z1 _)]
                rw [z]
                exact Or.inr (Or.inl ⟨rfl, Or.inr c, rfl⟩)
              · rw [if_neg f, if_neg f]
                exact Or.inl ⟨by decide, rfl⟩
            · rw [if_pos p2, if_neg p1]
              exact Or.inl ⟨by decide, rfl⟩
          · rw [if_pos w2, if_neg w1]
            exact Or.inl ⟨by decide, rfl⟩
        · have sn : zSm t0_13 ≠ 110 := fun z => c (q2.mp z)
          rw [if_neg sn, if_neg c]
          have fin : QZ_lk (F_Dir_fault_J82 0 t0_9 t0_11 t0_12 t0_13 0 t0_10) (t0_13 = 37 ∨ t0_13 = 110) t0_14 t0_15 t0_16 (F_VR_chosen (zSm t0_13) t0_0 t0_1 t0_2 t0_3 t0_4 t0_5 t0_6 t0_7 t0_8 t0_9 t0_10 t0_11 t0_12 t0_13 t0_14 t0_15 t0_16 t0_17 t0_18 t0_19 t0_20 t0_21 t1_0 t2_0 t3_0) (F_VR_looked_J100 t0_0 t0_1 t0_2 t0_3 t0_4 t0_5 t0_6 t0_7 t0_8 t0_9 t0_10 t0_11 t0_12 t0_13 t0_14 t0_15 t0_16 t0_17 t0_18 t0_19 t0_20 t0_21 t1_0 t2_0 t3_0 (zSm t0_13)) := by
            have r := Z_100 (t0_0 := t0_0) (t0_1 := t0_1) (t0_2 := t0_2) (t0_3 := t0_3) (t0_4 := t0_4) (t0_5 := t0_5) (t0_6 := t0_6) (t0_7 := t0_7) (t0_8 := t0_8) (t0_9 := t0_9) (t0_10 := t0_10) (t0_11 := t0_11) (t0_12 := t0_12) (t0_13 := t0_13) (t0_14 := t0_14) (t0_15 := t0_15) (t0_16 := t0_16) (t0_17 := t0_17) (t0_18 := t0_18) (t0_19 := t0_19) (t0_20 := t0_20) (t0_21 := t0_21) (t1_0 := t1_0) (t2_0 := t2_0) (t3_0 := t3_0) (a39 := zSm t0_13) sn hw (q4 c)
            rcases r with r | ⟨r1, r2, r3⟩ | ⟨r1, r2, r3⟩
            · exact Or.inl r
            · exact Or.inr (Or.inl ⟨r1, Or.inl (q3.mp r2), r3⟩)
            · exact Or.inr (Or.inr ⟨r1, fun z => z.elim (fun z => r2 (q3.mpr z)) c, r3⟩)
          unfold F_Dir_fault_J63
          rw [y_one2 cb]
          rcases pr with ⟨p1, p2, p3⟩ | ⟨p1, p2, p3⟩
          · rw [if_pos p3, if_pos p1]
            exact fin
          · rw [if_neg p3, if_neg p1, Z_nume]
            by_cases o : t0_13 ∈ yO2
            · rw [if_pos o, if_neg (show ¬ (1 : Int32) = 0 by decide)]
              have o' := q5.mpr o
              refine Or.inl ⟨by decide, ?_⟩
              by_cases x1 : zSm t0_13 = 99
              · rw [if_pos x1]
              · rw [if_neg x1]
                by_cases x2 : zSm t0_13 = 37
                · rw [if_pos x2]
                · rw [if_neg x2, if_pos ((o'.resolve_left x1).resolve_left x2), if_neg (show ¬ (1 : Int32) = 0 by decide)]
            · rw [if_neg o, if_pos (rfl : (0 : Int32) = 0)]
              have o' : ¬ (zSm t0_13 = 99 ∨ zSm t0_13 = 37 ∨ zNum (zSm t0_13)) := fun z => o (q5.mp z)
              rw [if_neg (fun z => o' (Or.inl z)), if_neg (fun z => o' (Or.inr (Or.inl z))), if_neg (fun z => o' (Or.inr (Or.inr z))), if_pos (rfl : (0 : Int32) = 0)]
              exact fin
      · rw [if_neg (by rw [t]; decide), if_neg (by rw [t]; decide)]
        exact Or.inl ⟨by decide, rfl⟩
    · rw [if_pos ((Z_sm0 cb).mpr m), if_neg m, if_pos rfl]
      exact ⟨Or.inl ⟨by decide, rfl⟩, fun z => absurd z (by decide)⟩

