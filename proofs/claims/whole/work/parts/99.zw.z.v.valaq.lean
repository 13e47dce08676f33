/-! values, for whole: texts: the fault's field stays 0 -/
theorem yz_h71 {K_F_TR_half_L7 : Int32 → Int32 → (Nat → Int32) → (Int32 × Int32 × Int32 × Int32 × Int32 × Int32 × Int32 × Int64 × Int32 × Int32 × Int64 × Int64 × Int32 × Int32 × (Nat → Int32))} {t0_0 : Int32} {t0_1 : Int32} {t0_2 : Int32} {t0_3 : Int32} {t0_4 : Int32} {t0_5 : Int32} {t0_6 : Int32} {t0_7 : Int64} {t0_8 : Int32} {t0_9 : Int32} {t0_10 : Int64} {t0_11 : Int64} {t0_12 : Int32} {t0_13 : Int32} {t1_0 : (Nat → Int32)} {lx24 : Int32} {lx25 : Int32} {lx26 : (Nat → Int32)} {lx39 : Int32} {lx40 : (Nat → Int32)}  : ∀ (n : Nat) (lx53 : Int32), t0_0 = 0 → (F_TR_half_L71 K_F_TR_half_L7 t0_0 t0_1 t0_2 t0_3 t0_4 t0_5 t0_6 t0_7 t0_8 t0_9 t0_10 t0_11 t0_12 t0_13 t1_0 lx24 lx25 lx26 lx39 lx40 n lx53).1 = 0 := by
  intro n
  induction n with
  | zero => intro lx53 _; rfl
  | succ n ih =>
    intro lx53 h
    rw [F_TR_half_L71.eq_2]
    split
    · exact h
    · split
      · exact ih _ h
      · exact h
theorem yz_h7 {t0_0 : Int32} {t0_1 : Int32} {t0_2 : Int32} {t0_3 : Int32} {t0_4 : Int32} {t0_5 : Int32} {t0_6 : Int32} {t0_7 : Int64} {t0_8 : Int32} {t0_9 : Int32} {t0_10 : Int64} {t0_11 : Int64} {t0_12 : Int32} {t0_13 : Int32} {t1_0 : (Nat → Int32)}  : ∀ (n : Nat) (lx24 : Int32) (lx25 : Int32) (lx26 : (Nat → Int32)), t0_0 = 0 → (F_TR_half_L7 t0_0 t0_1 t0_2 t0_3 t0_4 t0_5 t0_6 t0_7 t0_8 t0_9 t0_10 t0_11 t0_12 t0_13 t1_0 n lx24 lx25 lx26).1 = 0 := by
  intro n
  induction n with
  | zero => intro lx24 lx25 lx26 _; rfl
  | succ n ih =>
    intro lx24 lx25 lx26 h
    rw [F_TR_half_L7.eq_2]
    split
    · split
      · exact yz_h71 _ _ h
      · exact yz_h71 _ _ h
    · exact ih _ _ _ h
theorem yz_half {t0_0 : Int32} {t0_1 : Int32} {t0_2 : Int32} {t0_3 : Int32} {t0_4 : Int32} {t0_5 : Int32} {t0_6 : Int32} {t0_7 : Int64} {t0_8 : Int32} {t0_9 : Int32} {t0_10 : Int64} {t0_11 : Int64} {t0_12 : Int32} {t0_13 : Int32} {t1_0 : (Nat → Int32)} (h : t0_0 = 0) : (F_TR_half t0_0 t0_1 t0_2 t0_3 t0_4 t0_5 t0_6 t0_7 t0_8 t0_9 t0_10 t0_11 t0_12 t0_13 t1_0).1 = 0 := by
  unfold F_TR_half
  exact yz_h7 _ _ _ _ h
theorem yz_t71 {K_F_TR_twice_L7 : Int32 → Int32 → (Nat → Int32) → (Int32 × Int32 × Int32 × Int32 × Int32 × Int32 × Int32 × Int64 × Int32 × Int32 × Int64 × Int64 × Int32 × Int32 × (Nat → Int32))} {t0_0 : Int32} {t0_1 : Int32} {t0_2 : Int32} {t0_3 : Int32} {t0_4 : Int32} {t0_5 : Int32} {t0_6 : Int32} {t0_7 : Int64} {t0_8 : Int32} {t0_9 : Int32} {t0_10 : Int64} {t0_11 : Int64} {t0_12 : Int32} {t0_13 : Int32} {t1_0 : (Nat → Int32)} {lx27 : Int32} {lx28 : Int32} {lx29 : (Nat → Int32)} {lx44 : Int32} {lx45 : (Nat → Int32)}  : ∀ (n : Nat) (lx58 : Int32), t0_0 = 0 → (F_TR_twice_L71 K_F_TR_twice_L7 t0_0 t0_1 t0_2 t0_3 t0_4 t0_5 t0_6 t0_7 t0_8 t0_9 t0_10 t0_11 t0_12 t0_13 t1_0 lx27 lx28 lx29 lx44 lx45 n lx58).1 = 0 := by
  intro n
  induction n with
  | zero => intro lx58 _; rfl
  | succ n ih =>
    intro lx58 h
    rw [F_TR_twice_L71.eq_2]
    split
    · exact h
    · split
      · exact ih _ h
      · exact h
theorem yz_t7 {t0_0 : Int32} {t0_1 : Int32} {t0_2 : Int32} {t0_3 : Int32} {t0_4 : Int32} {t0_5 : Int32} {t0_6 : Int32} {t0_7 : Int64} {t0_8 : Int32} {t0_9 : Int32} {t0_10 : Int64} {t0_11 : Int64} {t0_12 : Int32} {t0_13 : Int32} {t1_0 : (Nat → Int32)}  : ∀ (n : Nat) (lx27 : Int32) (lx28 : Int32) (lx29 : (Nat → Int32)), t0_0 = 0 → (F_TR_twice_L7 t0_0 t0_1 t0_2 t0_3 t0_4 t0_5 t0_6 t0_7 t0_8 t0_9 t0_10 t0_11 t0_12 t0_13 t1_0 n lx27 lx28 lx29).1 = 0 := by
  intro n
  induction n with
  | zero => intro lx27 lx28 lx29 _; rfl
  | succ n ih =>
    intro lx27 lx28 lx29 h
    rw [F_TR_twice_L7.eq_2]
    split
    · split
      · exact yz_t71 _ _ h
      · exact yz_t71 _ _ h
    · exact ih _ _ _ h
theorem yz_twice {t0_0 : Int32} {t0_1 : Int32} {t0_2 : Int32} {t0_3 : Int32} {t0_4 : Int32} {t0_5 : Int32} {t0_6 : Int32} {t0_7 : Int64} {t0_8 : Int32} {t0_9 : Int32} {t0_10 : Int64} {t0_11 : Int64} {t0_12 : Int32} {t0_13 : Int32} {t1_0 : (Nat → Int32)} (h : t0_0 = 0) : (F_TR_twice t0_0 t0_1 t0_2 t0_3 t0_4 t0_5 t0_6 t0_7 t0_8 t0_9 t0_10 t0_11 t0_12 t0_13 t1_0).1 = 0 := by
  unfold F_TR_twice
  exact yz_t7 _ _ _ _ h
theorem yz_w164 {K_F_TR_writeOut_L2 : Int32 → (Nat → Int32) → (Int32 × Int32 × Int32 × Int32 × Int32 × Int32 × Int32 × Int64 × Int32 × Int32 × Int64 × Int64 × Int32 × Int32 × (Nat → Int32))} {K_F_TR_writeOut_L29 : Int32 → (Nat → Int32) → (Int32 × Int32 × Int32 × Int32 × Int32 × Int32 × Int32 × Int64 × Int32 × Int32 × Int64 × Int64 × Int32 × Int32 × (Nat → Int32))} {K_F_TR_writeOut_L130 : Int32 → (Int32 × Int32 × Int32 × Int32 × Int32 × Int32 × Int32 × Int64 × Int32 × Int32 × Int64 × Int64 × Int32 × Int32 × (Nat → Int32))} {x2 : Int32} {x3 : Int32} {t0_0 : Int32} {t0_1 : Int32} {t0_2 : Int32} {t0_3 : Int32} {t0_4 : Int32} {t0_5 : Int32} {t0_6 : Int32} {t0_7 : Int64} {t0_8 : Int32} {t0_9 : Int32} {t0_10 : Int64} {t0_11 : Int64} {t0_12 : Int32} {t0_13 : Int32} {t1_0 : (Nat → Int32)} {t2_0 : (Nat → Int32)} {lx26 : Int32} {lx27 : (Nat → Int32)} {lx43 : Int32} {lx44 : (Nat → Int32)} {lx62 : Int32}  : ∀ (n : Nat) (lx84 : Int32), t0_0 = 0 → (F_TR_writeOut_L164 K_F_TR_writeOut_L2 K_F_TR_writeOut_L29 K_F_TR_writeOut_L130 x2 x3 t0_0 t0_1 t0_2 t0_3 t0_4 t0_5 t0_6 t0_7 t0_8 t0_9 t0_10 t0_11 t0_12 t0_13 t1_0 t2_0 lx26 lx27 lx43 lx44 lx62 n lx84).1 = 0 := by
  intro n
  induction n with
  | zero => intro lx84 _; rfl
  | succ n ih =>
    intro lx84 h
    rw [F_TR_writeOut_L164.eq_2]
    split
    · exact h
    · split
      · exact ih _ h
      · exact h
theorem yz_w130 {K_F_TR_writeOut_L2 : Int32 → (Nat → Int32) → (Int32 × Int32 × Int32 × Int32 × Int32 × Int32 × Int32 × Int64 × Int32 × Int32 × Int64 × Int64 × Int32 × Int32 × (Nat → Int32))} {K_F_TR_writeOut_L29 : Int32 → (Nat → Int32) → (Int32 × Int32 × Int32 × Int32 × Int32 × Int32 × Int32 × Int64 × Int32 × Int32 × Int64 × Int64 × Int32 × Int32 × (Nat → Int32))} {x2 : Int32} {x3 : Int32} {t0_0 : Int32} {t0_1 : Int32} {t0_2 : Int32} {t0_3 : Int32} {t0_4 : Int32} {t0_5 : Int32} {t0_6 : Int32} {t0_7 : Int64} {t0_8 : Int32} {t0_9 : Int32} {t0_10 : Int64} {t0_11 : Int64} {t0_12 : Int32} {t0_13 : Int32} {t1_0 : (Nat → Int32)} {t2_0 : (Nat → Int32)} {lx26 : Int32} {lx27 : (Nat → Int32)} {lx43 : Int32} {lx44 : (Nat → Int32)}  : ∀ (n : Nat) (lx62 : Int32), t0_0 = 0 → (F_TR_writeOut_L130 K_F_TR_writeOut_L2 K_F_TR_writeOut_L29 x2 x3 t0_0 t0_1 t0_2 t0_3 t0_4 t0_5 t0_6 t0_7 t0_8 t0_9 t0_10 t0_11 t0_12 t0_13 t1_0 t2_0 lx26 lx27 lx43 lx44 n lx62).1 = 0 := by
  intro n
  induction n with
  | zero => intro lx62 _; rfl
  | succ n ih =>
    intro lx62 h
    rw [F_TR_writeOut_L130.eq_2]
    split
    · exact yz_w164 _ _ h
    · split
      · exact ih _ h
      · exact yz_w164 _ _ h
theorem yz_w67 {K_F_TR_writeOut_L2 : Int32 → (Nat → Int32) → (Int32 × Int32 × Int32 × Int32 × Int32 × Int32 × Int32 × Int64 × Int32 × Int32 × Int64 × Int64 × Int32 × Int32 × (Nat → Int32))} {K_F_TR_writeOut_L29 : Int32 → (Nat → Int32) → (Int32 × Int32 × Int32 × Int32 × Int32 × Int32 × Int32 × Int64 × Int32 × Int32 × Int64 × Int64 × Int32 × Int32 × (Nat → Int32))} {x2 : Int32} {x3 : Int32} {t0_0 : Int32} {t0_1 : Int32} {t0_2 : Int32} {t0_3 : Int32} {t0_4 : Int32} {t0_5 : Int32} {t0_6 : Int32} {t0_7 : Int64} {t0_8 : Int32} {t0_9 : Int32} {t0_10 : Int64} {t0_11 : Int64} {t0_12 : Int32} {t0_13 : Int32} {t1_0 : (Nat → Int32)} {t2_0 : (Nat → Int32)} {lx26 : Int32} {lx27 : (Nat → Int32)} {lx43 : Int32} {lx44 : (Nat → Int32)} {a132 : Int32} (hK : ∀ a b, (K_F_TR_writeOut_L29 a b).1 = 0) : ∀ (n : Nat) (lx141 : Int32) (lx142 : Int32), t0_0 = 0 → (F_TR_writeOut_L67 K_F_TR_writeOut_L2 K_F_TR_writeOut_L29 x2 x3 t0_0 t0_1 t0_2 t0_3 t0_4 t0_5 t0_6 t0_7 t0_8 t0_9 t0_10 t0_11 t0_12 t0_13 t1_0 t2_0 lx26 lx27 lx43 lx44 a132 n lx141 lx142).1 = 0 := by
  intro n
  induction n with
  | zero => intro lx141 lx142 _; rfl
  | succ n ih =>
    intro lx141 lx142 h
    rw [F_TR_writeOut_L67.eq_2]
    split
    · exact hK _ _
    · exact ih _ _ h
theorem yz_w29 {K_F_TR_writeOut_L2 : Int32 → (Nat → Int32) → (Int32 × Int32 × Int32 × Int32 × Int32 × Int32 × Int32 × Int64 × Int32 × Int32 × Int64 × Int64 × Int32 × Int32 × (Nat → Int32))} {x2 : Int32} {x3 : Int32} {t0_0 : Int32} {t0_1 : Int32} {t0_2 : Int32} {t0_3 : Int32} {t0_4 : Int32} {t0_5 : Int32} {t0_6 : Int32} {t0_7 : Int64} {t0_8 : Int32} {t0_9 : Int32} {t0_10 : Int64} {t0_11 : Int64} {t0_12 : Int32} {t0_13 : Int32} {t1_0 : (Nat → Int32)} {t2_0 : (Nat → Int32)} {lx26 : Int32} {lx27 : (Nat → Int32)}  : ∀ (n : Nat) (lx43 : Int32) (lx44 : (Nat → Int32)), t0_0 = 0 → (F_TR_writeOut_L29 K_F_TR_writeOut_L2 x2 x3 t0_0 t0_1 t0_2 t0_3 t0_4 t0_5 t0_6 t0_7 t0_8 t0_9 t0_10 t0_11 t0_12 t0_13 t1_0 t2_0 lx26 lx27 n lx43 lx44).1 = 0 := by
  intro n
  induction n with
  | zero => intro lx43 lx44 _; rfl
  | succ n ih =>
    intro lx43 lx44 h
    rw [F_TR_writeOut_L29.eq_2]
    split
    · exact yz_w130 _ _ h
    · exact yz_w67 (fun a b => ih a b h) _ _ _ h
theorem yz_w2 {x2 : Int32} {x3 : Int32} {t0_0 : Int32} {t0_1 : Int32} {t0_2 : Int32} {t0_3 : Int32} {t0_4 : Int32} {t0_5 : Int32} {t0_6 : Int32} {t0_7 : Int64} {t0_8 : Int32} {t0_9 : Int32} {t0_10 : Int64} {t0_11 : Int64} {t0_12 : Int32} {t0_13 : Int32} {t1_0 : (Nat → Int32)} {t2_0 : (Nat → Int32)}  : ∀ (n : Nat) (lx26 : Int32) (lx27 : (Nat → Int32)), t0_0 = 0 → (F_TR_writeOut_L2 x2 x3 t0_0 t0_1 t0_2 t0_3 t0_4 t0_5 t0_6 t0_7 t0_8 t0_9 t0_10 t0_11 t0_12 t0_13 t1_0 t2_0 n lx26 lx27).1 = 0 := by
  intro n
  induction n with
  | zero => intro lx26 lx27 _; rfl
  | succ n ih =>
    intro lx26 lx27 h
    rw [F_TR_writeOut_L2.eq_2]
    split
    · exact yz_w29 _ _ _ h
    · exact ih _ _ h
theorem yz_writeOut {x2 : Int32} {x3 : Int32} {t0_0 : Int32} {t0_1 : Int32} {t0_2 : Int32} {t0_3 : Int32} {t0_4 : Int32} {t0_5 : Int32} {t0_6 : Int32} {t0_7 : Int64} {t0_8 : Int32} {t0_9 : Int32} {t0_10 : Int64} {t0_11 : Int64} {t0_12 : Int32} {t0_13 : Int32} {t1_0 : (Nat → Int32)} {t2_0 : (Nat → Int32)} (h : t0_0 = 0) : (F_TR_writeOut x2 x3 t0_0 t0_1 t0_2 t0_3 t0_4 t0_5 t0_6 t0_7 t0_8 t0_9 t0_10 t0_11 t0_12 t0_13 t1_0 t2_0).1 = 0 := by
  unfold F_TR_writeOut
  exact yz_w2 _ _ _ h
theorem yz_d190 {K_F_TR_findDecimal_L78 : Int32 → Int32 → Int32 → Int32 → Int32 → Int32 → Int32 → Int64 → Int32 → Int32 → Int64 → Int64 → Int32 → Int32 → (Nat → Int32) → (Int32 × Int32 × Int32 × Int32 × Int32 × Int32 × Int32 × Int64 × Int32 × Int32 × Int64 × Int64 × Int32 × Int32 × (Nat → Int32))} {K_F_TR_findDecimal_L106 : Int32 → Int32 → Int32 → Int32 → Int32 → Int32 → Int32 → Int64 → Int32 → Int32 → Int64 → Int64 → Int32 → Int32 → (Nat → Int32) → (Int32 × Int32 × Int32 × Int32 × Int32 × Int32 × Int32 × Int64 × Int32 × Int32 × Int64 × Int64 × Int32 × Int32 × (Nat → Int32))} {x2 : Int32} {x3 : Int32} {x4 : Int32} {t0_0 : Int32} {t0_1 : Int32} {t0_2 : Int32} {t0_3 : Int32} {t0_4 : Int32} {t0_5 : Int32} {t0_6 : Int32} {t0_7 : Int64} {t0_8 : Int32} {t0_9 : Int32} {t0_10 : Int64} {t0_11 : Int64} {t0_12 : Int32} {t0_13 : Int32} {t1_0 : (Nat → Int32)} {t2_0 : (Nat → Int32)} {j30 : Int64} {lx35 : Int32} {p118 : (Int32 × Int32 × Int32 × Int32 × Int32 × Int32 × Int32 × Int64 × Int32 × Int32 × Int64 × Int64 × Int32 × Int32 × (Nat → Int32))} {lx142 : Int32} {lx143 : Int32} {lx144 : Int32} {lx145 : Int32} {lx146 : Int32} {lx147 : Int32} {lx148 : Int32} {lx149 : Int64} {lx150 : Int32} {lx151 : Int32} {lx152 : Int64} {lx153 : Int64} {lx154 : Int32} {lx155 : Int32} {lx156 : (Nat → Int32)} {lx203 : Int32} {lx204 : Int32} {lx205 : Int32} {lx206 : Int32} {lx207 : Int32} {lx208 : Int32} {lx209 : Int32} {lx210 : Int64} {lx211 : Int32} {lx212 : Int32} {lx213 : Int64} {lx214 : Int64} {lx215 : Int32} {lx216 : Int32} {lx217 : (Nat → Int32)} {j280 : Int64} {lx285 : Int32} {lx295 : Int32} (h : lx203 = 0) : (F_TR_findDecimal_J190 K_F_TR_findDecimal_L78 K_F_TR_findDecimal_L106 x2 x3 x4 t0_0 t0_1 t0_2 t0_3 t0_4 t0_5 t0_6 t0_7 t0_8 t0_9 t0_10 t0_11 t0_12 t0_13 t1_0 t2_0 j30 lx35 p118 lx142 lx143 lx144 lx145 lx146 lx147 lx148 lx149 lx150 lx151 lx152 lx153 lx154 lx155 lx156 lx203 lx204 lx205 lx206 lx207 lx208 lx209 lx210 lx211 lx212 lx213 lx214 lx215 lx216 lx217 j280 lx285 lx295).1 = 0 := by
  unfold F_TR_findDecimal_J190
  repeat' split
  all_goals exact h
theorem yz_d174 {K_F_TR_findDecimal_L78 : Int32 → Int32 → Int32 → Int32 → Int32 → Int32 → Int32 → Int64 → Int32 → Int32 → Int64 → Int64 → Int32 → Int32 → (Nat → Int32) → (Int32 × Int32 × Int32 × Int32 × Int32 × Int32 × Int32 × Int64 × Int32 × Int32 × Int64 × Int64 × Int32 × Int32 × (Nat → Int32))} {K_F_TR_findDecimal_L106 : Int32 → Int32 → Int32 → Int32 → Int32 → Int32 → Int32 → Int64 → Int32 → Int32 → Int64 → Int64 → Int32 → Int32 → (Nat → Int32) → (Int32 × Int32 × Int32 × Int32 × Int32 × Int32 × Int32 × Int64 × Int32 × Int32 × Int64 × Int64 × Int32 × Int32 × (Nat → Int32))} {x2 : Int32} {x3 : Int32} {x4 : Int32} {t0_0 : Int32} {t0_1 : Int32} {t0_2 : Int32} {t0_3 : Int32} {t0_4 : Int32} {t0_5 : Int32} {t0_6 : Int32} {t0_7 : Int64} {t0_8 : Int32} {t0_9 : Int32} {t0_10 : Int64} {t0_11 : Int64} {t0_12 : Int32} {t0_13 : Int32} {t1_0 : (Nat → Int32)} {t2_0 : (Nat → Int32)} {j30 : Int64} {lx35 : Int32} {p118 : (Int32 × Int32 × Int32 × Int32 × Int32 × Int32 × Int32 × Int64 × Int32 × Int32 × Int64 × Int64 × Int32 × Int32 × (Nat → Int32))} {lx142 : Int32} {lx143 : Int32} {lx144 : Int32} {lx145 : Int32} {lx146 : Int32} {lx147 : Int32} {lx148 : Int32} {lx149 : Int64} {lx150 : Int32} {lx151 : Int32} {lx152 : Int64} {lx153 : Int64} {lx154 : Int32} {lx155 : Int32} {lx156 : (Nat → Int32)} {lx203 : Int32} {lx204 : Int32} {lx205 : Int32} {lx206 : Int32} {lx207 : Int32} {lx208 : Int32} {lx209 : Int32} {lx210 : Int64} {lx211 : Int32} {lx212 : Int32} {lx213 : Int64} {lx214 : Int64} {lx215 : Int32} {lx216 : Int32} {lx217 : (Nat → Int32)} {j280 : Int64} {lx285 : Int32} (h : lx203 = 0) : (F_TR_findDecimal_J174 K_F_TR_findDecimal_L78 K_F_TR_findDecimal_L106 x2 x3 x4 t0_0 t0_1 t0_2 t0_3 t0_4 t0_5 t0_6 t0_7 t0_8 t0_9 t0_10 t0_11 t0_12 t0_13 t1_0 t2_0 j30 lx35 p118 lx142 lx143 lx144 lx145 lx146 lx147 lx148 lx149 lx150 lx151 lx152 lx153 lx154 lx155 lx156 lx203 lx204 lx205 lx206 lx207 lx208 lx209 lx210 lx211 lx212 lx213 lx214 lx215 lx216 lx217 j280 lx285).1 = 0 := by
  unfold F_TR_findDecimal_J174
  split
  · exact yz_d190 h
  · exact yz_d190 h
theorem yz_d146 {K_F_TR_findDecimal_L78 : Int32 → Int32 → Int32 → Int32 → Int32 → Int32 → Int32 → Int64 → Int32 → Int32 → Int64 → Int64 → Int32 → Int32 → (Nat → Int32) → (Int32 × Int32 × Int32 × Int32 × Int32 × Int32 × Int32 × Int64 × Int32 × Int32 × Int64 × Int64 × Int32 × Int32 × (Nat → Int32))} {K_F_TR_findDecimal_L106 : Int32 → Int32 → Int32 → Int32 → Int32 → Int32 → Int32 → Int64 → Int32 → Int32 → Int64 → Int64 → Int32 → Int32 → (Nat → Int32) → (Int32 × Int32 × Int32 × Int32 × Int32 × Int32 × Int32 × Int64 × Int32 × Int32 × Int64 × Int64 × Int32 × Int32 × (Nat → Int32))} {x2 : Int32} {x3 : Int32} {x4 : Int32} {t0_0 : Int32} {t0_1 : Int32} {t0_2 : Int32} {t0_3 : Int32} {t0_4 : Int32} {t0_5 : Int32} {t0_6 : Int32} {t0_7 : Int64} {t0_8 : Int32} {t0_9 : Int32} {t0_10 : Int64} {t0_11 : Int64} {t0_12 : Int32} {t0_13 : Int32} {t1_0 : (Nat → Int32)} {t2_0 : (Nat → Int32)} {j30 : Int64} {lx35 : Int32} {p118 : (Int32 × Int32 × Int32 × Int32 × Int32 × Int32 × Int32 × Int64 × Int32 × Int32 × Int64 × Int64 × Int32 × Int32 × (Nat → Int32))} {lx142 : Int32} {lx143 : Int32} {lx144 : Int32} {lx145 : Int32} {lx146 : Int32} {lx147 : Int32} {lx148 : Int32} {lx149 : Int64} {lx150 : Int32} {lx151 : Int32} {lx152 : Int64} {lx153 : Int64} {lx154 : Int32} {lx155 : Int32} {lx156 : (Nat → Int32)} {lx203 : Int32} {lx204 : Int32} {lx205 : Int32} {lx206 : Int32} {lx207 : Int32} {lx208 : Int32} {lx209 : Int32} {lx210 : Int64} {lx211 : Int32} {lx212 : Int32} {lx213 : Int64} {lx214 : Int64} {lx215 : Int32} {lx216 : Int32} {lx217 : (Nat → Int32)} (h : lx203 = 0) : (F_TR_findDecimal_J146 K_F_TR_findDecimal_L78 K_F_TR_findDecimal_L106 x2 x3 x4 t0_0 t0_1 t0_2 t0_3 t0_4 t0_5 t0_6 t0_7 t0_8 t0_9 t0_10 t0_11 t0_12 t0_13 t1_0 t2_0 j30 lx35 p118 lx142 lx143 lx144 lx145 lx146 lx147 lx148 lx149 lx150 lx151 lx152 lx153 lx154 lx155 lx156 lx203 lx204 lx205 lx206 lx207 lx208 lx209 lx210 lx211 lx212 lx213 lx214 lx215 lx216 lx217).1 = 0 := by
  unfold F_TR_findDecimal_J146
  split
  · exact yz_d174 h
  · exact yz_d174 h
theorem yz_d106 {K_F_TR_findDecimal_L78 : Int32 → Int32 → Int32 → Int32 → Int32 → Int32 → Int32 → Int64 → Int32 → Int32 → Int64 → Int64 → Int32 → Int32 → (Nat → Int32) → (Int32 × Int32 × Int32 × Int32 × Int32 × Int32 × Int32 × Int64 × Int32 × Int32 × Int64 × Int64 × Int32 × Int32 × (Nat → Int32))} {x2 : Int32} {x3 : Int32} {x4 : Int32} {t0_0 : Int32} {t0_1 : Int32} {t0_2 : Int32} {t0_3 : Int32} {t0_4 : Int32} {t0_5 : Int32} {t0_6 : Int32} {t0_7 : Int64} {t0_8 : Int32} {t0_9 : Int32} {t0_10 : Int64} {t0_11 : Int64} {t0_12 : Int32} {t0_13 : Int32} {t1_0 : (Nat → Int32)} {t2_0 : (Nat → Int32)} {j30 : Int64} {lx35 : Int32} {p118 : (Int32 × Int32 × Int32 × Int32 × Int32 × Int32 × Int32 × Int64 × Int32 × Int32 × Int64 × Int64 × Int32 × Int32 × (Nat → Int32))} {lx142 : Int32} {lx143 : Int32} {lx144 : Int32} {lx145 : Int32} {lx146 : Int32} {lx147 : Int32} {lx148 : Int32} {lx149 : Int64} {lx150 : Int32} {lx151 : Int32} {lx152 : Int64} {lx153 : Int64} {lx154 : Int32} {lx155 : Int32} {lx156 : (Nat → Int32)}  : ∀ (n : Nat) (lx203 : Int32) (lx204 : Int32) (lx205 : Int32) (lx206 : Int32) (lx207 : Int32) (lx208 : Int32) (lx209 : Int32) (lx210 : Int64) (lx211 : Int32) (lx212 : Int32) (lx213 : Int64) (lx214 : Int64) (lx215 : Int32) (lx216 : Int32) (lx217 : (Nat → Int32)), lx203 = 0 → (F_TR_findDecimal_L106 K_F_TR_findDecimal_L78 x2 x3 x4 t0_0 t0_1 t0_2 t0_3 t0_4 t0_5 t0_6 t0_7 t0_8 t0_9 t0_10 t0_11 t0_12 t0_13 t1_0 t2_0 j30 lx35 p118 lx142 lx143 lx144 lx145 lx146 lx147 lx148 lx149 lx150 lx151 lx152 lx153 lx154 lx155 lx156 n lx203 lx204 lx205 lx206 lx207 lx208 lx209 lx210 lx211 lx212 lx213 lx214 lx215 lx216 lx217).1 = 0 := by
  intro n
  induction n with
  | zero => intros; rfl
  | succ n ih =>
    intro lx203 lx204 lx205 lx206 lx207 lx208 lx209 lx210 lx211 lx212 lx213 lx214 lx215 lx216 lx217 h
    rw [F_TR_findDecimal_L106.eq_2]
    split
    · exact yz_d146 h
    · split
      · exact yz_d146 h
      · unfold F_TR_findDecimal_c130
        exact ih _ _ _ _ _ _ _ _ _ _ _ _ _ _ _ (yz_twice h)
theorem yz_d78 {x2 : Int32} {x3 : Int32} {x4 : Int32} {t0_0 : Int32} {t0_1 : Int32} {t0_2 : Int32} {t0_3 : Int32} {t0_4 : Int32} {t0_5 : Int32} {t0_6 : Int32} {t0_7 : Int64} {t0_8 : Int32} {t0_9 : Int32} {t0_10 : Int64} {t0_11 : Int64} {t0_12 : Int32} {t0_13 : Int32} {t1_0 : (Nat → Int32)} {t2_0 : (Nat → Int32)} {j30 : Int64} {lx35 : Int32} {p118 : (Int32 × Int32 × Int32 × Int32 × Int32 × Int32 × Int32 × Int64 × Int32 × Int32 × Int64 × Int64 × Int32 × Int32 × (Nat → Int32))}  : ∀ (n : Nat) (lx142 : Int32) (lx143 : Int32) (lx144 : Int32) (lx145 : Int32) (lx146 : Int32) (lx147 : Int32) (lx148 : Int32) (lx149 : Int64) (lx150 : Int32) (lx151 : Int32) (lx152 : Int64) (lx153 : Int64) (lx154 : Int32) (lx155 : Int32) (lx156 : (Nat → Int32)), lx142 = 0 → (F_TR_findDecimal_L78 x2 x3 x4 t0_0 t0_1 t0_2 t0_3 t0_4 t0_5 t0_6 t0_7 t0_8 t0_9 t0_10 t0_11 t0_12 t0_13 t1_0 t2_0 j30 lx35 p118 n lx142 lx143 lx144 lx145 lx146 lx147 lx148 lx149 lx150 lx151 lx152 lx153 lx154 lx155 lx156).1 = 0 := by
  intro n
  induction n with
  | zero => intros; rfl
  | succ n ih =>
    intro lx142 lx143 lx144 lx145 lx146 lx147 lx148 lx149 lx150 lx151 lx152 lx153 lx154 lx155 lx156 h
    rw [F_TR_findDecimal_L78.eq_2]
    split
    · exact yz_d106 _ _ _ _ _ _ _ _ _ _ _ _ _ _ _ _ h
    · unfold F_TR_findDecimal_c90
      exact ih _ _ _ _ _ _ _ _ _ _ _ _ _ _ _ (yz_half h)
theorem yz_d29 {x2 : Int32} {x3 : Int32} {x4 : Int32} {t0_0 : Int32} {t0_1 : Int32} {t0_2 : Int32} {t0_3 : Int32} {t0_4 : Int32} {t0_5 : Int32} {t0_6 : Int32} {t0_7 : Int64} {t0_8 : Int32} {t0_9 : Int32} {t0_10 : Int64} {t0_11 : Int64} {t0_12 : Int32} {t0_13 : Int32} {t1_0 : (Nat → Int32)} {t2_0 : (Nat → Int32)} {j30 : Int64} {lx35 : Int32} (h : t0_0 = 0) : (F_TR_findDecimal_J29 x2 x3 x4 t0_0 t0_1 t0_2 t0_3 t0_4 t0_5 t0_6 t0_7 t0_8 t0_9 t0_10 t0_11 t0_12 t0_13 t1_0 t2_0 j30 lx35).1 = 0 := by
  unfold F_TR_findDecimal_J29
  split
  · split
    · unfold F_TR_findDecimal_c70
      exact yz_d78 _ _ _ _ _ _ _ _ _ _ _ _ _ _ _ _ (yz_writeOut h)
    · exact h
  · exact h
theorem yz_findDecimal {x2 : Int32} {x3 : Int32} {x4 : Int32} {t0_0 : Int32} {t0_1 : Int32} {t0_2 : Int32} {t0_3 : Int32} {t0_4 : Int32} {t0_5 : Int32} {t0_6 : Int32} {t0_7 : Int64} {t0_8 : Int32} {t0_9 : Int32} {t0_10 : Int64} {t0_11 : Int64} {t0_12 : Int32} {t0_13 : Int32} {t1_0 : (Nat → Int32)} {t2_0 : (Nat → Int32)} (h : t0_0 = 0) : (F_TR_findDecimal x2 x3 x4 t0_0 t0_1 t0_2 t0_3 t0_4 t0_5 t0_6 t0_7 t0_8 t0_9 t0_10 t0_11 t0_12 t0_13 t1_0 t2_0).1 = 0 := by
  unfold F_TR_findDecimal
  split
  · exact yz_d29 h
  · exact yz_d29 h
theorem yz_x268 {K_F_TR_findHexadecimal_L156 : Int64 → Int64 → (Int32 × Int32 × Int32 × Int32 × Int32 × Int32 × Int32 × Int64 × Int32 × Int32 × Int64 × Int64 × Int32 × Int32)} {K_F_TR_findHexadecimal_L229 : Int64 → Int32 → (Int32 × Int32 × Int32 × Int32 × Int32 × Int32 × Int32 × Int64 × Int32 × Int32 × Int64 × Int64 × Int32 × Int32)} {x2 : Int32} {x3 : Int32} {x4 : Int32} {t0_0 : Int32} {t0_1 : Int32} {t0_2 : Int32} {t0_3 : Int32} {t0_4 : Int32} {t0_5 : Int32} {t0_6 : Int32} {t0_7 : Int64} {t0_8 : Int32} {t0_9 : Int32} {t0_10 : Int64} {t0_11 : Int64} {t0_12 : Int32} {t0_13 : Int32} {t1_0 : (Nat → Int32)} {lx26 : Int32} {j54 : Int64} {lx59 : Int32} {j74 : Int64} {lx102 : Int64} {lx114 : Int64} {lx115 : Int64} {j138 : Int64} {lx144 : Int64} {lx145 : Int32} (h : t0_0 = 0) : (F_TR_findHexadecimal_J268 K_F_TR_findHexadecimal_L156 K_F_TR_findHexadecimal_L229 x2 x3 x4 t0_0 t0_1 t0_2 t0_3 t0_4 t0_5 t0_6 t0_7 t0_8 t0_9 t0_10 t0_11 t0_12 t0_13 t1_0 lx26 j54 lx59 j74 lx102 lx114 lx115 j138 lx144 lx145).1 = 0 := by
  unfold F_TR_findHexadecimal_J268
  repeat' split
  all_goals exact h
theorem yz_x229 {K_F_TR_findHexadecimal_L156 : Int64 → Int64 → (Int32 × Int32 × Int32 × Int32 × Int32 × Int32 × Int32 × Int64 × Int32 × Int32 × Int64 × Int64 × Int32 × Int32)} {x2 : Int32} {x3 : Int32} {x4 : Int32} {t0_0 : Int32} {t0_1 : Int32} {t0_2 : Int32} {t0_3 : Int32} {t0_4 : Int32} {t0_5 : Int32} {t0_6 : Int32} {t0_7 : Int64} {t0_8 : Int32} {t0_9 : Int32} {t0_10 : Int64} {t0_11 : Int64} {t0_12 : Int32} {t0_13 : Int32} {t1_0 : (Nat → Int32)} {lx26 : Int32} {j54 : Int64} {lx59 : Int32} {j74 : Int64} {lx102 : Int64} {lx114 : Int64} {lx115 : Int64} {j138 : Int64}  : ∀ (n : Nat) (lx144 : Int64) (lx145 : Int32), t0_0 = 0 → (F_TR_findHexadecimal_L229 K_F_TR_findHexadecimal_L156 x2 x3 x4 t0_0 t0_1 t0_2 t0_3 t0_4 t0_5 t0_6 t0_7 t0_8 t0_9 t0_10 t0_11 t0_12 t0_13 t1_0 lx26 j54 lx59 j74 lx102 lx114 lx115 j138 n lx144 lx145).1 = 0 := by
  intro n
  induction n with
  | zero => intros; rfl
  | succ n ih =>
    intro lx144 lx145 h
    rw [F_TR_findHexadecimal_L229.eq_2]
    split
    · exact yz_x268 h
    · split
      · split
        · exact ih _ _ h
        · exact ih _ _ h
      · exact yz_x268 h
theorem yz_x156 {x2 : Int32} {x3 : Int32} {x4 : Int32} {t0_0 : Int32} {t0_1 : Int32} {t0_2 : Int32} {t0_3 : Int32} {t0_4 : Int32} {t0_5 : Int32} {t0_6 : Int32} {t0_7 : Int64} {t0_8 : Int32} {t0_9 : Int32} {t0_10 : Int64} {t0_11 : Int64} {t0_12 : Int32} {t0_13 : Int32} {t1_0 : (Nat → Int32)} {lx26 : Int32} {j54 : Int64} {lx59 : Int32} {j74 : Int64} {lx102 : Int64}  : ∀ (n : Nat) (lx114 : Int64) (lx115 : Int64), t0_0 = 0 → (F_TR_findHexadecimal_L156 x2 x3 x4 t0_0 t0_1 t0_2 t0_3 t0_4 t0_5 t0_6 t0_7 t0_8 t0_9 t0_10 t0_11 t0_12 t0_13 t1_0 lx26 j54 lx59 j74 lx102 n lx114 lx115).1 = 0 := by
  intro n
  induction n with
  | zero => intros; rfl
  | succ n ih =>
    intro lx114 lx115 h
    rw [F_TR_findHexadecimal_L156.eq_2]
    split
    · exact yz_x229 _ _ _ h
    · exact ih _ _ h
theorem yz_x87 {x2 : Int32} {x3 : Int32} {x4 : Int32} {t0_0 : Int32} {t0_1 : Int32} {t0_2 : Int32} {t0_3 : Int32} {t0_4 : Int32} {t0_5 : Int32} {t0_6 : Int32} {t0_7 : Int64} {t0_8 : Int32} {t0_9 : Int32} {t0_10 : Int64} {t0_11 : Int64} {t0_12 : Int32} {t0_13 : Int32} {t1_0 : (Nat → Int32)} {lx26 : Int32} {j54 : Int64} {lx59 : Int32} (h : t0_0 = 0) : (F_TR_findHexadecimal_J87 x2 x3 x4 t0_0 t0_1 t0_2 t0_3 t0_4 t0_5 t0_6 t0_7 t0_8 t0_9 t0_10 t0_11 t0_12 t0_13 t1_0 lx26 j54 lx59).1 = 0 := by
  unfold F_TR_findHexadecimal_J87
  split
  · split
    · split
      · unfold F_TR_findHexadecimal_J149
        exact yz_x156 _ _ _ h
      · unfold F_TR_findHexadecimal_J149
        exact yz_x156 _ _ _ h
    · exact h
  · exact h
theorem yz_x44 {x2 : Int32} {x3 : Int32} {x4 : Int32} {t0_0 : Int32} {t0_1 : Int32} {t0_2 : Int32} {t0_3 : Int32} {t0_4 : Int32} {t0_5 : Int32} {t0_6 : Int32} {t0_7 : Int64} {t0_8 : Int32} {t0_9 : Int32} {t0_10 : Int64} {t0_11 : Int64} {t0_12 : Int32} {t0_13 : Int32} {t1_0 : (Nat → Int32)} {lx26 : Int32} (h : t0_0 = 0) : (F_TR_findHexadecimal_J44 x2 x3 x4 t0_0 t0_1 t0_2 t0_3 t0_4 t0_5 t0_6 t0_7 t0_8 t0_9 t0_10 t0_11 t0_12 t0_13 t1_0 lx26).1 = 0 := by
  unfold F_TR_findHexadecimal_J44
  split
  · exact yz_x87 h
  · exact yz_x87 h
theorem yz_findHexadecimal {x2 : Int32} {x3 : Int32} {x4 : Int32} {t0_0 : Int32} {t0_1 : Int32} {t0_2 : Int32} {t0_3 : Int32} {t0_4 : Int32} {t0_5 : Int32} {t0_6 : Int32} {t0_7 : Int64} {t0_8 : Int32} {t0_9 : Int32} {t0_10 : Int64} {t0_11 : Int64} {t0_12 : Int32} {t0_13 : Int32} {t1_0 : (Nat → Int32)} (h : t0_0 = 0) : (F_TR_findHexadecimal x2 x3 x4 t0_0 t0_1 t0_2 t0_3 t0_4 t0_5 t0_6 t0_7 t0_8 t0_9 t0_10 t0_11 t0_12 t0_13 t1_0).1 = 0 := by
  unfold F_TR_findHexadecimal
  split
  · split
    · split
      · exact yz_x44 h
      · exact yz_x44 h
    · exact yz_x44 h
  · exact yz_x44 h
theorem yz_f25 {K_F_TR_find_L2 : Int32 → (Int32 × Int32 × Int32 × Int32 × Int32 × Int32 × Int32 × Int64 × Int32 × Int32 × Int64 × Int64 × Int32 × Int32 × (Nat → Int32))} {x2 : Int32} {x3 : Int32} {t0_0 : Int32} {t0_1 : Int32} {t0_2 : Int32} {t0_3 : Int32} {t0_4 : Int32} {t0_5 : Int32} {t0_6 : Int32} {t0_7 : Int64} {t0_8 : Int32} {t0_9 : Int32} {t0_10 : Int64} {t0_11 : Int64} {t0_12 : Int32} {t0_13 : Int32} {t1_0 : (Nat → Int32)} {t2_0 : (Nat → Int32)} {lx26 : Int32} (h : t0_0 = 0) : (F_TR_find_J25 K_F_TR_find_L2 x2 x3 t0_0 t0_1 t0_2 t0_3 t0_4 t0_5 t0_6 t0_7 t0_8 t0_9 t0_10 t0_11 t0_12 t0_13 t1_0 t2_0 lx26).1 = 0 := by
  unfold F_TR_find_J25
  split
  · exact h
  · split
    · unfold F_TR_find_c68
      exact yz_findDecimal h
    · unfold F_TR_find_c78
      exact yz_findHexadecimal h
theorem yz_f2 {x2 : Int32} {x3 : Int32} {t0_0 : Int32} {t0_1 : Int32} {t0_2 : Int32} {t0_3 : Int32} {t0_4 : Int32} {t0_5 : Int32} {t0_6 : Int32} {t0_7 : Int64} {t0_8 : Int32} {t0_9 : Int32} {t0_10 : Int64} {t0_11 : Int64} {t0_12 : Int32} {t0_13 : Int32} {t1_0 : (Nat → Int32)} {t2_0 : (Nat → Int32)}  : ∀ (n : Nat) (lx26 : Int32), t0_0 = 0 → (F_TR_find_L2 x2 x3 t0_0 t0_1 t0_2 t0_3 t0_4 t0_5 t0_6 t0_7 t0_8 t0_9 t0_10 t0_11 t0_12 t0_13 t1_0 t2_0 n lx26).1 = 0 := by
  intro n
  induction n with
  | zero => intros; rfl
  | succ n ih =>
    intro lx26 h
    rw [F_TR_find_L2.eq_2]
    split
    · exact yz_f25 h
    · split
      · exact ih _ h
      · exact yz_f25 h
theorem yz_find {x2 : Int32} {x3 : Int32} {t0_0 : Int32} {t0_1 : Int32} {t0_2 : Int32} {t0_3 : Int32} {t0_4 : Int32} {t0_5 : Int32} {t0_6 : Int32} {t0_7 : Int64} {t0_8 : Int32} {t0_9 : Int32} {t0_10 : Int64} {t0_11 : Int64} {t0_12 : Int32} {t0_13 : Int32} {t1_0 : (Nat → Int32)} {t2_0 : (Nat → Int32)} (h : t0_0 = 0) : (F_TR_find x2 x3 t0_0 t0_1 t0_2 t0_3 t0_4 t0_5 t0_6 t0_7 t0_8 t0_9 t0_10 t0_11 t0_12 t0_13 t1_0 t2_0).1 = 0 := by
  unfold F_TR_find
  exact yz_f2 _ _ h
theorem yz_sizeRead {x2 : Int32} {x3 : Int32} {t0_0 : Int32} {t0_1 : Int32} {t0_2 : Int32} {t0_3 : Int32} {t0_4 : Int32} {t0_5 : Int32} {t0_6 : Int32} {t0_7 : Int64} {t0_8 : Int32} {t0_9 : Int32} {t0_10 : Int64} {t0_11 : Int64} {t0_12 : Int32} {t0_13 : Int32} {t1_0 : (Nat → Int32)} {t2_0 : (Nat → Int32)} (h : t0_0 = 0) : (F_TR_sizeRead x2 x3 t0_0 t0_1 t0_2 t0_3 t0_4 t0_5 t0_6 t0_7 t0_8 t0_9 t0_10 t0_11 t0_12 t0_13 t1_0 t2_0).2.1 = 0 := by
  unfold F_TR_sizeRead
  split
  · unfold F_TR_sizeRead_c49
    have := yz_find (x2 := x2) (x3 := x3) (t0_1 := t0_1) (t0_2 := t0_2) (t0_3 := t0_3) (t0_4 := t0_4) (t0_5 := t0_5) (t0_6 := t0_6) (t0_7 := t0_7) (t0_8 := t0_8) (t0_9 := t0_9) (t0_10 := t0_10) (t0_11 := t0_11) (t0_12 := t0_12) (t0_13 := t0_13) (t1_0 := t1_0) (t2_0 := t2_0) h
    repeat' split
    all_goals exact this
  · split
    · unfold F_TR_sizeRead_J23
      split
      · exact h
      · exact h
    · unfold F_TR_sizeRead_J23
      split
      · exact h
      · exact h
