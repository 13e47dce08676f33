/-! values, for whole: a directive's argument -/
def zWh (fl : Int32) (idx ord : Nat) (last : Int) : Int := if fl &&& 64 = 0 then (if idx = 0 then (ord : Int) else (idx : Int) - 1) else last
def zOr (fl : Int32) (idx ord : Nat) : Nat := if fl &&& 64 = 0 ∧ idx = 0 then ord + 1 else ord
def zTk (cv : Int32) (k : Nat) : Prop := k = 0 ∨ cv ∈ yO8 ∨ (¬ cv ∈ yO8 ∧ cv ∈ yO9 ∧ k = 2) ∨ (¬ cv ∈ yO8 ∧ ¬ cv ∈ yO9 ∧ cv ∈ yO10 ∧ k = 3) ∨ (¬ cv ∈ yO8 ∧ ¬ cv ∈ yO9 ∧ ¬ cv ∈ yO10 ∧ k = 5)
/-- the fault of a directive, the argument's number, how many were taken, the last one -/
def zFnd (fl wd pr cv tw : Int32) (idx ord : Nat) (last : Int) (A : List yA) (F wh o l : Int) : Prop := (zBs fl wd pr cv tw ≠ 0 ∧ F = (zBs fl wd pr cv tw).toInt) ∨ (zBs fl wd pr cv tw = 0 ∧ (cv = 37 ∨ cv = 110) ∧ F = 0 ∧ o = (ord : Int) ∧ l = last) ∨ (zBs fl wd pr cv tw = 0 ∧ ¬ (cv = 37 ∨ cv = 110) ∧ (((zWh fl idx ord last < 0 ∨ (A.length : Int) ≤ zWh fl idx ord last) ∧ F = 9) ∨ (0 ≤ zWh fl idx ord last ∧ zWh fl idx ord last < A.length ∧ ((¬ zTk cv (A.getD (zWh fl idx ord last).toNat yA0).1 ∧ F = 10) ∨ (zTk cv (A.getD (zWh fl idx ord last).toNat yA0).1 ∧ F = 0 ∧ wh = zWh fl idx ord last ∧ o = (zOr fl idx ord : Int) ∧ l = zWh fl idx ord last)))))
theorem Z_tkR {cv x2 a0 a1 a2 a3 a5 a6 : Int32} {k : Nat} (hc : 0 ≤ cv.toInt ∧ cv.toInt ≤ 255) (hx : x2.toInt = (k : Int)) : (F_Pri_takesKind x2 a0 a1 a2 a3 cv a5 a6 = 1 ∧ zTk cv k) ∨ (F_Pri_takesKind x2 a0 a1 a2 a3 cv a5 a6 = 0 ∧ ¬ zTk cv k) := by
  have e0 : (0 : Int32).toInt = 0 := rfl
  have e2 : (2 : Int32).toInt = 2 := rfl
  have e3 : (3 : Int32).toInt = 3 := rfl
  have e5 : (5 : Int32).toInt = 5 := rfl
  have k0 : x2 = 0 ↔ k = 0 := by rw [← Int32.toInt_inj]; omega
  have k2 : x2 = 2 ↔ k = 2 := by rw [← Int32.toInt_inj]; omega
  have k3 : x2 = 3 ↔ k = 3 := by rw [← Int32.toInt_inj]; omega
  have k5 : x2 = 5 ↔ k = 5 := by rw [← Int32.toInt_inj]; omega
  unfold F_Pri_takesKind zTk
  rw [y_one8 hc, y_one9 hc, y_one10 hc]
  by_cases a : x2 = 0
  · rw [if_pos a]
    exact Or.inl ⟨rfl, Or.inl (k0.mp a)⟩
  · rw [if_neg a]
    have a' : ¬ k = 0 := fun z => a (k0.mpr z)
    by_cases b : cv ∈ yO8
    · rw [if_pos b, if_neg (show ¬ (1 : Int32) = 0 by decide)]
      exact Or.inl ⟨rfl, Or.inr (Or.inl b)⟩
    · rw [if_neg b, if_pos (rfl : (0 : Int32) = 0)]
      by_cases c : cv ∈ yO9
      · rw [if_pos c, if_neg (show ¬ (1 : Int32) = 0 by decide)]
        by_cases d : x2 = 2
        · rw [if_pos d]
          exact Or.inl ⟨rfl, Or.inr (Or.inr (Or.inl ⟨b, c, k2.mp d⟩))⟩
        · rw [if_neg d]
          refine Or.inr ⟨rfl, fun z => ?_⟩
          rcases z with z | z | z | z | z
          · exact a' z
          · exact b z
          · exact d (k2.mpr z.2.2)
          · exact z.2.1 c
          · exact z.2.1 c
      · rw [if_neg c, if_pos (rfl : (0 : Int32) = 0)]
        by_cases e : cv ∈ yO10
        · rw [if_pos e, if_neg (show ¬ (1 : Int32) = 0 by decide)]
          by_cases d : x2 = 3
          · rw [if_pos d]
            exact Or.inl ⟨rfl, Or.inr (Or.inr (Or.inr (Or.inl ⟨b, c, e, k3.mp d⟩)))⟩
          · rw [if_neg d]
            refine Or.inr ⟨rfl, fun z => ?_⟩
            rcases z with z | z | z | z | z
            · exact a' z
            · exact b z
            · exact c z.2.1
            · exact d (k3.mpr z.2.2.2)
            · exact z.2.2.1 e
        · rw [if_neg e, if_pos (rfl : (0 : Int32) = 0)]
          by_cases d : x2 = 5
          · rw [if_pos d]
            exact Or.inl ⟨rfl, Or.inr (Or.inr (Or.inr (Or.inr ⟨b, c, e, k5.mp d⟩)))⟩
          · rw [if_neg d]
            refine Or.inr ⟨rfl, fun z => ?_⟩
            rcases z with z | z | z | z | z
            · exact a' z
            · exact b z
            · exact c z.2.1
            · exact e z.2.2.1
            · exact d (k5.mpr z.2.2.2)
theorem Z_find {t0_0 : Int32} {t0_1 : Int32} {t0_2 : Int32} {t0_3 : Int32} {t1_0 : (Nat → Int32)} {t2_0 : (Nat → Int64)} {t3_0 : (Nat → Int32)} {t4_0 : Int32} {t4_1 : Int32} {t4_2 : Int32} {t4_3 : Int32} {t4_4 : Int32} {t4_5 : Int32} {t4_6 : Int32} {A : List yA} {idx ord : Nat} {last : Int} {tx : Nat → Int32 × (Nat → Int64)} (h : yCA t0_0 t1_0 t2_0 t3_0 tx A) (ho : t0_2.toInt = (ord : Int)) (ho2 : ord ≤ 1000) (hl : t0_3.toInt = last) (hi : t4_0.toInt = (if idx = 0 then -1 else (idx : Int))) (hi2 : idx ≤ 9999) (hc : -1 ≤ t4_4.toInt ∧ t4_4.toInt ≤ 255) (hc1 : zBs t4_1 t4_2 t4_3 t4_4 t4_6 = 0 → t4_4 ∈ yO1) : ∃ wh, zFnd t4_1 t4_2 t4_3 t4_4 t4_6 idx ord last A (F_Pri_findFault t0_0 t0_1 t0_2 t0_3 t1_0 t2_0 t3_0 t4_0 t4_1 t4_2 t4_3 t4_4 t4_5 t4_6).1.toInt wh (F_Pri_findFault t0_0 t0_1 t0_2 t0_3 t1_0 t2_0 t3_0 t4_0 t4_1 t4_2 t4_3 t4_4 t4_5 t4_6).2.2.2.1.toInt (F_Pri_findFault t0_0 t0_1 t0_2 t0_3 t1_0 t2_0 t3_0 t4_0 t4_1 t4_2 t4_3 t4_4 t4_5 t4_6).2.2.2.2.toInt ∧ (F_Pri_findFault t0_0 t0_1 t0_2 t0_3 t1_0 t2_0 t3_0 t4_0 t4_1 t4_2 t4_3 t4_4 t4_5 t4_6).2.1 = t0_0 ∧ (F_Pri_findFault t0_0 t0_1 t0_2 t0_3 t1_0 t2_0 t3_0 t4_0 t4_1 t4_2 t4_3 t4_4 t4_5 t4_6).2.2.1 = t0_1 := by
  have e0 : (0 : Int32).toInt = 0 := rfl
  have em : (-1 : Int32).toInt = -1 := rfl
  have hA := h.1
  unfold F_Pri_findFault
  rw [Z_bs]
  by_cases b : zBs t4_1 t4_2 t4_3 t4_4 t4_6 = 0
  · rw [if_pos b]
    have m := hc1 b
    have mb : ∀ c : Int32, c ∈ yO1 → 0 ≤ c.toInt ∧ c.toInt ≤ 255 := by decide +kernel
    have cb : 0 ≤ t4_4.toInt ∧ t4_4.toInt ≤ 255 := mb _ m
    have tb := Z_tab m
    rw [y_one7 cb]
    by_cases p : t4_4 ∈ yO7
    · rw [if_pos p, if_neg (show ¬ (1 : Int32) = 0 by decide), b]
      exact ⟨0, Or.inr (Or.inl ⟨b, tb.2.2.2.2.2.2.2.2.2.2.1.mpr p, rfl, ho, hl⟩), rfl, rfl⟩
    · rw [if_neg p, if_pos (rfl : (0 : Int32) = 0)]
      have np : ¬ (t4_4 = 37 ∨ t4_4 = 110) := fun z => p (tb.2.2.2.2.2.2.2.2.2.2.1.mp z)
      have ch : ∃ w o l : Int32, F_Pri_chooseArgument t0_0 t0_1 t0_2 t0_3 t1_0 t2_0 t3_0 t4_0 t4_1 t4_2 t4_3 t4_4 t4_5 t4_6 = (w, t0_0, t0_1, o, l) ∧ w.toInt = zWh t4_1 idx ord last ∧ o.toInt = (zOr t4_1 idx ord : Int) := by
        unfold F_Pri_chooseArgument
        rw [Z_has0]
        by_cases f : t4_1 &&& 64 = 0
        · rw [if_pos f, if_pos (rfl : (0 : Int32) = 0)]
          by_cases i0 : idx = 0
          · rw [if_pos i0] at hi
            have : t4_0 = -1 := Int32.toInt_inj.mp (by rw [hi]; rfl)
            have a1 : (t0_2 + 1).toInt = (ord : Int) + 1 := q_addI (y := 1) ho rfl (by omega) (by omega)
            have w1 : zWh t4_1 idx ord last = (ord : Int) := by unfold zWh; rw [if_pos f, if_pos i0]
            have w2 : zOr t4_1 idx ord = ord + 1 := by unfold zOr; rw [if_pos ⟨f, i0⟩]
            rw [if_pos this, w1, w2]
            refine ⟨_, _, _, rfl, ?_, ?_⟩
            · rw [q_subI (b := 1) (y := 1) a1 rfl (by omega) (by omega)]
              omega
            · rw [a1]
              omega
          · rw [if_neg i0] at hi
            have : ¬ t4_0 = -1 := fun z => by rw [z] at hi; omega
            have w1 : zWh t4_1 idx ord last = (idx : Int) - 1 := by unfold zWh; rw [if_pos f, if_neg i0]
            have w2 : zOr t4_1 idx ord = ord := by unfold zOr; rw [if_neg (fun z => i0 z.2)]
            rw [if_neg this, w1, w2]
            refine ⟨_, _, _, rfl, ?_, ho⟩
            exact q_subI (b := 1) (y := 1) hi rfl (by omega) (by omega)
        · rw [if_neg f, if_neg (show ¬ (1 : Int32) = 0 by decide)]
          have w1 : zWh t4_1 idx ord last = last := by unfold zWh; rw [if_neg f]
          have w2 : zOr t4_1 idx ord = ord := by unfold zOr; rw [if_neg (fun z => f z.1)]
          rw [w1, w2]
          exact ⟨_, _, _, rfl, hl, ho⟩
      obtain ⟨w, o, l, c1, c2, c3⟩ := ch
      rw [c1]
      unfold F_Pri_findFault_c27
      refine ⟨zWh t4_1 idx ord last, ?_⟩
      by_cases g : w < 0
      · rw [if_pos g]
        have g' := q_ltI g
        exact ⟨Or.inr (Or.inr ⟨b, np, Or.inl ⟨Or.inl (by omega), rfl⟩⟩), rfl, rfl⟩
      · rw [if_neg g]
        have g' := q_nltI g
        by_cases g2 : w < t0_0
        · rw [if_pos g2]
          have g3 := q_ltI g2
          have wn : w.toNatClampNeg = (zWh t4_1 idx ord last).toNat := by show w.toInt.toNat = _; rw [c2]
          have kd := (h.2.2 (zWh t4_1 idx ord last).toNat (by omega)).1
          rw [wn]
          rcases Z_tkR (a0 := t4_0) (a1 := t4_1) (a2 := t4_2) (a3 := t4_3) (a5 := t4_5) (a6 := t4_6) cb kd with ⟨k1, k2⟩ | ⟨k1, k2⟩
          · rw [if_neg (by rw [k1]; decide)]
            exact ⟨Or.inr (Or.inr ⟨b, np, Or.inr ⟨by omega, by omega, Or.inr ⟨k2, rfl, rfl, c3, c2⟩⟩⟩), rfl, rfl⟩
          · rw [if_pos k1]
            exact ⟨Or.inr (Or.inr ⟨b, np, Or.inr ⟨by omega, by omega, Or.inl ⟨k2, rfl⟩⟩⟩), rfl, rfl⟩
        · rw [if_neg g2]
          have g3 := q_nltI g2
          exact ⟨Or.inr (Or.inr ⟨b, np, Or.inl ⟨Or.inr (by omega), rfl⟩⟩), rfl, rfl⟩
  · rw [if_neg b]
    exact ⟨0, Or.inl ⟨b, rfl⟩, rfl, rfl⟩
theorem Z_kt {cv : Int32} (h : cv ∈ yO1) (hn : ¬ (cv = 37 ∨ cv = 110)) {k : Nat} (hk : k ≤ 5) : zTk cv k ↔ ¬ ((zSm cv = 99 ∧ (k = 1 ∨ k = 4 ∨ k = 5 ∨ k = 3)) ∨ (zNum (zSm cv) ∧ k ≠ 3 ∧ k ≠ 0) ∨ ((zSm cv = 102 ∨ zSm cv = 101 ∨ zSm cv = 103) ∧ k ≠ 5 ∧ k ≠ 0)) := by
  have vals : ∀ c : Int32, c ∈ yO1 → (c = 37 ∨ c = 110) ∨ zSm c = 98 ∨ zSm c = 115 ∨ zSm c = 99 ∨ zSm c = 100 ∨ zSm c = 111 ∨ zSm c = 120 ∨ zSm c = 102 ∨ zSm c = 101 ∨ zSm c = 103 := by decide +kernel
  have v := (vals cv h).resolve_left hn
  have tb := Z_tab h
  have t10 := tb.2.2.2.2.2.1
  have t9 := tb.2.2.2.2.2.2.1
  have t8 := tb.2.2.2.2.2.2.2.1
  unfold zTk
  rw [← t8, ← t9, ← t10]
  generalize zSm cv = z at v
  clear vals tb t8 t9 t10
  have key : ∀ z : Int32, (z = 98 ∨ z = 115 ∨ z = 99 ∨ z = 100 ∨ z = 111 ∨ z = 120 ∨ z = 102 ∨ z = 101 ∨ z = 103) → ((z = 98 ∨ z = 115) ∧ ¬ z = 99 ∧ ¬ zNum z ∧ ¬ (z = 102 ∨ z = 101 ∨ z = 103)) ∨ (¬ (z = 98 ∨ z = 115) ∧ z = 99 ∧ ¬ zNum z ∧ ¬ (z = 102 ∨ z = 101 ∨ z = 103)) ∨ (¬ (z = 98 ∨ z = 115) ∧ ¬ z = 99 ∧ zNum z ∧ ¬ (z = 102 ∨ z = 101 ∨ z = 103)) ∨ (¬ (z = 98 ∨ z = 115) ∧ ¬ z = 99 ∧ ¬ zNum z ∧ (z = 102 ∨ z = 101 ∨ z = 103)) := by
    intro z hz
    rcases hz with rfl | rfl | rfl | rfl | rfl | rfl | rfl | rfl | rfl
    · exact Or.inl (by decide)
    · exact Or.inl (by decide)
    · exact Or.inr (Or.inl (by decide))
    · exact Or.inr (Or.inr (Or.inl (by decide)))
    · exact Or.inr (Or.inr (Or.inl (by decide)))
    · exact Or.inr (Or.inr (Or.inl (by decide)))
    · exact Or.inr (Or.inr (Or.inr (by decide)))
    · exact Or.inr (Or.inr (Or.inr (by decide)))
    · exact Or.inr (Or.inr (Or.inr (by decide)))
  have q := key z v
  clear key v
  generalize (z = 98 ∨ z = 115) = P1 at q ⊢
  generalize (z = 102 ∨ z = 101 ∨ z = 103) = P4 at q ⊢
  generalize (zNum z) = P3 at q ⊢
  generalize (z = 99) = P2 at q ⊢
  rcases q with ⟨a, b, c, d⟩ | ⟨a, b, c, d⟩ | ⟨a, b, c, d⟩ | ⟨a, b, c, d⟩
  · exact ⟨fun _ z => z.elim (fun z => b z.1) (fun z => z.elim (fun z => c z.1) (fun z => d z.1)), fun _ => Or.inr (Or.inl a)⟩
  · constructor
    · intro w z
      rcases z with z | z | z
      · rcases w with w | w | w | w | w
        · omega
        · exact a w
        · omega
        · exact w.2.1 b
        · exact w.2.1 b
      · exact c z.1
      · exact d z.1
    · intro w
      by_cases k0 : k = 0
      · exact Or.inl k0
      · refine Or.inr (Or.inr (Or.inl ⟨a, b, ?_⟩))
        have : ¬ (k = 1 ∨ k = 4 ∨ k = 5 ∨ k = 3) := fun z => w (Or.inl ⟨b, z⟩)
        omega
  · constructor
    · intro w z
      rcases z with z | z | z
      · exact b z.1
      · rcases w with w | w | w | w | w
        · exact z.2.2 w
        · exact a w
        · exact b w.2.1
        · exact z.2.1 w.2.2.2
        · exact w.2.2.1 c
      · exact d z.1
    · intro w
      by_cases k0 : k = 0
      · exact Or.inl k0
      · by_cases k3 : k = 3
        · exact Or.inr (Or.inr (Or.inr (Or.inl ⟨a, b, c, k3⟩)))
        · exact absurd (Or.inr (Or.inl ⟨c, k3, k0⟩)) w
  · constructor
    · intro w z
      rcases z with z | z | z
      · exact b z.1
      · exact c z.1
      · rcases w with w | w | w | w | w
        · exact z.2.2 w
        · exact a w
        · exact b w.2.1
        · exact c w.2.2.1
        · exact z.2.1 w.2.2.2
    · intro w
      by_cases k0 : k = 0
      · exact Or.inl k0
      · by_cases k5 : k = 5
        · exact Or.inr (Or.inr (Or.inr (Or.inr ⟨a, b, c, k5⟩)))
        · exact absurd (Or.inr (Or.inr ⟨d, k5, k0⟩)) w
theorem Z_c220 {x2 : Int32} {t0_0 : Int32} {t0_1 : Int32} {t0_2 : Int32} {t0_3 : Int32} {t0_4 : Int32} {t0_5 : Int32} {t0_6 : Int32} {t0_7 : Int32} {t0_8 : Int32} {t0_9 : Int32} {t0_10 : Int32} {t0_11 : Int32} {t0_12 : Int32} {t0_13 : Int32} {t0_14 : Int32} {t0_15 : Int32} {t0_16 : Int32} {t0_17 : Int32} {t0_18 : Int32} {t0_19 : Int32} {t0_20 : Int32} {t0_21 : Int32} {t1_0 : (Nat → Int32)} {t2_0 : (Nat → Int32)} {t3_0 : (Nat → Int64)} {lx44 : Int32} {lx45 : Int32} {a64 : Int32} {lx66 : Int32} {lx79 : Int32} {lx92 : Int32} {lx105 : Int32} (hl : lx105 = 0 ∨ lx105 = 1) (h3 : x2 = 99 → lx105 = 0 → ¬ a64 = 3) : (F_VR_chosen_J220 x2 t0_0 t0_1 t0_2 t0_3 t0_4 t0_5 t0_6 t0_7 t0_8 t0_9 t0_10 t0_11 t0_12 t0_13 t0_14 t0_15 t0_16 t0_17 t0_18 t0_19 t0_20 t0_21 t1_0 t2_0 t3_0 lx44 lx45 a64 lx66 lx79 lx92 lx105) = if lx105 = 0 then (0, lx44, lx45, lx44) else (10, lx44, lx45, lx44) := by
  unfold F_VR_chosen_J220
  rcases hl with l | l
  · subst l
    rw [if_pos rfl, if_pos rfl]
    by_cases c : x2 = 99
    · rw [if_pos c, if_neg (h3 c rfl)]
    · rw [if_neg c]
  · subst l
    rw [if_neg (by decide), if_neg (by decide)]
theorem Z_ch58 {x2 : Int32} {t0_0 : Int32} {t0_1 : Int32} {t0_2 : Int32} {t0_3 : Int32} {t0_4 : Int32} {t0_5 : Int32} {t0_6 : Int32} {t0_7 : Int32} {t0_8 : Int32} {t0_9 : Int32} {t0_10 : Int32} {t0_11 : Int32} {t0_12 : Int32} {t0_13 : Int32} {t0_14 : Int32} {t0_15 : Int32} {t0_16 : Int32} {t0_17 : Int32} {t0_18 : Int32} {t0_19 : Int32} {t0_20 : Int32} {t0_21 : Int32} {t1_0 : (Nat → Int32)} {t2_0 : (Nat → Int32)} {t3_0 : (Nat → Int64)} {lx44 : Int32} {lx45 : Int32} {A : List yA} {cv : Int32} {tx : Nat → Int32} (h : yRA t0_2 t1_0 t2_0 t3_0 tx A) (hx : x2 = zSm cv) (hm : cv ∈ yO1) (hn : ¬ (cv = 37 ∨ cv = 110)) : ((lx44.toInt < 0 ∨ (A.length : Int) ≤ lx44.toInt) ∧ (F_VR_chosen_J58 x2 t0_0 t0_1 t0_2 t0_3 t0_4 t0_5 t0_6 t0_7 t0_8 t0_9 t0_10 t0_11 t0_12 t0_13 t0_14 t0_15 t0_16 t0_17 t0_18 t0_19 t0_20 t0_21 t1_0 t2_0 t3_0 lx44 lx45).1 = 9) ∨ (0 ≤ lx44.toInt ∧ lx44.toInt < A.length ∧ ((¬ zTk cv (A.getD lx44.toInt.toNat yA0).1 ∧ (F_VR_chosen_J58 x2 t0_0 t0_1 t0_2 t0_3 t0_4 t0_5 t0_6 t0_7 t0_8 t0_9 t0_10 t0_11 t0_12 t0_13 t0_14 t0_15 t0_16 t0_17 t0_18 t0_19 t0_20 t0_21 t1_0 t2_0 t3_0 lx44 lx45).1 = 10) ∨ (zTk cv (A.getD lx44.toInt.toNat yA0).1 ∧ (F_VR_chosen_J58 x2 t0_0 t0_1 t0_2 t0_3 t0_4 t0_5 t0_6 t0_7 t0_8 t0_9 t0_10 t0_11 t0_12 t0_13 t0_14 t0_15 t0_16 t0_17 t0_18 t0_19 t0_20 t0_21 t1_0 t2_0 t3_0 lx44 lx45) = (0, lx44, lx45, lx44)))) := by
  have e0 : (0 : Int32).toInt = 0 := rfl
  have e1 : (1 : Int32).toInt = 1 := rfl
  have e3 : (3 : Int32).toInt = 3 := rfl
  have e4 : (4 : Int32).toInt = 4 := rfl
  have e5 : (5 : Int32).toInt = 5 := rfl
  have hA := h.1
  unfold F_VR_chosen_J58
  by_cases g : lx44 < 0
  · rw [if_pos g]
    have g' := q_ltI g
    exact Or.inl ⟨Or.inl (by omega), rfl⟩
  · rw [if_neg g]
    have g' := q_nltI g
    by_cases g2 : lx44 < t0_2
    · rw [if_pos g2]
      have g3 := q_ltI g2
      refine Or.inr ⟨by omega, by omega, ?_⟩
      have wn : lx44.toNatClampNeg = lx44.toInt.toNat := rfl
      obtain ⟨kd, _, sz, _, _, aw⟩ := h.2.2 lx44.toInt.toNat (by omega)
      rw [wn]
      have k5 := aw.1
      have kt := Z_kt hm hn k5
      rw [← hx] at kt
      rw [kt]
      generalize hk : (A.getD lx44.toInt.toNat yA0).1 = k at kd sz kt k5 ⊢
      generalize hv : t1_0 lx44.toInt.toNat = kv at kd ⊢
      have q0 : kv = 0 ↔ k = 0 := by rw [← Int32.toInt_inj]; omega
      have q1 : kv = 1 ↔ k = 1 := by rw [← Int32.toInt_inj]; omega
      have q3 : kv = 3 ↔ k = 3 := by rw [← Int32.toInt_inj]; omega
      have q4 : kv = 4 ↔ k = 4 := by rw [← Int32.toInt_inj]; omega
      have q5 : kv = 5 ↔ k = 5 := by rw [← Int32.toInt_inj]; omega
      have J121 : ∀ l66 : Int32, (l66 = 1 ∧ kv = 3) ∨ (l66 = 0 ∧ ¬ kv = 3) → (¬ ¬ ((x2 = 99 ∧ (k = 1 ∨ k = 4 ∨ k = 5 ∨ k = 3)) ∨ (zNum x2 ∧ k ≠ 3 ∧ k ≠ 0) ∨ ((x2 = 102 ∨ x2 = 101 ∨ x2 = 103) ∧ k ≠ 5 ∧ k ≠ 0)) ∧ (F_VR_chosen_J121 x2 t0_0 t0_1 t0_2 t0_3 t0_4 t0_5 t0_6 t0_7 t0_8 t0_9 t0_10 t0_11 t0_12 t0_13 t0_14 t0_15 t0_16 t0_17 t0_18 t0_19 t0_20 t0_21 t1_0 t2_0 t3_0 lx44 lx45 kv l66).1 = 10) ∨ (¬ ((x2 = 99 ∧ (k = 1 ∨ k = 4 ∨ k = 5 ∨ k = 3)) ∨ (zNum x2 ∧ k ≠ 3 ∧ k ≠ 0) ∨ ((x2 = 102 ∨ x2 = 101 ∨ x2 = 103) ∧ k ≠ 5 ∧ k ≠ 0)) ∧ F_VR_chosen_J121 x2 t0_0 t0_1 t0_2 t0_3 t0_4 t0_5 t0_6 t0_7 t0_8 t0_9 t0_10 t0_11 t0_12 t0_13 t0_14 t0_15 t0_16 t0_17 t0_18 t0_19 t0_20 t0_21 t1_0 t2_0 t3_0 lx44 lx45 kv l66 = (0, lx44, lx45, lx44)) := by
        intro l66 hl
        have n215 : ∀ l66 l79 l92 : Int32, (F_VR_chosen_J215 x2 t0_0 t0_1 t0_2 t0_3 t0_4 t0_5 t0_6 t0_7 t0_8 t0_9 t0_10 t0_11 t0_12 t0_13 t0_14 t0_15 t0_16 t0_17 t0_18 t0_19 t0_20 t0_21 t1_0 t2_0 t3_0 lx44 lx45 kv l66 l79 l92).1 = 10 := by
          intro a b c
          unfold F_VR_chosen_J215 F_VR_chosen_J220
          rw [if_neg (by decide)]
        have n219 : ∀ l66 l79 l92 : Int32, (x2 = 99 → ¬ kv = 3) → F_VR_chosen_J219 x2 t0_0 t0_1 t0_2 t0_3 t0_4 t0_5 t0_6 t0_7 t0_8 t0_9 t0_10 t0_11 t0_12 t0_13 t0_14 t0_15 t0_16 t0_17 t0_18 t0_19 t0_20 t0_21 t1_0 t2_0 t3_0 lx44 lx45 kv l66 l79 l92 = (0, lx44, lx45, lx44) := by
          intro a b c h3
          unfold F_VR_chosen_J219
          rw [Z_c220 (Or.inl rfl) (fun z _ => h3 z), if_pos rfl]
        have n176 : ∀ l66 l79 : Int32, (F_VR_chosen_J176 x2 t0_0 t0_1 t0_2 t0_3 t0_4 t0_5 t0_6 t0_7 t0_8 t0_9 t0_10 t0_11 t0_12 t0_13 t0_14 t0_15 t0_16 t0_17 t0_18 t0_19 t0_20 t0_21 t1_0 t2_0 t3_0 lx44 lx45 kv l66 l79).1 = 10 := by
          intro a b
          unfold F_VR_chosen_J176 F_VR_chosen_J181
          rw [if_neg (by decide)]
          exact n215 _ _ _
        have n147 : ∀ l66 : Int32, (F_VR_chosen_J147 x2 t0_0 t0_1 t0_2 t0_3 t0_4 t0_5 t0_6 t0_7 t0_8 t0_9 t0_10 t0_11 t0_12 t0_13 t0_14 t0_15 t0_16 t0_17 t0_18 t0_19 t0_20 t0_21 t1_0 t2_0 t3_0 lx44 lx45 kv l66).1 = 10 := by
          intro a
          unfold F_VR_chosen_J147 F_VR_chosen_J152
          rw [if_neg (by decide)]
          exact n176 _ _
        unfold F_VR_chosen_J121
        by_cases c99 : x2 = 99
        · rw [if_pos c99]
          by_cases b1 : kv = 1
          · rw [if_pos b1]
            exact Or.inl ⟨fun z => z (Or.inl ⟨c99, Or.inl (q1.mp b1)⟩), n147 _⟩
          · rw [if_neg b1]
            by_cases b4 : kv = 4
            · rw [if_pos b4]
              exact Or.inl ⟨fun z => z (Or.inl ⟨c99, Or.inr (Or.inl (q4.mp b4))⟩), n147 _⟩
            · rw [if_neg b4]
              by_cases b5 : kv = 5
              · rw [if_pos b5]
                exact Or.inl ⟨fun z => z (Or.inl ⟨c99, Or.inr (Or.inr (Or.inl (q5.mp b5)))⟩), n147 _⟩
              · rw [if_neg b5]
                rcases hl with ⟨l1, l3⟩ | ⟨l1, l3⟩
                · rw [if_neg (by rw [l1]; decide)]
                  exact Or.inl ⟨fun z => z (Or.inl ⟨c99, Or.inr (Or.inr (Or.inr (q3.mp l3)))⟩), n147 _⟩
                · rw [if_pos l1]
                  have no1 : ¬ zNum x2 := by rw [c99]; decide
                  have no2 : ¬ (x2 = 102 ∨ x2 = 101 ∨ x2 = 103) := by rw [c99]; decide
                  refine Or.inr ⟨fun z => ?_, ?_⟩
                  · rcases z with z | z | z
                    · rcases z.2 with w | w | w | w
                      · exact b1 (q1.mpr w)
                      · exact b4 (q4.mpr w)
                      · exact b5 (q5.mpr w)
                      · exact l3 (q3.mpr w)
                    · exact no1 z.1
                    · exact no2 z.1
                  · unfold F_VR_chosen_J151 F_VR_chosen_J152
                    rw [if_pos rfl, Z_nume, if_neg no1, if_pos (rfl : (0 : Int32) = 0)]
                    unfold F_VR_chosen_J180 F_VR_chosen_J181
                    rw [if_pos rfl, if_neg (fun z => no2 (Or.inl z)), if_neg (fun z => no2 (Or.inr (Or.inl z))), if_neg (fun z => no2 (Or.inr (Or.inr z)))]
                    exact n219 _ _ _ (fun _ => l3)
        · rw [if_neg c99]
          have n99 : x2 = 99 → ¬ kv = 3 := fun z => absurd z c99
          have n206 : ∀ l66 l79 l92 : Int32, (kv ≠ 5 ∧ kv ≠ 0 ∧ (F_VR_chosen_J206 x2 t0_0 t0_1 t0_2 t0_3 t0_4 t0_5 t0_6 t0_7 t0_8 t0_9 t0_10 t0_11 t0_12 t0_13 t0_14 t0_15 t0_16 t0_17 t0_18 t0_19 t0_20 t0_21 t1_0 t2_0 t3_0 lx44 lx45 kv l66 l79 l92).1 = 10) ∨ ((kv = 5 ∨ kv = 0) ∧ F_VR_chosen_J206 x2 t0_0 t0_1 t0_2 t0_3 t0_4 t0_5 t0_6 t0_7 t0_8 t0_9 t0_10 t0_11 t0_12 t0_13 t0_14 t0_15 t0_16 t0_17 t0_18 t0_19 t0_20 t0_21 t1_0 t2_0 t3_0 lx44 lx45 kv l66 l79 l92 = (0, lx44, lx45, lx44)) := by
            intro a b c
            unfold F_VR_chosen_J206
            by_cases b5 : kv = 5
            · rw [if_pos b5]
              exact Or.inr ⟨Or.inl b5, n219 _ _ _ n99⟩
            · rw [if_neg b5]
              by_cases b0 : kv = 0
              · rw [if_pos b0]
                exact Or.inr ⟨Or.inr b0, n219 _ _ _ n99⟩
              · rw [if_neg b0]
                exact Or.inl ⟨b5, b0, n215 _ _ _⟩
          unfold F_VR_chosen_J151 F_VR_chosen_J152
          rw [if_pos rfl, Z_nume]
          by_cases u : zNum x2
          · have no2 : ¬ (x2 = 102 ∨ x2 = 101 ∨ x2 = 103) := by
              rcases u with u | u | u <;> rw [u] <;> decide
            have g180 : ∀ l66 l79 : Int32, F_VR_chosen_J180 x2 t0_0 t0_1 t0_2 t0_3 t0_4 t0_5 t0_6 t0_7 t0_8 t0_9 t0_10 t0_11 t0_12 t0_13 t0_14 t0_15 t0_16 t0_17 t0_18 t0_19 t0_20 t0_21 t1_0 t2_0 t3_0 lx44 lx45 kv l66 l79 = (0, lx44, lx45, lx44) := by
              intro a b
              unfold F_VR_chosen_J180 F_VR_chosen_J181
              rw [if_pos rfl, if_neg (fun z => no2 (Or.inl z)), if_neg (fun z => no2 (Or.inr (Or.inl z))), if_neg (fun z => no2 (Or.inr (Or.inr z)))]
              exact n219 _ _ _ n99
            rw [if_pos u, if_neg (show ¬ (1 : Int32) = 0 by decide)]
            by_cases b3 : kv = 3
            · rw [if_pos b3]
              refine Or.inr ⟨fun z => ?_, g180 _ _⟩
              rcases z with z | z | z
              · exact c99 z.1
              · exact z.2.1 (q3.mp b3)
              · exact no2 z.1
            · rw [if_neg b3]
              by_cases b0 : kv = 0
              · rw [if_pos b0]
                refine Or.inr ⟨fun z => ?_, g180 _ _⟩
                rcases z with z | z | z
                · exact c99 z.1
                · exact z.2.2 (q0.mp b0)
                · exact no2 z.1
              · rw [if_neg b0]
                exact Or.inl ⟨fun z => z (Or.inr (Or.inl ⟨u, fun w => b3 (q3.mpr w), fun w => b0 (q0.mpr w)⟩)), n176 _ _⟩
          · rw [if_neg u, if_pos (rfl : (0 : Int32) = 0)]
            unfold F_VR_chosen_J180 F_VR_chosen_J181
            rw [if_pos rfl]
            have dec : (x2 = 102 ∨ x2 = 101 ∨ x2 = 103) → ∀ l66 l79 l92 : Int32, (¬ ¬ ((x2 = 99 ∧ (k = 1 ∨ k = 4 ∨ k = 5 ∨ k = 3)) ∨ (zNum x2 ∧ k ≠ 3 ∧ k ≠ 0) ∨ ((x2 = 102 ∨ x2 = 101 ∨ x2 = 103) ∧ k ≠ 5 ∧ k ≠ 0)) ∧ (F_VR_chosen_J206 x2 t0_0 t0_1 t0_2 t0_3 t0_4 t0_5 t0_6 t0_7 t0_8 t0_9 t0_10 t0_11 t0_12 t0_13 t0_14 t0_15 t0_16 t0_17 t0_18 t0_19 t0_20 t0_21 t1_0 t2_0 t3_0 lx44 lx45 kv l66 l79 l92).1 = 10) ∨ (¬ ((x2 = 99 ∧ (k = 1 ∨ k = 4 ∨ k = 5 ∨ k = 3)) ∨ (zNum x2 ∧ k ≠ 3 ∧ k ≠ 0) ∨ ((x2 = 102 ∨ x2 = 101 ∨ x2 = 103) ∧ k ≠ 5 ∧ k ≠ 0)) ∧ F_VR_chosen_J206 x2 t0_0 t0_1 t0_2 t0_3 t0_4 t0_5 t0_6 t0_7 t0_8 t0_9 t0_10 t0_11 t0_12 t0_13 t0_14 t0_15 t0_16 t0_17 t0_18 t0_19 t0_20 t0_21 t1_0 t2_0 t3_0 lx44 lx45 kv l66 l79 l92 = (0, lx44, lx45, lx44)) := by
              intro w a b c
              rcases n206 a b c with ⟨m1, m2, m3⟩ | ⟨m1, m2⟩
              · exact Or.inl ⟨fun z => z (Or.inr (Or.inr ⟨w, fun y => m1 (q5.mpr y), fun y => m2 (q0.mpr y)⟩)), m3⟩
              · refine Or.inr ⟨fun z => ?_, m2⟩
                rcases z with z | z | z
                · exact c99 z.1
                · exact u z.1
                · rcases m1 with m1 | m1
                  · exact z.2.1 (q5.mp m1)
                  · exact z.2.2 (q0.mp m1)
            by_cases f1 : x2 = 102
            · rw [if_pos f1]
              exact dec (Or.inl f1) _ _ _
            · rw [if_neg f1]
              by_cases f2 : x2 = 101
              · rw [if_pos f2]
                exact dec (Or.inr (Or.inl f2)) _ _ _
              · rw [if_neg f2]
                by_cases f3 : x2 = 103
                · rw [if_pos f3]
                  exact dec (Or.inr (Or.inr f3)) _ _ _
                · rw [if_neg f3]
                  refine Or.inr ⟨fun z => ?_, n219 _ _ _ n99⟩
                  rcases z with z | z | z
                  · exact c99 z.1
                  · exact u z.1
                  · exact z.1.elim f1 (fun y => y.elim f2 f3)
      by_cases k3 : kv = 3
      · rw [if_pos k3, if_pos (sz (q3.mp k3))]
        exact J121 1 (Or.inl ⟨rfl, k3⟩)
      · rw [if_neg k3]
        unfold F_VR_chosen_J120
        exact J121 0 (Or.inr ⟨rfl, k3⟩)
    · rw [if_neg g2]
      have g3 := q_nltI g2
      exact Or.inl ⟨Or.inr (by omega), rfl⟩
theorem Z_lookF {t0_0 : Int32} {t0_1 : Int32} {t0_2 : Int32} {t0_3 : Int32} {t0_4 : Int32} {t0_5 : Int32} {t0_6 : Int32} {t0_7 : Int32} {t0_8 : Int32} {t0_9 : Int32} {t0_10 : Int32} {t0_11 : Int32} {t0_12 : Int32} {t0_13 : Int32} {t0_14 : Int32} {t0_15 : Int32} {t0_16 : Int32} {t0_17 : Int32} {t0_18 : Int32} {t0_19 : Int32} {t0_20 : Int32} {t0_21 : Int32} {t1_0 : (Nat → Int32)} {t2_0 : (Nat → Int32)} {t3_0 : (Nat → Int64)} {A : List yA} {idx ord : Nat} {last : Int} {tx : Nat → Int32} (h : yRA t0_2 t1_0 t2_0 t3_0 tx A) (hc : -1 ≤ t0_13.toInt ∧ t0_13.toInt ≤ 255) (hw : t0_11 = -1 ∨ 0 ≤ t0_11.toInt) (hp : t0_12 = -1 ∨ 0 ≤ t0_12.toInt) (ht : t0_10 = 0 ∨ t0_10 = 1) (ho : t0_15.toInt = (ord : Int)) (ho2 : ord ≤ 1000) (hl : t0_16.toInt = last) (hi : t0_8.toInt = (idx : Int)) (hi2 : idx ≤ 9999) : zFnd t0_9 t0_11 t0_12 t0_13 t0_10 idx ord last A (F_VR_looked t0_0 t0_1 t0_2 t0_3 t0_4 t0_5 t0_6 t0_7 t0_8 t0_9 t0_10 t0_11 t0_12 t0_13 t0_14 t0_15 t0_16 t0_17 t0_18 t0_19 t0_20 t0_21 t1_0 t2_0 t3_0).1.toInt (F_VR_looked t0_0 t0_1 t0_2 t0_3 t0_4 t0_5 t0_6 t0_7 t0_8 t0_9 t0_10 t0_11 t0_12 t0_13 t0_14 t0_15 t0_16 t0_17 t0_18 t0_19 t0_20 t0_21 t1_0 t2_0 t3_0).2.1.toInt (F_VR_looked t0_0 t0_1 t0_2 t0_3 t0_4 t0_5 t0_6 t0_7 t0_8 t0_9 t0_10 t0_11 t0_12 t0_13 t0_14 t0_15 t0_16 t0_17 t0_18 t0_19 t0_20 t0_21 t1_0 t2_0 t3_0).2.2.1.toInt (F_VR_looked t0_0 t0_1 t0_2 t0_3 t0_4 t0_5 t0_6 t0_7 t0_8 t0_9 t0_10 t0_11 t0_12 t0_13 t0_14 t0_15 t0_16 t0_17 t0_18 t0_19 t0_20 t0_21 t1_0 t2_0 t3_0).2.2.2.toInt ∧ (zBs t0_9 t0_11 t0_12 t0_13 t0_10 = 0 → t0_13 ∈ yO1) := by
  have e0 : (0 : Int32).toInt = 0 := rfl
  obtain ⟨r, m⟩ := Z_look (t0_0 := t0_0) (t0_1 := t0_1) (t0_2 := t0_2) (t0_3 := t0_3) (t0_4 := t0_4) (t0_5 := t0_5) (t0_6 := t0_6) (t0_7 := t0_7) (t0_8 := t0_8) (t0_9 := t0_9) (t0_10 := t0_10) (t0_11 := t0_11) (t0_12 := t0_12) (t0_13 := t0_13) (t0_14 := t0_14) (t0_15 := t0_15) (t0_16 := t0_16) (t0_17 := t0_17) (t0_18 := t0_18) (t0_19 := t0_19) (t0_20 := t0_20) (t0_21 := t0_21) (t1_0 := t1_0) (t2_0 := t2_0) (t3_0 := t3_0) hc hw hp ht
  refine ⟨?_, m⟩
  rcases r with ⟨r1, r2⟩ | ⟨r1, r2, r3⟩ | ⟨r1, r2, r3⟩
  · rw [r2]
    exact Or.inl ⟨r1, rfl⟩
  · rw [r3]
    exact Or.inr (Or.inl ⟨r1, r2, rfl, ho, hl⟩)
  · rw [r3]
    have m1 := m r1
    have a1 : (t0_15 + 1).toInt = ((ord + 1 : Nat) : Int) := by
      rw [q_addI (y := 1) ho rfl (by omega) (by omega)]
      omega
    have c58 : ∃ w o : Int32, F_VR_chosen (zSm t0_13) t0_0 t0_1 t0_2 t0_3 t0_4 t0_5 t0_6 t0_7 t0_8 t0_9 t0_10 t0_11 t0_12 t0_13 t0_14 t0_15 t0_16 t0_17 t0_18 t0_19 t0_20 t0_21 t1_0 t2_0 t3_0 = F_VR_chosen_J58 (zSm t0_13) t0_0 t0_1 t0_2 t0_3 t0_4 t0_5 t0_6 t0_7 t0_8 t0_9 t0_10 t0_11 t0_12 t0_13 t0_14 t0_15 t0_16 t0_17 t0_18 t0_19 t0_20 t0_21 t1_0 t2_0 t3_0 w o ∧ w.toInt = zWh t0_9 idx ord last ∧ o.toInt = (zOr t0_9 idx ord : Int) := by
      unfold F_VR_chosen
      rw [Z_hasR (k := 64) rfl]
      by_cases f : t0_9 &&& 64 = 0
      · rw [if_pos f, if_pos (rfl : (0 : Int32) = 0)]
        by_cases i0 : idx = 0
        · have w1 : zWh t0_9 idx ord last = (ord : Int) := by unfold zWh; rw [if_pos f, if_pos i0]
          have w2 : zOr t0_9 idx ord = ord + 1 := by unfold zOr; rw [if_pos ⟨f, i0⟩]
          rw [if_pos (Int32.le_iff_toInt_le.mpr (by omega)), w1, w2]
          exact ⟨_, _, rfl, ho, a1⟩
        · have w1 : zWh t0_9 idx ord last = (idx : Int) - 1 := by unfold zWh; rw [if_pos f, if_neg i0]
          have w2 : zOr t0_9 idx ord = ord := by unfold zOr; rw [if_neg (fun z => i0 z.2)]
          rw [if_neg (fun z => by have := q_leI z; omega), w1, w2]
          exact ⟨_, _, rfl, q_subI (b := 1) (y := 1) hi rfl (by omega) (by omega), ho⟩
      · rw [if_neg f, if_neg (show ¬ (1 : Int32) = 0 by decide)]
        have w1 : zWh t0_9 idx ord last = last := by unfold zWh; rw [if_neg f]
        have w2 : zOr t0_9 idx ord = ord := by unfold zOr; rw [if_neg (fun z => f z.1)]
        rw [w1, w2]
        exact ⟨_, _, rfl, hl, ho⟩
    obtain ⟨w, o, c1, c2, c3⟩ := c58
    rw [c1]
    have q := Z_ch58 (x2 := zSm t0_13) (t0_0 := t0_0) (t0_1 := t0_1) (t0_2 := t0_2) (t0_3 := t0_3) (t0_4 := t0_4) (t0_5 := t0_5) (t0_6 := t0_6) (t0_7 := t0_7) (t0_8 := t0_8) (t0_9 := t0_9) (t0_10 := t0_10) (t0_11 := t0_11) (t0_12 := t0_12) (t0_13 := t0_13) (t0_14 := t0_14) (t0_15 := t0_15) (t0_16 := t0_16) (t0_17 := t0_17) (t0_18 := t0_18) (t0_19 := t0_19) (t0_20 := t0_20) (t0_21 := t0_21) (lx44 := w) (lx45 := o) h rfl m1 r2
    rw [c2] at q
    rcases q with ⟨q1, q2⟩ | ⟨q1, q2, q3⟩
    · rw [q2]
      exact Or.inr (Or.inr ⟨r1, r2, Or.inl ⟨q1, rfl⟩⟩)
    · rcases q3 with ⟨q3, q4⟩ | ⟨q3, q4⟩
      · rw [q4]
        exact Or.inr (Or.inr ⟨r1, r2, Or.inr ⟨q1, q2, Or.inl ⟨q3, rfl⟩⟩⟩)
      · rw [q4]
        exact Or.inr (Or.inr ⟨r1, r2, Or.inr ⟨q1, q2, Or.inr ⟨q3, rfl, c2, c3, c2⟩⟩⟩)

