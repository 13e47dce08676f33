/-! values, for whole: the class's rounding -/
theorem q_x8 {x : Int32} (h : 0 ≤ x.toInt) (h2 : x.toInt ≤ 7) : x = 0 ∨ x = 1 ∨ x = 2 ∨ x = 3 ∨ x = 4 ∨ x = 5 ∨ x = 6 ∨ x = 7 := by
  have f : ∀ k : Int32, x.toInt = k.toInt → x = k := fun k e => Int32.toInt_inj.mp e
  have c : x.toInt = 0 ∨ x.toInt = 1 ∨ x.toInt = 2 ∨ x.toInt = 3 ∨ x.toInt = 4 ∨ x.toInt = 5 ∨ x.toInt = 6 ∨ x.toInt = 7 := by omega
  rcases c with e | e | e | e | e | e | e | e
  · exact Or.inl (f 0 e)
  · exact Or.inr (Or.inl (f 1 e))
  · exact Or.inr (Or.inr (Or.inl (f 2 e)))
  · exact Or.inr (Or.inr (Or.inr (Or.inl (f 3 e))))
  · exact Or.inr (Or.inr (Or.inr (Or.inr (Or.inl (f 4 e)))))
  · exact Or.inr (Or.inr (Or.inr (Or.inr (Or.inr (Or.inl (f 5 e))))))
  · exact Or.inr (Or.inr (Or.inr (Or.inr (Or.inr (Or.inr (Or.inl (f 6 e)))))))
  · exact Or.inr (Or.inr (Or.inr (Or.inr (Or.inr (Or.inr (Or.inr (f 7 e)))))))
theorem rGr_0 {b st : Int32} {t : Int} : rGr 0 b st t = if t % 10 = 0 ∧ st = 0 then 0 else 1 := if_pos rfl
theorem rGr_1 {b st : Int32} {t : Int} : rGr 1 b st t = 0 := by
  unfold rGr
  rw [if_neg (by decide), if_pos rfl]
theorem rGr_2 {b st : Int32} {t : Int} : rGr 2 b st t = if t % 10 = 0 ∧ st = 0 then 0 else if b = 0 then 1 else 0 := by
  unfold rGr
  rw [if_neg (by decide), if_neg (by decide), if_pos rfl]
theorem rGr_3 {b st : Int32} {t : Int} : rGr 3 b st t = if t % 10 = 0 ∧ st = 0 then 0 else if b = 0 then 0 else 1 := by
  unfold rGr
  rw [if_neg (by decide), if_neg (by decide), if_neg (by decide), if_pos rfl]
theorem rGr_4 {b st : Int32} {t : Int} : rGr 4 b st t = if t % 10 < 5 then 0 else 1 := by
  unfold rGr
  rw [if_neg (by decide), if_neg (by decide), if_neg (by decide), if_neg (by decide), if_pos rfl]
theorem rGr_5 {b st : Int32} {t : Int} : rGr 5 b st t = if 5 < t % 10 then 1 else if t % 10 = 5 then (if st = 0 then 0 else 1) else 0 := by
  unfold rGr
  rw [if_neg (by decide), if_neg (by decide), if_neg (by decide), if_neg (by decide), if_neg (by decide), if_pos rfl]
theorem rGr_6 {b st : Int32} {t : Int} : rGr 6 b st t = if 5 < t % 10 then 1 else if t % 10 = 5 then (if st = 0 then (if t / 10 % 2 = 1 then 1 else 0) else 1) else 0 := by
  unfold rGr
  rw [if_neg (by decide), if_neg (by decide), if_neg (by decide), if_neg (by decide), if_neg (by decide), if_neg (by decide), if_pos rfl]
theorem rGr_7 {b st : Int32} {t : Int} : rGr 7 b st t = if t % 10 = 0 ∧ st = 0 then 0 else 2 := by
  unfold rGr
  rw [if_neg (by decide), if_neg (by decide), if_neg (by decide), if_neg (by decide), if_neg (by decide), if_neg (by decide), if_neg (by decide)]
theorem rGr_ex {m b st : Int32} {t : Int} (h : t % 10 = 0) (hs : st = 0) : rGr m b st t = 0 := by
  unfold rGr
  rw [if_pos (show t % 10 = 0 ∧ st = 0 from ⟨h, hs⟩), if_pos (show t % 10 = 0 ∧ st = 0 from ⟨h, hs⟩), if_pos (show t % 10 = 0 ∧ st = 0 from ⟨h, hs⟩), if_pos (show t % 10 = 0 ∧ st = 0 from ⟨h, hs⟩), if_pos (show t % 10 < 5 by omega), if_neg (show ¬ 5 < t % 10 by omega), if_neg (show ¬ t % 10 = 5 by omega), if_neg (show ¬ 5 < t % 10 by omega), if_neg (show ¬ t % 10 = 5 by omega)]
  repeat' split
  all_goals rfl
theorem V_goJ {x2 : Int32} {x3 : Int32} {x4 : Int32} {t0_0 : Int64} {t0_1 : Int32} {t1_0 : Int32} {t1_1 : Int32} {t2_0 : (Nat → Int32)} {lx13 : Int32} {lx25 : Int32} {t : Int} {w : Int} (hw : bO 220 t1_0 t1_1 t2_0 w) (h0 : 0 ≤ t) (hq : w = t / 10) (h3 : x3 = 0 ∨ x3 = 1) (h4 : 0 ≤ x4.toInt ∧ x4.toInt ≤ 6) (hin : ¬ (t % 10 = 0 ∧ t0_1 = 0)) (hl : (5 < t % 10 ∧ lx13 = 1 ∧ lx25 = 0) ∨ (t % 10 = 5 ∧ t0_1 = 0 ∧ lx13 = 0 ∧ lx25 = 1) ∨ (t % 10 = 5 ∧ ¬ t0_1 = 0 ∧ lx13 = 1 ∧ lx25 = 0) ∨ (t % 10 < 5 ∧ lx13 = 0 ∧ lx25 = 0)) : (F_DW_goesOutwards_J41 x2 x3 x4 t0_0 t0_1 t1_0 t1_1 t2_0 lx13 lx25) = rGr x4 x3 t0_1 t := by
  have z1 : ¬ (1 : Int32) = 0 := by decide
  unfold F_DW_goesOutwards_J41
  rcases q_x8 h4.1 (by omega) with e | e | e | e | e | e | e | e
  · rw [e, rGr_0, if_pos rfl, if_neg hin]
  · rw [e, rGr_1, if_neg (by decide), if_pos rfl]
  · rw [e, rGr_2, if_neg (by decide), if_neg (by decide), if_pos rfl, if_neg hin]
  · rw [e, rGr_3, if_neg (by decide), if_neg (by decide), if_neg (by decide), if_pos rfl, if_neg hin]
    rcases h3 with g | g
    · rw [g, if_pos rfl]
    · rw [g, if_neg z1]
  · rw [e, rGr_4, if_neg (by decide), if_neg (by decide), if_neg (by decide), if_neg (by decide), if_pos rfl]
    rcases hl with ⟨d, a, b⟩ | ⟨d, s, a, b⟩ | ⟨d, s, a, b⟩ | ⟨d, a, b⟩ <;> rw [a, b]
    · rw [if_neg z1, if_neg (show ¬ t % 10 < 5 by omega)]
    · rw [if_pos rfl, if_neg z1, if_neg (show ¬ t % 10 < 5 by omega)]
    · rw [if_neg z1, if_neg (show ¬ t % 10 < 5 by omega)]
    · rw [if_pos rfl, if_pos rfl, if_pos d]
  · rw [e, rGr_5, if_neg (by decide), if_neg (by decide), if_neg (by decide), if_neg (by decide), if_neg (by decide), if_pos rfl]
    rcases hl with ⟨d, a, b⟩ | ⟨d, s, a, b⟩ | ⟨d, s, a, b⟩ | ⟨d, a, b⟩ <;> rw [a]
    · rw [if_pos d]
    · rw [if_neg (show ¬ 5 < t % 10 by omega), if_pos d, if_pos s]
    · rw [if_neg (show ¬ 5 < t % 10 by omega), if_pos d, if_neg s]
    · rw [if_neg (show ¬ 5 < t % 10 by omega), if_neg (show ¬ t % 10 = 5 by omega)]
  · rw [e, rGr_6, if_neg (by decide), if_neg (by decide), if_neg (by decide), if_neg (by decide), if_neg (by decide), if_neg (by decide)]
    have hbit : F_Big_bit 220 0 t1_0 t1_1 t2_0 = 1 ↔ t / 10 % 2 = 1 := by
      have hb := W_bit (x := 0) (k := 0) hw rfl
      rw [Nat.pow_zero, Nat.div_one] at hb
      rw [hb, ← hq]
      have w0 : 0 ≤ w := by
        rw [hq]
        omega
      omega
    rcases hl with ⟨d, a, b⟩ | ⟨d, s, a, b⟩ | ⟨d, s, a, b⟩ | ⟨d, a, b⟩ <;> rw [a, b]
    · rw [if_neg z1, if_pos d]
    · rw [if_pos rfl, if_neg z1, if_neg (show ¬ 5 < t % 10 by omega), if_pos d, if_pos s, r_co hbit]
    · rw [if_neg z1, if_neg (show ¬ 5 < t % 10 by omega), if_pos d, if_neg s]
    · rw [if_pos rfl, if_pos rfl, if_neg (show ¬ 5 < t % 10 by omega), if_neg (show ¬ t % 10 = 5 by omega)]
  · exfalso
    rw [e] at h4
    exact absurd h4.2 (by decide)
theorem V_goesOutwards {x2 : Int32} {x3 : Int32} {x4 : Int32} {t0_0 : Int64} {t0_1 : Int32} {t1_0 : Int32} {t1_1 : Int32} {t2_0 : (Nat → Int32)} {t : Int} {w : Int} (hw : bO 220 t1_0 t1_1 t2_0 w) (h0 : 0 ≤ t) (hq : w = t / 10) (hd : x2.toInt = t % 10) (h3 : x3 = 0 ∨ x3 = 1) (h4 : 0 ≤ x4.toInt ∧ x4.toInt ≤ 6) (hin : ¬ (t % 10 = 0 ∧ t0_1 = 0)) : (F_DW_goesOutwards x2 x3 x4 t0_0 t0_1 t1_0 t1_1 t2_0) = rGr x4 x3 t0_1 t := by
  have e5 : (5 : Int32).toInt = 5 := rfl
  unfold F_DW_goesOutwards
  by_cases c : (5 : Int32) < x2
  · have c2 := q_ltI c
    have n5 : ¬ x2 = 5 := fun e => by
      rw [e] at c2
      omega
    rw [if_pos c]
    unfold F_DW_goesOutwards_J17 F_DW_goesOutwards_J22
    rw [if_neg n5]
    unfold F_DW_goesOutwards_J40
    exact V_goJ hw h0 hq h3 h4 hin (Or.inl ⟨by omega, rfl, rfl⟩)
  · have c2 := q_nltI c
    rw [if_neg c]
    by_cases d : x2 = 5
    · have d2 := congrArg Int32.toInt d
      rw [if_pos d]
      by_cases s : t0_1 = 0
      · rw [if_pos s]
        unfold F_DW_goesOutwards_J21 F_DW_goesOutwards_J22
        rw [if_pos d, if_pos s]
        exact V_goJ hw h0 hq h3 h4 hin (Or.inr (Or.inl ⟨by omega, s, rfl, rfl⟩))
      · rw [if_neg s]
        unfold F_DW_goesOutwards_J17 F_DW_goesOutwards_J22
        rw [if_pos d, if_neg s]
        unfold F_DW_goesOutwards_J40
        exact V_goJ hw h0 hq h3 h4 hin (Or.inr (Or.inr (Or.inl ⟨by omega, s, rfl, rfl⟩)))
    · have d2 : x2.toInt ≠ 5 := fun e => d (Int32.toInt_inj.mp (e.trans e5.symm))
      rw [if_neg d]
      unfold F_DW_goesOutwards_J21 F_DW_goesOutwards_J22
      rw [if_neg d]
      unfold F_DW_goesOutwards_J40
      exact V_goJ hw h0 hq h3 h4 hin (Or.inr (Or.inr (Or.inr ⟨by omega, rfl, rfl⟩)))
theorem V_roundJ {x2 : Int32} {x3 : Int32} {t0_0 : Int64} {t0_1 : Int32} {t1_0 : Int32} {t1_1 : Int32} {t2_0 : (Nat → Int32)} {t3_0 : Int32} {t3_1 : Int32} {t4_0 : (Nat → Int32)} {p36 : (Int32 × Int32 × Int32 × (Nat → Int32))} {a24 : Int32} {y26 : Int32} {y27 : Int32} {f28 : (Nat → Int32)} {lx47 : Int32} {lx72 : Int32} {lx73 : Int32} {lx74 : (Nat → Int32)} {lx75 : Int32} {lx76 : Int32} {lx77 : (Nat → Int32)} {v : Int} (h : bO 220 lx72 lx73 lx74 v) (hv : 0 ≤ v) (h2 : x2 = 0 ∨ x2 = 1) : (F_DW_roundLast_J87 x2 x3 t0_0 t0_1 t1_0 t1_1 t2_0 t3_0 t3_1 t4_0 p36 a24 y26 y27 f28 lx47 lx72 lx73 lx74 lx75 lx76 lx77).1 = 1 ∧ bO 220 (F_DW_roundLast_J87 x2 x3 t0_0 t0_1 t1_0 t1_1 t2_0 t3_0 t3_1 t4_0 p36 a24 y26 y27 f28 lx47 lx72 lx73 lx74 lx75 lx76 lx77).2.1 (F_DW_roundLast_J87 x2 x3 t0_0 t0_1 t1_0 t1_1 t2_0 t3_0 t3_1 t4_0 p36 a24 y26 y27 f28 lx47 lx72 lx73 lx74 lx75 lx76 lx77).2.2.1 (F_DW_roundLast_J87 x2 x3 t0_0 t0_1 t1_0 t1_1 t2_0 t3_0 t3_1 t4_0 p36 a24 y26 y27 f28 lx47 lx72 lx73 lx74 lx75 lx76 lx77).2.2.2.1 (sgI x2 v) := by
  have va : (v.natAbs : Int) = v := Int.natAbs_of_nonneg hv
  have h0 := h.abs0
  rw [va] at h0
  unfold F_DW_roundLast_J87
  rcases h2 with e | e
  · rw [e, if_pos rfl]
    exact ⟨rfl, h0⟩
  · rw [e, if_neg (by decide)]
    have es : sgI 1 v = -v := if_neg (by decide)
    rw [es]
    by_cases c : lx72 ≤ 0
    · have c2 := q_leI c
      have e0 : (0 : Int32).toInt = 0 := rfl
      have z : v = 0 := by
        have := h.pos
        omega
      rw [if_pos c, z]
      rw [z] at h0
      exact ⟨rfl, h0⟩
    · rw [if_neg c]
      have h1 := h.abs1 (v_nle0 c)
      rw [va] at h1
      exact ⟨rfl, h1⟩
theorem V_roundLast {x2 : Int32} {x3 : Int32} {t0_0 : Int64} {t0_1 : Int32} {t1_0 : Int32} {t1_1 : Int32} {t2_0 : (Nat → Int32)} {t3_0 : Int32} {t3_1 : Int32} {t4_0 : (Nat → Int32)} {t : Int} {M : Nat} (h : bO 220 t1_0 t1_1 t2_0 t) (ht : 0 ≤ t) (hM : bB M t) (hM2 : M + 1 ≤ 218) (h2 : x2 = 0 ∨ x2 = 1) (h3 : 0 ≤ x3.toInt ∧ x3.toInt ≤ 7) : (rGr x3 x2 t0_1 t = 2 ∧ (F_DW_roundLast x2 x3 t0_0 t0_1 t1_0 t1_1 t2_0 t3_0 t3_1 t4_0).1 = 0) ∨ (rGr x3 x2 t0_1 t ≠ 2 ∧ (F_DW_roundLast x2 x3 t0_0 t0_1 t1_0 t1_1 t2_0 t3_0 t3_1 t4_0).1 = 1 ∧ bO 220 (F_DW_roundLast x2 x3 t0_0 t0_1 t1_0 t1_1 t2_0 t3_0 t3_1 t4_0).2.1 (F_DW_roundLast x2 x3 t0_0 t0_1 t1_0 t1_1 t2_0 t3_0 t3_1 t4_0).2.2.1 (F_DW_roundLast x2 x3 t0_0 t0_1 t1_0 t1_1 t2_0 t3_0 t3_1 t4_0).2.2.2.1 (sgI x2 (t / 10 + (rGr x3 x2 t0_1 t).toInt)) ∧ bB (M + 1) (sgI x2 (t / 10 + (rGr x3 x2 t0_1 t).toInt))) := by
  have e := e220
  have e10 : (10 : Int32).toInt = 10 := rfl
  have e0 : (0 : Int32).toInt = 0 := rfl
  unfold F_DW_roundLast
  obtain ⟨d1, w, d2, d3, d4, d5⟩ := W_divS (x := 10) h (by decide)
  generalize F_Big_divideSmall 220 10 t1_0 t1_1 t2_0 = p36 at d1 d5 ⊢
  have hw := d3 ht
  have ew : w = t / 10 := by
    have : (10 : Int32).toInt.toNat = 10 := rfl
    rw [this] at d2
    omega
  have dd : p36.1.toInt = t % 10 := by
    rw [d1, e10, Int.natAbs_of_nonneg ht]
  have hB : bB M w := hM.le (by rw [d2]; exact Nat.div_le_self _ _)
  have sw := d5.sB hB
  have bs : ∀ g : Int, (g = 0 ∨ g = 1) → bB (M + 1) (sgI x2 (t / 10 + g)) := fun g hg => by
    unfold bB at hB ⊢
    rw [sgI_abs, Nat.pow_succ, ← ew]
    have := Nat.pow_pos (a := 2147483648) (n := M) (by decide)
    omega
  have J44 : ∀ lx47 : Int32, rGr x3 x2 t0_1 t ≠ 2 → (lx47 = 0 → t % 10 = 0 ∧ t0_1 = 0) → (¬ lx47 = 0 → ¬ (t % 10 = 0 ∧ t0_1 = 0) ∧ ¬ x3 = 7) → (F_DW_roundLast_J44 x2 x3 t0_0 t0_1 t1_0 t1_1 t2_0 t3_0 t3_1 t4_0 p36 p36.1 p36.2.1 p36.2.2.1 p36.2.2.2 lx47).1 = 1 ∧ bO 220 (F_DW_roundLast_J44 x2 x3 t0_0 t0_1 t1_0 t1_1 t2_0 t3_0 t3_1 t4_0 p36 p36.1 p36.2.1 p36.2.2.1 p36.2.2.2 lx47).2.1 (F_DW_roundLast_J44 x2 x3 t0_0 t0_1 t1_0 t1_1 t2_0 t3_0 t3_1 t4_0 p36 p36.1 p36.2.1 p36.2.2.1 p36.2.2.2 lx47).2.2.1 (F_DW_roundLast_J44 x2 x3 t0_0 t0_1 t1_0 t1_1 t2_0 t3_0 t3_1 t4_0 p36 p36.1 p36.2.1 p36.2.2.1 p36.2.2.2 lx47).2.2.2.1 (sgI x2 (t / 10 + (rGr x3 x2 t0_1 t).toInt)) := fun lx47 hg hz hn => by
    unfold F_DW_roundLast_J44
    by_cases c : lx47 = 0
    · obtain ⟨z1, z2⟩ := hz c
      rw [if_pos c, rGr_ex z1 z2, e0, Int.add_zero, ← ew]
      exact V_roundJ d5 hw h2
    · obtain ⟨n1, n2⟩ := hn c
      have h36 : x3.toInt ≠ 7 := fun e => n2 (Int32.toInt_inj.mp e)
      have hgo := V_goesOutwards (x2 := p36.1) (x3 := x2) (x4 := x3) (t0_0 := t0_0) (t0_1 := t0_1) d5 ht ew dd h2 ⟨h3.1, by omega⟩ n1
      rw [if_neg c, hgo]
      rcases rGr_01 hg with g | g
      · rw [g, if_pos rfl, e0, Int.add_zero, ← ew]
        exact V_roundJ d5 hw h2
      · rw [g, if_neg (by decide)]
        have k1 : P1 220 1 (F_Big_setLong (220 : Int32) (1 : Int64) t3_0 t3_1 t4_0) := W_setLong (x := 1) (by decide) (by decide)
        generalize (F_Big_setLong (220 : Int32) (1 : Int64) t3_0 t3_1 t4_0) = p144 at k1 ⊢
        unfold F_DW_roundLast_c67
        have s1 := k1.sB v_one
        have k2 := W_addSize d5 hw k1 (by omega) (by omega)
        generalize F_Big_addSize 220 220 p36.2.1 p36.2.2.1 p36.2.2.2 p144.1 p144.2.1 p144.2.2 = p167 at k2 ⊢
        unfold F_DW_roundLast_c84
        rw [← ew]
        exact V_roundJ k2 (by show 0 ≤ w + 1; omega) h2
  have J29 : ∀ lx47 : Int32, (lx47 = 0 → t % 10 = 0 ∧ t0_1 = 0) → (¬ lx47 = 0 → ¬ (t % 10 = 0 ∧ t0_1 = 0)) → (rGr x3 x2 t0_1 t = 2 ∧ (F_DW_roundLast_J29 x2 x3 t0_0 t0_1 t1_0 t1_1 t2_0 t3_0 t3_1 t4_0 p36 p36.1 p36.2.1 p36.2.2.1 p36.2.2.2 lx47).1 = 0) ∨ (rGr x3 x2 t0_1 t ≠ 2 ∧ (F_DW_roundLast_J29 x2 x3 t0_0 t0_1 t1_0 t1_1 t2_0 t3_0 t3_1 t4_0 p36 p36.1 p36.2.1 p36.2.2.1 p36.2.2.2 lx47).1 = 1 ∧ bO 220 (F_DW_roundLast_J29 x2 x3 t0_0 t0_1 t1_0 t1_1 t2_0 t3_0 t3_1 t4_0 p36 p36.1 p36.2.1 p36.2.2.1 p36.2.2.2 lx47).2.1 (F_DW_roundLast_J29 x2 x3 t0_0 t0_1 t1_0 t1_1 t2_0 t3_0 t3_1 t4_0 p36 p36.1 p36.2.1 p36.2.2.1 p36.2.2.2 lx47).2.2.1 (F_DW_roundLast_J29 x2 x3 t0_0 t0_1 t1_0 t1_1 t2_0 t3_0 t3_1 t4_0 p36 p36.1 p36.2.1 p36.2.2.1 p36.2.2.2 lx47).2.2.2.1 (sgI x2 (t / 10 + (rGr x3 x2 t0_1 t).toInt)) ∧ bB (M + 1) (sgI x2 (t / 10 + (rGr x3 x2 t0_1 t).toInt))) := fun lx47 hz hn => by
    have fin : rGr x3 x2 t0_1 t ≠ 2 → bB (M + 1) (sgI x2 (t / 10 + (rGr x3 x2 t0_1 t).toInt)) := fun hg => by
      rcases rGr_01 hg with g | g
      · rw [g]
        exact bs _ (Or.inl rfl)
      · rw [g]
        exact bs _ (Or.inr rfl)
    unfold F_DW_roundLast_J29
    by_cases c : lx47 = 0
    · obtain ⟨z1, z2⟩ := hz c
      have g0 : rGr x3 x2 t0_1 t ≠ 2 := by
        rw [rGr_ex z1 z2]
        decide
      obtain ⟨j1, j2⟩ := J44 lx47 g0 hz (fun h => absurd c h)
      rw [if_pos c]
      exact Or.inr ⟨g0, j1, j2, fin g0⟩
    · rw [if_neg c]
      by_cases s : x3 = 7
      · rw [if_pos s]
        refine Or.inl ⟨?_, rfl⟩
        rw [s, rGr_7, if_neg (hn c)]
      · rw [if_neg s]
        have g0 : rGr x3 x2 t0_1 t ≠ 2 := by
          rcases q_x8 h3.1 h3.2 with q | q | q | q | q | q | q | q
          · rw [q, rGr_0]; split <;> decide
          · rw [q, rGr_1]; decide
          · rw [q, rGr_2]; split; decide; split <;> decide
          · rw [q, rGr_3]; split; decide; split <;> decide
          · rw [q, rGr_4]; split <;> decide
          · rw [q, rGr_5]; split; decide; split; split <;> decide; decide
          · rw [q, rGr_6]; split; decide; split; split; split <;> decide; decide; decide
          · exact absurd q s
        obtain ⟨j1, j2⟩ := J44 lx47 g0 hz (fun h => ⟨hn h, s⟩)
        exact Or.inr ⟨g0, j1, j2, fin g0⟩
  unfold F_DW_roundLast_c9 F_DW_roundLast_J24
  by_cases c : p36.1 = 0
  · have c2 := congrArg Int32.toInt c
    rw [if_pos c]
    by_cases s : t0_1 = 0
    · rw [if_pos s]
      exact J29 0 (fun _ => ⟨by omega, s⟩) (fun h => absurd rfl h)
    · rw [if_neg s]
      exact J29 1 (fun h => absurd h (by decide)) (fun _ h => s h.2)
  · have c2 : p36.1.toInt ≠ 0 := fun e => c (Int32.toInt_inj.mp e)
    rw [if_neg c]
    exact J29 1 (fun h => absurd h (by decide)) (fun _ h => c2 (by omega))
