/-! values, for whole: told of wholes and decimals, on both sides -/
def yTd (w : Int32) (q : Int × Int) (c : Nat) (a : Int) : Prop := (w = 0 ∧ ((q.1 = 0 ∧ a = 0) ∨ (0 < q.1 ∧ a = 1) ∨ (q.1 < 0 ∧ a = -1))) ∨ (w = 1 ∧ a = q.2) ∨ (w = 2 ∧ a = (c : Int)) ∨ (3 ≤ w.toInt ∧ a = ((yFg q.1.natAbs c (w.toInt - 3).toNat : Nat) : Int))
theorem yDt_vG {v : Int} {c : Nat} (h : vG v c) : (v = 0 ∧ c = 1 ∧ yDt v.natAbs 0) ∨ (v ≠ 0 ∧ yDt v.natAbs c) := by
  obtain ⟨⟨h1, h2, h3⟩, h4⟩ := h
  by_cases z : v = 0
  · refine Or.inl ⟨z, h4 z, ?_, fun h => absurd rfl h⟩
    rw [z]
    show (0 : Nat) < 10 ^ 0
    decide
  · exact Or.inr ⟨z, h2, fun _ k => absurd (h3 z) (Nat.not_le.mpr k)⟩
theorem yFg_0 {c i : Nat} : yFg 0 c i = 0 := by
  unfold yFg yLo
  rw [Nat.zero_div]
theorem y_fig {cnt p x : Int32} {row : Nat → Int32} {v : Int} {c i : Nat} (h : yDg cnt row v.natAbs) (hc : vG v c) (hx : x.toInt = (i : Int)) (hi : i < c) : (F_Dig_figure x cnt p row).toInt = ((yFg v.natAbs c i : Nat) : Int) := by
  have e0 : (0 : Int32).toInt = 0 := rfl
  obtain ⟨d, h1, h2, h3, h4⟩ := h
  unfold F_Dig_figure
  rw [if_neg (show ¬ x < 0 from fun c => by have := q_ltI c; omega)]
  rcases yDt_vG hc with ⟨z, _, k⟩ | ⟨z, k⟩
  · have := yDt_U h3 k
    rw [if_pos (show cnt ≤ x from Int32.le_iff_toInt_le.mpr (by omega)), z]
    show _ = ((yFg 0 c i : Nat) : Int)
    rw [yFg_0]
    rfl
  · have := yDt_U h3 k
    subst this
    rw [if_neg (show ¬ cnt ≤ x from fun c => by have := q_leI c; omega)]
    have xc : x.toNatClampNeg = i := by
      have := q_clI hx (by omega)
      omega
    rw [xc]
    exact h4 i hi
theorem V_tellD {R : Int32} {x3 : Int32} {t0_0 : Int32} {t0_1 : Int32} {t1_0 : (Nat → Int32)} {t2_0 : Int32} {t2_1 : Int32} {t3_0 : (Nat → Int32)} {t4_0 : Int32} {t4_1 : Int32} {t5_0 : Int32} {t5_1 : Int32} {t6_0 : (Nat → Int32)} {q : Int × Int} {c : Nat} (h : dP 108 t5_0 t5_1 t6_0 t4_0 t4_1 q) (hR : R = 108) (hc : vG q.1 c) (hx0 : 0 ≤ x3.toInt) (hx : x3.toInt - 3 < (c : Int)) : yTd x3 q c (F_NH_tellDecimal R x3 t0_0 t0_1 t1_0 t2_0 t2_1 t3_0 t4_0 t4_1 t5_0 t5_1 t6_0).1.toInt := by
  have e0 : (0 : Int32).toInt = 0 := rfl
  have e1 : (1 : Int32).toInt = 1 := rfl
  have e2 : (2 : Int32).toInt = 2 := rfl
  have e3 : (3 : Int32).toInt = 3 := rfl
  obtain ⟨hb, ⟨c2, h1, h2, h3⟩, h4, h5, h6⟩ := h
  have : c2 = c := by
    rcases yDt_vG h2 with ⟨z, k, _⟩ | ⟨z, k⟩
    · rcases yDt_vG hc with ⟨_, k', _⟩ | ⟨z', _⟩
      · omega
      · exact absurd z z'
    · rcases yDt_vG hc with ⟨z', _, _⟩ | ⟨_, k'⟩
      · exact absurd z' z
      · exact yDt_U k k'
  subst this
  unfold F_NH_tellDecimal
  by_cases c0 : x3 = 0
  · rw [if_pos c0]
    refine Or.inl ⟨c0, ?_⟩
    show (_ ∧ (F_Big_sign R t5_0 t5_1).toInt64.toInt = 0) ∨ (_ ∧ (F_Big_sign R t5_0 t5_1).toInt64.toInt = 1) ∨ (_ ∧ (F_Big_sign R t5_0 t5_1).toInt64.toInt = -1)
    rw [hR]
    rcases W_sgn hb with ⟨k, s⟩ | ⟨k, s⟩ | ⟨k, s⟩
    · exact Or.inl ⟨k, by rw [s]; rfl⟩
    · exact Or.inr (Or.inl ⟨k, by rw [s]; rfl⟩)
    · exact Or.inr (Or.inr ⟨k, by rw [s]; rfl⟩)
  · rw [if_neg c0]
    by_cases c1 : x3 = 1
    · rw [if_pos c1]
      refine Or.inr (Or.inl ⟨c1, ?_⟩)
      exact (q_i2l h4)
    · rw [if_neg c1]
      by_cases cc2 : x3 = 2
      · rw [if_pos cc2]
        exact Or.inr (Or.inr (Or.inl ⟨cc2, q_i2l h1⟩))
      · rw [if_neg cc2]
        have n0 : x3.toInt ≠ 0 := fun k => c0 (Int32.toInt_inj.mp k)
        have n1 : x3.toInt ≠ 1 := fun k => c1 (Int32.toInt_inj.mp k)
        have n2 : x3.toInt ≠ 2 := fun k => cc2 (Int32.toInt_inj.mp k)
        refine Or.inr (Or.inr (Or.inr ⟨by omega, ?_⟩))
        have cp := W_copy (R := 220) (R2 := 108) (s := t0_0) (neg := t0_1) (f := t1_0) hb (by have := hb.2.2.2.1; have e108 : (108 : Int32).toInt = 108 := rfl; have e220 : (220 : Int32).toInt = 220 := rfl; omega) (by decide)
        rw [hR]
        revert cp
        generalize F_Big_copy 220 108 t0_0 t0_1 t1_0 t5_0 t5_1 t6_0 = p
        intro cp
        unfold F_NH_tellDecimal_c46
        have hN : yLt10 q.1.natAbs 1026 := Nat.lt_of_lt_of_le h2.1.2.1 (Nat.pow_le_pow_right (by decide) (by omega))
        have fl := V_fill (R := 220) (x3 := 0) (t0_0 := t2_0) (t0_1 := t2_1) (t1_0 := t3_0) cp hN (by decide)
        revert fl
        generalize F_Dig_fill 220 0 t2_0 t2_1 t3_0 p.1 p.2.1 p.2.2 = r
        intro fl
        unfold F_NH_tellDecimal_c61
        have s := q_subI (a := x3) (b := 3) rfl e3 (by omega) (by omega)
        have f := y_fig (p := r.2.1) (i := (x3.toInt - 3).toNat) fl.1 hc (x := x3 - 3) (by rw [s]; omega) (by omega)
        exact q_i2l f
