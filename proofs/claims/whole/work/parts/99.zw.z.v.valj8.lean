/-! values, for whole: the printer's run, its pieces -/
theorem V_i40 {n : Nat} (h : n ≤ 40) : ∃ x : Int32, x.toInt = (n : Int) := by
  have key : ∀ n : Nat, n < 41 → (Int32.ofNat n).toInt = (n : Int) := by decide
  exact ⟨_, key n (by omega)⟩
theorem V_zbL {b N m : Nat} (hb : 2 ≤ b) (h : zNf b N m) (hN : N < 18446744073709551616) : m ≤ 64 := by
  apply Classical.byContradiction
  intro w
  have a := h.2.2 (by omega)
  have c : 2 ^ 64 ≤ 2 ^ (m - 1) := Nat.pow_le_pow_right (by decide) (by omega)
  have d : 2 ^ (m - 1) ≤ b ^ (m - 1) := Nat.pow_le_pow_left hb _
  have e : (2 : Nat) ^ 64 = 18446744073709551616 := by decide
  omega
/-- a body is short -/
theorem zBdT_b {sc fl x12 : Int32} {pr : Int} {a : yA} {t : List Nat} {f : Nat} {pd : Int32} (h : zBdT sc fl pr a t f pd) (aw : ¬ (sc = 37 ∨ sc = 110) → yAw a) (h12 : x12.toInt = pr) (hpr : -1 ≤ pr ∧ pr ≤ 9999) : t.length ≤ 20000 := by
  have lo := Int64.le_toInt a.2.1
  have hi := Int64.toInt_lt a.2.1
  rcases h with ⟨h1, h, _⟩ | ⟨h1, h, _⟩ | ⟨h1, h, _⟩ | ⟨h1, h0, h, _⟩ | ⟨h1, h0, h2, _⟩ | ⟨h1, h0, h, _⟩ | ⟨h1, h0, ⟨d, h2, h3⟩, h4⟩
  · rw [h]; decide
  · rw [h]; decide
  · rw [h]
    split <;> decide
  · rw [h]; decide
  · have aw := aw (by rw [h1]; decide)
    rcases h2 with ⟨_, z⟩ | ⟨_, z⟩ | ⟨_, z⟩ | ⟨_, z⟩ | ⟨_, v, ⟨d, y1, y2⟩, z⟩
    · rw [z]; decide
    · rw [z]
      split <;> decide
    · rw [z]
      show 1 ≤ 20000
      decide
    · rw [z]
      have := aw.2.2.1
      omega
    · rw [Z_rdS] at y1 y2
      have d30 := V_c30 y1 (by omega)
      have s40 := aw.2.1
      have l1 := yPlA_len (N := a.2.1.toInt.natAbs) (A := max (d - a.2.2.1) 1) (s := (a.2.2.1 : Int))
      have l2 := yTail_len (N := a.2.1.toInt.natAbs) (pl := a.2.2.1) (s := (a.2.2.1 : Int))
      have l3 : (yMin (a.2.1.toInt < 0)).length ≤ 1 := by
        unfold yMin
        split <;> decide
      rw [z, y2, List.length_append, List.length_append]
      omega
  · rw [h]
    show 1 ≤ 20000
    decide
  · by_cases ox : sc = 111 ∨ sc = 120
    · rcases h3 with ⟨_, u, ⟨m, z1, z2⟩, z3, _⟩ | ⟨w, _⟩ | ⟨w, _⟩
      · have ml := V_zbL (by split <;> decide) z1 (yu_lt a.2.1)
        have pl : (zPre sc fl).length ≤ 2 := by
          unfold zPre
          repeat' split
          all_goals decide
        rw [z3, z2, List.length_append, List.length_reverse, yLw_len]
        omega
      · rw [w] at ox
        exact absurd ox (by decide)
      · rcases w with w | w | w <;> rw [w] at ox <;> exact absurd ox (by decide)
    · have aw := aw (by rcases h1 with w | w | w | w | w | w <;> rw [w] <;> decide)
      obtain ⟨x13, h13⟩ := V_i40 aw.2.1
      have := V_nuB (x12 := x12) (x13 := x13) h3 h1 ox h13 aw.2.1 (by
        by_cases w : pr < 0
        · exact Or.inl ⟨by omega, by rw [if_pos w]⟩
        · refine Or.inr ?_
          rw [if_neg w]
          omega) (by split <;> omega) h2
      omega
theorem V_bsO {fl wd pr cv tw : Int32} (hc : -1 ≤ cv.toInt ∧ cv.toInt ≤ 255) (h : zBs fl wd pr cv tw = 0) : cv ∈ yO1 := by
  have e0 : (0 : Int32).toInt = 0 := rfl
  unfold zBs F_Dir_fault at h
  by_cases c : 0 ≤ cv
  · rw [if_pos c] at h
    have c' := q_leI c
    rw [y_one1 ⟨by omega, hc.2⟩] at h
    by_cases m : cv ∈ yO1
    · exact m
    · rw [if_neg m, if_pos (rfl : (0 : Int32) = 0)] at h
      exact absurd h (by decide)
  · rw [if_neg c] at h
    exact absurd h (by decide)
/-- no fault: not both - and 0 -/
theorem V_bs8 {fl wd pr cv tw : Int32} (h : zBs fl wd pr cv tw = 0) (h8 : fl &&& 8 ≠ 0) : fl &&& 1 = 0 := by
  apply Classical.byContradiction
  intro g
  have J119 : F_Dir_fault_J119 0 fl wd pr cv 0 tw = 8 := by rw [Z_119, if_neg g, if_neg h8]
  have J82 : F_Dir_fault_J82 0 fl wd pr cv 0 tw ≠ 0 := by
    unfold F_Dir_fault_J82
    rw [J119]
    repeat' split
    all_goals decide
  have J63 : F_Dir_fault_J63 0 fl wd pr cv 0 tw ≠ 0 := by
    unfold F_Dir_fault_J63
    repeat' split
    all_goals first | exact J82 | decide
  have f0 : ¬ fl = 0 := fun w => h8 (by rw [w]; rfl)
  unfold zBs F_Dir_fault at h
  by_cases hn : cv = 110
  · rw [if_pos hn, if_neg f0] at h
    revert h
    repeat' split
    all_goals decide
  · rw [if_neg hn] at h
    revert h
    repeat' split
    all_goals first | exact J63 | decide
def QV_run (r : Int32 × Int32 × (Nat → Int64) × Int32 × Int32 × Int32 × Int32 × Int32 × Int32 × (Nat → Int32) × Int32 × (Nat → Int64) × Int32 × Int32 × Int32 × Int32 × Int32 × Int32 × Int32) (n : Int32) (F pl : Int) (o : List Nat) : Prop := r.2.2.2.1 = n ∧ (0 ≤ F ∧ F ≤ 12) ∧ (F = 0 → r.1.toInt = (o.length : Int) ∧ yShl 11008 r.2.1 r.2.2.1 o ∧ o.length ≤ 4096) ∧ (F ≠ 0 → r.1.toInt = -1000 * F - pl ∧ r.2.1 = 0)
theorem V_r128 {K_F_Pri_run_L18 : Int32 → Int32 → Int32 → (Nat → Int64) → Int32 → Int32 → Int32 → Int32 → Int32 → Int32 → (Nat → Int32) → Int32 → (Nat → Int64) → Int32 → Int32 → Int32 → Int32 → Int32 → Int32 → Int32 → (Int32 × Int32 × (Nat → Int64) × Int32 × Int32 × Int32 × Int32 × Int32 × Int32 × (Nat → Int32) × Int32 × (Nat → Int64) × Int32 × Int32 × Int32 × Int32 × Int32 × Int32 × Int32)} {t0_0 : Int32} {t1_0 : (Nat → Int64)} {t2_0 : Int32} {t3_0 : (Nat → Int64)} {t4_0 : Int32} {t4_1 : Int32} {t4_2 : Int32} {t4_3 : Int32} {t5_0 : (Nat → Int32)} {t6_0 : (Nat → Int64)} {t7_0 : (Nat → Int32)} {t8_0 : Int32} {t8_1 : Int32} {t9_0 : (Nat → Int32)} {t10_0 : Int32} {t11_0 : (Nat → Int64)} {t12_0 : Int32} {t12_1 : Int32} {t12_2 : Int32} {t12_3 : Int32} {t12_4 : Int32} {t12_5 : Int32} {t12_6 : Int32} {t13_0 : Int32} {t14_0 : (Nat → Int64)} {t15_0 : Int32} {t16_0 : (Nat → Int64)} {t17_0 : Int32} {t18_0 : (Nat → Int64)} {t19_0 : Int32} {t20_0 : (Nat → Int64)} {t21_0 : Int32} {t22_0 : (Nat → Int64)} {t23_0 : Int32} {t24_0 : (Nat → Int64)} {t25_0 : Int32} {t26_0 : (Nat → Int64)} {t27_0 : Int32} {t28_0 : (Nat → Int64)} {t29_0 : Int32} {t30_0 : (Nat → Int64)} {lx111 : Int32} {lx112 : Int32} {lx113 : Int32} {lx114 : (Nat → Int64)} {lx115 : Int32} {lx116 : Int32} {lx117 : Int32} {lx118 : Int32} {lx119 : Int32} {lx120 : Int32} {lx121 : (Nat → Int32)} {lx122 : Int32} {lx123 : (Nat → Int64)} {lx124 : Int32} {lx125 : Int32} {lx126 : Int32} {lx127 : Int32} {lx128 : Int32} {lx129 : Int32} {lx130 : Int32} {lx219 : Int32} {lx220 : Int32} {lx221 : Int32} {lx222 : Int32} {lx223 : Int32} {lx224 : Int32} {lx225 : Int32} {lx226 : Int32} {lx227 : (Nat → Int32)} {lx228 : Int32} {lx229 : (Nat → Int64)} {lx230 : Int32} {lx231 : Int32} {lx232 : Int32} {lx233 : Int32} {lx234 : Int32} {lx235 : Int32} {lx236 : Int32} {out t : List Nat} {f p : Nat} {W : Int} {pd : Int32} (h112 : lx112.toInt = (p : Int)) (hp4 : p ≤ 256) (hp : yShl 11008 lx113 lx114 out) (ho : out.length ≤ 4096) (h219 : lx219 = 0) (hb : yShl 4104 lx228 lx229 t) (ht : t.length ≤ 20000) (hW : lx232.toInt = W) (hW2 : -1 ≤ W ∧ W ≤ 9999) (hfr : (lx222 = -1 ∧ pd = 0) ∨ (lx222.toInt = (f : Int) ∧ f ≤ t.length ∧ pd = (if lx231 &&& 8 = 0 then 0 else 1) ∧ (lx231 &&& 8 ≠ 0 → lx231 &&& 1 = 0))) : (4096 < out.length + (zUp lx234 (zWid W lx231 pd f t)).length ∧ QV_run (F_Pri_run_J128 K_F_Pri_run_L18 t0_0 t1_0 t2_0 t3_0 t4_0 t4_1 t4_2 t4_3 t5_0 t6_0 t7_0 t8_0 t8_1 t9_0 t10_0 t11_0 t12_0 t12_1 t12_2 t12_3 t12_4 t12_5 t12_6 t13_0 t14_0 t15_0 t16_0 t17_0 t18_0 t19_0 t20_0 t21_0 t22_0 t23_0 t24_0 t25_0 t26_0 t27_0 t28_0 t29_0 t30_0 lx111 lx112 lx113 lx114 lx115 lx116 lx117 lx118 lx119 lx120 lx121 lx122 lx123 lx124 lx125 lx126 lx127 lx128 lx129 lx130 lx219 lx220 lx221 lx222 lx223 lx224 lx225 lx226 lx227 lx228 lx229 lx230 lx231 lx232 lx233 lx234 lx235 lx236) lx221 12 p out) ∨ (out.length + (zUp lx234 (zWid W lx231 pd f t)).length ≤ 4096 ∧ ∃ s row, yShl 11008 s row (out ++ zUp lx234 (zWid W lx231 pd f t)) ∧ (F_Pri_run_J128 K_F_Pri_run_L18 t0_0 t1_0 t2_0 t3_0 t4_0 t4_1 t4_2 t4_3 t5_0 t6_0 t7_0 t8_0 t8_1 t9_0 t10_0 t11_0 t12_0 t12_1 t12_2 t12_3 t12_4 t12_5 t12_6 t13_0 t14_0 t15_0 t16_0 t17_0 t18_0 t19_0 t20_0 t21_0 t22_0 t23_0 t24_0 t25_0 t26_0 t27_0 t28_0 t29_0 t30_0 lx111 lx112 lx113 lx114 lx115 lx116 lx117 lx118 lx119 lx120 lx121 lx122 lx123 lx124 lx125 lx126 lx127 lx128 lx129 lx130 lx219 lx220 lx221 lx222 lx223 lx224 lx225 lx226 lx227 lx228 lx229 lx230 lx231 lx232 lx233 lx234 lx235 lx236) = K_F_Pri_run_L18 (lx111 + 1) lx220 s row lx221 lx222 lx223 lx224 lx225 lx226 lx227 lx228 lx229 lx230 lx231 lx232 lx233 lx234 lx235 lx236) := by
  have e4 : (4096 : Int32).toInt = 4096 := rfl
  have zl : (zUp lx234 (zWid W lx231 pd f t)).length = t.length + (W - t.length).toNat := by
    have := zWid_l (W := W) (fl := lx231) (pd := pd) (f := f) (t := t)
    unfold zUp
    by_cases a : lx234 < 65
    · rw [if_pos a, this]
    · rw [if_neg a]
      by_cases b : 90 < lx234
      · rw [if_pos b, this]
      · rw [if_neg b, List.length_map, this]
  have b1 := hb.1
  have mx : (if lx228 < lx232 then lx232 else lx228).toInt = ((t.length + (W - t.length).toNat : Nat) : Int) := by
    by_cases c : lx228 < lx232
    · rw [if_pos c]
      have := q_ltI c
      omega
    · rw [if_neg c]
      have := q_nltI c
      omega
  have ad := q_addI hp.1 mx (by omega) (by omega)
  unfold F_Pri_run_J128
  rw [if_pos h219]
  by_cases c : lx113 + (if lx228 < lx232 then lx232 else lx228) ≤ 4096
  · rw [if_pos c]
    have c' := q_leI c
    have w := V_widC (t0_0 := lx221) (t0_1 := lx222) (t0_2 := lx223) (t0_3 := lx224) (t3_0 := lx230) (t3_1 := lx231) (t3_2 := lx232) (t3_3 := lx233) (t3_4 := lx234) (t3_5 := lx235) (t3_6 := lx236) hp hb hW hW2 (by omega) (by omega) hfr
    revert w
    generalize F_Pri_widen lx221 lx222 lx223 lx224 lx228 lx229 lx230 lx231 lx232 lx233 lx234 lx235 lx236 lx113 lx114 = q
    intro w
    unfold F_Pri_run_c185
    exact Or.inr ⟨by omega, q.1, q.2, w, rfl⟩
  · rw [if_neg c]
    have c' := q_nleI c
    refine Or.inl ⟨by omega, rfl, by decide, fun w => absurd w (by decide), fun _ => ⟨?_, rfl⟩⟩
    show (-12000 - lx112).toInt = _
    rw [q_subI (show (-12000 : Int32).toInt = -12000 from rfl) h112 (by omega) (by omega)]
    rfl

