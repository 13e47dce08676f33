/-! values, for whole: the reference's floats written: print -/
theorem y_tpg {P T : Nat} {l : Int} {u S q c j Z : Nat} (hs : yFsh P T l u S q) (hc : yDt S c) (hc0 : 1 ≤ c) (hZ : yZ (yPx l (yEx P T u)) Z) (j1 : 10 ^ j ≤ 4 * yNx P T u * Z) (j2 : 4 * yNx P T u * Z < 10 ^ (j + 1)) : j ≤ c - 1 + q ∧ c - 1 + q ≤ j + 1 ∧ q ≤ j + 1 := by
  obtain ⟨Y, L, y1, y2, kk, S0, z, y3, y4, y5, y6, y7⟩ := hs
  have := yZ_U hZ y1
  subst this
  obtain ⟨i, i1, i2, i3, i4, i5⟩ := y3
  have ij := y_topU i1 i2 j1 j2
  subst ij
  generalize 4 * yNx P T u * Z = V at *
  have kp : 0 < 10 ^ kk := Nat.pow_pos (by decide)
  have eX : S * 10 ^ q = S0 * 10 ^ kk := by
    rw [y7, y5, Nat.pow_add, Nat.mul_assoc, Nat.mul_comm (10 ^ kk)]
  have x1 : 10 ^ (c - 1 + q) ≤ S * 10 ^ q := by
    rw [Nat.pow_add]
    exact Nat.mul_le_mul_right _ ((y_ge10 hc).mpr (by omega))
  have x2 : S * 10 ^ q < 10 ^ (c - 1 + q + 1) := by
    rw [show c - 1 + q + 1 = c + q from by omega, Nat.pow_add]
    exact Nat.mul_lt_mul_of_pos_right hc.1 (Nat.pow_pos (by decide))
  rw [eX] at x1 x2
  have lo : 10 ^ i ≤ V / 10 ^ kk * 10 ^ kk := by
    obtain ⟨d, rfl⟩ : ∃ d, i = d + kk := ⟨i - kk, by omega⟩
    rw [Nat.pow_add]
    refine Nat.mul_le_mul_right _ ?_
    rw [Nat.pow_add] at i1
    exact (Nat.le_div_iff_mul_le kp).mpr i1
  have top : (V / 10 ^ kk + 1) * 10 ^ kk ≤ 10 ^ (i + 1) := by
    obtain ⟨d, hd⟩ : ∃ d, i + 1 = d + kk := ⟨i + 1 - kk, by omega⟩
    rw [hd, Nat.pow_add]
    refine Nat.mul_le_mul_right _ ?_
    have : V / 10 ^ kk < 10 ^ d := (Nat.div_lt_iff_lt_mul kp).mpr (by rw [← Nat.pow_add, ← hd]; exact i2)
    exact this
  have b : 10 ^ i ≤ S0 * 10 ^ kk ∧ S0 * 10 ^ kk ≤ 10 ^ (i + 1) := by
    rcases y4 with ⟨_, hS⟩ | ⟨_, hS⟩
    · rw [hS]
      exact ⟨Nat.le_trans lo (Nat.mul_le_mul_right _ (Nat.le_succ _)), top⟩
    · rw [hS]
      exact ⟨lo, Nat.le_trans (Nat.mul_le_mul_right _ (Nat.le_succ _)) top⟩
  have a1 : i < c - 1 + q + 1 := (Nat.pow_lt_pow_iff_right (by decide)).mp (Nat.lt_of_le_of_lt b.1 x2)
  have a2 : c - 1 + q ≤ i + 1 := (Nat.pow_le_pow_iff_right (by decide)).mp (Nat.le_trans x1 b.2)
  omega
theorem V_p163 {x2 : Int64} {x3 : Int32} {t0_0 : Int32} {t0_1 : Int32} {t0_2 : Int32} {t0_3 : Int32} {t0_4 : Int64} {t0_5 : Int32} {t0_6 : Int32} {t0_7 : Int64} {t0_8 : Int32} {t0_9 : Int64} {t0_10 : Int32} {t1_0 : (Nat → Int32)} {t2_0 : (Nat → Int32)} {t3_0 : (Nat → Int32)} {t4_0 : (Nat → Int32)} {t5_0 : (Nat → Int32)} {t6_0 : (Nat → Int32)} {t7_0 : (Nat → Int32)} {lx42 : Int32} {p100 : (Int32 × Int32 × Int32 × Int32 × Int64 × Int32 × Int32 × Int64 × Int32 × Int64 × Int32)} {p168 : (Int32 × Int32 × Int32 × Int32 × Int64 × Int32 × Int32 × Int64 × Int32 × Int64 × Int32 × (Nat → Int32))} {f142 : (Nat → Int32)} {p239 : (Int32 × Int32 × Int32 × Int32 × Int64 × Int32 × Int32 × Int64 × Int32 × Int64 × Int32 × (Nat → Int32) × (Nat → Int32) × (Nat → Int32) × (Nat → Int32) × (Nat → Int32) × (Nat → Int32))} {a269 : Int32} {a266 : Int32} {y196 : Int32} {y197 : Int32} {y198 : Int32} {y199 : Int32} {y200 : Int64} {y201 : Int32} {y202 : Int32} {y203 : Int64} {y204 : Int32} {y205 : Int64} {y206 : Int32} {f207 : (Nat → Int32)} {f209 : (Nat → Int32)} {f211 : (Nat → Int32)} {f213 : (Nat → Int32)} {f215 : (Nat → Int32)} {f217 : (Nat → Int32)} {lx279 : Int32} {lx296 : Int32} {lx312 : Int32} {S q : Nat} {f la on be : Int} (ha : a266.toInt = f) (hf : -1079 ≤ f ∧ f ≤ 1000) (hla : a269.toInt = la) (hlab : -1080 ≤ la ∧ la ≤ f) (hS : S < 1000000000000000000) (hq2 : q ≤ 3000) (ho : lx312.toInt = on) (hob : -1079 ≤ on ∧ on ≤ 1000) (hfl : on - la < 1100) (hb : lx296.toInt = be) (hbe : on ≤ be ∧ be - on ≤ 20) {l : List Nat} (h9 : y205.toInt = (S : Int)) (h10 : y206.toInt = (q : Int)) (hr : yRt y197 f142 l) (hl : l.length ≤ 1) : yRt (F_FR_print_J163 x2 x3 t0_0 t0_1 t0_2 t0_3 t0_4 t0_5 t0_6 t0_7 t0_8 t0_9 t0_10 t1_0 t2_0 t3_0 t4_0 t5_0 t6_0 t7_0 lx42 p100 p168 f142 p239 a269 a266 y196 y197 y198 y199 y200 y201 y202 y203 y204 y205 y206 f207 f209 f211 f213 f215 f217 lx279 lx296 lx312).1 (F_FR_print_J163 x2 x3 t0_0 t0_1 t0_2 t0_3 t0_4 t0_5 t0_6 t0_7 t0_8 t0_9 t0_10 t1_0 t2_0 t3_0 t4_0 t5_0 t6_0 t7_0 lx42 p100 p168 f142 p239 a269 a266 y196 y197 y198 y199 y200 y201 y202 y203 y204 y205 y206 f207 f209 f211 f213 f215 f217 lx279 lx296 lx312).2.2.2.2.2.2.2.2.2.2.2.2.2.2.2.2.2.2 (l ++ yDz S (be - ((q : Int) - 1080)) (be - on + 1).toNat ++ [46] ++ yDz S (on - 1 - ((q : Int) - 1080)) (on - min la (on - 1)).toNat ++ (if lx279 = 0 then [69] ++ yPs f else [])) := by
  unfold F_FR_print_J163
  have h0 := hr.1
  exact V_p169 ha (by omega) hla hlab hS hq2 ho (by omega) hfl ((2047 - y197.toInt).toNat + 1) lx296 y196 y197 y198 y199 y200 y201 y202 y203 y204 y205 y206 f142 be (be - on + 1).toNat l hb (by omega) (by omega) (by omega) (by omega) h9 h10 hr (by omega)
theorem V_p127 {x2 : Int64} {x3 : Int32} {t0_0 : Int32} {t0_1 : Int32} {t0_2 : Int32} {t0_3 : Int32} {t0_4 : Int64} {t0_5 : Int32} {t0_6 : Int32} {t0_7 : Int64} {t0_8 : Int32} {t0_9 : Int64} {t0_10 : Int32} {t1_0 : (Nat → Int32)} {t2_0 : (Nat → Int32)} {t3_0 : (Nat → Int32)} {t4_0 : (Nat → Int32)} {t5_0 : (Nat → Int32)} {t6_0 : (Nat → Int32)} {t7_0 : (Nat → Int32)} {lx42 : Int32} {p100 : (Int32 × Int32 × Int32 × Int32 × Int64 × Int32 × Int32 × Int64 × Int32 × Int64 × Int32)} {p168 : (Int32 × Int32 × Int32 × Int32 × Int64 × Int32 × Int32 × Int64 × Int32 × Int64 × Int32 × (Nat → Int32))} {f142 : (Nat → Int32)} {p239 : (Int32 × Int32 × Int32 × Int32 × Int64 × Int32 × Int32 × Int64 × Int32 × Int64 × Int32 × (Nat → Int32) × (Nat → Int32) × (Nat → Int32) × (Nat → Int32) × (Nat → Int32) × (Nat → Int32))} {a269 : Int32} {a266 : Int32} {y196 : Int32} {y197 : Int32} {y198 : Int32} {y199 : Int32} {y200 : Int64} {y201 : Int32} {y202 : Int32} {y203 : Int64} {y204 : Int32} {y205 : Int64} {y206 : Int32} {f207 : (Nat → Int32)} {f209 : (Nat → Int32)} {f211 : (Nat → Int32)} {f213 : (Nat → Int32)} {f215 : (Nat → Int32)} {f217 : (Nat → Int32)} {lx279 : Int32} {S q c : Nat} (hc0 : 1 ≤ c) (hc2 : c ≤ 18) (ha : a266.toInt = (c : Int) - 1 + ((q : Int) - 1080)) (hla : a269.toInt = (q : Int) - 1080) (hS : S < 1000000000000000000) (hq2 : q ≤ 1500) (hfb : -1060 ≤ (c : Int) - 1 + ((q : Int) - 1080)) (hl2 : (lx279 = 0 ∧ ¬ (-3 ≤ (c : Int) - 1 + ((q : Int) - 1080) ∧ (c : Int) - 1 + ((q : Int) - 1080) < 7)) ∨ (lx279 = 1 ∧ (-3 ≤ (c : Int) - 1 + ((q : Int) - 1080) ∧ (c : Int) - 1 + ((q : Int) - 1080) < 7))) {l : List Nat} (h9 : y205.toInt = (S : Int)) (h10 : y206.toInt = (q : Int)) (hr : yRt y197 f142 l) (hl : l.length ≤ 1) : yRt (F_FR_print_J127 x2 x3 t0_0 t0_1 t0_2 t0_3 t0_4 t0_5 t0_6 t0_7 t0_8 t0_9 t0_10 t1_0 t2_0 t3_0 t4_0 t5_0 t6_0 t7_0 lx42 p100 p168 f142 p239 a269 a266 y196 y197 y198 y199 y200 y201 y202 y203 y204 y205 y206 f207 f209 f211 f213 f215 f217 lx279).1 (F_FR_print_J127 x2 x3 t0_0 t0_1 t0_2 t0_3 t0_4 t0_5 t0_6 t0_7 t0_8 t0_9 t0_10 t1_0 t2_0 t3_0 t4_0 t5_0 t6_0 t7_0 lx42 p100 p168 f142 p239 a269 a266 y196 y197 y198 y199 y200 y201 y202 y203 y204 y205 y206 f207 f209 f211 f213 f215 f217 lx279).2.2.2.2.2.2.2.2.2.2.2.2.2.2.2.2.2.2 (l ++ yStx S ((q : Int) - 1080) c) := by
  have e0 : (0 : Int32).toInt = 0 := rfl
  unfold F_FR_print_J127 yStx
  generalize hE : (q : Int) - 1080 = e at *
  rcases hl2 with ⟨z, n⟩ | ⟨z, n⟩
  · rw [if_pos z, if_neg n]
    unfold F_FR_print_J150
    rw [if_pos z]
    have r := V_p163 (x2 := x2) (x3 := x3) (t0_0 := t0_0) (t0_1 := t0_1) (t0_2 := t0_2) (t0_3 := t0_3) (t0_4 := t0_4) (t0_5 := t0_5) (t0_6 := t0_6) (t0_7 := t0_7) (t0_8 := t0_8) (t0_9 := t0_9) (t0_10 := t0_10) (t1_0 := t1_0) (t2_0 := t2_0) (t3_0 := t3_0) (t4_0 := t4_0) (t5_0 := t5_0) (t6_0 := t6_0) (t7_0 := t7_0) (lx42 := lx42) (p100 := p100) (p168 := p168) (p239 := p239) (y196 := y196) (y198 := y198) (y199 := y199) (y200 := y200) (y201 := y201) (y202 := y202) (y203 := y203) (y204 := y204) (f207 := f207) (f209 := f209) (f211 := f211) (f213 := f213) (f215 := f215) (f217 := f217) (lx279 := lx279) (lx296 := a266) (lx312 := a266) ha (by omega) hla (by omega) hS (by omega) ha (by omega) (by omega) ha (by omega) h9 h10 hr hl
    rw [if_pos z, hE] at r
    have eq : l ++ (yHead S c (max 2 c) 0 ++ [69] ++ yPs ((c : Int) - 1 + e)) = l ++ yDz S ((c : Int) - 1 + e - e) ((c : Int) - 1 + e - ((c : Int) - 1 + e) + 1).toNat ++ [46] ++ yDz S ((c : Int) - 1 + e - 1 - e) ((c : Int) - 1 + e - min e ((c : Int) - 1 + e - 1)).toNat ++ ([69] ++ yPs ((c : Int) - 1 + e)) := by
      unfold yHead
      rw [if_pos (Or.inl (by omega)), show (c : Int) - 1 + e - e = (c : Int) - 1 from by omega, show ((c : Int) - 1 + e - ((c : Int) - 1 + e) + 1).toNat = 1 from by omega, show (c : Int) - 1 + e - 1 - e = (c : Int) - 2 from by omega, show ((c : Int) - 1 + e - min e ((c : Int) - 1 + e - 1)).toNat = max 2 c - 1 from by omega]
      simp only [List.append_assoc]
      rfl
    rw [eq]
    exact r
  · rw [if_neg (by rw [z]; decide), if_pos n]
    have key : ∀ (be : Int32) (b : Int), be.toInt = b → b = (if (c : Int) - 1 + e < 0 then 0 else (c : Int) - 1 + e) → ∀ o, o = F_FR_print_J150 x2 x3 t0_0 t0_1 t0_2 t0_3 t0_4 t0_5 t0_6 t0_7 t0_8 t0_9 t0_10 t1_0 t2_0 t3_0 t4_0 t5_0 t6_0 t7_0 lx42 p100 p168 f142 p239 a269 a266 y196 y197 y198 y199 y200 y201 y202 y203 y204 y205 y206 f207 f209 f211 f213 f215 f217 lx279 be → yRt o.1 o.2.2.2.2.2.2.2.2.2.2.2.2.2.2.2.2.2.2 (l ++ (yPlA S (-e) 0 ((if (c : Int) - 1 + e < 0 then 0 else (c : Int) - 1 + e).toNat + 1) ++ yTail S (-e) (max 1 (-e)).toNat 0)) := by
      intro be b hbe hb o ho
      rw [ho]
      unfold F_FR_print_J150
      rw [if_neg (by rw [z]; decide)]
      rw [← hb]
      have hbr : 0 ≤ b ∧ b ≤ 7 := by
        rw [hb]
        split <;> omega
      have r := V_p163 (x2 := x2) (x3 := x3) (t0_0 := t0_0) (t0_1 := t0_1) (t0_2 := t0_2) (t0_3 := t0_3) (t0_4 := t0_4) (t0_5 := t0_5) (t0_6 := t0_6) (t0_7 := t0_7) (t0_8 := t0_8) (t0_9 := t0_9) (t0_10 := t0_10) (t1_0 := t1_0) (t2_0 := t2_0) (t3_0 := t3_0) (t4_0 := t4_0) (t5_0 := t5_0) (t6_0 := t6_0) (t7_0 := t7_0) (lx42 := lx42) (p100 := p100) (p168 := p168) (p239 := p239) (y196 := y196) (y198 := y198) (y199 := y199) (y200 := y200) (y201 := y201) (y202 := y202) (y203 := y203) (y204 := y204) (f207 := f207) (f209 := f209) (f211 := f211) (f213 := f213) (f215 := f215) (f217 := f217) (lx279 := lx279) (lx296 := be) (lx312 := 0) ha (by omega) hla (by omega) hS (by omega) e0 (by omega) (by omega) hbe (by omega) h9 h10 hr hl
      rw [if_neg (by rw [z]; decide), hE, List.append_nil] at r
      have eq : l ++ (yPlA S (-e) 0 (b.toNat + 1) ++ yTail S (-e) (max 1 (-e)).toNat 0) = l ++ yDz S (b - e) (b - 0 + 1).toNat ++ [46] ++ yDz S (0 - 1 - e) (0 - min e (0 - 1)).toNat := by
        rw [yPlA_z, yTail_p (by omega), show ((b.toNat + 1 : Nat) : Int) - 1 + -e = b - e from by omega, show (b - 0 + 1).toNat = b.toNat + 1 from by omega, show -e - 1 = 0 - 1 - e from by omega, show (0 - min e (0 - 1)).toNat = (max 1 (-e)).toNat from by omega]
        simp only [List.append_assoc]
      rw [eq]
      exact r
    by_cases g : a266 ≤ 0
    · rw [if_pos g]
      have g := q_leI g
      exact key 0 0 rfl (by split <;> omega) _ rfl
    · rw [if_neg g]
      have g := q_nleI g
      exact key a266 _ ha (by rw [if_neg (by omega)]) _ rfl
