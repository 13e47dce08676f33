/-! values, for whole: the class's whole -/
noncomputable def sWh (h : Nat) (a b : Int) : Option Int := match h with
  | 0 => some (a + b)
  | 1 => some (a - b)
  | 2 => some (a * b)
  | 3 => if b = 0 then none else some (a.tdiv b)
  | 4 => if b = 0 then none else some (a.tmod b)
  | 5 => if b ≤ 0 then none else some (a % b)
  | 6 => some (Int.gcd a b : Int)
  | 7 => if b ≤ 0 then none else sInv a b
  | k + 8 => some (sMix k a b)
theorem v_sgnP0 {R s n : Int32} {f : Nat → Int32} {v : Int} (h : bO R s n f v) (hs : F_Big_sign R s n ≤ 0) : v ≤ 0 := by
  unfold F_Big_sign at hs
  have hn := h.nil
  by_cases h1 : s = 0
  · have := hn.mp h1
    omega
  rw [if_neg h1] at hs
  rcases h.sgn with ⟨e, k⟩ | ⟨e, k⟩
  · rw [if_pos e] at hs
    exact absurd hs (by decide)
  · omega
theorem v_modE {a b : Int} (h : 0 < b) : (if a.tmod b < 0 then a.tmod b + b else a.tmod b) = a % b := by
  have e := Int.tmod_eq_emod (a := a) (b := b)
  have h1 := Int.emod_nonneg a (b := b) (by omega)
  have h2 := Int.emod_lt_of_pos a h
  by_cases c : 0 ≤ a ∨ b ∣ a
  · rw [if_pos c] at e
    rw [e, if_neg (by omega)]
    omega
  · rw [if_neg c] at e
    rw [e, if_pos (by omega)]
    omega
theorem v_mod0 {a : Int} (h : 0 < a) : (0 : Int) = a % a := by rw [Int.emod_self]
theorem cAn_z {o : Option Int} {vt : Int} {c s n : Int32} {f : Nat → Int32} (h : cAn o vt c s n f) (g : c = 0) : cAn o vt 0 s n f := g ▸ h
theorem cAn_o {o o' : Option Int} {vt : Int} {c s n : Int32} {f : Nat → Int32} (h : cAn o vt c s n f) (g : o = o') : cAn o' vt c s n f := g ▸ h
theorem cAn_n {vt : Int} {s n : Int32} {f : Nat → Int32} (h : bO 68 s n f vt) : cAn none vt 2 s n f := Or.inr ⟨Or.inl rfl, rfl, h⟩
theorem q_x12 {x : Int32} (h : 0 ≤ x.toInt) (h2 : x.toInt ≤ 11) : x = 0 ∨ x = 1 ∨ x = 2 ∨ x = 3 ∨ x = 4 ∨ x = 5 ∨ x = 6 ∨ x = 7 ∨ x = 8 ∨ x = 9 ∨ x = 10 ∨ x = 11 := by
  have f : ∀ k : Int32, x.toInt = k.toInt → x = k := fun k e => Int32.toInt_inj.mp e
  have c : x.toInt = 0 ∨ x.toInt = 1 ∨ x.toInt = 2 ∨ x.toInt = 3 ∨ x.toInt = 4 ∨ x.toInt = 5 ∨ x.toInt = 6 ∨ x.toInt = 7 ∨ x.toInt = 8 ∨ x.toInt = 9 ∨ x.toInt = 10 ∨ x.toInt = 11 := by omega
  rcases c with e | e | e | e | e | e | e | e | e | e | e | e
  · exact Or.inl (f 0 e)
  · exact Or.inr (Or.inl (f 1 e))
  · exact Or.inr (Or.inr (Or.inl (f 2 e)))
  · exact Or.inr (Or.inr (Or.inr (Or.inl (f 3 e))))
  · exact Or.inr (Or.inr (Or.inr (Or.inr (Or.inl (f 4 e)))))
  · exact Or.inr (Or.inr (Or.inr (Or.inr (Or.inr (Or.inl (f 5 e))))))
  · exact Or.inr (Or.inr (Or.inr (Or.inr (Or.inr (Or.inr (Or.inl (f 6 e)))))))
  · exact Or.inr (Or.inr (Or.inr (Or.inr (Or.inr (Or.inr (Or.inr (Or.inl (f 7 e))))))))
  · exact Or.inr (Or.inr (Or.inr (Or.inr (Or.inr (Or.inr (Or.inr (Or.inr (Or.inl (f 8 e)))))))))
  · exact Or.inr (Or.inr (Or.inr (Or.inr (Or.inr (Or.inr (Or.inr (Or.inr (Or.inr (Or.inl (f 9 e))))))))))
  · exact Or.inr (Or.inr (Or.inr (Or.inr (Or.inr (Or.inr (Or.inr (Or.inr (Or.inr (Or.inr (Or.inl (f 10 e)))))))))))
  · exact Or.inr (Or.inr (Or.inr (Or.inr (Or.inr (Or.inr (Or.inr (Or.inr (Or.inr (Or.inr (Or.inr (f 11 e)))))))))))
theorem V_inverseO {R : Int32} {R2 : Int32} {t0_0 : Int32} {t0_1 : Int32} {t1_0 : (Nat → Int32)} {t2_0 : Int32} {t2_1 : Int32} {t3_0 : (Nat → Int32)} {t4_0 : Int32} {t4_1 : Int32} {t5_0 : (Nat → Int32)} {t6_0 : Int32} {t6_1 : Int32} {t7_0 : (Nat → Int32)} {t8_0 : Int32} {t8_1 : Int32} {t9_0 : (Nat → Int32)} {t10_0 : Int32} {t10_1 : Int32} {t11_0 : (Nat → Int32)} {t12_0 : Int32} {t12_1 : Int32} {t13_0 : (Nat → Int32)} {t14_0 : Int32} {t14_1 : Int32} {t15_0 : (Nat → Int32)} {t16_0 : Int32} {t16_1 : Int32} {t17_0 : (Nat → Int32)} {va vm : Int} {M : Nat} (ha : bO R t14_0 t14_1 t15_0 va) (hm : bO R2 t16_0 t16_1 t17_0 vm) (hm0 : 0 < vm) (hMa : bB M va) (hMm : bB M vm) (hM : 2 * M + 2 ≤ 220) : (sInv va vm = none ∧ (F_Mil_inverse R R2 t0_0 t0_1 t1_0 t2_0 t2_1 t3_0 t4_0 t4_1 t5_0 t6_0 t6_1 t7_0 t8_0 t8_1 t9_0 t10_0 t10_1 t11_0 t12_0 t12_1 t13_0 t14_0 t14_1 t15_0 t16_0 t16_1 t17_0).1 = 0 ∧ bO R2 (F_Mil_inverse R R2 t0_0 t0_1 t1_0 t2_0 t2_1 t3_0 t4_0 t4_1 t5_0 t6_0 t6_1 t7_0 t8_0 t8_1 t9_0 t10_0 t10_1 t11_0 t12_0 t12_1 t13_0 t14_0 t14_1 t15_0 t16_0 t16_1 t17_0).2.2.2.2.2.2.2.2.2.2.2.2.2.2.2.2.2.2.2.2.2.2.1 (F_Mil_inverse R R2 t0_0 t0_1 t1_0 t2_0 t2_1 t3_0 t4_0 t4_1 t5_0 t6_0 t6_1 t7_0 t8_0 t8_1 t9_0 t10_0 t10_1 t11_0 t12_0 t12_1 t13_0 t14_0 t14_1 t15_0 t16_0 t16_1 t17_0).2.2.2.2.2.2.2.2.2.2.2.2.2.2.2.2.2.2.2.2.2.2.2.1 (F_Mil_inverse R R2 t0_0 t0_1 t1_0 t2_0 t2_1 t3_0 t4_0 t4_1 t5_0 t6_0 t6_1 t7_0 t8_0 t8_1 t9_0 t10_0 t10_1 t11_0 t12_0 t12_1 t13_0 t14_0 t14_1 t15_0 t16_0 t16_1 t17_0).2.2.2.2.2.2.2.2.2.2.2.2.2.2.2.2.2.2.2.2.2.2.2.2 vm) ∨ (∃ x, sInv va vm = some x ∧ (F_Mil_inverse R R2 t0_0 t0_1 t1_0 t2_0 t2_1 t3_0 t4_0 t4_1 t5_0 t6_0 t6_1 t7_0 t8_0 t8_1 t9_0 t10_0 t10_1 t11_0 t12_0 t12_1 t13_0 t14_0 t14_1 t15_0 t16_0 t16_1 t17_0).1 = 1 ∧ bO 220 (F_Mil_inverse R R2 t0_0 t0_1 t1_0 t2_0 t2_1 t3_0 t4_0 t4_1 t5_0 t6_0 t6_1 t7_0 t8_0 t8_1 t9_0 t10_0 t10_1 t11_0 t12_0 t12_1 t13_0 t14_0 t14_1 t15_0 t16_0 t16_1 t17_0).2.1 (F_Mil_inverse R R2 t0_0 t0_1 t1_0 t2_0 t2_1 t3_0 t4_0 t4_1 t5_0 t6_0 t6_1 t7_0 t8_0 t8_1 t9_0 t10_0 t10_1 t11_0 t12_0 t12_1 t13_0 t14_0 t14_1 t15_0 t16_0 t16_1 t17_0).2.2.1 (F_Mil_inverse R R2 t0_0 t0_1 t1_0 t2_0 t2_1 t3_0 t4_0 t4_1 t5_0 t6_0 t6_1 t7_0 t8_0 t8_1 t9_0 t10_0 t10_1 t11_0 t12_0 t12_1 t13_0 t14_0 t14_1 t15_0 t16_0 t16_1 t17_0).2.2.2.1 x ∧ bO R2 (F_Mil_inverse R R2 t0_0 t0_1 t1_0 t2_0 t2_1 t3_0 t4_0 t4_1 t5_0 t6_0 t6_1 t7_0 t8_0 t8_1 t9_0 t10_0 t10_1 t11_0 t12_0 t12_1 t13_0 t14_0 t14_1 t15_0 t16_0 t16_1 t17_0).2.2.2.2.2.2.2.2.2.2.2.2.2.2.2.2.2.2.2.2.2.2.1 (F_Mil_inverse R R2 t0_0 t0_1 t1_0 t2_0 t2_1 t3_0 t4_0 t4_1 t5_0 t6_0 t6_1 t7_0 t8_0 t8_1 t9_0 t10_0 t10_1 t11_0 t12_0 t12_1 t13_0 t14_0 t14_1 t15_0 t16_0 t16_1 t17_0).2.2.2.2.2.2.2.2.2.2.2.2.2.2.2.2.2.2.2.2.2.2.2.1 (F_Mil_inverse R R2 t0_0 t0_1 t1_0 t2_0 t2_1 t3_0 t4_0 t4_1 t5_0 t6_0 t6_1 t7_0 t8_0 t8_1 t9_0 t10_0 t10_1 t11_0 t12_0 t12_1 t13_0 t14_0 t14_1 t15_0 t16_0 t16_1 t17_0).2.2.2.2.2.2.2.2.2.2.2.2.2.2.2.2.2.2.2.2.2.2.2.2 vm) := by
  obtain ⟨_, h1, h2⟩ := V_inverse (R := R) (R2 := R2) (t0_0 := t0_0) (t0_1 := t0_1) (t1_0 := t1_0) (t2_0 := t2_0) (t2_1 := t2_1) (t3_0 := t3_0) (t4_0 := t4_0) (t4_1 := t4_1) (t5_0 := t5_0) (t6_0 := t6_0) (t6_1 := t6_1) (t7_0 := t7_0) (t8_0 := t8_0) (t8_1 := t8_1) (t9_0 := t9_0) (t10_0 := t10_0) (t10_1 := t10_1) (t11_0 := t11_0) (t12_0 := t12_0) (t12_1 := t12_1) (t13_0 := t13_0) (t14_0 := t14_0) (t14_1 := t14_1) (t15_0 := t15_0) (t16_0 := t16_0) (t16_1 := t16_1) (t17_0 := t17_0) ha hm hm0 hMa hMm hM
  obtain ⟨x, h3, h4⟩ := h2.1
  have h5 := h2.2.2.2.2.2.2.2
  by_cases c : Int.gcd va vm = 1
  · rw [if_pos c] at h1
    rw [c] at h3
    exact Or.inr ⟨x, sInv_some hm0 h3, h1, h4, h5⟩
  · rw [if_neg c] at h1
    exact Or.inl ⟨sInv_none c, h1, h5⟩
theorem V_inverse_aO {R2 : Int32} {t0_0 : Int32} {t0_1 : Int32} {t1_0 : (Nat → Int32)} {t2_0 : Int32} {t2_1 : Int32} {t3_0 : (Nat → Int32)} {t4_0 : Int32} {t4_1 : Int32} {t5_0 : (Nat → Int32)} {t6_0 : Int32} {t6_1 : Int32} {t7_0 : (Nat → Int32)} {t8_0 : Int32} {t8_1 : Int32} {t9_0 : (Nat → Int32)} {t10_0 : Int32} {t10_1 : Int32} {t11_0 : (Nat → Int32)} {t12_0 : Int32} {t12_1 : Int32} {t13_0 : (Nat → Int32)} {t14_0 : Int32} {t14_1 : Int32} {t15_0 : (Nat → Int32)} {vm : Int} {M : Nat} (hm : bO R2 t14_0 t14_1 t15_0 vm) (hm0 : 0 < vm) (hMm : bB M vm) (hM : 2 * M + 2 ≤ 220) : (sInv vm vm = none ∧ (F_Mil_inverse_a R2 t0_0 t0_1 t1_0 t2_0 t2_1 t3_0 t4_0 t4_1 t5_0 t6_0 t6_1 t7_0 t8_0 t8_1 t9_0 t10_0 t10_1 t11_0 t12_0 t12_1 t13_0 t14_0 t14_1 t15_0).1 = 0 ∧ bO R2 (F_Mil_inverse_a R2 t0_0 t0_1 t1_0 t2_0 t2_1 t3_0 t4_0 t4_1 t5_0 t6_0 t6_1 t7_0 t8_0 t8_1 t9_0 t10_0 t10_1 t11_0 t12_0 t12_1 t13_0 t14_0 t14_1 t15_0).2.2.2.2.2.2.2.2.2.2.2.2.2.2.2.2.2.2.2.2.2.2.1 (F_Mil_inverse_a R2 t0_0 t0_1 t1_0 t2_0 t2_1 t3_0 t4_0 t4_1 t5_0 t6_0 t6_1 t7_0 t8_0 t8_1 t9_0 t10_0 t10_1 t11_0 t12_0 t12_1 t13_0 t14_0 t14_1 t15_0).2.2.2.2.2.2.2.2.2.2.2.2.2.2.2.2.2.2.2.2.2.2.2.1 (F_Mil_inverse_a R2 t0_0 t0_1 t1_0 t2_0 t2_1 t3_0 t4_0 t4_1 t5_0 t6_0 t6_1 t7_0 t8_0 t8_1 t9_0 t10_0 t10_1 t11_0 t12_0 t12_1 t13_0 t14_0 t14_1 t15_0).2.2.2.2.2.2.2.2.2.2.2.2.2.2.2.2.2.2.2.2.2.2.2.2 vm) ∨ (∃ x, sInv vm vm = some x ∧ (F_Mil_inverse_a R2 t0_0 t0_1 t1_0 t2_0 t2_1 t3_0 t4_0 t4_1 t5_0 t6_0 t6_1 t7_0 t8_0 t8_1 t9_0 t10_0 t10_1 t11_0 t12_0 t12_1 t13_0 t14_0 t14_1 t15_0).1 = 1 ∧ bO 220 (F_Mil_inverse_a R2 t0_0 t0_1 t1_0 t2_0 t2_1 t3_0 t4_0 t4_1 t5_0 t6_0 t6_1 t7_0 t8_0 t8_1 t9_0 t10_0 t10_1 t11_0 t12_0 t12_1 t13_0 t14_0 t14_1 t15_0).2.1 (F_Mil_inverse_a R2 t0_0 t0_1 t1_0 t2_0 t2_1 t3_0 t4_0 t4_1 t5_0 t6_0 t6_1 t7_0 t8_0 t8_1 t9_0 t10_0 t10_1 t11_0 t12_0 t12_1 t13_0 t14_0 t14_1 t15_0).2.2.1 (F_Mil_inverse_a R2 t0_0 t0_1 t1_0 t2_0 t2_1 t3_0 t4_0 t4_1 t5_0 t6_0 t6_1 t7_0 t8_0 t8_1 t9_0 t10_0 t10_1 t11_0 t12_0 t12_1 t13_0 t14_0 t14_1 t15_0).2.2.2.1 x ∧ bO R2 (F_Mil_inverse_a R2 t0_0 t0_1 t1_0 t2_0 t2_1 t3_0 t4_0 t4_1 t5_0 t6_0 t6_1 t7_0 t8_0 t8_1 t9_0 t10_0 t10_1 t11_0 t12_0 t12_1 t13_0 t14_0 t14_1 t15_0).2.2.2.2.2.2.2.2.2.2.2.2.2.2.2.2.2.2.2.2.2.2.1 (F_Mil_inverse_a R2 t0_0 t0_1 t1_0 t2_0 t2_1 t3_0 t4_0 t4_1 t5_0 t6_0 t6_1 t7_0 t8_0 t8_1 t9_0 t10_0 t10_1 t11_0 t12_0 t12_1 t13_0 t14_0 t14_1 t15_0).2.2.2.2.2.2.2.2.2.2.2.2.2.2.2.2.2.2.2.2.2.2.2.1 (F_Mil_inverse_a R2 t0_0 t0_1 t1_0 t2_0 t2_1 t3_0 t4_0 t4_1 t5_0 t6_0 t6_1 t7_0 t8_0 t8_1 t9_0 t10_0 t10_1 t11_0 t12_0 t12_1 t13_0 t14_0 t14_1 t15_0).2.2.2.2.2.2.2.2.2.2.2.2.2.2.2.2.2.2.2.2.2.2.2.2 vm) := by
  obtain ⟨_, h1, h2⟩ := V_inverse_a (R2 := R2) (t0_0 := t0_0) (t0_1 := t0_1) (t1_0 := t1_0) (t2_0 := t2_0) (t2_1 := t2_1) (t3_0 := t3_0) (t4_0 := t4_0) (t4_1 := t4_1) (t5_0 := t5_0) (t6_0 := t6_0) (t6_1 := t6_1) (t7_0 := t7_0) (t8_0 := t8_0) (t8_1 := t8_1) (t9_0 := t9_0) (t10_0 := t10_0) (t10_1 := t10_1) (t11_0 := t11_0) (t12_0 := t12_0) (t12_1 := t12_1) (t13_0 := t13_0) (t14_0 := t14_0) (t14_1 := t14_1) (t15_0 := t15_0) hm hm0 hMm hM
  obtain ⟨x, h3, h4⟩ := h2.1
  have h5 := h2.2.2.2.2.2.2.2
  by_cases c : Int.gcd vm vm = 1
  · rw [if_pos c] at h1
    rw [c] at h3
    exact Or.inr ⟨x, sInv_some hm0 h3, h1, h4, h5⟩
  · rw [if_neg c] at h1
    exact Or.inl ⟨sInv_none c, h1, h5⟩
def QV_whole (o : Option Int) (vt vb : Int) (p : Int32 × Int32 × Int32 × (Nat → Int32) × Int32 × Int32 × (Nat → Int32) × Int32 × Int32 × (Nat → Int32) × Int32 × Int32 × (Nat → Int32) × Int32 × Int32 × (Nat → Int32) × Int32 × Int32 × (Nat → Int32) × Int32 × Int32 × (Nat → Int32) × Int32 × Int32 × (Nat → Int32) × Int32 × Int32 × (Nat → Int32)) : Prop := cAn o vt p.1 p.2.2.2.2.2.2.2.2.2.2.2.2.2.2.2.2.2.2.2.2.2.2.2.2.2.1 p.2.2.2.2.2.2.2.2.2.2.2.2.2.2.2.2.2.2.2.2.2.2.2.2.2.2.1 p.2.2.2.2.2.2.2.2.2.2.2.2.2.2.2.2.2.2.2.2.2.2.2.2.2.2.2 ∧ bO 68 p.2.2.2.2.2.2.2.2.2.2.2.2.2.2.2.2.2.2.2.2.2.2.1 p.2.2.2.2.2.2.2.2.2.2.2.2.2.2.2.2.2.2.2.2.2.2.2.1 p.2.2.2.2.2.2.2.2.2.2.2.2.2.2.2.2.2.2.2.2.2.2.2.2.1 vb
theorem V_whole0 {x2 : Int32} {x3 : Int32} {x4 : Int32} {x5 : Int32} {t0_0 : Int32} {t0_1 : Int32} {t1_0 : (Nat → Int32)} {t2_0 : Int32} {t2_1 : Int32} {t3_0 : (Nat → Int32)} {t4_0 : Int32} {t4_1 : Int32} {t5_0 : (Nat → Int32)} {t6_0 : Int32} {t6_1 : Int32} {t7_0 : (Nat → Int32)} {t8_0 : Int32} {t8_1 : Int32} {t9_0 : (Nat → Int32)} {t10_0 : Int32} {t10_1 : Int32} {t11_0 : (Nat → Int32)} {t12_0 : Int32} {t12_1 : Int32} {t13_0 : (Nat → Int32)} {t14_0 : Int32} {t14_1 : Int32} {t15_0 : (Nat → Int32)} {t16_0 : Int32} {t16_1 : Int32} {t17_0 : (Nat → Int32)} {t18_0 : Int32} {t18_1 : Int32} {t19_0 : (Nat → Int32)} {va vb vt : Int} (ha : bO 68 t14_0 t14_1 t15_0 va) (hA : bB 67 va) (hb : bO 68 t16_0 t16_1 t17_0 vb) (hB : bB 67 vb) (hw : bO 68 t18_0 t18_1 t19_0 vt) (e2 : x2 = 0) (hr3 : ¬ F_NH_isRegister x3 = 0) (hr4 : ¬ F_NH_isRegister x4 = 0) (hr5 : ¬ F_NH_isRegister x5 = 0) : QV_whole (some (va + vb)) vt vb (F_NH_whole x2 x3 x4 x5 t0_0 t0_1 t1_0 t2_0 t2_1 t3_0 t4_0 t4_1 t5_0 t6_0 t6_1 t7_0 t8_0 t8_1 t9_0 t10_0 t10_1 t11_0 t12_0 t12_1 t13_0 t14_0 t14_1 t15_0 t16_0 t16_1 t17_0 t18_0 t18_1 t19_0) := by
  have e0 : (0 : Int32).toInt = 0 := rfl
  have e220 : (220 : Int32).toInt = 220 := rfl
  have e68 : (68 : Int32).toInt = 68 := rfl
  have sa : t14_0.toInt ≤ 68 := ha.2.2.2.1
  have sb : t16_0.toInt ≤ 68 := hb.2.2.2.1
  unfold F_NH_whole
  have g1 : ¬ (x2 < (0 : Int32)) := (by rw [e2]; decide)
  rw [if_neg g1]
  have g2 : ¬ ((11 : Int32) < x2) := (by rw [e2]; decide)
  rw [if_neg g2]
  rw [if_neg hr3]
  rw [if_neg hr4]
  rw [if_neg hr5]
  unfold F_NH_whole_J37
  have g3 : ((F_NH_need (1 : Int32)) = (0 : Int32)) := (by decide)
  rw [if_pos g3]
  have g4 : ¬ ((2 : Int32) < x2) := (by rw [e2]; decide)
  rw [if_neg g4]
  have h5 := T_addOrMultiply (x2 := x2) (R := (68 : Int32)) (R2 := (68 : Int32)) (t0_0 := t0_0) (t0_1 := t0_1) (t1_0 := t1_0) (t2_0 := t14_0) (t2_1 := t14_1) (t3_0 := t15_0) (t4_0 := t16_0) (t4_1 := t16_1) (t5_0 := t17_0) ha hb (by first | assumption | omega | trivial | decide)
  generalize F_Mil_addOrMultiply x2 (68 : Int32) (68 : Int32) t0_0 t0_1 t1_0 t14_0 t14_1 t15_0 t16_0 t16_1 t17_0 = p1084 at h5 ⊢
  have hn := h5
  rw [if_neg (by rw [e2]; decide), if_neg (by rw [e2]; decide)] at hn
  unfold F_NH_whole_c70
  have h6 := V_keepWhole (x2 := x5) (t0_0 := (p1084.1 : Int32)) (t0_1 := (p1084.2.1 : Int32)) (t1_0 := (p1084.2.2 : (Nat → Int32))) (t2_0 := t18_0) (t2_1 := t18_1) (t3_0 := t19_0) hn (by first | exact hw2 | exact hw)
  generalize F_NH_keepWhole x5 (p1084.1 : Int32) (p1084.2.1 : Int32) (p1084.2.2 : (Nat → Int32)) t18_0 t18_1 t19_0 = p1107 at h6 ⊢
  have hkw := h6
  unfold F_NH_whole_c237_19
  by_cases g7 : p1107.1 = (0 : Int32)
  ·
    rw [if_pos g7]
    have g7i : p1107.1.toInt = 0 := q_eqI g7
    (unfold QV_whole; dsimp only; first | exact ⟨cAn_o (cAn_z hkw (by with_reducible assumption)) rfl, hb⟩ | exact ⟨cAn_o hkw rfl, hb⟩ | exact ⟨cAn_o (cAn_n hw) rfl, hb⟩ | exact ⟨cAn_o (cAn_z hkw (by with_reducible assumption)) rfl, hb2⟩ | exact ⟨cAn_o hkw rfl, hb2⟩ | exact ⟨cAn_o (cAn_n hw) rfl, hb2⟩)
  ·
    rw [if_neg g7]
    have g7i : p1107.1.toInt ≠ 0 := q_neI g7
    (unfold QV_whole; dsimp only; first | exact ⟨cAn_o (cAn_z hkw (by with_reducible assumption)) rfl, hb⟩ | exact ⟨cAn_o hkw rfl, hb⟩ | exact ⟨cAn_o (cAn_n hw) rfl, hb⟩ | exact ⟨cAn_o (cAn_z hkw (by with_reducible assumption)) rfl, hb2⟩ | exact ⟨cAn_o hkw rfl, hb2⟩ | exact ⟨cAn_o (cAn_n hw) rfl, hb2⟩)
theorem V_whole1 {x2 : Int32} {x3 : Int32} {x4 : Int32} {x5 : Int32} {t0_0 : Int32} {t0_1 : Int32} {t1_0 : (Nat → Int32)} {t2_0 : Int32} {t2_1 : Int32} {t3_0 : (Nat → Int32)} {t4_0 : Int32} {t4_1 : Int32} {t5_0 : (Nat → Int32)} {t6_0 : Int32} {t6_1 : Int32} {t7_0 : (Nat → Int32)} {t8_0 : Int32} {t8_1 : Int32} {t9_0 : (Nat → Int32)} {t10_0 : Int32} {t10_1 : Int32} {t11_0 : (Nat → Int32)} {t12_0 : Int32} {t12_1 : Int32} {t13_0 : (Nat → Int32)} {t14_0 : Int32} {t14_1 : Int32} {t15_0 : (Nat → Int32)} {t16_0 : Int32} {t16_1 : Int32} {t17_0 : (Nat → Int32)} {t18_0 : Int32} {t18_1 : Int32} {t19_0 : (Nat → Int32)} {va vb vt : Int} (ha : bO 68 t14_0 t14_1 t15_0 va) (hA : bB 67 va) (hb : bO 68 t16_0 t16_1 t17_0 vb) (hB : bB 67 vb) (hw : bO 68 t18_0 t18_1 t19_0 vt) (e2 : x2 = 1) (hr3 : ¬ F_NH_isRegister x3 = 0) (hr4 : ¬ F_NH_isRegister x4 = 0) (hr5 : ¬ F_NH_isRegister x5 = 0) : QV_whole (some (va - vb)) vt vb (F_NH_whole x2 x3 x4 x5 t0_0 t0_1 t1_0 t2_0 t2_1 t3_0 t4_0 t4_1 t5_0 t6_0 t6_1 t7_0 t8_0 t8_1 t9_0 t10_0 t10_1 t11_0 t12_0 t12_1 t13_0 t14_0 t14_1 t15_0 t16_0 t16_1 t17_0 t18_0 t18_1 t19_0) := by
  have e0 : (0 : Int32).toInt = 0 := rfl
  have e220 : (220 : Int32).toInt = 220 := rfl
  have e68 : (68 : Int32).toInt = 68 := rfl
  have sa : t14_0.toInt ≤ 68 := ha.2.2.2.1
  have sb : t16_0.toInt ≤ 68 := hb.2.2.2.1
  unfold F_NH_whole
  have g1 : ¬ (x2 < (0 : Int32)) := (by rw [e2]; decide)
  rw [if_neg g1]
  have g2 : ¬ ((11 : Int32) < x2) := (by rw [e2]; decide)
  rw [if_neg g2]
  rw [if_neg hr3]
  rw [if_neg hr4]
  rw [if_neg hr5]
  unfold F_NH_whole_J37
  have g3 : ((F_NH_need (1 : Int32)) = (0 : Int32)) := (by decide)
  rw [if_pos g3]
  have g4 : ¬ ((2 : Int32) < x2) := (by rw [e2]; decide)
  rw [if_neg g4]
  have h5 := T_addOrMultiply (x2 := x2) (R := (68 : Int32)) (R2 := (68 : Int32)) (t0_0 := t0_0) (t0_1 := t0_1) (t1_0 := t1_0) (t2_0 := t14_0) (t2_1 := t14_1) (t3_0 := t15_0) (t4_0 := t16_0) (t4_1 := t16_1) (t5_0 := t17_0) ha hb (by first | assumption | omega | trivial | decide)
  generalize F_Mil_addOrMultiply x2 (68 : Int32) (68 : Int32) t0_0 t0_1 t1_0 t14_0 t14_1 t15_0 t16_0 t16_1 t17_0 = p1084 at h5 ⊢
  have hn := h5
  rw [if_neg (by rw [e2]; decide), if_pos e2] at hn
  unfold F_NH_whole_c70
  have h6 := V_keepWhole (x2 := x5) (t0_0 := (p1084.1 : Int32)) (t0_1 := (p1084.2.1 : Int32)) (t1_0 := (p1084.2.2 : (Nat → Int32))) (t2_0 := t18_0) (t2_1 := t18_1) (t3_0 := t19_0) hn (by first | exact hw2 | exact hw)
  generalize F_NH_keepWhole x5 (p1084.1 : Int32) (p1084.2.1 : Int32) (p1084.2.2 : (Nat → Int32)) t18_0 t18_1 t19_0 = p1107 at h6 ⊢
  have hkw := h6
  unfold F_NH_whole_c237_19
  by_cases g7 : p1107.1 = (0 : Int32)
  ·
    rw [if_pos g7]
    have g7i : p1107.1.toInt = 0 := q_eqI g7
    (unfold QV_whole; dsimp only; first | exact ⟨cAn_o (cAn_z hkw (by with_reducible assumption)) rfl, hb⟩ | exact ⟨cAn_o hkw rfl, hb⟩ | exact ⟨cAn_o (cAn_n hw) rfl, hb⟩ | exact ⟨cAn_o (cAn_z hkw (by with_reducible assumption)) rfl, hb2⟩ | exact ⟨cAn_o hkw rfl, hb2⟩ | exact ⟨cAn_o (cAn_n hw) rfl, hb2⟩)
  ·
    rw [if_neg g7]
    have g7i : p1107.1.toInt ≠ 0 := q_neI g7
    (unfold QV_whole; dsimp only; first | exact ⟨cAn_o (cAn_z hkw (by with_reducible assumption)) rfl, hb⟩ | exact ⟨cAn_o hkw rfl, hb⟩ | exact ⟨cAn_o (cAn_n hw) rfl, hb⟩ | exact ⟨cAn_o (cAn_z hkw (by with_reducible assumption)) rfl, hb2⟩ | exact ⟨cAn_o hkw rfl, hb2⟩ | exact ⟨cAn_o (cAn_n hw) rfl, hb2⟩)
theorem V_whole2 {x2 : Int32} {x3 : Int32} {x4 : Int32} {x5 : Int32} {t0_0 : Int32} {t0_1 : Int32} {t1_0 : (Nat → Int32)} {t2_0 : Int32} {t2_1 : Int32} {t3_0 : (Nat → Int32)} {t4_0 : Int32} {t4_1 : Int32} {t5_0 : (Nat → Int32)} {t6_0 : Int32} {t6_1 : Int32} {t7_0 : (Nat → Int32)} {t8_0 : Int32} {t8_1 : Int32} {t9_0 : (Nat → Int32)} {t10_0 : Int32} {t10_1 : Int32} {t11_0 : (Nat → Int32)} {t12_0 : Int32} {t12_1 : Int32} {t13_0 : (Nat → Int32)} {t14_0 : Int32} {t14_1 : Int32} {t15_0 : (Nat → Int32)} {t16_0 : Int32} {t16_1 : Int32} {t17_0 : (Nat → Int32)} {t18_0 : Int32} {t18_1 : Int32} {t19_0 : (Nat → Int32)} {va vb vt : Int} (ha : bO 68 t14_0 t14_1 t15_0 va) (hA : bB 67 va) (hb : bO 68 t16_0 t16_1 t17_0 vb) (hB : bB 67 vb) (hw : bO 68 t18_0 t18_1 t19_0 vt) (e2 : x2 = 2) (hr3 : ¬ F_NH_isRegister x3 = 0) (hr4 : ¬ F_NH_isRegister x4 = 0) (hr5 : ¬ F_NH_isRegister x5 = 0) : QV_whole (some (va * vb)) vt vb (F_NH_whole x2 x3 x4 x5 t0_0 t0_1 t1_0 t2_0 t2_1 t3_0 t4_0 t4_1 t5_0 t6_0 t6_1 t7_0 t8_0 t8_1 t9_0 t10_0 t10_1 t11_0 t12_0 t12_1 t13_0 t14_0 t14_1 t15_0 t16_0 t16_1 t17_0 t18_0 t18_1 t19_0) := by
  have e0 : (0 : Int32).toInt = 0 := rfl
  have e220 : (220 : Int32).toInt = 220 := rfl
  have e68 : (68 : Int32).toInt = 68 := rfl
  have sa : t14_0.toInt ≤ 68 := ha.2.2.2.1
  have sb : t16_0.toInt ≤ 68 := hb.2.2.2.1
  unfold F_NH_whole
  have g1 : ¬ (x2 < (0 : Int32)) := (by rw [e2]; decide)
  rw [if_neg g1]
  have g2 : ¬ ((11 : Int32) < x2) := (by rw [e2]; decide)
  rw [if_neg g2]
  rw [if_neg hr3]
  rw [if_neg hr4]
  rw [if_neg hr5]
  unfold F_NH_whole_J37
  have g3 : ((F_NH_need (1 : Int32)) = (0 : Int32)) := (by decide)
  rw [if_pos g3]
  have g4 : ¬ ((2 : Int32) < x2) := (by rw [e2]; decide)
  rw [if_neg g4]
  have h5 := T_addOrMultiply (x2 := x2) (R := (68 : Int32)) (R2 := (68 : Int32)) (t0_0 := t0_0) (t0_1 := t0_1) (t1_0 := t1_0) (t2_0 := t14_0) (t2_1 := t14_1) (t3_0 := t15_0) (t4_0 := t16_0) (t4_1 := t16_1) (t5_0 := t17_0) ha hb (by first | assumption | omega | trivial | decide)
  generalize F_Mil_addOrMultiply x2 (68 : Int32) (68 : Int32) t0_0 t0_1 t1_0 t14_0 t14_1 t15_0 t16_0 t16_1 t17_0 = p1084 at h5 ⊢
  have hn := h5
  rw [if_pos e2] at hn
  unfold F_NH_whole_c70
  have h6 := V_keepWhole (x2 := x5) (t0_0 := (p1084.1 : Int32)) (t0_1 := (p1084.2.1 : Int32)) (t1_0 := (p1084.2.2 : (Nat → Int32))) (t2_0 := t18_0) (t2_1 := t18_1) (t3_0 := t19_0) hn (by first | exact hw2 | exact hw)
  generalize F_NH_keepWhole x5 (p1084.1 : Int32) (p1084.2.1 : Int32) (p1084.2.2 : (Nat → Int32)) t18_0 t18_1 t19_0 = p1107 at h6 ⊢
  have hkw := h6
  unfold F_NH_whole_c237_19
  by_cases g7 : p1107.1 = (0 : Int32)
  ·
    rw [if_pos g7]
    have g7i : p1107.1.toInt = 0 := q_eqI g7
    (unfold QV_whole; dsimp only; first | exact ⟨cAn_o (cAn_z hkw (by with_reducible assumption)) rfl, hb⟩ | exact ⟨cAn_o hkw rfl, hb⟩ | exact ⟨cAn_o (cAn_n hw) rfl, hb⟩ | exact ⟨cAn_o (cAn_z hkw (by with_reducible assumption)) rfl, hb2⟩ | exact ⟨cAn_o hkw rfl, hb2⟩ | exact ⟨cAn_o (cAn_n hw) rfl, hb2⟩)
  ·
    rw [if_neg g7]
    have g7i : p1107.1.toInt ≠ 0 := q_neI g7
    (unfold QV_whole; dsimp only; first | exact ⟨cAn_o (cAn_z hkw (by with_reducible assumption)) rfl, hb⟩ | exact ⟨cAn_o hkw rfl, hb⟩ | exact ⟨cAn_o (cAn_n hw) rfl, hb⟩ | exact ⟨cAn_o (cAn_z hkw (by with_reducible assumption)) rfl, hb2⟩ | exact ⟨cAn_o hkw rfl, hb2⟩ | exact ⟨cAn_o (cAn_n hw) rfl, hb2⟩)
theorem V_whole3 {x2 : Int32} {x3 : Int32} {x4 : Int32} {x5 : Int32} {t0_0 : Int32} {t0_1 : Int32} {t1_0 : (Nat → Int32)} {t2_0 : Int32} {t2_1 : Int32} {t3_0 : (Nat → Int32)} {t4_0 : Int32} {t4_1 : Int32} {t5_0 : (Nat → Int32)} {t6_0 : Int32} {t6_1 : Int32} {t7_0 : (Nat → Int32)} {t8_0 : Int32} {t8_1 : Int32} {t9_0 : (Nat → Int32)} {t10_0 : Int32} {t10_1 : Int32} {t11_0 : (Nat → Int32)} {t12_0 : Int32} {t12_1 : Int32} {t13_0 : (Nat → Int32)} {t14_0 : Int32} {t14_1 : Int32} {t15_0 : (Nat → Int32)} {t16_0 : Int32} {t16_1 : Int32} {t17_0 : (Nat → Int32)} {t18_0 : Int32} {t18_1 : Int32} {t19_0 : (Nat → Int32)} {va vb vt : Int} (ha : bO 68 t14_0 t14_1 t15_0 va) (hA : bB 67 va) (hb : bO 68 t16_0 t16_1 t17_0 vb) (hB : bB 67 vb) (hw : bO 68 t18_0 t18_1 t19_0 vt) (e2 : x2 = 3) (hr3 : ¬ F_NH_isRegister x3 = 0) (hr4 : ¬ F_NH_isRegister x4 = 0) (hr5 : ¬ F_NH_isRegister x5 = 0) : QV_whole (if vb = 0 then none else some (va.tdiv vb)) vt vb (F_NH_whole x2 x3 x4 x5 t0_0 t0_1 t1_0 t2_0 t2_1 t3_0 t4_0 t4_1 t5_0 t6_0 t6_1 t7_0 t8_0 t8_1 t9_0 t10_0 t10_1 t11_0 t12_0 t12_1 t13_0 t14_0 t14_1 t15_0 t16_0 t16_1 t17_0 t18_0 t18_1 t19_0) := by
  have e0 : (0 : Int32).toInt = 0 := rfl
  have e220 : (220 : Int32).toInt = 220 := rfl
  have e68 : (68 : Int32).toInt = 68 := rfl
  have sa : t14_0.toInt ≤ 68 := ha.2.2.2.1
  have sb : t16_0.toInt ≤ 68 := hb.2.2.2.1
  unfold F_NH_whole
  have g1 : ¬ (x2 < (0 : Int32)) := (by rw [e2]; decide)
  rw [if_neg g1]
  have g2 : ¬ ((11 : Int32) < x2) := (by rw [e2]; decide)
  rw [if_neg g2]
  rw [if_neg hr3]
  rw [if_neg hr4]
  rw [if_neg hr5]
  unfold F_NH_whole_J37
  have g3 : ((F_NH_need (1 : Int32)) = (0 : Int32)) := (by decide)
  rw [if_pos g3]
  have g4 : ((2 : Int32) < x2) := (by rw [e2]; decide)
  rw [if_pos g4]
  have g5 : ¬ ((4 : Int32) < x2) := (by rw [e2]; decide)
  rw [if_neg g5]
  by_cases g6 : t16_0 ≤ (0 : Int32)
  ·
    rw [if_pos g6]
    have hvz : vb = 0 := Classical.byContradiction (fun c => absurd (q_leI g6) (by have := hb.pos.mpr c; omega))
    unfold F_NH_whole_J94
    have g7 : ¬ ((F_NH_canHave (0 : Int32)) = (0 : Int32)) := (by decide)
    rw [if_neg g7]
    (unfold QV_whole; dsimp only; first | exact ⟨cAn_o (cAn_z hkw (by with_reducible assumption)) (by rw [if_pos hvz]), hb⟩ | exact ⟨cAn_o hkw (by rw [if_pos hvz]), hb⟩ | exact ⟨cAn_o (cAn_n hw) (by rw [if_pos hvz]), hb⟩ | exact ⟨cAn_o (cAn_z hkw (by with_reducible assumption)) (by rw [if_neg hvz]), hb⟩ | exact ⟨cAn_o hkw (by rw [if_neg hvz]), hb⟩ | exact ⟨cAn_o (cAn_n hw) (by rw [if_neg hvz]), hb⟩ | exact ⟨cAn_o (cAn_z hkw (by with_reducible assumption)) (by rw [if_pos hvz]), hb2⟩ | exact ⟨cAn_o hkw (by rw [if_pos hvz]), hb2⟩ | exact ⟨cAn_o (cAn_n hw) (by rw [if_pos hvz]), hb2⟩ | exact ⟨cAn_o (cAn_z hkw (by with_reducible assumption)) (by rw [if_neg hvz]), hb2⟩ | exact ⟨cAn_o hkw (by rw [if_neg hvz]), hb2⟩ | exact ⟨cAn_o (cAn_n hw) (by rw [if_neg hvz]), hb2⟩)
  ·
    rw [if_neg g6]
    have hvz : vb ≠ 0 := hb.pos.mp (by have := q_nleI g6; omega)
    have g6i := q_nleI g6
    unfold F_NH_whole_J94
    have g8 : ((F_NH_canHave (1 : Int32)) = (0 : Int32)) := (by decide)
    rw [if_pos g8]
    rw [if_pos e2]
    have h9 := T_quotientOrRest (x2 := (1 : Int32)) (R := (68 : Int32)) (R2 := (68 : Int32)) (t0_0 := t0_0) (t0_1 := t0_1) (t1_0 := t1_0) (t2_0 := t2_0) (t2_1 := t2_1) (t3_0 := t3_0) (t4_0 := t14_0) (t4_1 := t14_1) (t5_0 := t15_0) (t6_0 := t16_0) (t6_1 := t16_1) (t7_0 := t17_0) ha hb (hb.pos.mp (by omega)) (hA.mono (by decide))
    replace h9 := h9.2
    generalize F_Mil_quotientOrRest (1 : Int32) (68 : Int32) (68 : Int32) t0_0 t0_1 t1_0 t2_0 t2_1 t3_0 t14_0 t14_1 t15_0 t16_0 t16_1 t17_0 = p1006 at h9 ⊢
    have hn := h9.1
    rw [if_neg (by decide)] at hn
    have hb2 := h9.2.2
    unfold F_NH_whole_c115_16
    have h10 := V_keepWhole (x2 := x5) (t0_0 := (p1006.1 : Int32)) (t0_1 := (p1006.2.1 : Int32)) (t1_0 := (p1006.2.2.1 : (Nat → Int32))) (t2_0 := t18_0) (t2_1 := t18_1) (t3_0 := t19_0) hn (by first | exact hw2 | exact hw)
    generalize F_NH_keepWhole x5 (p1006.1 : Int32) (p1006.2.1 : Int32) (p1006.2.2.1 : (Nat → Int32)) t18_0 t18_1 t19_0 = p1035 at h10 ⊢
    have hkw := h10
    unfold F_NH_whole_c237_17
    by_cases g11 : p1035.1 = (0 : Int32)
    ·
      rw [if_pos g11]
      have g11i : p1035.1.toInt = 0 := q_eqI g11
      (unfold QV_whole; dsimp only; first | exact ⟨cAn_o (cAn_z hkw (by with_reducible assumption)) (by rw [if_pos hvz]), hb⟩ | exact ⟨cAn_o hkw (by rw [if_pos hvz]), hb⟩ | exact ⟨cAn_o (cAn_n hw) (by rw [if_pos hvz]), hb⟩ | exact ⟨cAn_o (cAn_z hkw (by with_reducible assumption)) (by rw [if_neg hvz]), hb⟩ | exact ⟨cAn_o hkw (by rw [if_neg hvz]), hb⟩ | exact ⟨cAn_o (cAn_n hw) (by rw [if_neg hvz]), hb⟩ | exact ⟨cAn_o (cAn_z hkw (by with_reducible assumption)) (by rw [if_pos hvz]), hb2⟩ | exact ⟨cAn_o hkw (by rw [if_pos hvz]), hb2⟩ | exact ⟨cAn_o (cAn_n hw) (by rw [if_pos hvz]), hb2⟩ | exact ⟨cAn_o (cAn_z hkw (by with_reducible assumption)) (by rw [if_neg hvz]), hb2⟩ | exact ⟨cAn_o hkw (by rw [if_neg hvz]), hb2⟩ | exact ⟨cAn_o (cAn_n hw) (by rw [if_neg hvz]), hb2⟩)
    ·
      rw [if_neg g11]
      have g11i : p1035.1.toInt ≠ 0 := q_neI g11
      (unfold QV_whole; dsimp only; first | exact ⟨cAn_o (cAn_z hkw (by with_reducible assumption)) (by rw [if_pos hvz]), hb⟩ | exact ⟨cAn_o hkw (by rw [if_pos hvz]), hb⟩ | exact ⟨cAn_o (cAn_n hw) (by rw [if_pos hvz]), hb⟩ | exact ⟨cAn_o (cAn_z hkw (by with_reducible assumption)) (by rw [if_neg hvz]), hb⟩ | exact ⟨cAn_o hkw (by rw [if_neg hvz]), hb⟩ | exact ⟨cAn_o (cAn_n hw) (by rw [if_neg hvz]), hb⟩ | exact ⟨cAn_o (cAn_z hkw (by with_reducible assumption)) (by rw [if_pos hvz]), hb2⟩ | exact ⟨cAn_o hkw (by rw [if_pos hvz]), hb2⟩ | exact ⟨cAn_o (cAn_n hw) (by rw [if_pos hvz]), hb2⟩ | exact ⟨cAn_o (cAn_z hkw (by with_reducible assumption)) (by rw [if_neg hvz]), hb2⟩ | exact ⟨cAn_o hkw (by rw [if_neg hvz]), hb2⟩ | exact ⟨cAn_o (cAn_n hw) (by rw [if_neg hvz]), hb2⟩)
theorem V_whole4 {x2 : Int32} {x3 : Int32} {x4 : Int32} {x5 : Int32} {t0_0 : Int32} {t0_1 : Int32} {t1_0 : (Nat → Int32)} {t2_0 : Int32} {t2_1 : Int32} {t3_0 : (Nat → Int32)} {t4_0 : Int32} {t4_1 : Int32} {t5_0 : (Nat → Int32)} {t6_0 : Int32} {t6_1 : Int32} {t7_0 : (Nat → Int32)} {t8_0 : Int32} {t8_1 : Int32} {t9_0 : (Nat → Int32)} {t10_0 : Int32} {t10_1 : Int32} {t11_0 : (Nat → Int32)} {t12_0 : Int32} {t12_1 : Int32} {t13_0 : (Nat → Int32)} {t14_0 : Int32} {t14_1 : Int32} {t15_0 : (Nat → Int32)} {t16_0 : Int32} {t16_1 : Int32} {t17_0 : (Nat → Int32)} {t18_0 : Int32} {t18_1 : Int32} {t19_0 : (Nat → Int32)} {va vb vt : Int} (ha : bO 68 t14_0 t14_1 t15_0 va) (hA : bB 67 va) (hb : bO 68 t16_0 t16_1 t17_0 vb) (hB : bB 67 vb) (hw : bO 68 t18_0 t18_1 t19_0 vt) (e2 : x2 = 4) (hr3 : ¬ F_NH_isRegister x3 = 0) (hr4 : ¬ F_NH_isRegister x4 = 0) (hr5 : ¬ F_NH_isRegister x5 = 0) : QV_whole (if vb = 0 then none else some (va.tmod vb)) vt vb (F_NH_whole x2 x3 x4 x5 t0_0 t0_1 t1_0 t2_0 t2_1 t3_0 t4_0 t4_1 t5_0 t6_0 t6_1 t7_0 t8_0 t8_1 t9_0 t10_0 t10_1 t11_0 t12_0 t12_1 t13_0 t14_0 t14_1 t15_0 t16_0 t16_1 t17_0 t18_0 t18_1 t19_0) := by
  have e0 : (0 : Int32).toInt = 0 := rfl
  have e220 : (220 : Int32).toInt = 220 := rfl
  have e68 : (68 : Int32).toInt = 68 := rfl
  have sa : t14_0.toInt ≤ 68 := ha.2.2.2.1
  have sb : t16_0.toInt ≤ 68 := hb.2.2.2.1
  unfold F_NH_whole
  have g1 : ¬ (x2 < (0 : Int32)) := (by rw [e2]; decide)
  rw [if_neg g1]
  have g2 : ¬ ((11 : Int32) < x2) := (by rw [e2]; decide)
  rw [if_neg g2]
  rw [if_neg hr3]
  rw [if_neg hr4]
  rw [if_neg hr5]
  unfold F_NH_whole_J37
  have g3 : ((F_NH_need (1 : Int32)) = (0 : Int32)) := (by decide)
  rw [if_pos g3]
  have g4 : ((2 : Int32) < x2) := (by rw [e2]; decide)
  rw [if_pos g4]
  have g5 : ¬ ((4 : Int32) < x2) := (by rw [e2]; decide)
  rw [if_neg g5]
  by_cases g6 : t16_0 ≤ (0 : Int32)
  ·
    rw [if_pos g6]
    have hvz : vb = 0 := Classical.byContradiction (fun c => absurd (q_leI g6) (by have := hb.pos.mpr c; omega))
    unfold F_NH_whole_J94
    have g7 : ¬ ((F_NH_canHave (0 : Int32)) = (0 : Int32)) := (by decide)
    rw [if_neg g7]
    (unfold QV_whole; dsimp only; first | exact ⟨cAn_o (cAn_z hkw (by with_reducible assumption)) (by rw [if_pos hvz]), hb⟩ | exact ⟨cAn_o hkw (by rw [if_pos hvz]), hb⟩ | exact ⟨cAn_o (cAn_n hw) (by rw [if_pos hvz]), hb⟩ | exact ⟨cAn_o (cAn_z hkw (by with_reducible assumption)) (by rw [if_neg hvz]), hb⟩ | exact ⟨cAn_o hkw (by rw [if_neg hvz]), hb⟩ | exact ⟨cAn_o (cAn_n hw) (by rw [if_neg hvz]), hb⟩ | exact ⟨cAn_o (cAn_z hkw (by with_reducible assumption)) (by rw [if_pos hvz]), hb2⟩ | exact ⟨cAn_o hkw (by rw [if_pos hvz]), hb2⟩ | exact ⟨cAn_o (cAn_n hw) (by rw [if_pos hvz]), hb2⟩ | exact ⟨cAn_o (cAn_z hkw (by with_reducible assumption)) (by rw [if_neg hvz]), hb2⟩ | exact ⟨cAn_o hkw (by rw [if_neg hvz]), hb2⟩ | exact ⟨cAn_o (cAn_n hw) (by rw [if_neg hvz]), hb2⟩)
  ·
    rw [if_neg g6]
    have hvz : vb ≠ 0 := hb.pos.mp (by have := q_nleI g6; omega)
    have g6i := q_nleI g6
    unfold F_NH_whole_J94
    have g8 : ((F_NH_canHave (1 : Int32)) = (0 : Int32)) := (by decide)
    rw [if_pos g8]
    have g9 : ¬ (x2 = (3 : Int32)) := (by rw [e2]; decide)
    rw [if_neg g9]
    have h10 := T_quotientOrRest (x2 := (0 : Int32)) (R := (68 : Int32)) (R2 := (68 : Int32)) (t0_0 := t0_0) (t0_1 := t0_1) (t1_0 := t1_0) (t2_0 := t2_0) (t2_1 := t2_1) (t3_0 := t3_0) (t4_0 := t14_0) (t4_1 := t14_1) (t5_0 := t15_0) (t6_0 := t16_0) (t6_1 := t16_1) (t7_0 := t17_0) ha hb (hb.pos.mp (by omega)) (hA.mono (by decide))
    replace h10 := h10.2
    generalize F_Mil_quotientOrRest (0 : Int32) (68 : Int32) (68 : Int32) t0_0 t0_1 t1_0 t2_0 t2_1 t3_0 t14_0 t14_1 t15_0 t16_0 t16_1 t17_0 = p910 at h10 ⊢
    have hn := h10.1
    rw [if_pos rfl] at hn
    have hb2 := h10.2.2
    unfold F_NH_whole_c115
    have h11 := V_keepWhole (x2 := x5) (t0_0 := (p910.1 : Int32)) (t0_1 := (p910.2.1 : Int32)) (t1_0 := (p910.2.2.1 : (Nat → Int32))) (t2_0 := t18_0) (t2_1 := t18_1) (t3_0 := t19_0) hn (by first | exact hw2 | exact hw)
    generalize F_NH_keepWhole x5 (p910.1 : Int32) (p910.2.1 : Int32) (p910.2.2.1 : (Nat → Int32)) t18_0 t18_1 t19_0 = p939 at h11 ⊢
    have hkw := h11
    unfold F_NH_whole_c237_15
    by_cases g12 : p939.1 = (0 : Int32)
    ·
      rw [if_pos g12]
      have g12i : p939.1.toInt = 0 := q_eqI g12
      (unfold QV_whole; dsimp only; first | exact ⟨cAn_o (cAn_z hkw (by with_reducible assumption)) (by rw [if_pos hvz]), hb⟩ | exact ⟨cAn_o hkw (by rw [if_pos hvz]), hb⟩ | exact ⟨cAn_o (cAn_n hw) (by rw [if_pos hvz]), hb⟩ | exact ⟨cAn_o (cAn_z hkw (by with_reducible assumption)) (by rw [if_neg hvz]), hb⟩ | exact ⟨cAn_o hkw (by rw [if_neg hvz]), hb⟩ | exact ⟨cAn_o (cAn_n hw) (by rw [if_neg hvz]), hb⟩ | exact ⟨cAn_o (cAn_z hkw (by with_reducible assumption)) (by rw [if_pos hvz]), hb2⟩ | exact ⟨cAn_o hkw (by rw [if_pos hvz]), hb2⟩ | exact ⟨cAn_o (cAn_n hw) (by rw [if_pos hvz]), hb2⟩ | exact ⟨cAn_o (cAn_z hkw (by with_reducible assumption)) (by rw [if_neg hvz]), hb2⟩ | exact ⟨cAn_o hkw (by rw [if_neg hvz]), hb2⟩ | exact ⟨cAn_o (cAn_n hw) (by rw [if_neg hvz]), hb2⟩)
    ·
      rw [if_neg g12]
      have g12i : p939.1.toInt ≠ 0 := q_neI g12
      (unfold QV_whole; dsimp only; first | exact ⟨cAn_o (cAn_z hkw (by with_reducible assumption)) (by rw [if_pos hvz]), hb⟩ | exact ⟨cAn_o hkw (by rw [if_pos hvz]), hb⟩ | exact ⟨cAn_o (cAn_n hw) (by rw [if_pos hvz]), hb⟩ | exact ⟨cAn_o (cAn_z hkw (by with_reducible assumption)) (by rw [if_neg hvz]), hb⟩ | exact ⟨cAn_o hkw (by rw [if_neg hvz]), hb⟩ | exact ⟨cAn_o (cAn_n hw) (by rw [if_neg hvz]), hb⟩ | exact ⟨cAn_o (cAn_z hkw (by with_reducible assumption)) (by rw [if_pos hvz]), hb2⟩ | exact ⟨cAn_o hkw (by rw [if_pos hvz]), hb2⟩ | exact ⟨cAn_o (cAn_n hw) (by rw [if_pos hvz]), hb2⟩ | exact ⟨cAn_o (cAn_z hkw (by with_reducible assumption)) (by rw [if_neg hvz]), hb2⟩ | exact ⟨cAn_o hkw (by rw [if_neg hvz]), hb2⟩ | exact ⟨cAn_o (cAn_n hw) (by rw [if_neg hvz]), hb2⟩)
theorem V_whole5 {x2 : Int32} {x3 : Int32} {x4 : Int32} {x5 : Int32} {t0_0 : Int32} {t0_1 : Int32} {t1_0 : (Nat → Int32)} {t2_0 : Int32} {t2_1 : Int32} {t3_0 : (Nat → Int32)} {t4_0 : Int32} {t4_1 : Int32} {t5_0 : (Nat → Int32)} {t6_0 : Int32} {t6_1 : Int32} {t7_0 : (Nat → Int32)} {t8_0 : Int32} {t8_1 : Int32} {t9_0 : (Nat → Int32)} {t10_0 : Int32} {t10_1 : Int32} {t11_0 : (Nat → Int32)} {t12_0 : Int32} {t12_1 : Int32} {t13_0 : (Nat → Int32)} {t14_0 : Int32} {t14_1 : Int32} {t15_0 : (Nat → Int32)} {t16_0 : Int32} {t16_1 : Int32} {t17_0 : (Nat → Int32)} {t18_0 : Int32} {t18_1 : Int32} {t19_0 : (Nat → Int32)} {va vb vt : Int} (ha : bO 68 t14_0 t14_1 t15_0 va) (hA : bB 67 va) (hb : bO 68 t16_0 t16_1 t17_0 vb) (hB : bB 67 vb) (hw : bO 68 t18_0 t18_1 t19_0 vt) (e2 : x2 = 5) (hr3 : ¬ F_NH_isRegister x3 = 0) (hr4 : ¬ F_NH_isRegister x4 = 0) (hr5 : ¬ F_NH_isRegister x5 = 0) : QV_whole (if vb ≤ 0 then none else some (va % vb)) vt vb (F_NH_whole x2 x3 x4 x5 t0_0 t0_1 t1_0 t2_0 t2_1 t3_0 t4_0 t4_1 t5_0 t6_0 t6_1 t7_0 t8_0 t8_1 t9_0 t10_0 t10_1 t11_0 t12_0 t12_1 t13_0 t14_0 t14_1 t15_0 t16_0 t16_1 t17_0 t18_0 t18_1 t19_0) := by
  have e0 : (0 : Int32).toInt = 0 := rfl
  have e220 : (220 : Int32).toInt = 220 := rfl
  have e68 : (68 : Int32).toInt = 68 := rfl
  have sa : t14_0.toInt ≤ 68 := ha.2.2.2.1
  have sb : t16_0.toInt ≤ 68 := hb.2.2.2.1
  unfold F_NH_whole
  have g1 : ¬ (x2 < (0 : Int32)) := (by rw [e2]; decide)
  rw [if_neg g1]
  have g2 : ¬ ((11 : Int32) < x2) := (by rw [e2]; decide)
  rw [if_neg g2]
  rw [if_neg hr3]
  rw [if_neg hr4]
  rw [if_neg hr5]
  unfold F_NH_whole_J37
  have g3 : ((F_NH_need (1 : Int32)) = (0 : Int32)) := (by decide)
  rw [if_pos g3]
  have g4 : ((2 : Int32) < x2) := (by rw [e2]; decide)
  rw [if_pos g4]
  have g5 : ((4 : Int32) < x2) := (by rw [e2]; decide)
  rw [if_pos g5]
  rw [if_pos e2]
  by_cases g6 : ((F_Big_sign (68 : Int32) t16_0 t16_1) : Int32) ≤ (0 : Int32)
  ·
    rw [if_pos g6]
    have hvs := v_sgnP0 hb g6
    unfold F_NH_whole_J139
    have g7 : ¬ ((F_NH_canHave (0 : Int32)) = (0 : Int32)) := (by decide)
    rw [if_neg g7]
    (unfold QV_whole; dsimp only; first | exact ⟨cAn_o (cAn_z hkw (by with_reducible assumption)) (by rw [if_pos hvs]), hb⟩ | exact ⟨cAn_o hkw (by rw [if_pos hvs]), hb⟩ | exact ⟨cAn_o (cAn_n hw) (by rw [if_pos hvs]), hb⟩ | exact ⟨cAn_o (cAn_z hkw (by with_reducible assumption)) (by rw [if_neg (show ¬ vb ≤ 0 by omega)]), hb⟩ | exact ⟨cAn_o hkw (by rw [if_neg (show ¬ vb ≤ 0 by omega)]), hb⟩ | exact ⟨cAn_o (cAn_n hw) (by rw [if_neg (show ¬ vb ≤ 0 by omega)]), hb⟩ | exact ⟨cAn_o (cAn_z hkw (by with_reducible assumption)) (by rw [if_pos hvs]), hb2⟩ | exact ⟨cAn_o hkw (by rw [if_pos hvs]), hb2⟩ | exact ⟨cAn_o (cAn_n hw) (by rw [if_pos hvs]), hb2⟩ | exact ⟨cAn_o (cAn_z hkw (by with_reducible assumption)) (by rw [if_neg (show ¬ vb ≤ 0 by omega)]), hb2⟩ | exact ⟨cAn_o hkw (by rw [if_neg (show ¬ vb ≤ 0 by omega)]), hb2⟩ | exact ⟨cAn_o (cAn_n hw) (by rw [if_neg (show ¬ vb ≤ 0 by omega)]), hb2⟩)
  ·
    rw [if_neg g6]
    have hvs := v_sgnP hb g6
    unfold F_NH_whole_J139
    have g8 : ((F_NH_canHave (1 : Int32)) = (0 : Int32)) := (by decide)
    rw [if_pos g8]
    have h9 := T_modulo (R := (68 : Int32)) (R2 := (68 : Int32)) (R3 := (220 : Int32)) (t0_0 := t2_0) (t0_1 := t2_1) (t1_0 := t3_0) (t2_0 := t14_0) (t2_1 := t14_1) (t3_0 := t15_0) (t4_0 := t16_0) (t4_1 := t16_1) (t5_0 := t17_0) (t6_0 := t0_0) (t6_1 := t0_1) (t7_0 := t1_0) ha hb (by omega) hA (by decide) (by omega) (by decide)
    replace h9 := h9.2
    generalize F_Mil_modulo (68 : Int32) (68 : Int32) (220 : Int32) t2_0 t2_1 t3_0 t14_0 t14_1 t15_0 t16_0 t16_1 t17_0 t0_0 t0_1 t1_0 = p771 at h9 ⊢
    have hn := h9.2.2
    rw [v_modE hvs] at hn
    have hb2 := h9.2.1
    unfold F_NH_whole_c157
    have h10 := V_keepWhole (x2 := x5) (t0_0 := (p771.2.2.2.2.2.2.1 : Int32)) (t0_1 := (p771.2.2.2.2.2.2.2.1 : Int32)) (t1_0 := (p771.2.2.2.2.2.2.2.2 : (Nat → Int32))) (t2_0 := t18_0) (t2_1 := t18_1) (t3_0 := t19_0) hn (by first | exact hw2 | exact hw)
    generalize F_NH_keepWhole x5 (p771.2.2.2.2.2.2.1 : Int32) (p771.2.2.2.2.2.2.2.1 : Int32) (p771.2.2.2.2.2.2.2.2 : (Nat → Int32)) t18_0 t18_1 t19_0 = p800 at h10 ⊢
    have hkw := h10
    unfold F_NH_whole_c237_12
    by_cases g11 : p800.1 = (0 : Int32)
    ·
      rw [if_pos g11]
      have g11i : p800.1.toInt = 0 := q_eqI g11
      (unfold QV_whole; dsimp only; first | exact ⟨cAn_o (cAn_z hkw (by with_reducible assumption)) (by rw [if_pos hvs]), hb⟩ | exact ⟨cAn_o hkw (by rw [if_pos hvs]), hb⟩ | exact ⟨cAn_o (cAn_n hw) (by rw [if_pos hvs]), hb⟩ | exact ⟨cAn_o (cAn_z hkw (by with_reducible assumption)) (by rw [if_neg (show ¬ vb ≤ 0 by omega)]), hb⟩ | exact ⟨cAn_o hkw (by rw [if_neg (show ¬ vb ≤ 0 by omega)]), hb⟩ | exact ⟨cAn_o (cAn_n hw) (by rw [if_neg (show ¬ vb ≤ 0 by omega)]), hb⟩ | exact ⟨cAn_o (cAn_z hkw (by with_reducible assumption)) (by rw [if_pos hvs]), hb2⟩ | exact ⟨cAn_o hkw (by rw [if_pos hvs]), hb2⟩ | exact ⟨cAn_o (cAn_n hw) (by rw [if_pos hvs]), hb2⟩ | exact ⟨cAn_o (cAn_z hkw (by with_reducible assumption)) (by rw [if_neg (show ¬ vb ≤ 0 by omega)]), hb2⟩ | exact ⟨cAn_o hkw (by rw [if_neg (show ¬ vb ≤ 0 by omega)]), hb2⟩ | exact ⟨cAn_o (cAn_n hw) (by rw [if_neg (show ¬ vb ≤ 0 by omega)]), hb2⟩)
    ·
      rw [if_neg g11]
      have g11i : p800.1.toInt ≠ 0 := q_neI g11
      (unfold QV_whole; dsimp only; first | exact ⟨cAn_o (cAn_z hkw (by with_reducible assumption)) (by rw [if_pos hvs]), hb⟩ | exact ⟨cAn_o hkw (by rw [if_pos hvs]), hb⟩ | exact ⟨cAn_o (cAn_n hw) (by rw [if_pos hvs]), hb⟩ | exact ⟨cAn_o (cAn_z hkw (by with_reducible assumption)) (by rw [if_neg (show ¬ vb ≤ 0 by omega)]), hb⟩ | exact ⟨cAn_o hkw (by rw [if_neg (show ¬ vb ≤ 0 by omega)]), hb⟩ | exact ⟨cAn_o (cAn_n hw) (by rw [if_neg (show ¬ vb ≤ 0 by omega)]), hb⟩ | exact ⟨cAn_o (cAn_z hkw (by with_reducible assumption)) (by rw [if_pos hvs]), hb2⟩ | exact ⟨cAn_o hkw (by rw [if_pos hvs]), hb2⟩ | exact ⟨cAn_o (cAn_n hw) (by rw [if_pos hvs]), hb2⟩ | exact ⟨cAn_o (cAn_z hkw (by with_reducible assumption)) (by rw [if_neg (show ¬ vb ≤ 0 by omega)]), hb2⟩ | exact ⟨cAn_o hkw (by rw [if_neg (show ¬ vb ≤ 0 by omega)]), hb2⟩ | exact ⟨cAn_o (cAn_n hw) (by rw [if_neg (show ¬ vb ≤ 0 by omega)]), hb2⟩)
theorem V_whole6 {x2 : Int32} {x3 : Int32} {x4 : Int32} {x5 : Int32} {t0_0 : Int32} {t0_1 : Int32} {t1_0 : (Nat → Int32)} {t2_0 : Int32} {t2_1 : Int32} {t3_0 : (Nat → Int32)} {t4_0 : Int32} {t4_1 : Int32} {t5_0 : (Nat → Int32)} {t6_0 : Int32} {t6_1 : Int32} {t7_0 : (Nat → Int32)} {t8_0 : Int32} {t8_1 : Int32} {t9_0 : (Nat → Int32)} {t10_0 : Int32} {t10_1 : Int32} {t11_0 : (Nat → Int32)} {t12_0 : Int32} {t12_1 : Int32} {t13_0 : (Nat → Int32)} {t14_0 : Int32} {t14_1 : Int32} {t15_0 : (Nat → Int32)} {t16_0 : Int32} {t16_1 : Int32} {t17_0 : (Nat → Int32)} {t18_0 : Int32} {t18_1 : Int32} {t19_0 : (Nat → Int32)} {va vb vt : Int} (ha : bO 68 t14_0 t14_1 t15_0 va) (hA : bB 67 va) (hb : bO 68 t16_0 t16_1 t17_0 vb) (hB : bB 67 vb) (hw : bO 68 t18_0 t18_1 t19_0 vt) (e2 : x2 = 6) (hr3 : ¬ F_NH_isRegister x3 = 0) (hr4 : ¬ F_NH_isRegister x4 = 0) (hr5 : ¬ F_NH_isRegister x5 = 0) : QV_whole (some (Int.gcd va vb : Int)) vt vb (F_NH_whole x2 x3 x4 x5 t0_0 t0_1 t1_0 t2_0 t2_1 t3_0 t4_0 t4_1 t5_0 t6_0 t6_1 t7_0 t8_0 t8_1 t9_0 t10_0 t10_1 t11_0 t12_0 t12_1 t13_0 t14_0 t14_1 t15_0 t16_0 t16_1 t17_0 t18_0 t18_1 t19_0) := by
  have e0 : (0 : Int32).toInt = 0 := rfl
  have e220 : (220 : Int32).toInt = 220 := rfl
  have e68 : (68 : Int32).toInt = 68 := rfl
  have sa : t14_0.toInt ≤ 68 := ha.2.2.2.1
  have sb : t16_0.toInt ≤ 68 := hb.2.2.2.1
  unfold F_NH_whole
  have g1 : ¬ (x2 < (0 : Int32)) := (by rw [e2]; decide)
  rw [if_neg g1]
  have g2 : ¬ ((11 : Int32) < x2) := (by rw [e2]; decide)
  rw [if_neg g2]
  rw [if_neg hr3]
  rw [if_neg hr4]
  rw [if_neg hr5]
  unfold F_NH_whole_J37
  have g3 : ((F_NH_need (1 : Int32)) = (0 : Int32)) := (by decide)
  rw [if_pos g3]
  have g4 : ((2 : Int32) < x2) := (by rw [e2]; decide)
  rw [if_pos g4]
  have g5 : ((4 : Int32) < x2) := (by rw [e2]; decide)
  rw [if_pos g5]
  have g6 : ¬ (x2 = (5 : Int32)) := (by rw [e2]; decide)
  rw [if_neg g6]
  rw [if_pos e2]
  have h7 := V_commonDivisor (M := 67) (R := (68 : Int32)) (R2 := (68 : Int32)) (t0_0 := t0_0) (t0_1 := t0_1) (t1_0 := t1_0) (t2_0 := t2_0) (t2_1 := t2_1) (t3_0 := t3_0) (t4_0 := t6_0) (t4_1 := t6_1) (t5_0 := t7_0) (t6_0 := t8_0) (t6_1 := t8_1) (t7_0 := t9_0) (t8_0 := t14_0) (t8_1 := t14_1) (t9_0 := t15_0) (t10_0 := t16_0) (t10_1 := t16_1) (t11_0 := t17_0) (by decide) ha hb hA hB
  replace h7 := h7.2
  generalize F_Mil_commonDivisor (68 : Int32) (68 : Int32) t0_0 t0_1 t1_0 t2_0 t2_1 t3_0 t6_0 t6_1 t7_0 t8_0 t8_1 t9_0 t14_0 t14_1 t15_0 t16_0 t16_1 t17_0 = p625 at h7 ⊢
  have hn := h7.1
  unfold F_NH_whole_c177
  have h8 := V_keepWhole (x2 := x5) (t0_0 := (p625.1 : Int32)) (t0_1 := (p625.2.1 : Int32)) (t1_0 := (p625.2.2.1 : (Nat → Int32))) (t2_0 := t18_0) (t2_1 := t18_1) (t3_0 := t19_0) hn (by first | exact hw2 | exact hw)
  generalize F_NH_keepWhole x5 (p625.1 : Int32) (p625.2.1 : Int32) (p625.2.2.1 : (Nat → Int32)) t18_0 t18_1 t19_0 = p657 at h8 ⊢
  have hkw := h8
  unfold F_NH_whole_c237_9
  by_cases g9 : p657.1 = (0 : Int32)
  ·
    rw [if_pos g9]
    have g9i : p657.1.toInt = 0 := q_eqI g9
    (unfold QV_whole; dsimp only; first | exact ⟨cAn_o (cAn_z hkw (by with_reducible assumption)) rfl, hb⟩ | exact ⟨cAn_o hkw rfl, hb⟩ | exact ⟨cAn_o (cAn_n hw) rfl, hb⟩ | exact ⟨cAn_o (cAn_z hkw (by with_reducible assumption)) rfl, hb2⟩ | exact ⟨cAn_o hkw rfl, hb2⟩ | exact ⟨cAn_o (cAn_n hw) rfl, hb2⟩)
  ·
    rw [if_neg g9]
    have g9i : p657.1.toInt ≠ 0 := q_neI g9
    (unfold QV_whole; dsimp only; first | exact ⟨cAn_o (cAn_z hkw (by with_reducible assumption)) rfl, hb⟩ | exact ⟨cAn_o hkw rfl, hb⟩ | exact ⟨cAn_o (cAn_n hw) rfl, hb⟩ | exact ⟨cAn_o (cAn_z hkw (by with_reducible assumption)) rfl, hb2⟩ | exact ⟨cAn_o hkw rfl, hb2⟩ | exact ⟨cAn_o (cAn_n hw) rfl, hb2⟩)
theorem V_whole7 {x2 : Int32} {x3 : Int32} {x4 : Int32} {x5 : Int32} {t0_0 : Int32} {t0_1 : Int32} {t1_0 : (Nat → Int32)} {t2_0 : Int32} {t2_1 : Int32} {t3_0 : (Nat → Int32)} {t4_0 : Int32} {t4_1 : Int32} {t5_0 : (Nat → Int32)} {t6_0 : Int32} {t6_1 : Int32} {t7_0 : (Nat → Int32)} {t8_0 : Int32} {t8_1 : Int32} {t9_0 : (Nat → Int32)} {t10_0 : Int32} {t10_1 : Int32} {t11_0 : (Nat → Int32)} {t12_0 : Int32} {t12_1 : Int32} {t13_0 : (Nat → Int32)} {t14_0 : Int32} {t14_1 : Int32} {t15_0 : (Nat → Int32)} {t16_0 : Int32} {t16_1 : Int32} {t17_0 : (Nat → Int32)} {t18_0 : Int32} {t18_1 : Int32} {t19_0 : (Nat → Int32)} {va vb vt : Int} (ha : bO 68 t14_0 t14_1 t15_0 va) (hA : bB 67 va) (hb : bO 68 t16_0 t16_1 t17_0 vb) (hB : bB 67 vb) (hw : bO 68 t18_0 t18_1 t19_0 vt) (e2 : x2 = 7) (hr3 : ¬ F_NH_isRegister x3 = 0) (hr4 : ¬ F_NH_isRegister x4 = 0) (hr5 : ¬ F_NH_isRegister x5 = 0) : QV_whole (if vb ≤ 0 then none else sInv va vb) vt vb (F_NH_whole x2 x3 x4 x5 t0_0 t0_1 t1_0 t2_0 t2_1 t3_0 t4_0 t4_1 t5_0 t6_0 t6_1 t7_0 t8_0 t8_1 t9_0 t10_0 t10_1 t11_0 t12_0 t12_1 t13_0 t14_0 t14_1 t15_0 t16_0 t16_1 t17_0 t18_0 t18_1 t19_0) := by
  have e0 : (0 : Int32).toInt = 0 := rfl
  have e220 : (220 : Int32).toInt = 220 := rfl
  have e68 : (68 : Int32).toInt = 68 := rfl
  have sa : t14_0.toInt ≤ 68 := ha.2.2.2.1
  have sb : t16_0.toInt ≤ 68 := hb.2.2.2.1
  unfold F_NH_whole
  have g1 : ¬ (x2 < (0 : Int32)) := (by rw [e2]; decide)
  rw [if_neg g1]
  have g2 : ¬ ((11 : Int32) < x2) := (by rw [e2]; decide)
  rw [if_neg g2]
  rw [if_neg hr3]
  rw [if_neg hr4]
  rw [if_neg hr5]
  unfold F_NH_whole_J37
  have g3 : ((F_NH_need (1 : Int32)) = (0 : Int32)) := (by decide)
  rw [if_pos g3]
  have g4 : ((2 : Int32) < x2) := (by rw [e2]; decide)
  rw [if_pos g4]
  have g5 : ((4 : Int32) < x2) := (by rw [e2]; decide)
  rw [if_pos g5]
  have g6 : ¬ (x2 = (5 : Int32)) := (by rw [e2]; decide)
  rw [if_neg g6]
  have g7 : ¬ (x2 = (6 : Int32)) := (by rw [e2]; decide)
  rw [if_neg g7]
  rw [if_pos e2]
  by_cases g8 : ((F_Big_sign (68 : Int32) t16_0 t16_1) : Int32) ≤ (0 : Int32)
  ·
    rw [if_pos g8]
    have hvs := v_sgnP0 hb g8
    have g9 : ¬ ((F_NH_canHave (0 : Int32)) = (0 : Int32)) := (by decide)
    rw [if_neg g9]
    (unfold QV_whole; dsimp only; first | exact ⟨cAn_o (cAn_z hkw (by with_reducible assumption)) (by rw [if_neg (show ¬ vb ≤ 0 by omega), hiv]), hb⟩ | exact ⟨cAn_o hkw (by rw [if_neg (show ¬ vb ≤ 0 by omega), hiv]), hb⟩ | exact ⟨cAn_o (cAn_z hkw (by with_reducible assumption)) (by rw [if_neg (show ¬ vb ≤ 0 by omega), hiv]), hb2⟩ | exact ⟨cAn_o hkw (by rw [if_neg (show ¬ vb ≤ 0 by omega), hiv]), hb2⟩ | exact ⟨cAn_o (cAn_z hkw (by with_reducible assumption)) (by rw [if_pos hvs]), hb⟩ | exact ⟨cAn_o hkw (by rw [if_pos hvs]), hb⟩ | exact ⟨cAn_o (cAn_n hw) (by rw [if_pos hvs]), hb⟩ | exact ⟨cAn_o (cAn_z hkw (by with_reducible assumption)) (by rw [if_neg (show ¬ vb ≤ 0 by omega)]), hb⟩ | exact ⟨cAn_o hkw (by rw [if_neg (show ¬ vb ≤ 0 by omega)]), hb⟩ | exact ⟨cAn_o (cAn_n hw) (by rw [if_neg (show ¬ vb ≤ 0 by omega)]), hb⟩ | exact ⟨cAn_o (cAn_z hkw (by with_reducible assumption)) (by rw [if_neg (show ¬ vb ≤ 0 by omega)]; exact hiv.symm), hb⟩ | exact ⟨cAn_o hkw (by rw [if_neg (show ¬ vb ≤ 0 by omega)]; exact hiv.symm), hb⟩ | exact ⟨cAn_o (cAn_n hw) (by rw [if_neg (show ¬ vb ≤ 0 by omega)]; exact hiv.symm), hb⟩ | exact ⟨cAn_o (cAn_z hkw (by with_reducible assumption)) (by rw [if_pos hvs]), hb2⟩ | exact ⟨cAn_o hkw (by rw [if_pos hvs]), hb2⟩ | exact ⟨cAn_o (cAn_n hw) (by rw [if_pos hvs]), hb2⟩ | exact ⟨cAn_o (cAn_z hkw (by with_reducible assumption)) (by rw [if_neg (show ¬ vb ≤ 0 by omega)]), hb2⟩ | exact ⟨cAn_o hkw (by rw [if_neg (show ¬ vb ≤ 0 by omega)]), hb2⟩ | exact ⟨cAn_o (cAn_n hw) (by rw [if_neg (show ¬ vb ≤ 0 by omega)]), hb2⟩ | exact ⟨cAn_o (cAn_z hkw (by with_reducible assumption)) (by rw [if_neg (show ¬ vb ≤ 0 by omega)]; exact hiv.symm), hb2⟩ | exact ⟨cAn_o hkw (by rw [if_neg (show ¬ vb ≤ 0 by omega)]; exact hiv.symm), hb2⟩ | exact ⟨cAn_o (cAn_n hw) (by rw [if_neg (show ¬ vb ≤ 0 by omega)]; exact hiv.symm), hb2⟩)
  ·
    rw [if_neg g8]
    have hvs := v_sgnP hb g8
    have g10 : ((F_NH_canHave (1 : Int32)) = (0 : Int32)) := (by decide)
    rw [if_pos g10]
    have h11 := V_inverseO (R := (68 : Int32)) (R2 := (68 : Int32)) (t0_0 := t0_0) (t0_1 := t0_1) (t1_0 := t1_0) (t2_0 := t2_0) (t2_1 := t2_1) (t3_0 := t3_0) (t4_0 := t4_0) (t4_1 := t4_1) (t5_0 := t5_0) (t6_0 := t6_0) (t6_1 := t6_1) (t7_0 := t7_0) (t8_0 := t8_0) (t8_1 := t8_1) (t9_0 := t9_0) (t10_0 := t10_0) (t10_1 := t10_1) (t11_0 := t11_0) (t12_0 := t12_0) (t12_1 := t12_1) (t13_0 := t13_0) (t14_0 := t14_0) (t14_1 := t14_1) (t15_0 := t15_0) (t16_0 := t16_0) (t16_1 := t16_1) (t17_0 := t17_0) ha hb hvs hA hB (by decide)
    generalize F_Mil_inverse (68 : Int32) (68 : Int32) t0_0 t0_1 t1_0 t2_0 t2_1 t3_0 t4_0 t4_1 t5_0 t6_0 t6_1 t7_0 t8_0 t8_1 t9_0 t10_0 t10_1 t11_0 t12_0 t12_1 t13_0 t14_0 t14_1 t15_0 t16_0 t16_1 t17_0 = p497 at h11 ⊢
    unfold F_NH_whole_c213_6
    rcases h11 with ⟨h110, h111, h112⟩ | ⟨xv, h110, h111, h11n, h112⟩
    ·
      have hb2 := h112
      have hiv := h110
      have g12 : ¬ ((F_NH_canHave (p497.1 : Int32)) = (0 : Int32)) := (by rw [h111]; decide)
      rw [if_neg g12]
      (unfold QV_whole; dsimp only; first | exact ⟨(by rw [show F_NH_canHave p497.1 = 2 by rw [h111]; rfl]; exact cAn_o (cAn_n hw) (by rw [if_neg (show ¬ vb ≤ 0 by omega), hiv])), hb⟩ | exact ⟨(by rw [show F_NH_canHave p497.1 = 2 by rw [h111]; rfl]; exact cAn_o (cAn_n hw2) (by rw [if_neg (show ¬ vb ≤ 0 by omega), hiv])), hb⟩ | exact ⟨cAn_o (cAn_z hkw (by with_reducible assumption)) (by rw [if_neg (show ¬ vb ≤ 0 by omega), hiv]), hb⟩ | exact ⟨cAn_o hkw (by rw [if_neg (show ¬ vb ≤ 0 by omega), hiv]), hb⟩ | exact ⟨(by rw [show F_NH_canHave p497.1 = 2 by rw [h111]; rfl]; exact cAn_o (cAn_n hw) (by rw [if_neg (show ¬ vb ≤ 0 by omega), hiv])), hb2⟩ | exact ⟨(by rw [show F_NH_canHave p497.1 = 2 by rw [h111]; rfl]; exact cAn_o (cAn_n hw2) (by rw [if_neg (show ¬ vb ≤ 0 by omega), hiv])), hb2⟩ | exact ⟨cAn_o (cAn_z hkw (by with_reducible assumption)) (by rw [if_neg (show ¬ vb ≤ 0 by omega), hiv]), hb2⟩ | exact ⟨cAn_o hkw (by rw [if_neg (show ¬ vb ≤ 0 by omega), hiv]), hb2⟩ | exact ⟨cAn_o (cAn_z hkw (by with_reducible assumption)) (by rw [if_pos hvs]), hb⟩ | exact ⟨cAn_o hkw (by rw [if_pos hvs]), hb⟩ | exact ⟨cAn_o (cAn_n hw) (by rw [if_pos hvs]), hb⟩ | exact ⟨cAn_o (cAn_z hkw (by with_reducible assumption)) (by rw [if_neg (show ¬ vb ≤ 0 by omega)]), hb⟩ | exact ⟨cAn_o hkw (by rw [if_neg (show ¬ vb ≤ 0 by omega)]), hb⟩ | exact ⟨cAn_o (cAn_n hw) (by rw [if_neg (show ¬ vb ≤ 0 by omega)]), hb⟩ | exact ⟨cAn_o (cAn_z hkw (by with_reducible assumption)) (by rw [if_neg (show ¬ vb ≤ 0 by omega)]; exact hiv.symm), hb⟩ | exact ⟨cAn_o hkw (by rw [if_neg (show ¬ vb ≤ 0 by omega)]; exact hiv.symm), hb⟩ | exact ⟨cAn_o (cAn_n hw) (by rw [if_neg (show ¬ vb ≤ 0 by omega)]; exact hiv.symm), hb⟩ | exact ⟨cAn_o (cAn_z hkw (by with_reducible assumption)) (by rw [if_pos hvs]), hb2⟩ | exact ⟨cAn_o hkw (by rw [if_pos hvs]), hb2⟩ | exact ⟨cAn_o (cAn_n hw) (by rw [if_pos hvs]), hb2⟩ | exact ⟨cAn_o (cAn_z hkw (by with_reducible assumption)) (by rw [if_neg (show ¬ vb ≤ 0 by omega)]), hb2⟩ | exact ⟨cAn_o hkw (by rw [if_neg (show ¬ vb ≤ 0 by omega)]), hb2⟩ | exact ⟨cAn_o (cAn_n hw) (by rw [if_neg (show ¬ vb ≤ 0 by omega)]), hb2⟩ | exact ⟨cAn_o (cAn_z hkw (by with_reducible assumption)) (by rw [if_neg (show ¬ vb ≤ 0 by omega)]; exact hiv.symm), hb2⟩ | exact ⟨cAn_o hkw (by rw [if_neg (show ¬ vb ≤ 0 by omega)]; exact hiv.symm), hb2⟩ | exact ⟨cAn_o (cAn_n hw) (by rw [if_neg (show ¬ vb ≤ 0 by omega)]; exact hiv.symm), hb2⟩)
    ·
      have hn := h11n
      have hb2 := h112
      have hiv := h110
      have g13 : ((F_NH_canHave (p497.1 : Int32)) = (0 : Int32)) := (by rw [h111]; decide)
      rw [if_pos g13]
      have h14 := V_keepWhole (x2 := x5) (t0_0 := (p497.2.1 : Int32)) (t0_1 := (p497.2.2.1 : Int32)) (t1_0 := (p497.2.2.2.1 : (Nat → Int32))) (t2_0 := t18_0) (t2_1 := t18_1) (t3_0 := t19_0) hn (by first | exact hw2 | exact hw)
      generalize F_NH_keepWhole x5 (p497.2.1 : Int32) (p497.2.2.1 : Int32) (p497.2.2.2.1 : (Nat → Int32)) t18_0 t18_1 t19_0 = p551 at h14 ⊢
      have hkw := h14
      unfold F_NH_whole_c237_7
      by_cases g15 : p551.1 = (0 : Int32)
      ·
        rw [if_pos g15]
        have g15i : p551.1.toInt = 0 := q_eqI g15
        (unfold QV_whole; dsimp only; first | exact ⟨(by rw [show F_NH_canHave p497.1 = 2 by rw [h111]; rfl]; exact cAn_o (cAn_n hw) (by rw [if_neg (show ¬ vb ≤ 0 by omega), hiv])), hb⟩ | exact ⟨(by rw [show F_NH_canHave p497.1 = 2 by rw [h111]; rfl]; exact cAn_o (cAn_n hw2) (by rw [if_neg (show ¬ vb ≤ 0 by omega), hiv])), hb⟩ | exact ⟨cAn_o (cAn_z hkw (by with_reducible assumption)) (by rw [if_neg (show ¬ vb ≤ 0 by omega), hiv]), hb⟩ | exact ⟨cAn_o hkw (by rw [if_neg (show ¬ vb ≤ 0 by omega), hiv]), hb⟩ | exact ⟨(by rw [show F_NH_canHave p497.1 = 2 by rw [h111]; rfl]; exact cAn_o (cAn_n hw) (by rw [if_neg (show ¬ vb ≤ 0 by omega), hiv])), hb2⟩ | exact ⟨(by rw [show F_NH_canHave p497.1 = 2 by rw [h111]; rfl]; exact cAn_o (cAn_n hw2) (by rw [if_neg (show ¬ vb ≤ 0 by omega), hiv])), hb2⟩ | exact ⟨cAn_o (cAn_z hkw (by with_reducible assumption)) (by rw [if_neg (show ¬ vb ≤ 0 by omega), hiv]), hb2⟩ | exact ⟨cAn_o hkw (by rw [if_neg (show ¬ vb ≤ 0 by omega), hiv]), hb2⟩ | exact ⟨cAn_o (cAn_z hkw (by with_reducible assumption)) (by rw [if_pos hvs]), hb⟩ | exact ⟨cAn_o hkw (by rw [if_pos hvs]), hb⟩ | exact ⟨cAn_o (cAn_n hw) (by rw [if_pos hvs]), hb⟩ | exact ⟨cAn_o (cAn_z hkw (by with_reducible assumption)) (by rw [if_neg (show ¬ vb ≤ 0 by omega)]), hb⟩ | exact ⟨cAn_o hkw (by rw [if_neg (show ¬ vb ≤ 0 by omega)]), hb⟩ | exact ⟨cAn_o (cAn_n hw) (by rw [if_neg (show ¬ vb ≤ 0 by omega)]), hb⟩ | exact ⟨cAn_o (cAn_z hkw (by with_reducible assumption)) (by rw [if_neg (show ¬ vb ≤ 0 by omega)]; exact hiv.symm), hb⟩ | exact ⟨cAn_o hkw (by rw [if_neg (show ¬ vb ≤ 0 by omega)]; exact hiv.symm), hb⟩ | exact ⟨cAn_o (cAn_n hw) (by rw [if_neg (show ¬ vb ≤ 0 by omega)]; exact hiv.symm), hb⟩ | exact ⟨cAn_o (cAn_z hkw (by with_reducible assumption)) (by rw [if_pos hvs]), hb2⟩ | exact ⟨cAn_o hkw (by rw [if_pos hvs]), hb2⟩ | exact ⟨cAn_o (cAn_n hw) (by rw [if_pos hvs]), hb2⟩ | exact ⟨cAn_o (cAn_z hkw (by with_reducible assumption)) (by rw [if_neg (show ¬ vb ≤ 0 by omega)]), hb2⟩ | exact ⟨cAn_o hkw (by rw [if_neg (show ¬ vb ≤ 0 by omega)]), hb2⟩ | exact ⟨cAn_o (cAn_n hw) (by rw [if_neg (show ¬ vb ≤ 0 by omega)]), hb2⟩ | exact ⟨cAn_o (cAn_z hkw (by with_reducible assumption)) (by rw [if_neg (show ¬ vb ≤ 0 by omega)]; exact hiv.symm), hb2⟩ | exact ⟨cAn_o hkw (by rw [if_neg (show ¬ vb ≤ 0 by omega)]; exact hiv.symm), hb2⟩ | exact ⟨cAn_o (cAn_n hw) (by rw [if_neg (show ¬ vb ≤ 0 by omega)]; exact hiv.symm), hb2⟩)
      ·
        rw [if_neg g15]
        have g15i : p551.1.toInt ≠ 0 := q_neI g15
        (unfold QV_whole; dsimp only; first | exact ⟨cAn_o (cAn_z hkw (by with_reducible assumption)) (by rw [if_neg (show ¬ vb ≤ 0 by omega), hiv]), hb⟩ | exact ⟨cAn_o hkw (by rw [if_neg (show ¬ vb ≤ 0 by omega), hiv]), hb⟩ | exact ⟨cAn_o (cAn_z hkw (by with_reducible assumption)) (by rw [if_neg (show ¬ vb ≤ 0 by omega), hiv]), hb2⟩ | exact ⟨cAn_o hkw (by rw [if_neg (show ¬ vb ≤ 0 by omega), hiv]), hb2⟩ | exact ⟨cAn_o (cAn_z hkw (by with_reducible assumption)) (by rw [if_pos hvs]), hb⟩ | exact ⟨cAn_o hkw (by rw [if_pos hvs]), hb⟩ | exact ⟨cAn_o (cAn_n hw) (by rw [if_pos hvs]), hb⟩ | exact ⟨cAn_o (cAn_z hkw (by with_reducible assumption)) (by rw [if_neg (show ¬ vb ≤ 0 by omega)]), hb⟩ | exact ⟨cAn_o hkw (by rw [if_neg (show ¬ vb ≤ 0 by omega)]), hb⟩ | exact ⟨cAn_o (cAn_n hw) (by rw [if_neg (show ¬ vb ≤ 0 by omega)]), hb⟩ | exact ⟨cAn_o (cAn_z hkw (by with_reducible assumption)) (by rw [if_neg (show ¬ vb ≤ 0 by omega)]; exact hiv.symm), hb⟩ | exact ⟨cAn_o hkw (by rw [if_neg (show ¬ vb ≤ 0 by omega)]; exact hiv.symm), hb⟩ | exact ⟨cAn_o (cAn_n hw) (by rw [if_neg (show ¬ vb ≤ 0 by omega)]; exact hiv.symm), hb⟩ | exact ⟨cAn_o (cAn_z hkw (by with_reducible assumption)) (by rw [if_pos hvs]), hb2⟩ | exact ⟨cAn_o hkw (by rw [if_pos hvs]), hb2⟩ | exact ⟨cAn_o (cAn_n hw) (by rw [if_pos hvs]), hb2⟩ | exact ⟨cAn_o (cAn_z hkw (by with_reducible assumption)) (by rw [if_neg (show ¬ vb ≤ 0 by omega)]), hb2⟩ | exact ⟨cAn_o hkw (by rw [if_neg (show ¬ vb ≤ 0 by omega)]), hb2⟩ | exact ⟨cAn_o (cAn_n hw) (by rw [if_neg (show ¬ vb ≤ 0 by omega)]), hb2⟩ | exact ⟨cAn_o (cAn_z hkw (by with_reducible assumption)) (by rw [if_neg (show ¬ vb ≤ 0 by omega)]; exact hiv.symm), hb2⟩ | exact ⟨cAn_o hkw (by rw [if_neg (show ¬ vb ≤ 0 by omega)]; exact hiv.symm), hb2⟩ | exact ⟨cAn_o (cAn_n hw) (by rw [if_neg (show ¬ vb ≤ 0 by omega)]; exact hiv.symm), hb2⟩)
theorem V_whole8 {x2 : Int32} {x3 : Int32} {x4 : Int32} {x5 : Int32} {t0_0 : Int32} {t0_1 : Int32} {t1_0 : (Nat → Int32)} {t2_0 : Int32} {t2_1 : Int32} {t3_0 : (Nat → Int32)} {t4_0 : Int32} {t4_1 : Int32} {t5_0 : (Nat → Int32)} {t6_0 : Int32} {t6_1 : Int32} {t7_0 : (Nat → Int32)} {t8_0 : Int32} {t8_1 : Int32} {t9_0 : (Nat → Int32)} {t10_0 : Int32} {t10_1 : Int32} {t11_0 : (Nat → Int32)} {t12_0 : Int32} {t12_1 : Int32} {t13_0 : (Nat → Int32)} {t14_0 : Int32} {t14_1 : Int32} {t15_0 : (Nat → Int32)} {t16_0 : Int32} {t16_1 : Int32} {t17_0 : (Nat → Int32)} {t18_0 : Int32} {t18_1 : Int32} {t19_0 : (Nat → Int32)} {va vb vt : Int} (ha : bO 68 t14_0 t14_1 t15_0 va) (hA : bB 67 va) (hb : bO 68 t16_0 t16_1 t17_0 vb) (hB : bB 67 vb) (hw : bO 68 t18_0 t18_1 t19_0 vt) (e2 : x2 = 8) (hr3 : ¬ F_NH_isRegister x3 = 0) (hr4 : ¬ F_NH_isRegister x4 = 0) (hr5 : ¬ F_NH_isRegister x5 = 0) : QV_whole (some (sMix 0 va vb)) vt vb (F_NH_whole x2 x3 x4 x5 t0_0 t0_1 t1_0 t2_0 t2_1 t3_0 t4_0 t4_1 t5_0 t6_0 t6_1 t7_0 t8_0 t8_1 t9_0 t10_0 t10_1 t11_0 t12_0 t12_1 t13_0 t14_0 t14_1 t15_0 t16_0 t16_1 t17_0 t18_0 t18_1 t19_0) := by
  have e0 : (0 : Int32).toInt = 0 := rfl
  have e220 : (220 : Int32).toInt = 220 := rfl
  have e68 : (68 : Int32).toInt = 68 := rfl
  have sa : t14_0.toInt ≤ 68 := ha.2.2.2.1
  have sb : t16_0.toInt ≤ 68 := hb.2.2.2.1
  unfold F_NH_whole
  have g1 : ¬ (x2 < (0 : Int32)) := (by rw [e2]; decide)
  rw [if_neg g1]
  have g2 : ¬ ((11 : Int32) < x2) := (by rw [e2]; decide)
  rw [if_neg g2]
  rw [if_neg hr3]
  rw [if_neg hr4]
  rw [if_neg hr5]
  unfold F_NH_whole_J37
  have g3 : ((F_NH_need (1 : Int32)) = (0 : Int32)) := (by decide)
  rw [if_pos g3]
  have g4 : ((2 : Int32) < x2) := (by rw [e2]; decide)
  rw [if_pos g4]
  have g5 : ((4 : Int32) < x2) := (by rw [e2]; decide)
  rw [if_pos g5]
  have g6 : ¬ (x2 = (5 : Int32)) := (by rw [e2]; decide)
  rw [if_neg g6]
  have g7 : ¬ (x2 = (6 : Int32)) := (by rw [e2]; decide)
  rw [if_neg g7]
  have g8 : ¬ (x2 = (7 : Int32)) := (by rw [e2]; decide)
  rw [if_neg g8]
  have h9 := V_mixBits (x2 := x2) (R := (68 : Int32)) (R2 := (68 : Int32)) (t0_0 := t0_0) (t0_1 := t0_1) (t1_0 := t1_0) (t2_0 := t14_0) (t2_1 := t14_1) (t3_0 := t15_0) (t4_0 := t16_0) (t4_1 := t16_1) (t5_0 := t17_0) (h := 0) (by decide) (by rw [e2]; rfl) ha hb (by omega) (by omega)
  generalize F_Mil_mixBits x2 (68 : Int32) (68 : Int32) t0_0 t0_1 t1_0 t14_0 t14_1 t15_0 t16_0 t16_1 t17_0 = p154 at h9 ⊢
  have hn := h9
  unfold F_NH_whole_c231
  have h10 := V_keepWhole (x2 := x5) (t0_0 := (p154.1 : Int32)) (t0_1 := (p154.2.1 : Int32)) (t1_0 := (p154.2.2 : (Nat → Int32))) (t2_0 := t18_0) (t2_1 := t18_1) (t3_0 := t19_0) hn (by first | exact hw2 | exact hw)
  generalize F_NH_keepWhole x5 (p154.1 : Int32) (p154.2.1 : Int32) (p154.2.2 : (Nat → Int32)) t18_0 t18_1 t19_0 = p177 at h10 ⊢
  have hkw := h10
  unfold F_NH_whole_c237
  by_cases g11 : p177.1 = (0 : Int32)
  ·
    rw [if_pos g11]
    have g11i : p177.1.toInt = 0 := q_eqI g11
    (unfold QV_whole; dsimp only; first | exact ⟨cAn_o (cAn_z hkw (by with_reducible assumption)) rfl, hb⟩ | exact ⟨cAn_o hkw rfl, hb⟩ | exact ⟨cAn_o (cAn_n hw) rfl, hb⟩ | exact ⟨cAn_o (cAn_z hkw (by with_reducible assumption)) rfl, hb2⟩ | exact ⟨cAn_o hkw rfl, hb2⟩ | exact ⟨cAn_o (cAn_n hw) rfl, hb2⟩)
  ·
    rw [if_neg g11]
    have g11i : p177.1.toInt ≠ 0 := q_neI g11
    (unfold QV_whole; dsimp only; first | exact ⟨cAn_o (cAn_z hkw (by with_reducible assumption)) rfl, hb⟩ | exact ⟨cAn_o hkw rfl, hb⟩ | exact ⟨cAn_o (cAn_n hw) rfl, hb⟩ | exact ⟨cAn_o (cAn_z hkw (by with_reducible assumption)) rfl, hb2⟩ | exact ⟨cAn_o hkw rfl, hb2⟩ | exact ⟨cAn_o (cAn_n hw) rfl, hb2⟩)
theorem V_whole9 {x2 : Int32} {x3 : Int32} {x4 : Int32} {x5 : Int32} {t0_0 : Int32} {t0_1 : Int32} {t1_0 : (Nat → Int32)} {t2_0 : Int32} {t2_1 : Int32} {t3_0 : (Nat → Int32)} {t4_0 : Int32} {t4_1 : Int32} {t5_0 : (Nat → Int32)} {t6_0 : Int32} {t6_1 : Int32} {t7_0 : (Nat → Int32)} {t8_0 : Int32} {t8_1 : Int32} {t9_0 : (Nat → Int32)} {t10_0 : Int32} {t10_1 : Int32} {t11_0 : (Nat → Int32)} {t12_0 : Int32} {t12_1 : Int32} {t13_0 : (Nat → Int32)} {t14_0 : Int32} {t14_1 : Int32} {t15_0 : (Nat → Int32)} {t16_0 : Int32} {t16_1 : Int32} {t17_0 : (Nat → Int32)} {t18_0 : Int32} {t18_1 : Int32} {t19_0 : (Nat → Int32)} {va vb vt : Int} (ha : bO 68 t14_0 t14_1 t15_0 va) (hA : bB 67 va) (hb : bO 68 t16_0 t16_1 t17_0 vb) (hB : bB 67 vb) (hw : bO 68 t18_0 t18_1 t19_0 vt) (e2 : x2 = 9) (hr3 : ¬ F_NH_isRegister x3 = 0) (hr4 : ¬ F_NH_isRegister x4 = 0) (hr5 : ¬ F_NH_isRegister x5 = 0) : QV_whole (some (sMix 1 va vb)) vt vb (F_NH_whole x2 x3 x4 x5 t0_0 t0_1 t1_0 t2_0 t2_1 t3_0 t4_0 t4_1 t5_0 t6_0 t6_1 t7_0 t8_0 t8_1 t9_0 t10_0 t10_1 t11_0 t12_0 t12_1 t13_0 t14_0 t14_1 t15_0 t16_0 t16_1 t17_0 t18_0 t18_1 t19_0) := by
  have e0 : (0 : Int32).toInt = 0 := rfl
  have e220 : (220 : Int32).toInt = 220 := rfl
  have e68 : (68 : Int32).toInt = 68 := rfl
  have sa : t14_0.toInt ≤ 68 := ha.2.2.2.1
  have sb : t16_0.toInt ≤ 68 := hb.2.2.2.1
  unfold F_NH_whole
  have g1 : ¬ (x2 < (0 : Int32)) := (by rw [e2]; decide)
  rw [if_neg g1]
  have g2 : ¬ ((11 : Int32) < x2) := (by rw [e2]; decide)
  rw [if_neg g2]
  rw [if_neg hr3]
  rw [if_neg hr4]
  rw [if_neg hr5]
  unfold F_NH_whole_J37
  have g3 : ((F_NH_need (1 : Int32)) = (0 : Int32)) := (by decide)
  rw [if_pos g3]
  have g4 : ((2 : Int32) < x2) := (by rw [e2]; decide)
  rw [if_pos g4]
  have g5 : ((4 : Int32) < x2) := (by rw [e2]; decide)
  rw [if_pos g5]
  have g6 : ¬ (x2 = (5 : Int32)) := (by rw [e2]; decide)
  rw [if_neg g6]
  have g7 : ¬ (x2 = (6 : Int32)) := (by rw [e2]; decide)
  rw [if_neg g7]
  have g8 : ¬ (x2 = (7 : Int32)) := (by rw [e2]; decide)
  rw [if_neg g8]
  have h9 := V_mixBits (x2 := x2) (R := (68 : Int32)) (R2 := (68 : Int32)) (t0_0 := t0_0) (t0_1 := t0_1) (t1_0 := t1_0) (t2_0 := t14_0) (t2_1 := t14_1) (t3_0 := t15_0) (t4_0 := t16_0) (t4_1 := t16_1) (t5_0 := t17_0) (h := 1) (by decide) (by rw [e2]; rfl) ha hb (by omega) (by omega)
  generalize F_Mil_mixBits x2 (68 : Int32) (68 : Int32) t0_0 t0_1 t1_0 t14_0 t14_1 t15_0 t16_0 t16_1 t17_0 = p154 at h9 ⊢
  have hn := h9
  unfold F_NH_whole_c231
  have h10 := V_keepWhole (x2 := x5) (t0_0 := (p154.1 : Int32)) (t0_1 := (p154.2.1 : Int32)) (t1_0 := (p154.2.2 : (Nat → Int32))) (t2_0 := t18_0) (t2_1 := t18_1) (t3_0 := t19_0) hn (by first | exact hw2 | exact hw)
  generalize F_NH_keepWhole x5 (p154.1 : Int32) (p154.2.1 : Int32) (p154.2.2 : (Nat → Int32)) t18_0 t18_1 t19_0 = p177 at h10 ⊢
  have hkw := h10
  unfold F_NH_whole_c237
  by_cases g11 : p177.1 = (0 : Int32)
  ·
    rw [if_pos g11]
    have g11i : p177.1.toInt = 0 := q_eqI g11
    (unfold QV_whole; dsimp only; first | exact ⟨cAn_o (cAn_z hkw (by with_reducible assumption)) rfl, hb⟩ | exact ⟨cAn_o hkw rfl, hb⟩ | exact ⟨cAn_o (cAn_n hw) rfl, hb⟩ | exact ⟨cAn_o (cAn_z hkw (by with_reducible assumption)) rfl, hb2⟩ | exact ⟨cAn_o hkw rfl, hb2⟩ | exact ⟨cAn_o (cAn_n hw) rfl, hb2⟩)
  ·
    rw [if_neg g11]
    have g11i : p177.1.toInt ≠ 0 := q_neI g11
    (unfold QV_whole; dsimp only; first | exact ⟨cAn_o (cAn_z hkw (by with_reducible assumption)) rfl, hb⟩ | exact ⟨cAn_o hkw rfl, hb⟩ | exact ⟨cAn_o (cAn_n hw) rfl, hb⟩ | exact ⟨cAn_o (cAn_z hkw (by with_reducible assumption)) rfl, hb2⟩ | exact ⟨cAn_o hkw rfl, hb2⟩ | exact ⟨cAn_o (cAn_n hw) rfl, hb2⟩)
theorem V_whole10 {x2 : Int32} {x3 : Int32} {x4 : Int32} {x5 : Int32} {t0_0 : Int32} {t0_1 : Int32} {t1_0 : (Nat → Int32)} {t2_0 : Int32} {t2_1 : Int32} {t3_0 : (Nat → Int32)} {t4_0 : Int32} {t4_1 : Int32} {t5_0 : (Nat → Int32)} {t6_0 : Int32} {t6_1 : Int32} {t7_0 : (Nat → Int32)} {t8_0 : Int32} {t8_1 : Int32} {t9_0 : (Nat → Int32)} {t10_0 : Int32} {t10_1 : Int32} {t11_0 : (Nat → Int32)} {t12_0 : Int32} {t12_1 : Int32} {t13_0 : (Nat → Int32)} {t14_0 : Int32} {t14_1 : Int32} {t15_0 : (Nat → Int32)} {t16_0 : Int32} {t16_1 : Int32} {t17_0 : (Nat → Int32)} {t18_0 : Int32} {t18_1 : Int32} {t19_0 : (Nat → Int32)} {va vb vt : Int} (ha : bO 68 t14_0 t14_1 t15_0 va) (hA : bB 67 va) (hb : bO 68 t16_0 t16_1 t17_0 vb) (hB : bB 67 vb) (hw : bO 68 t18_0 t18_1 t19_0 vt) (e2 : x2 = 10) (hr3 : ¬ F_NH_isRegister x3 = 0) (hr4 : ¬ F_NH_isRegister x4 = 0) (hr5 : ¬ F_NH_isRegister x5 = 0) : QV_whole (some (sMix 2 va vb)) vt vb (F_NH_whole x2 x3 x4 x5 t0_0 t0_1 t1_0 t2_0 t2_1 t3_0 t4_0 t4_1 t5_0 t6_0 t6_1 t7_0 t8_0 t8_1 t9_0 t10_0 t10_1 t11_0 t12_0 t12_1 t13_0 t14_0 t14_1 t15_0 t16_0 t16_1 t17_0 t18_0 t18_1 t19_0) := by
  have e0 : (0 : Int32).toInt = 0 := rfl
  have e220 : (220 : Int32).toInt = 220 := rfl
  have e68 : (68 : Int32).toInt = 68 := rfl
  have sa : t14_0.toInt ≤ 68 := ha.2.2.2.1
  have sb : t16_0.toInt ≤ 68 := hb.2.2.2.1
  unfold F_NH_whole
  have g1 : ¬ (x2 < (0 : Int32)) := (by rw [e2]; decide)
  rw [if_neg g1]
  have g2 : ¬ ((11 : Int32) < x2) := (by rw [e2]; decide)
  rw [if_neg g2]
  rw [if_neg hr3]
  rw [if_neg hr4]
  rw [if_neg hr5]
  unfold F_NH_whole_J37
  have g3 : ((F_NH_need (1 : Int32)) = (0 : Int32)) := (by decide)
  rw [if_pos g3]
  have g4 : ((2 : Int32) < x2) := (by rw [e2]; decide)
  rw [if_pos g4]
  have g5 : ((4 : Int32) < x2) := (by rw [e2]; decide)
  rw [if_pos g5]
  have g6 : ¬ (x2 = (5 : Int32)) := (by rw [e2]; decide)
  rw [if_neg g6]
  have g7 : ¬ (x2 = (6 : Int32)) := (by rw [e2]; decide)
  rw [if_neg g7]
  have g8 : ¬ (x2 = (7 : Int32)) := (by rw [e2]; decide)
  rw [if_neg g8]
  have h9 := V_mixBits (x2 := x2) (R := (68 : Int32)) (R2 := (68 : Int32)) (t0_0 := t0_0) (t0_1 := t0_1) (t1_0 := t1_0) (t2_0 := t14_0) (t2_1 := t14_1) (t3_0 := t15_0) (t4_0 := t16_0) (t4_1 := t16_1) (t5_0 := t17_0) (h := 2) (by decide) (by rw [e2]; rfl) ha hb (by omega) (by omega)
  generalize F_Mil_mixBits x2 (68 : Int32) (68 : Int32) t0_0 t0_1 t1_0 t14_0 t14_1 t15_0 t16_0 t16_1 t17_0 = p154 at h9 ⊢
  have hn := h9
  unfold F_NH_whole_c231
  have h10 := V_keepWhole (x2 := x5) (t0_0 := (p154.1 : Int32)) (t0_1 := (p154.2.1 : Int32)) (t1_0 := (p154.2.2 : (Nat → Int32))) (t2_0 := t18_0) (t2_1 := t18_1) (t3_0 := t19_0) hn (by first | exact hw2 | exact hw)
  generalize F_NH_keepWhole x5 (p154.1 : Int32) (p154.2.1 : Int32) (p154.2.2 : (Nat → Int32)) t18_0 t18_1 t19_0 = p177 at h10 ⊢
  have hkw := h10
  unfold F_NH_whole_c237
  by_cases g11 : p177.1 = (0 : Int32)
  ·
    rw [if_pos g11]
    have g11i : p177.1.toInt = 0 := q_eqI g11
    (unfold QV_whole; dsimp only; first | exact ⟨cAn_o (cAn_z hkw (by with_reducible assumption)) rfl, hb⟩ | exact ⟨cAn_o hkw rfl, hb⟩ | exact ⟨cAn_o (cAn_n hw) rfl, hb⟩ | exact ⟨cAn_o (cAn_z hkw (by with_reducible assumption)) rfl, hb2⟩ | exact ⟨cAn_o hkw rfl, hb2⟩ | exact ⟨cAn_o (cAn_n hw) rfl, hb2⟩)
  ·
    rw [if_neg g11]
    have g11i : p177.1.toInt ≠ 0 := q_neI g11
    (unfold QV_whole; dsimp only; first | exact ⟨cAn_o (cAn_z hkw (by with_reducible assumption)) rfl, hb⟩ | exact ⟨cAn_o hkw rfl, hb⟩ | exact ⟨cAn_o (cAn_n hw) rfl, hb⟩ | exact ⟨cAn_o (cAn_z hkw (by with_reducible assumption)) rfl, hb2⟩ | exact ⟨cAn_o hkw rfl, hb2⟩ | exact ⟨cAn_o (cAn_n hw) rfl, hb2⟩)
theorem V_whole11 {x2 : Int32} {x3 : Int32} {x4 : Int32} {x5 : Int32} {t0_0 : Int32} {t0_1 : Int32} {t1_0 : (Nat → Int32)} {t2_0 : Int32} {t2_1 : Int32} {t3_0 : (Nat → Int32)} {t4_0 : Int32} {t4_1 : Int32} {t5_0 : (Nat → Int32)} {t6_0 : Int32} {t6_1 : Int32} {t7_0 : (Nat → Int32)} {t8_0 : Int32} {t8_1 : Int32} {t9_0 : (Nat → Int32)} {t10_0 : Int32} {t10_1 : Int32} {t11_0 : (Nat → Int32)} {t12_0 : Int32} {t12_1 : Int32} {t13_0 : (Nat → Int32)} {t14_0 : Int32} {t14_1 : Int32} {t15_0 : (Nat → Int32)} {t16_0 : Int32} {t16_1 : Int32} {t17_0 : (Nat → Int32)} {t18_0 : Int32} {t18_1 : Int32} {t19_0 : (Nat → Int32)} {va vb vt : Int} (ha : bO 68 t14_0 t14_1 t15_0 va) (hA : bB 67 va) (hb : bO 68 t16_0 t16_1 t17_0 vb) (hB : bB 67 vb) (hw : bO 68 t18_0 t18_1 t19_0 vt) (e2 : x2 = 11) (hr3 : ¬ F_NH_isRegister x3 = 0) (hr4 : ¬ F_NH_isRegister x4 = 0) (hr5 : ¬ F_NH_isRegister x5 = 0) : QV_whole (some (sMix 3 va vb)) vt vb (F_NH_whole x2 x3 x4 x5 t0_0 t0_1 t1_0 t2_0 t2_1 t3_0 t4_0 t4_1 t5_0 t6_0 t6_1 t7_0 t8_0 t8_1 t9_0 t10_0 t10_1 t11_0 t12_0 t12_1 t13_0 t14_0 t14_1 t15_0 t16_0 t16_1 t17_0 t18_0 t18_1 t19_0) := by
  have e0 : (0 : Int32).toInt = 0 := rfl
  have e220 : (220 : Int32).toInt = 220 := rfl
  have e68 : (68 : Int32).toInt = 68 := rfl
  have sa : t14_0.toInt ≤ 68 := ha.2.2.2.1
  have sb : t16_0.toInt ≤ 68 := hb.2.2.2.1
  unfold F_NH_whole
  have g1 : ¬ (x2 < (0 : Int32)) := (by rw [e2]; decide)
  rw [if_neg g1]
  have g2 : ¬ ((11 : Int32) < x2) := (by rw [e2]; decide)
  rw [if_neg g2]
  rw [if_neg hr3]
  rw [if_neg hr4]
  rw [if_neg hr5]
  unfold F_NH_whole_J37
  have g3 : ((F_NH_need (1 : Int32)) = (0 : Int32)) := (by decide)
  rw [if_pos g3]
  have g4 : ((2 : Int32) < x2) := (by rw [e2]; decide)
  rw [if_pos g4]
  have g5 : ((4 : Int32) < x2) := (by rw [e2]; decide)
  rw [if_pos g5]
  have g6 : ¬ (x2 = (5 : Int32)) := (by rw [e2]; decide)
  rw [if_neg g6]
  have g7 : ¬ (x2 = (6 : Int32)) := (by rw [e2]; decide)
  rw [if_neg g7]
  have g8 : ¬ (x2 = (7 : Int32)) := (by rw [e2]; decide)
  rw [if_neg g8]
  have h9 := V_mixBits (x2 := x2) (R := (68 : Int32)) (R2 := (68 : Int32)) (t0_0 := t0_0) (t0_1 := t0_1) (t1_0 := t1_0) (t2_0 := t14_0) (t2_1 := t14_1) (t3_0 := t15_0) (t4_0 := t16_0) (t4_1 := t16_1) (t5_0 := t17_0) (h := 3) (by decide) (by rw [e2]; rfl) ha hb (by omega) (by omega)
  generalize F_Mil_mixBits x2 (68 : Int32) (68 : Int32) t0_0 t0_1 t1_0 t14_0 t14_1 t15_0 t16_0 t16_1 t17_0 = p154 at h9 ⊢
  have hn := h9
  unfold F_NH_whole_c231
  have h10 := V_keepWhole (x2 := x5) (t0_0 := (p154.1 : Int32)) (t0_1 := (p154.2.1 : Int32)) (t1_0 := (p154.2.2 : (Nat → Int32))) (t2_0 := t18_0) (t2_1 := t18_1) (t3_0 := t19_0) hn (by first | exact hw2 | exact hw)
  generalize F_NH_keepWhole x5 (p154.1 : Int32) (p154.2.1 : Int32) (p154.2.2 : (Nat → Int32)) t18_0 t18_1 t19_0 = p177 at h10 ⊢
  have hkw := h10
  unfold F_NH_whole_c237
  by_cases g11 : p177.1 = (0 : Int32)
  ·
    rw [if_pos g11]
    have g11i : p177.1.toInt = 0 := q_eqI g11
    (unfold QV_whole; dsimp only; first | exact ⟨cAn_o (cAn_z hkw (by with_reducible assumption)) rfl, hb⟩ | exact ⟨cAn_o hkw rfl, hb⟩ | exact ⟨cAn_o (cAn_n hw) rfl, hb⟩ | exact ⟨cAn_o (cAn_z hkw (by with_reducible assumption)) rfl, hb2⟩ | exact ⟨cAn_o hkw rfl, hb2⟩ | exact ⟨cAn_o (cAn_n hw) rfl, hb2⟩)
  ·
    rw [if_neg g11]
    have g11i : p177.1.toInt ≠ 0 := q_neI g11
    (unfold QV_whole; dsimp only; first | exact ⟨cAn_o (cAn_z hkw (by with_reducible assumption)) rfl, hb⟩ | exact ⟨cAn_o hkw rfl, hb⟩ | exact ⟨cAn_o (cAn_n hw) rfl, hb⟩ | exact ⟨cAn_o (cAn_z hkw (by with_reducible assumption)) rfl, hb2⟩ | exact ⟨cAn_o hkw rfl, hb2⟩ | exact ⟨cAn_o (cAn_n hw) rfl, hb2⟩)
theorem V_whole {x2 : Int32} {x3 : Int32} {x4 : Int32} {x5 : Int32} {t0_0 : Int32} {t0_1 : Int32} {t1_0 : (Nat → Int32)} {t2_0 : Int32} {t2_1 : Int32} {t3_0 : (Nat → Int32)} {t4_0 : Int32} {t4_1 : Int32} {t5_0 : (Nat → Int32)} {t6_0 : Int32} {t6_1 : Int32} {t7_0 : (Nat → Int32)} {t8_0 : Int32} {t8_1 : Int32} {t9_0 : (Nat → Int32)} {t10_0 : Int32} {t10_1 : Int32} {t11_0 : (Nat → Int32)} {t12_0 : Int32} {t12_1 : Int32} {t13_0 : (Nat → Int32)} {t14_0 : Int32} {t14_1 : Int32} {t15_0 : (Nat → Int32)} {t16_0 : Int32} {t16_1 : Int32} {t17_0 : (Nat → Int32)} {t18_0 : Int32} {t18_1 : Int32} {t19_0 : (Nat → Int32)} {va vb vt : Int} (ha : bO 68 t14_0 t14_1 t15_0 va) (hA : bB 67 va) (hb : bO 68 t16_0 t16_1 t17_0 vb) (hB : bB 67 vb) (hw : bO 68 t18_0 t18_1 t19_0 vt) (h2 : 0 ≤ x2.toInt ∧ x2.toInt ≤ 11) (hr3 : ¬ F_NH_isRegister x3 = 0) (hr4 : ¬ F_NH_isRegister x4 = 0) (hr5 : ¬ F_NH_isRegister x5 = 0) : QV_whole (sWh x2.toNatClampNeg va vb) vt vb (F_NH_whole x2 x3 x4 x5 t0_0 t0_1 t1_0 t2_0 t2_1 t3_0 t4_0 t4_1 t5_0 t6_0 t6_1 t7_0 t8_0 t8_1 t9_0 t10_0 t10_1 t11_0 t12_0 t12_1 t13_0 t14_0 t14_1 t15_0 t16_0 t16_1 t17_0 t18_0 t18_1 t19_0) := by
  have hc := q_clI (i := x2) rfl h2.1
  have hx : x2 = 0 ∨ x2 = 1 ∨ x2 = 2 ∨ x2 = 3 ∨ x2 = 4 ∨ x2 = 5 ∨ x2 = 6 ∨ x2 = 7 ∨ x2 = 8 ∨ x2 = 9 ∨ x2 = 10 ∨ x2 = 11 := q_x12 h2.1 h2.2
  rcases hx with e | e | e | e | e | e | e | e | e | e | e | e <;> (rw [show x2.toNatClampNeg = _ from congrArg Int32.toNatClampNeg e])
  · exact V_whole0 ha hA hb hB hw e hr3 hr4 hr5
  · exact V_whole1 ha hA hb hB hw e hr3 hr4 hr5
  · exact V_whole2 ha hA hb hB hw e hr3 hr4 hr5
  · exact V_whole3 ha hA hb hB hw e hr3 hr4 hr5
  · exact V_whole4 ha hA hb hB hw e hr3 hr4 hr5
  · exact V_whole5 ha hA hb hB hw e hr3 hr4 hr5
  · exact V_whole6 ha hA hb hB hw e hr3 hr4 hr5
  · exact V_whole7 ha hA hb hB hw e hr3 hr4 hr5
  · exact V_whole8 ha hA hb hB hw e hr3 hr4 hr5
  · exact V_whole9 ha hA hb hB hw e hr3 hr4 hr5
  · exact V_whole10 ha hA hb hB hw e hr3 hr4 hr5
  · exact V_whole11 ha hA hb hB hw e hr3 hr4 hr5
def QV_whole_ab (o : Option Int) (vt vb : Int) (p : Int32 × Int32 × Int32 × (Nat → Int32) × Int32 × Int32 × (Nat → Int32) × Int32 × Int32 × (Nat → Int32) × Int32 × Int32 × (Nat → Int32) × Int32 × Int32 × (Nat → Int32) × Int32 × Int32 × (Nat → Int32) × Int32 × Int32 × (Nat → Int32) × Int32 × Int32 × (Nat → Int32) × Int32 × Int32 × (Nat → Int32)) : Prop := cAn o vt p.1 p.2.2.2.2.2.2.2.2.2.2.2.2.2.2.2.2.2.2.2.2.2.2.2.2.2.1 p.2.2.2.2.2.2.2.2.2.2.2.2.2.2.2.2.2.2.2.2.2.2.2.2.2.2.1 p.2.2.2.2.2.2.2.2.2.2.2.2.2.2.2.2.2.2.2.2.2.2.2.2.2.2.2 ∧ bO 68 p.2.2.2.2.2.2.2.2.2.2.2.2.2.2.2.2.2.2.2.2.2.2.1 p.2.2.2.2.2.2.2.2.2.2.2.2.2.2.2.2.2.2.2.2.2.2.2.1 p.2.2.2.2.2.2.2.2.2.2.2.2.2.2.2.2.2.2.2.2.2.2.2.2.1 vb
theorem V_whole_ab0 {x2 : Int32} {x3 : Int32} {x4 : Int32} {x5 : Int32} {t0_0 : Int32} {t0_1 : Int32} {t1_0 : (Nat → Int32)} {t2_0 : Int32} {t2_1 : Int32} {t3_0 : (Nat → Int32)} {t4_0 : Int32} {t4_1 : Int32} {t5_0 : (Nat → Int32)} {t6_0 : Int32} {t6_1 : Int32} {t7_0 : (Nat → Int32)} {t8_0 : Int32} {t8_1 : Int32} {t9_0 : (Nat → Int32)} {t10_0 : Int32} {t10_1 : Int32} {t11_0 : (Nat → Int32)} {t12_0 : Int32} {t12_1 : Int32} {t13_0 : (Nat → Int32)} {t14_0 : Int32} {t14_1 : Int32} {t15_0 : (Nat → Int32)} {t16_0 : Int32} {t16_1 : Int32} {t17_0 : (Nat → Int32)} {vb vt : Int} (hb : bO 68 t14_0 t14_1 t15_0 vb) (hB : bB 67 vb) (hw : bO 68 t16_0 t16_1 t17_0 vt) (e2 : x2 = 0) (hr3 : ¬ F_NH_isRegister x3 = 0) (hr4 : ¬ F_NH_isRegister x4 = 0) (hr5 : ¬ F_NH_isRegister x5 = 0) : QV_whole_ab (some (vb + vb)) vt vb (F_NH_whole_ab x2 x3 x4 x5 t0_0 t0_1 t1_0 t2_0 t2_1 t3_0 t4_0 t4_1 t5_0 t6_0 t6_1 t7_0 t8_0 t8_1 t9_0 t10_0 t10_1 t11_0 t12_0 t12_1 t13_0 t14_0 t14_1 t15_0 t16_0 t16_1 t17_0) := by
  have e0 : (0 : Int32).toInt = 0 := rfl
  have e220 : (220 : Int32).toInt = 220 := rfl
  have e68 : (68 : Int32).toInt = 68 := rfl
  have sa : t14_0.toInt ≤ 68 := hb.2.2.2.1
  have sb : t14_0.toInt ≤ 68 := hb.2.2.2.1
  unfold F_NH_whole_ab
  have g1 : ¬ (x2 < (0 : Int32)) := (by rw [e2]; decide)
  rw [if_neg g1]
  have g2 : ¬ ((11 : Int32) < x2) := (by rw [e2]; decide)
  rw [if_neg g2]
  rw [if_neg hr3]
  rw [if_neg hr4]
  rw [if_neg hr5]
  unfold F_NH_whole_ab_J37
  have g3 : ((F_NH_need (1 : Int32)) = (0 : Int32)) := (by decide)
  rw [if_pos g3]
  have g4 : ¬ ((2 : Int32) < x2) := (by rw [e2]; decide)
  rw [if_neg g4]
  have h5 := T_addOrMultiply (x2 := x2) (R := (68 : Int32)) (R2 := (68 : Int32)) (t0_0 := t0_0) (t0_1 := t0_1) (t1_0 := t1_0) (t2_0 := t14_0) (t2_1 := t14_1) (t3_0 := t15_0) (t4_0 := t14_0) (t4_1 := t14_1) (t5_0 := t15_0) hb hb (by first | assumption | omega | trivial | decide)
  generalize F_Mil_addOrMultiply x2 (68 : Int32) (68 : Int32) t0_0 t0_1 t1_0 t14_0 t14_1 t15_0 t14_0 t14_1 t15_0 = p1064 at h5 ⊢
  have hn := h5
  rw [if_neg (by rw [e2]; decide), if_neg (by rw [e2]; decide)] at hn
  unfold F_NH_whole_ab_c70
  have h6 := V_keepWhole (x2 := x5) (t0_0 := (p1064.1 : Int32)) (t0_1 := (p1064.2.1 : Int32)) (t1_0 := (p1064.2.2 : (Nat → Int32))) (t2_0 := t16_0) (t2_1 := t16_1) (t3_0 := t17_0) hn (by first | exact hw2 | exact hw)
  generalize F_NH_keepWhole x5 (p1064.1 : Int32) (p1064.2.1 : Int32) (p1064.2.2 : (Nat → Int32)) t16_0 t16_1 t17_0 = p1087 at h6 ⊢
  have hkw := h6
  unfold F_NH_whole_ab_c237_19
  by_cases g7 : p1087.1 = (0 : Int32)
  ·
    rw [if_pos g7]
    have g7i : p1087.1.toInt = 0 := q_eqI g7
    (unfold QV_whole_ab; dsimp only; first | exact ⟨cAn_o (cAn_z hkw (by with_reducible assumption)) rfl, hb⟩ | exact ⟨cAn_o hkw rfl, hb⟩ | exact ⟨cAn_o (cAn_n hw) rfl, hb⟩ | exact ⟨cAn_o (cAn_z hkw (by with_reducible assumption)) rfl, hb2⟩ | exact ⟨cAn_o hkw rfl, hb2⟩ | exact ⟨cAn_o (cAn_n hw) rfl, hb2⟩)
  ·
    rw [if_neg g7]
    have g7i : p1087.1.toInt ≠ 0 := q_neI g7
    (unfold QV_whole_ab; dsimp only; first | exact ⟨cAn_o (cAn_z hkw (by with_reducible assumption)) rfl, hb⟩ | exact ⟨cAn_o hkw rfl, hb⟩ | exact ⟨cAn_o (cAn_n hw) rfl, hb⟩ | exact ⟨cAn_o (cAn_z hkw (by with_reducible assumption)) rfl, hb2⟩ | exact ⟨cAn_o hkw rfl, hb2⟩ | exact ⟨cAn_o (cAn_n hw) rfl, hb2⟩)
theorem V_whole_ab1 {x2 : Int32} {x3 : Int32} {x4 : Int32} {x5 : Int32} {t0_0 : Int32} {t0_1 : Int32} {t1_0 : (Nat → Int32)} {t2_0 : Int32} {t2_1 : Int32} {t3_0 : (Nat → Int32)} {t4_0 : Int32} {t4_1 : Int32} {t5_0 : (Nat → Int32)} {t6_0 : Int32} {t6_1 : Int32} {t7_0 : (Nat → Int32)} {t8_0 : Int32} {t8_1 : Int32} {t9_0 : (Nat → Int32)} {t10_0 : Int32} {t10_1 : Int32} {t11_0 : (Nat → Int32)} {t12_0 : Int32} {t12_1 : Int32} {t13_0 : (Nat → Int32)} {t14_0 : Int32} {t14_1 : Int32} {t15_0 : (Nat → Int32)} {t16_0 : Int32} {t16_1 : Int32} {t17_0 : (Nat → Int32)} {vb vt : Int} (hb : bO 68 t14_0 t14_1 t15_0 vb) (hB : bB 67 vb) (hw : bO 68 t16_0 t16_1 t17_0 vt) (e2 : x2 = 1) (hr3 : ¬ F_NH_isRegister x3 = 0) (hr4 : ¬ F_NH_isRegister x4 = 0) (hr5 : ¬ F_NH_isRegister x5 = 0) : QV_whole_ab (some (vb - vb)) vt vb (F_NH_whole_ab x2 x3 x4 x5 t0_0 t0_1 t1_0 t2_0 t2_1 t3_0 t4_0 t4_1 t5_0 t6_0 t6_1 t7_0 t8_0 t8_1 t9_0 t10_0 t10_1 t11_0 t12_0 t12_1 t13_0 t14_0 t14_1 t15_0 t16_0 t16_1 t17_0) := by
  have e0 : (0 : Int32).toInt = 0 := rfl
  have e220 : (220 : Int32).toInt = 220 := rfl
  have e68 : (68 : Int32).toInt = 68 := rfl
  have sa : t14_0.toInt ≤ 68 := hb.2.2.2.1
  have sb : t14_0.toInt ≤ 68 := hb.2.2.2.1
  unfold F_NH_whole_ab
  have g1 : ¬ (x2 < (0 : Int32)) := (by rw [e2]; decide)
  rw [if_neg g1]
  have g2 : ¬ ((11 : Int32) < x2) := (by rw [e2]; decide)
  rw [if_neg g2]
  rw [if_neg hr3]
  rw [if_neg hr4]
  rw [if_neg hr5]
  unfold F_NH_whole_ab_J37
  have g3 : ((F_NH_need (1 : Int32)) = (0 : Int32)) := (by decide)
  rw [if_pos g3]
  have g4 : ¬ ((2 : Int32) < x2) := (by rw [e2]; decide)
  rw [if_neg g4]
  have h5 := T_addOrMultiply (x2 := x2) (R := (68 : Int32)) (R2 := (68 : Int32)) (t0_0 := t0_0) (t0_1 := t0_1) (t1_0 := t1_0) (t2_0 := t14_0) (t2_1 := t14_1) (t3_0 := t15_0) (t4_0 := t14_0) (t4_1 := t14_1) (t5_0 := t15_0) hb hb (by first | assumption | omega | trivial | decide)
  generalize F_Mil_addOrMultiply x2 (68 : Int32) (68 : Int32) t0_0 t0_1 t1_0 t14_0 t14_1 t15_0 t14_0 t14_1 t15_0 = p1064 at h5 ⊢
  have hn := h5
  rw [if_neg (by rw [e2]; decide), if_pos e2] at hn
  unfold F_NH_whole_ab_c70
  have h6 := V_keepWhole (x2 := x5) (t0_0 := (p1064.1 : Int32)) (t0_1 := (p1064.2.1 : Int32)) (t1_0 := (p1064.2.2 : (Nat → Int32))) (t2_0 := t16_0) (t2_1 := t16_1) (t3_0 := t17_0) hn (by first | exact hw2 | exact hw)
  generalize F_NH_keepWhole x5 (p1064.1 : Int32) (p1064.2.1 : Int32) (p1064.2.2 : (Nat → Int32)) t16_0 t16_1 t17_0 = p1087 at h6 ⊢
  have hkw := h6
  unfold F_NH_whole_ab_c237_19
  by_cases g7 : p1087.1 = (0 : Int32)
  ·
    rw [if_pos g7]
    have g7i : p1087.1.toInt = 0 := q_eqI g7
    (unfold QV_whole_ab; dsimp only; first | exact ⟨cAn_o (cAn_z hkw (by with_reducible assumption)) rfl, hb⟩ | exact ⟨cAn_o hkw rfl, hb⟩ | exact ⟨cAn_o (cAn_n hw) rfl, hb⟩ | exact ⟨cAn_o (cAn_z hkw (by with_reducible assumption)) rfl, hb2⟩ | exact ⟨cAn_o hkw rfl, hb2⟩ | exact ⟨cAn_o (cAn_n hw) rfl, hb2⟩)
  ·
    rw [if_neg g7]
    have g7i : p1087.1.toInt ≠ 0 := q_neI g7
    (unfold QV_whole_ab; dsimp only; first | exact ⟨cAn_o (cAn_z hkw (by with_reducible assumption)) rfl, hb⟩ | exact ⟨cAn_o hkw rfl, hb⟩ | exact ⟨cAn_o (cAn_n hw) rfl, hb⟩ | exact ⟨cAn_o (cAn_z hkw (by with_reducible assumption)) rfl, hb2⟩ | exact ⟨cAn_o hkw rfl, hb2⟩ | exact ⟨cAn_o (cAn_n hw) rfl, hb2⟩)
theorem V_whole_ab2 {x2 : Int32} {x3 : Int32} {x4 : Int32} {x5 : Int32} {t0_0 : Int32} {t0_1 : Int32} {t1_0 : (Nat → Int32)} {t2_0 : Int32} {t2_1 : Int32} {t3_0 : (Nat → Int32)} {t4_0 : Int32} {t4_1 : Int32} {t5_0 : (Nat → Int32)} {t6_0 : Int32} {t6_1 : Int32} {t7_0 : (Nat → Int32)} {t8_0 : Int32} {t8_1 : Int32} {t9_0 : (Nat → Int32)} {t10_0 : Int32} {t10_1 : Int32} {t11_0 : (Nat → Int32)} {t12_0 : Int32} {t12_1 : Int32} {t13_0 : (Nat → Int32)} {t14_0 : Int32} {t14_1 : Int32} {t15_0 : (Nat → Int32)} {t16_0 : Int32} {t16_1 : Int32} {t17_0 : (Nat → Int32)} {vb vt : Int} (hb : bO 68 t14_0 t14_1 t15_0 vb) (hB : bB 67 vb) (hw : bO 68 t16_0 t16_1 t17_0 vt) (e2 : x2 = 2) (hr3 : ¬ F_NH_isRegister x3 = 0) (hr4 : ¬ F_NH_isRegister x4 = 0) (hr5 : ¬ F_NH_isRegister x5 = 0) : QV_whole_ab (some (vb * vb)) vt vb (F_NH_whole_ab x2 x3 x4 x5 t0_0 t0_1 t1_0 t2_0 t2_1 t3_0 t4_0 t4_1 t5_0 t6_0 t6_1 t7_0 t8_0 t8_1 t9_0 t10_0 t10_1 t11_0 t12_0 t12_1 t13_0 t14_0 t14_1 t15_0 t16_0 t16_1 t17_0) := by
  have e0 : (0 : Int32).toInt = 0 := rfl
  have e220 : (220 : Int32).toInt = 220 := rfl
  have e68 : (68 : Int32).toInt = 68 := rfl
  have sa : t14_0.toInt ≤ 68 := hb.2.2.2.1
  have sb : t14_0.toInt ≤ 68 := hb.2.2.2.1
  unfold F_NH_whole_ab
  have g1 : ¬ (x2 < (0 : Int32)) := (by rw [e2]; decide)
  rw [if_neg g1]
  have g2 : ¬ ((11 : Int32) < x2) := (by rw [e2]; decide)
  rw [if_neg g2]
  rw [if_neg hr3]
  rw [if_neg hr4]
  rw [if_neg hr5]
  unfold F_NH_whole_ab_J37
  have g3 : ((F_NH_need (1 : Int32)) = (0 : Int32)) := (by decide)
  rw [if_pos g3]
  have g4 : ¬ ((2 : Int32) < x2) := (by rw [e2]; decide)
  rw [if_neg g4]
  have h5 := T_addOrMultiply (x2 := x2) (R := (68 : Int32)) (R2 := (68 : Int32)) (t0_0 := t0_0) (t0_1 := t0_1) (t1_0 := t1_0) (t2_0 := t14_0) (t2_1 := t14_1) (t3_0 := t15_0) (t4_0 := t14_0) (t4_1 := t14_1) (t5_0 := t15_0) hb hb (by first | assumption | omega | trivial | decide)
  generalize F_Mil_addOrMultiply x2 (68 : Int32) (68 : Int32) t0_0 t0_1 t1_0 t14_0 t14_1 t15_0 t14_0 t14_1 t15_0 = p1064 at h5 ⊢
  have hn := h5
  rw [if_pos e2] at hn
  unfold F_NH_whole_ab_c70
  have h6 := V_keepWhole (x2 := x5) (t0_0 := (p1064.1 : Int32)) (t0_1 := (p1064.2.1 : Int32)) (t1_0 := (p1064.2.2 : (Nat → Int32))) (t2_0 := t16_0) (t2_1 := t16_1) (t3_0 := t17_0) hn (by first | exact hw2 | exact hw)
  generalize F_NH_keepWhole x5 (p1064.1 : Int32) (p1064.2.1 : Int32) (p1064.2.2 : (Nat → Int32)) t16_0 t16_1 t17_0 = p1087 at h6 ⊢
  have hkw := h6
  unfold F_NH_whole_ab_c237_19
  by_cases g7 : p1087.1 = (0 : Int32)
  ·
    rw [if_pos g7]
    have g7i : p1087.1.toInt = 0 := q_eqI g7
    (unfold QV_whole_ab; dsimp only; first | exact ⟨cAn_o (cAn_z hkw (by with_reducible assumption)) rfl, hb⟩ | exact ⟨cAn_o hkw rfl, hb⟩ | exact ⟨cAn_o (cAn_n hw) rfl, hb⟩ | exact ⟨cAn_o (cAn_z hkw (by with_reducible assumption)) rfl, hb2⟩ | exact ⟨cAn_o hkw rfl, hb2⟩ | exact ⟨cAn_o (cAn_n hw) rfl, hb2⟩)
  ·
    rw [if_neg g7]
    have g7i : p1087.1.toInt ≠ 0 := q_neI g7
    (unfold QV_whole_ab; dsimp only; first | exact ⟨cAn_o (cAn_z hkw (by with_reducible assumption)) rfl, hb⟩ | exact ⟨cAn_o hkw rfl, hb⟩ | exact ⟨cAn_o (cAn_n hw) rfl, hb⟩ | exact ⟨cAn_o (cAn_z hkw (by with_reducible assumption)) rfl, hb2⟩ | exact ⟨cAn_o hkw rfl, hb2⟩ | exact ⟨cAn_o (cAn_n hw) rfl, hb2⟩)
theorem V_whole_ab3 {x2 : Int32} {x3 : Int32} {x4 : Int32} {x5 : Int32} {t0_0 : Int32} {t0_1 : Int32} {t1_0 : (Nat → Int32)} {t2_0 : Int32} {t2_1 : Int32} {t3_0 : (Nat → Int32)} {t4_0 : Int32} {t4_1 : Int32} {t5_0 : (Nat → Int32)} {t6_0 : Int32} {t6_1 : Int32} {t7_0 : (Nat → Int32)} {t8_0 : Int32} {t8_1 : Int32} {t9_0 : (Nat → Int32)} {t10_0 : Int32} {t10_1 : Int32} {t11_0 : (Nat → Int32)} {t12_0 : Int32} {t12_1 : Int32} {t13_0 : (Nat → Int32)} {t14_0 : Int32} {t14_1 : Int32} {t15_0 : (Nat → Int32)} {t16_0 : Int32} {t16_1 : Int32} {t17_0 : (Nat → Int32)} {vb vt : Int} (hb : bO 68 t14_0 t14_1 t15_0 vb) (hB : bB 67 vb) (hw : bO 68 t16_0 t16_1 t17_0 vt) (e2 : x2 = 3) (hr3 : ¬ F_NH_isRegister x3 = 0) (hr4 : ¬ F_NH_isRegister x4 = 0) (hr5 : ¬ F_NH_isRegister x5 = 0) : QV_whole_ab (if vb = 0 then none else some (vb.tdiv vb)) vt vb (F_NH_whole_ab x2 x3 x4 x5 t0_0 t0_1 t1_0 t2_0 t2_1 t3_0 t4_0 t4_1 t5_0 t6_0 t6_1 t7_0 t8_0 t8_1 t9_0 t10_0 t10_1 t11_0 t12_0 t12_1 t13_0 t14_0 t14_1 t15_0 t16_0 t16_1 t17_0) := by
  have e0 : (0 : Int32).toInt = 0 := rfl
  have e220 : (220 : Int32).toInt = 220 := rfl
  have e68 : (68 : Int32).toInt = 68 := rfl
  have sa : t14_0.toInt ≤ 68 := hb.2.2.2.1
  have sb : t14_0.toInt ≤ 68 := hb.2.2.2.1
  unfold F_NH_whole_ab
  have g1 : ¬ (x2 < (0 : Int32)) := (by rw [e2]; decide)
  rw [if_neg g1]
  have g2 : ¬ ((11 : Int32) < x2) := (by rw [e2]; decide)
  rw [if_neg g2]
  rw [if_neg hr3]
  rw [if_neg hr4]
  rw [if_neg hr5]
  unfold F_NH_whole_ab_J37
  have g3 : ((F_NH_need (1 : Int32)) = (0 : Int32)) := (by decide)
  rw [if_pos g3]
  have g4 : ((2 : Int32) < x2) := (by rw [e2]; decide)
  rw [if_pos g4]
  have g5 : ¬ ((4 : Int32) < x2) := (by rw [e2]; decide)
  rw [if_neg g5]
  by_cases g6 : t14_0 ≤ (0 : Int32)
  ·
    rw [if_pos g6]
    have hvz : vb = 0 := Classical.byContradiction (fun c => absurd (q_leI g6) (by have := hb.pos.mpr c; omega))
    unfold F_NH_whole_ab_J94
    have g7 : ¬ ((F_NH_canHave (0 : Int32)) = (0 : Int32)) := (by decide)
    rw [if_neg g7]
    (unfold QV_whole_ab; dsimp only; first | exact ⟨cAn_o (cAn_z hkw (by with_reducible assumption)) (by rw [if_pos hvz]), hb⟩ | exact ⟨cAn_o hkw (by rw [if_pos hvz]), hb⟩ | exact ⟨cAn_o (cAn_n hw) (by rw [if_pos hvz]), hb⟩ | exact ⟨cAn_o (cAn_z hkw (by with_reducible assumption)) (by rw [if_neg hvz]), hb⟩ | exact ⟨cAn_o hkw (by rw [if_neg hvz]), hb⟩ | exact ⟨cAn_o (cAn_n hw) (by rw [if_neg hvz]), hb⟩ | exact ⟨cAn_o (cAn_z hkw (by with_reducible assumption)) (by rw [if_pos hvz]), hb2⟩ | exact ⟨cAn_o hkw (by rw [if_pos hvz]), hb2⟩ | exact ⟨cAn_o (cAn_n hw) (by rw [if_pos hvz]), hb2⟩ | exact ⟨cAn_o (cAn_z hkw (by with_reducible assumption)) (by rw [if_neg hvz]), hb2⟩ | exact ⟨cAn_o hkw (by rw [if_neg hvz]), hb2⟩ | exact ⟨cAn_o (cAn_n hw) (by rw [if_neg hvz]), hb2⟩)
  ·
    rw [if_neg g6]
    have hvz : vb ≠ 0 := hb.pos.mp (by have := q_nleI g6; omega)
    have g6i := q_nleI g6
    unfold F_NH_whole_ab_J94
    have g8 : ((F_NH_canHave (1 : Int32)) = (0 : Int32)) := (by decide)
    rw [if_pos g8]
    rw [if_pos e2]
    have h9 := T_quotientOrRest_a (x2 := (1 : Int32)) (R3 := (68 : Int32)) (t0_0 := t0_0) (t0_1 := t0_1) (t1_0 := t1_0) (t2_0 := t2_0) (t2_1 := t2_1) (t3_0 := t3_0) (t4_0 := t14_0) (t4_1 := t14_1) (t5_0 := t15_0) hb (hb.pos.mp (by omega)) (hB.mono (by decide))
    replace h9 := h9.2
    generalize F_Mil_quotientOrRest_a (1 : Int32) (68 : Int32) t0_0 t0_1 t1_0 t2_0 t2_1 t3_0 t14_0 t14_1 t15_0 = p986 at h9 ⊢
    have hn := h9.1
    rw [if_neg (by decide)] at hn
    have hb2 := h9.2.2
    unfold F_NH_whole_ab_c115_16
    have h10 := V_keepWhole (x2 := x5) (t0_0 := (p986.1 : Int32)) (t0_1 := (p986.2.1 : Int32)) (t1_0 := (p986.2.2.1 : (Nat → Int32))) (t2_0 := t16_0) (t2_1 := t16_1) (t3_0 := t17_0) hn (by first | exact hw2 | exact hw)
    generalize F_NH_keepWhole x5 (p986.1 : Int32) (p986.2.1 : Int32) (p986.2.2.1 : (Nat → Int32)) t16_0 t16_1 t17_0 = p1015 at h10 ⊢
    have hkw := h10
    unfold F_NH_whole_ab_c237_17
    by_cases g11 : p1015.1 = (0 : Int32)
    ·
      rw [if_pos g11]
      have g11i : p1015.1.toInt = 0 := q_eqI g11
      (unfold QV_whole_ab; dsimp only; first | exact ⟨cAn_o (cAn_z hkw (by with_reducible assumption)) (by rw [if_pos hvz]), hb⟩ | exact ⟨cAn_o hkw (by rw [if_pos hvz]), hb⟩ | exact ⟨cAn_o (cAn_n hw) (by rw [if_pos hvz]), hb⟩ | exact ⟨cAn_o (cAn_z hkw (by with_reducible assumption)) (by rw [if_neg hvz]), hb⟩ | exact ⟨cAn_o hkw (by rw [if_neg hvz]), hb⟩ | exact ⟨cAn_o (cAn_n hw) (by rw [if_neg hvz]), hb⟩ | exact ⟨cAn_o (cAn_z hkw (by with_reducible assumption)) (by rw [if_pos hvz]), hb2⟩ | exact ⟨cAn_o hkw (by rw [if_pos hvz]), hb2⟩ | exact ⟨cAn_o (cAn_n hw) (by rw [if_pos hvz]), hb2⟩ | exact ⟨cAn_o (cAn_z hkw (by with_reducible assumption)) (by rw [if_neg hvz]), hb2⟩ | exact ⟨cAn_o hkw (by rw [if_neg hvz]), hb2⟩ | exact ⟨cAn_o (cAn_n hw) (by rw [if_neg hvz]), hb2⟩)
    ·
      rw [if_neg g11]
      have g11i : p1015.1.toInt ≠ 0 := q_neI g11
      (unfold QV_whole_ab; dsimp only; first | exact ⟨cAn_o (cAn_z hkw (by with_reducible assumption)) (by rw [if_pos hvz]), hb⟩ | exact ⟨cAn_o hkw (by rw [if_pos hvz]), hb⟩ | exact ⟨cAn_o (cAn_n hw) (by rw [if_pos hvz]), hb⟩ | exact ⟨cAn_o (cAn_z hkw (by with_reducible assumption)) (by rw [if_neg hvz]), hb⟩ | exact ⟨cAn_o hkw (by rw [if_neg hvz]), hb⟩ | exact ⟨cAn_o (cAn_n hw) (by rw [if_neg hvz]), hb⟩ | exact ⟨cAn_o (cAn_z hkw (by with_reducible assumption)) (by rw [if_pos hvz]), hb2⟩ | exact ⟨cAn_o hkw (by rw [if_pos hvz]), hb2⟩ | exact ⟨cAn_o (cAn_n hw) (by rw [if_pos hvz]), hb2⟩ | exact ⟨cAn_o (cAn_z hkw (by with_reducible assumption)) (by rw [if_neg hvz]), hb2⟩ | exact ⟨cAn_o hkw (by rw [if_neg hvz]), hb2⟩ | exact ⟨cAn_o (cAn_n hw) (by rw [if_neg hvz]), hb2⟩)
theorem V_whole_ab4 {x2 : Int32} {x3 : Int32} {x4 : Int32} {x5 : Int32} {t0_0 : Int32} {t0_1 : Int32} {t1_0 : (Nat → Int32)} {t2_0 : Int32} {t2_1 : Int32} {t3_0 : (Nat → Int32)} {t4_0 : Int32} {t4_1 : Int32} {t5_0 : (Nat → Int32)} {t6_0 : Int32} {t6_1 : Int32} {t7_0 : (Nat → Int32)} {t8_0 : Int32} {t8_1 : Int32} {t9_0 : (Nat → Int32)} {t10_0 : Int32} {t10_1 : Int32} {t11_0 : (Nat → Int32)} {t12_0 : Int32} {t12_1 : Int32} {t13_0 : (Nat → Int32)} {t14_0 : Int32} {t14_1 : Int32} {t15_0 : (Nat → Int32)} {t16_0 : Int32} {t16_1 : Int32} {t17_0 : (Nat → Int32)} {vb vt : Int} (hb : bO 68 t14_0 t14_1 t15_0 vb) (hB : bB 67 vb) (hw : bO 68 t16_0 t16_1 t17_0 vt) (e2 : x2 = 4) (hr3 : ¬ F_NH_isRegister x3 = 0) (hr4 : ¬ F_NH_isRegister x4 = 0) (hr5 : ¬ F_NH_isRegister x5 = 0) : QV_whole_ab (if vb = 0 then none else some (vb.tmod vb)) vt vb (F_NH_whole_ab x2 x3 x4 x5 t0_0 t0_1 t1_0 t2_0 t2_1 t3_0 t4_0 t4_1 t5_0 t6_0 t6_1 t7_0 t8_0 t8_1 t9_0 t10_0 t10_1 t11_0 t12_0 t12_1 t13_0 t14_0 t14_1 t15_0 t16_0 t16_1 t17_0) := by
  have e0 : (0 : Int32).toInt = 0 := rfl
  have e220 : (220 : Int32).toInt = 220 := rfl
  have e68 : (68 : Int32).toInt = 68 := rfl
  have sa : t14_0.toInt ≤ 68 := hb.2.2.2.1
  have sb : t14_0.toInt ≤ 68 := hb.2.2.2.1
  unfold F_NH_whole_ab
  have g1 : ¬ (x2 < (0 : Int32)) := (by rw [e2]; decide)
  rw [if_neg g1]
  have g2 : ¬ ((11 : Int32) < x2) := (by rw [e2]; decide)
  rw [if_neg g2]
  rw [if_neg hr3]
  rw [if_neg hr4]
  rw [if_neg hr5]
  unfold F_NH_whole_ab_J37
  have g3 : ((F_NH_need (1 : Int32)) = (0 : Int32)) := (by decide)
  rw [if_pos g3]
  have g4 : ((2 : Int32) < x2) := (by rw [e2]; decide)
  rw [if_pos g4]
  have g5 : ¬ ((4 : Int32) < x2) := (by rw [e2]; decide)
  rw [if_neg g5]
  by_cases g6 : t14_0 ≤ (0 : Int32)
  ·
    rw [if_pos g6]
    have hvz : vb = 0 := Classical.byContradiction (fun c => absurd (q_leI g6) (by have := hb.pos.mpr c; omega))
    unfold F_NH_whole_ab_J94
    have g7 : ¬ ((F_NH_canHave (0 : Int32)) = (0 : Int32)) := (by decide)
    rw [if_neg g7]
    (unfold QV_whole_ab; dsimp only; first | exact ⟨cAn_o (cAn_z hkw (by with_reducible assumption)) (by rw [if_pos hvz]), hb⟩ | exact ⟨cAn_o hkw (by rw [if_pos hvz]), hb⟩ | exact ⟨cAn_o (cAn_n hw) (by rw [if_pos hvz]), hb⟩ | exact ⟨cAn_o (cAn_z hkw (by with_reducible assumption)) (by rw [if_neg hvz]), hb⟩ | exact ⟨cAn_o hkw (by rw [if_neg hvz]), hb⟩ | exact ⟨cAn_o (cAn_n hw) (by rw [if_neg hvz]), hb⟩ | exact ⟨cAn_o (cAn_z hkw (by with_reducible assumption)) (by rw [if_pos hvz]), hb2⟩ | exact ⟨cAn_o hkw (by rw [if_pos hvz]), hb2⟩ | exact ⟨cAn_o (cAn_n hw) (by rw [if_pos hvz]), hb2⟩ | exact ⟨cAn_o (cAn_z hkw (by with_reducible assumption)) (by rw [if_neg hvz]), hb2⟩ | exact ⟨cAn_o hkw (by rw [if_neg hvz]), hb2⟩ | exact ⟨cAn_o (cAn_n hw) (by rw [if_neg hvz]), hb2⟩)
  ·
    rw [if_neg g6]
    have hvz : vb ≠ 0 := hb.pos.mp (by have := q_nleI g6; omega)
    have g6i := q_nleI g6
    unfold F_NH_whole_ab_J94
    have g8 : ((F_NH_canHave (1 : Int32)) = (0 : Int32)) := (by decide)
    rw [if_pos g8]
    have g9 : ¬ (x2 = (3 : Int32)) := (by rw [e2]; decide)
    rw [if_neg g9]
    have h10 := T_quotientOrRest_a (x2 := (0 : Int32)) (R3 := (68 : Int32)) (t0_0 := t0_0) (t0_1 := t0_1) (t1_0 := t1_0) (t2_0 := t2_0) (t2_1 := t2_1) (t3_0 := t3_0) (t4_0 := t14_0) (t4_1 := t14_1) (t5_0 := t15_0) hb (hb.pos.mp (by omega)) (hB.mono (by decide))
    replace h10 := h10.2
    generalize F_Mil_quotientOrRest_a (0 : Int32) (68 : Int32) t0_0 t0_1 t1_0 t2_0 t2_1 t3_0 t14_0 t14_1 t15_0 = p890 at h10 ⊢
    have hn := h10.1
    rw [if_pos rfl] at hn
    have hb2 := h10.2.2
    unfold F_NH_whole_ab_c115
    have h11 := V_keepWhole (x2 := x5) (t0_0 := (p890.1 : Int32)) (t0_1 := (p890.2.1 : Int32)) (t1_0 := (p890.2.2.1 : (Nat → Int32))) (t2_0 := t16_0) (t2_1 := t16_1) (t3_0 := t17_0) hn (by first | exact hw2 | exact hw)
    generalize F_NH_keepWhole x5 (p890.1 : Int32) (p890.2.1 : Int32) (p890.2.2.1 : (Nat → Int32)) t16_0 t16_1 t17_0 = p919 at h11 ⊢
    have hkw := h11
    unfold F_NH_whole_ab_c237_15
    by_cases g12 : p919.1 = (0 : Int32)
    ·
      rw [if_pos g12]
      have g12i : p919.1.toInt = 0 := q_eqI g12
      (unfold QV_whole_ab; dsimp only; first | exact ⟨cAn_o (cAn_z hkw (by with_reducible assumption)) (by rw [if_pos hvz]), hb⟩ | exact ⟨cAn_o hkw (by rw [if_pos hvz]), hb⟩ | exact ⟨cAn_o (cAn_n hw) (by rw [if_pos hvz]), hb⟩ | exact ⟨cAn_o (cAn_z hkw (by with_reducible assumption)) (by rw [if_neg hvz]), hb⟩ | exact ⟨cAn_o hkw (by rw [if_neg hvz]), hb⟩ | exact ⟨cAn_o (cAn_n hw) (by rw [if_neg hvz]), hb⟩ | exact ⟨cAn_o (cAn_z hkw (by with_reducible assumption)) (by rw [if_pos hvz]), hb2⟩ | exact ⟨cAn_o hkw (by rw [if_pos hvz]), hb2⟩ | exact ⟨cAn_o (cAn_n hw) (by rw [if_pos hvz]), hb2⟩ | exact ⟨cAn_o (cAn_z hkw (by with_reducible assumption)) (by rw [if_neg hvz]), hb2⟩ | exact ⟨cAn_o hkw (by rw [if_neg hvz]), hb2⟩ | exact ⟨cAn_o (cAn_n hw) (by rw [if_neg hvz]), hb2⟩)
    ·
      rw [if_neg g12]
      have g12i : p919.1.toInt ≠ 0 := q_neI g12
      (unfold QV_whole_ab; dsimp only; first | exact ⟨cAn_o (cAn_z hkw (by with_reducible assumption)) (by rw [if_pos hvz]), hb⟩ | exact ⟨cAn_o hkw (by rw [if_pos hvz]), hb⟩ | exact ⟨cAn_o (cAn_n hw) (by rw [if_pos hvz]), hb⟩ | exact ⟨cAn_o (cAn_z hkw (by with_reducible assumption)) (by rw [if_neg hvz]), hb⟩ | exact ⟨cAn_o hkw (by rw [if_neg hvz]), hb⟩ | exact ⟨cAn_o (cAn_n hw) (by rw [if_neg hvz]), hb⟩ | exact ⟨cAn_o (cAn_z hkw (by with_reducible assumption)) (by rw [if_pos hvz]), hb2⟩ | exact ⟨cAn_o hkw (by rw [if_pos hvz]), hb2⟩ | exact ⟨cAn_o (cAn_n hw) (by rw [if_pos hvz]), hb2⟩ | exact ⟨cAn_o (cAn_z hkw (by with_reducible assumption)) (by rw [if_neg hvz]), hb2⟩ | exact ⟨cAn_o hkw (by rw [if_neg hvz]), hb2⟩ | exact ⟨cAn_o (cAn_n hw) (by rw [if_neg hvz]), hb2⟩)
theorem V_whole_ab5 {x2 : Int32} {x3 : Int32} {x4 : Int32} {x5 : Int32} {t0_0 : Int32} {t0_1 : Int32} {t1_0 : (Nat → Int32)} {t2_0 : Int32} {t2_1 : Int32} {t3_0 : (Nat → Int32)} {t4_0 : Int32} {t4_1 : Int32} {t5_0 : (Nat → Int32)} {t6_0 : Int32} {t6_1 : Int32} {t7_0 : (Nat → Int32)} {t8_0 : Int32} {t8_1 : Int32} {t9_0 : (Nat → Int32)} {t10_0 : Int32} {t10_1 : Int32} {t11_0 : (Nat → Int32)} {t12_0 : Int32} {t12_1 : Int32} {t13_0 : (Nat → Int32)} {t14_0 : Int32} {t14_1 : Int32} {t15_0 : (Nat → Int32)} {t16_0 : Int32} {t16_1 : Int32} {t17_0 : (Nat → Int32)} {vb vt : Int} (hb : bO 68 t14_0 t14_1 t15_0 vb) (hB : bB 67 vb) (hw : bO 68 t16_0 t16_1 t17_0 vt) (e2 : x2 = 5) (hr3 : ¬ F_NH_isRegister x3 = 0) (hr4 : ¬ F_NH_isRegister x4 = 0) (hr5 : ¬ F_NH_isRegister x5 = 0) : QV_whole_ab (if vb ≤ 0 then none else some (vb % vb)) vt vb (F_NH_whole_ab x2 x3 x4 x5 t0_0 t0_1 t1_0 t2_0 t2_1 t3_0 t4_0 t4_1 t5_0 t6_0 t6_1 t7_0 t8_0 t8_1 t9_0 t10_0 t10_1 t11_0 t12_0 t12_1 t13_0 t14_0 t14_1 t15_0 t16_0 t16_1 t17_0) := by
  have e0 : (0 : Int32).toInt = 0 := rfl
  have e220 : (220 : Int32).toInt = 220 := rfl
  have e68 : (68 : Int32).toInt = 68 := rfl
  have sa : t14_0.toInt ≤ 68 := hb.2.2.2.1
  have sb : t14_0.toInt ≤ 68 := hb.2.2.2.1
  unfold F_NH_whole_ab
  have g1 : ¬ (x2 < (0 : Int32)) := (by rw [e2]; decide)
  rw [if_neg g1]
  have g2 : ¬ ((11 : Int32) < x2) := (by rw [e2]; decide)
  rw [if_neg g2]
  rw [if_neg hr3]
  rw [if_neg hr4]
  rw [if_neg hr5]
  unfold F_NH_whole_ab_J37
  have g3 : ((F_NH_need (1 : Int32)) = (0 : Int32)) := (by decide)
  rw [if_pos g3]
  have g4 : ((2 : Int32) < x2) := (by rw [e2]; decide)
  rw [if_pos g4]
  have g5 : ((4 : Int32) < x2) := (by rw [e2]; decide)
  rw [if_pos g5]
  rw [if_pos e2]
  by_cases g6 : ((F_Big_sign (68 : Int32) t14_0 t14_1) : Int32) ≤ (0 : Int32)
  ·
    rw [if_pos g6]
    have hvs := v_sgnP0 hb g6
    unfold F_NH_whole_ab_J139
    have g7 : ¬ ((F_NH_canHave (0 : Int32)) = (0 : Int32)) := (by decide)
    rw [if_neg g7]
    (unfold QV_whole_ab; dsimp only; first | exact ⟨cAn_o (cAn_z hkw (by with_reducible assumption)) (by rw [if_pos hvs]), hb⟩ | exact ⟨cAn_o hkw (by rw [if_pos hvs]), hb⟩ | exact ⟨cAn_o (cAn_n hw) (by rw [if_pos hvs]), hb⟩ | exact ⟨cAn_o (cAn_z hkw (by with_reducible assumption)) (by rw [if_neg (show ¬ vb ≤ 0 by omega)]), hb⟩ | exact ⟨cAn_o hkw (by rw [if_neg (show ¬ vb ≤ 0 by omega)]), hb⟩ | exact ⟨cAn_o (cAn_n hw) (by rw [if_neg (show ¬ vb ≤ 0 by omega)]), hb⟩ | exact ⟨cAn_o (cAn_z hkw (by with_reducible assumption)) (by rw [if_pos hvs]), hb2⟩ | exact ⟨cAn_o hkw (by rw [if_pos hvs]), hb2⟩ | exact ⟨cAn_o (cAn_n hw) (by rw [if_pos hvs]), hb2⟩ | exact ⟨cAn_o (cAn_z hkw (by with_reducible assumption)) (by rw [if_neg (show ¬ vb ≤ 0 by omega)]), hb2⟩ | exact ⟨cAn_o hkw (by rw [if_neg (show ¬ vb ≤ 0 by omega)]), hb2⟩ | exact ⟨cAn_o (cAn_n hw) (by rw [if_neg (show ¬ vb ≤ 0 by omega)]), hb2⟩)
  ·
    rw [if_neg g6]
    have hvs := v_sgnP hb g6
    unfold F_NH_whole_ab_J139
    have g8 : ((F_NH_canHave (1 : Int32)) = (0 : Int32)) := (by decide)
    rw [if_pos g8]
    have h9 := T_modulo_a (R2 := (68 : Int32)) (R4 := (220 : Int32)) (t0_0 := t2_0) (t0_1 := t2_1) (t1_0 := t3_0) (t2_0 := t14_0) (t2_1 := t14_1) (t3_0 := t15_0) (t4_0 := t0_0) (t4_1 := t0_1) (t5_0 := t1_0) hb (by omega) hB (by decide) (by decide)
    replace h9 := h9.2
    generalize F_Mil_modulo_a (68 : Int32) (220 : Int32) t2_0 t2_1 t3_0 t14_0 t14_1 t15_0 t0_0 t0_1 t1_0 = p753 at h9 ⊢
    have hn := h9.2.2
    rw [v_mod0 hvs] at hn
    have hb2 := h9.2.1
    unfold F_NH_whole_ab_c157
    have h10 := V_keepWhole (x2 := x5) (t0_0 := (p753.2.2.2.2.2.2.1 : Int32)) (t0_1 := (p753.2.2.2.2.2.2.2.1 : Int32)) (t1_0 := (p753.2.2.2.2.2.2.2.2 : (Nat → Int32))) (t2_0 := t16_0) (t2_1 := t16_1) (t3_0 := t17_0) hn (by first | exact hw2 | exact hw)
    generalize F_NH_keepWhole x5 (p753.2.2.2.2.2.2.1 : Int32) (p753.2.2.2.2.2.2.2.1 : Int32) (p753.2.2.2.2.2.2.2.2 : (Nat → Int32)) t16_0 t16_1 t17_0 = p782 at h10 ⊢
    have hkw := h10
    unfold F_NH_whole_ab_c237_12
    by_cases g11 : p782.1 = (0 : Int32)
    ·
      rw [if_pos g11]
      have g11i : p782.1.toInt = 0 := q_eqI g11
      (unfold QV_whole_ab; dsimp only; first | exact ⟨cAn_o (cAn_z hkw (by with_reducible assumption)) (by rw [if_pos hvs]), hb⟩ | exact ⟨cAn_o hkw (by rw [if_pos hvs]), hb⟩ | exact ⟨cAn_o (cAn_n hw) (by rw [if_pos hvs]), hb⟩ | exact ⟨cAn_o (cAn_z hkw (by with_reducible assumption)) (by rw [if_neg (show ¬ vb ≤ 0 by omega)]), hb⟩ | exact ⟨cAn_o hkw (by rw [if_neg (show ¬ vb ≤ 0 by omega)]), hb⟩ | exact ⟨cAn_o (cAn_n hw) (by rw [if_neg (show ¬ vb ≤ 0 by omega)]), hb⟩ | exact ⟨cAn_o (cAn_z hkw (by with_reducible assumption)) (by rw [if_pos hvs]), hb2⟩ | exact ⟨cAn_o hkw (by rw [if_pos hvs]), hb2⟩ | exact ⟨cAn_o (cAn_n hw) (by rw [if_pos hvs]), hb2⟩ | exact ⟨cAn_o (cAn_z hkw (by with_reducible assumption)) (by rw [if_neg (show ¬ vb ≤ 0 by omega)]), hb2⟩ | exact ⟨cAn_o hkw (by rw [if_neg (show ¬ vb ≤ 0 by omega)]), hb2⟩ | exact ⟨cAn_o (cAn_n hw) (by rw [if_neg (show ¬ vb ≤ 0 by omega)]), hb2⟩)
    ·
      rw [if_neg g11]
      have g11i : p782.1.toInt ≠ 0 := q_neI g11
      (unfold QV_whole_ab; dsimp only; first | exact ⟨cAn_o (cAn_z hkw (by with_reducible assumption)) (by rw [if_pos hvs]), hb⟩ | exact ⟨cAn_o hkw (by rw [if_pos hvs]), hb⟩ | exact ⟨cAn_o (cAn_n hw) (by rw [if_pos hvs]), hb⟩ | exact ⟨cAn_o (cAn_z hkw (by with_reducible assumption)) (by rw [if_neg (show ¬ vb ≤ 0 by omega)]), hb⟩ | exact ⟨cAn_o hkw (by rw [if_neg (show ¬ vb ≤ 0 by omega)]), hb⟩ | exact ⟨cAn_o (cAn_n hw) (by rw [if_neg (show ¬ vb ≤ 0 by omega)]), hb⟩ | exact ⟨cAn_o (cAn_z hkw (by with_reducible assumption)) (by rw [if_pos hvs]), hb2⟩ | exact ⟨cAn_o hkw (by rw [if_pos hvs]), hb2⟩ | exact ⟨cAn_o (cAn_n hw) (by rw [if_pos hvs]), hb2⟩ | exact ⟨cAn_o (cAn_z hkw (by with_reducible assumption)) (by rw [if_neg (show ¬ vb ≤ 0 by omega)]), hb2⟩ | exact ⟨cAn_o hkw (by rw [if_neg (show ¬ vb ≤ 0 by omega)]), hb2⟩ | exact ⟨cAn_o (cAn_n hw) (by rw [if_neg (show ¬ vb ≤ 0 by omega)]), hb2⟩)
theorem V_whole_ab6 {x2 : Int32} {x3 : Int32} {x4 : Int32} {x5 : Int32} {t0_0 : Int32} {t0_1 : Int32} {t1_0 : (Nat → Int32)} {t2_0 : Int32} {t2_1 : Int32} {t3_0 : (Nat → Int32)} {t4_0 : Int32} {t4_1 : Int32} {t5_0 : (Nat → Int32)} {t6_0 : Int32} {t6_1 : Int32} {t7_0 : (Nat → Int32)} {t8_0 : Int32} {t8_1 : Int32} {t9_0 : (Nat → Int32)} {t10_0 : Int32} {t10_1 : Int32} {t11_0 : (Nat → Int32)} {t12_0 : Int32} {t12_1 : Int32} {t13_0 : (Nat → Int32)} {t14_0 : Int32} {t14_1 : Int32} {t15_0 : (Nat → Int32)} {t16_0 : Int32} {t16_1 : Int32} {t17_0 : (Nat → Int32)} {vb vt : Int} (hb : bO 68 t14_0 t14_1 t15_0 vb) (hB : bB 67 vb) (hw : bO 68 t16_0 t16_1 t17_0 vt) (e2 : x2 = 6) (hr3 : ¬ F_NH_isRegister x3 = 0) (hr4 : ¬ F_NH_isRegister x4 = 0) (hr5 : ¬ F_NH_isRegister x5 = 0) : QV_whole_ab (some (Int.gcd vb vb : Int)) vt vb (F_NH_whole_ab x2 x3 x4 x5 t0_0 t0_1 t1_0 t2_0 t2_1 t3_0 t4_0 t4_1 t5_0 t6_0 t6_1 t7_0 t8_0 t8_1 t9_0 t10_0 t10_1 t11_0 t12_0 t12_1 t13_0 t14_0 t14_1 t15_0 t16_0 t16_1 t17_0) := by
  have e0 : (0 : Int32).toInt = 0 := rfl
  have e220 : (220 : Int32).toInt = 220 := rfl
  have e68 : (68 : Int32).toInt = 68 := rfl
  have sa : t14_0.toInt ≤ 68 := hb.2.2.2.1
  have sb : t14_0.toInt ≤ 68 := hb.2.2.2.1
  unfold F_NH_whole_ab
  have g1 : ¬ (x2 < (0 : Int32)) := (by rw [e2]; decide)
  rw [if_neg g1]
  have g2 : ¬ ((11 : Int32) < x2) := (by rw [e2]; decide)
  rw [if_neg g2]
  rw [if_neg hr3]
  rw [if_neg hr4]
  rw [if_neg hr5]
  unfold F_NH_whole_ab_J37
  have g3 : ((F_NH_need (1 : Int32)) = (0 : Int32)) := (by decide)
  rw [if_pos g3]
  have g4 : ((2 : Int32) < x2) := (by rw [e2]; decide)
  rw [if_pos g4]
  have g5 : ((4 : Int32) < x2) := (by rw [e2]; decide)
  rw [if_pos g5]
  have g6 : ¬ (x2 = (5 : Int32)) := (by rw [e2]; decide)
  rw [if_neg g6]
  rw [if_pos e2]
  have h7 := V_commonDivisor (M := 67) (R := (68 : Int32)) (R2 := (68 : Int32)) (t0_0 := t0_0) (t0_1 := t0_1) (t1_0 := t1_0) (t2_0 := t2_0) (t2_1 := t2_1) (t3_0 := t3_0) (t4_0 := t6_0) (t4_1 := t6_1) (t5_0 := t7_0) (t6_0 := t8_0) (t6_1 := t8_1) (t7_0 := t9_0) (t8_0 := t14_0) (t8_1 := t14_1) (t9_0 := t15_0) (t10_0 := t14_0) (t10_1 := t14_1) (t11_0 := t15_0) (by decide) hb hb hB hB
  replace h7 := h7.2
  generalize F_Mil_commonDivisor (68 : Int32) (68 : Int32) t0_0 t0_1 t1_0 t2_0 t2_1 t3_0 t6_0 t6_1 t7_0 t8_0 t8_1 t9_0 t14_0 t14_1 t15_0 t14_0 t14_1 t15_0 = p609 at h7 ⊢
  have hn := h7.1
  unfold F_NH_whole_ab_c177
  have h8 := V_keepWhole (x2 := x5) (t0_0 := (p609.1 : Int32)) (t0_1 := (p609.2.1 : Int32)) (t1_0 := (p609.2.2.1 : (Nat → Int32))) (t2_0 := t16_0) (t2_1 := t16_1) (t3_0 := t17_0) hn (by first | exact hw2 | exact hw)
  generalize F_NH_keepWhole x5 (p609.1 : Int32) (p609.2.1 : Int32) (p609.2.2.1 : (Nat → Int32)) t16_0 t16_1 t17_0 = p641 at h8 ⊢
  have hkw := h8
  unfold F_NH_whole_ab_c237_9
  by_cases g9 : p641.1 = (0 : Int32)
  ·
    rw [if_pos g9]
    have g9i : p641.1.toInt = 0 := q_eqI g9
    (unfold QV_whole_ab; dsimp only; first | exact ⟨cAn_o (cAn_z hkw (by with_reducible assumption)) rfl, hb⟩ | exact ⟨cAn_o hkw rfl, hb⟩ | exact ⟨cAn_o (cAn_n hw) rfl, hb⟩ | exact ⟨cAn_o (cAn_z hkw (by with_reducible assumption)) rfl, hb2⟩ | exact ⟨cAn_o hkw rfl, hb2⟩ | exact ⟨cAn_o (cAn_n hw) rfl, hb2⟩)
  ·
    rw [if_neg g9]
    have g9i : p641.1.toInt ≠ 0 := q_neI g9
    (unfold QV_whole_ab; dsimp only; first | exact ⟨cAn_o (cAn_z hkw (by with_reducible assumption)) rfl, hb⟩ | exact ⟨cAn_o hkw rfl, hb⟩ | exact ⟨cAn_o (cAn_n hw) rfl, hb⟩ | exact ⟨cAn_o (cAn_z hkw (by with_reducible assumption)) rfl, hb2⟩ | exact ⟨cAn_o hkw rfl, hb2⟩ | exact ⟨cAn_o (cAn_n hw) rfl, hb2⟩)
theorem V_whole_ab7 {x2 : Int32} {x3 : Int32} {x4 : Int32} {x5 : Int32} {t0_0 : Int32} {t0_1 : Int32} {t1_0 : (Nat → Int32)} {t2_0 : Int32} {t2_1 : Int32} {t3_0 : (Nat → Int32)} {t4_0 : Int32} {t4_1 : Int32} {t5_0 : (Nat → Int32)} {t6_0 : Int32} {t6_1 : Int32} {t7_0 : (Nat → Int32)} {t8_0 : Int32} {t8_1 : Int32} {t9_0 : (Nat → Int32)} {t10_0 : Int32} {t10_1 : Int32} {t11_0 : (Nat → Int32)} {t12_0 : Int32} {t12_1 : Int32} {t13_0 : (Nat → Int32)} {t14_0 : Int32} {t14_1 : Int32} {t15_0 : (Nat → Int32)} {t16_0 : Int32} {t16_1 : Int32} {t17_0 : (Nat → Int32)} {vb vt : Int} (hb : bO 68 t14_0 t14_1 t15_0 vb) (hB : bB 67 vb) (hw : bO 68 t16_0 t16_1 t17_0 vt) (e2 : x2 = 7) (hr3 : ¬ F_NH_isRegister x3 = 0) (hr4 : ¬ F_NH_isRegister x4 = 0) (hr5 : ¬ F_NH_isRegister x5 = 0) : QV_whole_ab (if vb ≤ 0 then none else sInv vb vb) vt vb (F_NH_whole_ab x2 x3 x4 x5 t0_0 t0_1 t1_0 t2_0 t2_1 t3_0 t4_0 t4_1 t5_0 t6_0 t6_1 t7_0 t8_0 t8_1 t9_0 t10_0 t10_1 t11_0 t12_0 t12_1 t13_0 t14_0 t14_1 t15_0 t16_0 t16_1 t17_0) := by
  have e0 : (0 : Int32).toInt = 0 := rfl
  have e220 : (220 : Int32).toInt = 220 := rfl
  have e68 : (68 : Int32).toInt = 68 := rfl
  have sa : t14_0.toInt ≤ 68 := hb.2.2.2.1
  have sb : t14_0.toInt ≤ 68 := hb.2.2.2.1
  unfold F_NH_whole_ab
  have g1 : ¬ (x2 < (0 : Int32)) := (by rw [e2]; decide)
  rw [if_neg g1]
  have g2 : ¬ ((11 : Int32) < x2) := (by rw [e2]; decide)
  rw [if_neg g2]
  rw [if_neg hr3]
  rw [if_neg hr4]
  rw [if_neg hr5]
  unfold F_NH_whole_ab_J37
  have g3 : ((F_NH_need (1 : Int32)) = (0 : Int32)) := (by decide)
  rw [if_pos g3]
  have g4 : ((2 : Int32) < x2) := (by rw [e2]; decide)
  rw [if_pos g4]
  have g5 : ((4 : Int32) < x2) := (by rw [e2]; decide)
  rw [if_pos g5]
  have g6 : ¬ (x2 = (5 : Int32)) := (by rw [e2]; decide)
  rw [if_neg g6]
  have g7 : ¬ (x2 = (6 : Int32)) := (by rw [e2]; decide)
  rw [if_neg g7]
  rw [if_pos e2]
  by_cases g8 : ((F_Big_sign (68 : Int32) t14_0 t14_1) : Int32) ≤ (0 : Int32)
  ·
    rw [if_pos g8]
    have hvs := v_sgnP0 hb g8
    have g9 : ¬ ((F_NH_canHave (0 : Int32)) = (0 : Int32)) := (by decide)
    rw [if_neg g9]
    (unfold QV_whole_ab; dsimp only; first | exact ⟨cAn_o (cAn_z hkw (by with_reducible assumption)) (by rw [if_neg (show ¬ vb ≤ 0 by omega), hiv]), hb⟩ | exact ⟨cAn_o hkw (by rw [if_neg (show ¬ vb ≤ 0 by omega), hiv]), hb⟩ | exact ⟨cAn_o (cAn_z hkw (by with_reducible assumption)) (by rw [if_neg (show ¬ vb ≤ 0 by omega), hiv]), hb2⟩ | exact ⟨cAn_o hkw (by rw [if_neg (show ¬ vb ≤ 0 by omega), hiv]), hb2⟩ | exact ⟨cAn_o (cAn_z hkw (by with_reducible assumption)) (by rw [if_pos hvs]), hb⟩ | exact ⟨cAn_o hkw (by rw [if_pos hvs]), hb⟩ | exact ⟨cAn_o (cAn_n hw) (by rw [if_pos hvs]), hb⟩ | exact ⟨cAn_o (cAn_z hkw (by with_reducible assumption)) (by rw [if_neg (show ¬ vb ≤ 0 by omega)]), hb⟩ | exact ⟨cAn_o hkw (by rw [if_neg (show ¬ vb ≤ 0 by omega)]), hb⟩ | exact ⟨cAn_o (cAn_n hw) (by rw [if_neg (show ¬ vb ≤ 0 by omega)]), hb⟩ | exact ⟨cAn_o (cAn_z hkw (by with_reducible assumption)) (by rw [if_neg (show ¬ vb ≤ 0 by omega)]; exact hiv.symm), hb⟩ | exact ⟨cAn_o hkw (by rw [if_neg (show ¬ vb ≤ 0 by omega)]; exact hiv.symm), hb⟩ | exact ⟨cAn_o (cAn_n hw) (by rw [if_neg (show ¬ vb ≤ 0 by omega)]; exact hiv.symm), hb⟩ | exact ⟨cAn_o (cAn_z hkw (by with_reducible assumption)) (by rw [if_pos hvs]), hb2⟩ | exact ⟨cAn_o hkw (by rw [if_pos hvs]), hb2⟩ | exact ⟨cAn_o (cAn_n hw) (by rw [if_pos hvs]), hb2⟩ | exact ⟨cAn_o (cAn_z hkw (by with_reducible assumption)) (by rw [if_neg (show ¬ vb ≤ 0 by omega)]), hb2⟩ | exact ⟨cAn_o hkw (by rw [if_neg (show ¬ vb ≤ 0 by omega)]), hb2⟩ | exact ⟨cAn_o (cAn_n hw) (by rw [if_neg (show ¬ vb ≤ 0 by omega)]), hb2⟩ | exact ⟨cAn_o (cAn_z hkw (by with_reducible assumption)) (by rw [if_neg (show ¬ vb ≤ 0 by omega)]; exact hiv.symm), hb2⟩ | exact ⟨cAn_o hkw (by rw [if_neg (show ¬ vb ≤ 0 by omega)]; exact hiv.symm), hb2⟩ | exact ⟨cAn_o (cAn_n hw) (by rw [if_neg (show ¬ vb ≤ 0 by omega)]; exact hiv.symm), hb2⟩)
  ·
    rw [if_neg g8]
    have hvs := v_sgnP hb g8
    have g10 : ((F_NH_canHave (1 : Int32)) = (0 : Int32)) := (by decide)
    rw [if_pos g10]
    have h11 := V_inverse_aO (R2 := (68 : Int32)) (t0_0 := t0_0) (t0_1 := t0_1) (t1_0 := t1_0) (t2_0 := t2_0) (t2_1 := t2_1) (t3_0 := t3_0) (t4_0 := t4_0) (t4_1 := t4_1) (t5_0 := t5_0) (t6_0 := t6_0) (t6_1 := t6_1) (t7_0 := t7_0) (t8_0 := t8_0) (t8_1 := t8_1) (t9_0 := t9_0) (t10_0 := t10_0) (t10_1 := t10_1) (t11_0 := t11_0) (t12_0 := t12_0) (t12_1 := t12_1) (t13_0 := t13_0) (t14_0 := t14_0) (t14_1 := t14_1) (t15_0 := t15_0) hb hvs hB (by decide)
    generalize F_Mil_inverse_a (68 : Int32) t0_0 t0_1 t1_0 t2_0 t2_1 t3_0 t4_0 t4_1 t5_0 t6_0 t6_1 t7_0 t8_0 t8_1 t9_0 t10_0 t10_1 t11_0 t12_0 t12_1 t13_0 t14_0 t14_1 t15_0 = p481 at h11 ⊢
    unfold F_NH_whole_ab_c213_6
    rcases h11 with ⟨h110, h111, h112⟩ | ⟨xv, h110, h111, h11n, h112⟩
    ·
      have hb2 := h112
      have hiv := h110
      have g12 : ¬ ((F_NH_canHave (p481.1 : Int32)) = (0 : Int32)) := (by rw [h111]; decide)
      rw [if_neg g12]
      (unfold QV_whole_ab; dsimp only; first | exact ⟨(by rw [show F_NH_canHave p481.1 = 2 by rw [h111]; rfl]; exact cAn_o (cAn_n hw) (by rw [if_neg (show ¬ vb ≤ 0 by omega), hiv])), hb⟩ | exact ⟨(by rw [show F_NH_canHave p481.1 = 2 by rw [h111]; rfl]; exact cAn_o (cAn_n hw2) (by rw [if_neg (show ¬ vb ≤ 0 by omega), hiv])), hb⟩ | exact ⟨cAn_o (cAn_z hkw (by with_reducible assumption)) (by rw [if_neg (show ¬ vb ≤ 0 by omega), hiv]), hb⟩ | exact ⟨cAn_o hkw (by rw [if_neg (show ¬ vb ≤ 0 by omega), hiv]), hb⟩ | exact ⟨(by rw [show F_NH_canHave p481.1 = 2 by rw [h111]; rfl]; exact cAn_o (cAn_n hw) (by rw [if_neg (show ¬ vb ≤ 0 by omega), hiv])), hb2⟩ | exact ⟨(by rw [show F_NH_canHave p481.1 = 2 by rw [h111]; rfl]; exact cAn_o (cAn_n hw2) (by rw [if_neg (show ¬ vb ≤ 0 by omega), hiv])), hb2⟩ | exact ⟨cAn_o (cAn_z hkw (by with_reducible assumption)) (by rw [if_neg (show ¬ vb ≤ 0 by omega), hiv]), hb2⟩ | exact ⟨cAn_o hkw (by rw [if_neg (show ¬ vb ≤ 0 by omega), hiv]), hb2⟩ | exact ⟨cAn_o (cAn_z hkw (by with_reducible assumption)) (by rw [if_pos hvs]), hb⟩ | exact ⟨cAn_o hkw (by rw [if_pos hvs]), hb⟩ | exact ⟨cAn_o (cAn_n hw) (by rw [if_pos hvs]), hb⟩ | exact ⟨cAn_o (cAn_z hkw (by with_reducible assumption)) (by rw [if_neg (show ¬ vb ≤ 0 by omega)]), hb⟩ | exact ⟨cAn_o hkw (by rw [if_neg (show ¬ vb ≤ 0 by omega)]), hb⟩ | exact ⟨cAn_o (cAn_n hw) (by rw [if_neg (show ¬ vb ≤ 0 by omega)]), hb⟩ | exact ⟨cAn_o (cAn_z hkw (by with_reducible assumption)) (by rw [if_neg (show ¬ vb ≤ 0 by omega)]; exact hiv.symm), hb⟩ | exact ⟨cAn_o hkw (by rw [if_neg (show ¬ vb ≤ 0 by omega)]; exact hiv.symm), hb⟩ | exact ⟨cAn_o (cAn_n hw) (by rw [if_neg (show ¬ vb ≤ 0 by omega)]; exact hiv.symm), hb⟩ | exact ⟨cAn_o (cAn_z hkw (by with_reducible assumption)) (by rw [if_pos hvs]), hb2⟩ | exact ⟨cAn_o hkw (by rw [if_pos hvs]), hb2⟩ | exact ⟨cAn_o (cAn_n hw) (by rw [if_pos hvs]), hb2⟩ | exact ⟨cAn_o (cAn_z hkw (by with_reducible assumption)) (by rw [if_neg (show ¬ vb ≤ 0 by omega)]), hb2⟩ | exact ⟨cAn_o hkw (by rw [if_neg (show ¬ vb ≤ 0 by omega)]), hb2⟩ | exact ⟨cAn_o (cAn_n hw) (by rw [if_neg (show ¬ vb ≤ 0 by omega)]), hb2⟩ | exact ⟨cAn_o (cAn_z hkw (by with_reducible assumption)) (by rw [if_neg (show ¬ vb ≤ 0 by omega)]; exact hiv.symm), hb2⟩ | exact ⟨cAn_o hkw (by rw [if_neg (show ¬ vb ≤ 0 by omega)]; exact hiv.symm), hb2⟩ | exact ⟨cAn_o (cAn_n hw) (by rw [if_neg (show ¬ vb ≤ 0 by omega)]; exact hiv.symm), hb2⟩)
    ·
      have hn := h11n
      have hb2 := h112
      have hiv := h110
      have g13 : ((F_NH_canHave (p481.1 : Int32)) = (0 : Int32)) := (by rw [h111]; decide)
      rw [if_pos g13]
      have h14 := V_keepWhole (x2 := x5) (t0_0 := (p481.2.1 : Int32)) (t0_1 := (p481.2.2.1 : Int32)) (t1_0 := (p481.2.2.2.1 : (Nat → Int32))) (t2_0 := t16_0) (t2_1 := t16_1) (t3_0 := t17_0) hn (by first | exact hw2 | exact hw)
      generalize F_NH_keepWhole x5 (p481.2.1 : Int32) (p481.2.2.1 : Int32) (p481.2.2.2.1 : (Nat → Int32)) t16_0 t16_1 t17_0 = p535 at h14 ⊢
      have hkw := h14
      unfold F_NH_whole_ab_c237_7
      by_cases g15 : p535.1 = (0 : Int32)
      ·
        rw [if_pos g15]
        have g15i : p535.1.toInt = 0 := q_eqI g15
        (unfold QV_whole_ab; dsimp only; first | exact ⟨(by rw [show F_NH_canHave p481.1 = 2 by rw [h111]; rfl]; exact cAn_o (cAn_n hw) (by rw [if_neg (show ¬ vb ≤ 0 by omega), hiv])), hb⟩ | exact ⟨(by rw [show F_NH_canHave p481.1 = 2 by rw [h111]; rfl]; exact cAn_o (cAn_n hw2) (by rw [if_neg (show ¬ vb ≤ 0 by omega), hiv])), hb⟩ | exact ⟨cAn_o (cAn_z hkw (by with_reducible assumption)) (by rw [if_neg (show ¬ vb ≤ 0 by omega), hiv]), hb⟩ | exact ⟨cAn_o hkw (by rw [if_neg (show ¬ vb ≤ 0 by omega), hiv]), hb⟩ | exact ⟨(by rw [show F_NH_canHave p481.1 = 2 by rw [h111]; rfl]; exact cAn_o (cAn_n hw) (by rw [if_neg (show ¬ vb ≤ 0 by omega), hiv])), hb2⟩ | exact ⟨(by rw [show F_NH_canHave p481.1 = 2 by rw [h111]; rfl]; exact cAn_o (cAn_n hw2) (by rw [if_neg (show ¬ vb ≤ 0 by omega), hiv])), hb2⟩ | exact ⟨cAn_o (cAn_z hkw (by with_reducible assumption)) (by rw [if_neg (show ¬ vb ≤ 0 by omega), hiv]), hb2⟩ | exact ⟨cAn_o hkw (by rw [if_neg (show ¬ vb ≤ 0 by omega), hiv]), hb2⟩ | exact ⟨cAn_o (cAn_z hkw (by with_reducible assumption)) (by rw [if_pos hvs]), hb⟩ | exact ⟨cAn_o hkw (by rw [if_pos hvs]), hb⟩ | exact ⟨cAn_o (cAn_n hw) (by rw [if_pos hvs]), hb⟩ | exact ⟨cAn_o (cAn_z hkw (by with_reducible assumption)) (by rw [if_neg (show ¬ vb ≤ 0 by omega)]), hb⟩ | exact ⟨cAn_o hkw (by rw [if_neg (show ¬ vb ≤ 0 by omega)]), hb⟩ | exact ⟨cAn_o (cAn_n hw) (by rw [if_neg (show ¬ vb ≤ 0 by omega)]), hb⟩ | exact ⟨cAn_o (cAn_z hkw (by with_reducible assumption)) (by rw [if_neg (show ¬ vb ≤ 0 by omega)]; exact hiv.symm), hb⟩ | exact ⟨cAn_o hkw (by rw [if_neg (show ¬ vb ≤ 0 by omega)]; exact hiv.symm), hb⟩ | exact ⟨cAn_o (cAn_n hw) (by rw [if_neg (show ¬ vb ≤ 0 by omega)]; exact hiv.symm), hb⟩ | exact ⟨cAn_o (cAn_z hkw (by with_reducible assumption)) (by rw [if_pos hvs]), hb2⟩ | exact ⟨cAn_o hkw (by rw [if_pos hvs]), hb2⟩ | exact ⟨cAn_o (cAn_n hw) (by rw [if_pos hvs]), hb2⟩ | exact ⟨cAn_o (cAn_z hkw (by with_reducible assumption)) (by rw [if_neg (show ¬ vb ≤ 0 by omega)]), hb2⟩ | exact ⟨cAn_o hkw (by rw [if_neg (show ¬ vb ≤ 0 by omega)]), hb2⟩ | exact ⟨cAn_o (cAn_n hw) (by rw [if_neg (show ¬ vb ≤ 0 by omega)]), hb2⟩ | exact ⟨cAn_o (cAn_z hkw (by with_reducible assumption)) (by rw [if_neg (show ¬ vb ≤ 0 by omega)]; exact hiv.symm), hb2⟩ | exact ⟨cAn_o hkw (by rw [if_neg (show ¬ vb ≤ 0 by omega)]; exact hiv.symm), hb2⟩ | exact ⟨cAn_o (cAn_n hw) (by rw [if_neg (show ¬ vb ≤ 0 by omega)]; exact hiv.symm), hb2⟩)
      ·
        rw [if_neg g15]
        have g15i : p535.1.toInt ≠ 0 := q_neI g15
        (unfold QV_whole_ab; dsimp only; first | exact ⟨cAn_o (cAn_z hkw (by with_reducible assumption)) (by rw [if_neg (show ¬ vb ≤ 0 by omega), hiv]), hb⟩ | exact ⟨cAn_o hkw (by rw [if_neg (show ¬ vb ≤ 0 by omega), hiv]), hb⟩ | exact ⟨cAn_o (cAn_z hkw (by with_reducible assumption)) (by rw [if_neg (show ¬ vb ≤ 0 by omega), hiv]), hb2⟩ | exact ⟨cAn_o hkw (by rw [if_neg (show ¬ vb ≤ 0 by omega), hiv]), hb2⟩ | exact ⟨cAn_o (cAn_z hkw (by with_reducible assumption)) (by rw [if_pos hvs]), hb⟩ | exact ⟨cAn_o hkw (by rw [if_pos hvs]), hb⟩ | exact ⟨cAn_o (cAn_n hw) (by rw [if_pos hvs]), hb⟩ | exact ⟨cAn_o (cAn_z hkw (by with_reducible assumption)) (by rw [if_neg (show ¬ vb ≤ 0 by omega)]), hb⟩ | exact ⟨cAn_o hkw (by rw [if_neg (show ¬ vb ≤ 0 by omega)]), hb⟩ | exact ⟨cAn_o (cAn_n hw) (by rw [if_neg (show ¬ vb ≤ 0 by omega)]), hb⟩ | exact ⟨cAn_o (cAn_z hkw (by with_reducible assumption)) (by rw [if_neg (show ¬ vb ≤ 0 by omega)]; exact hiv.symm), hb⟩ | exact ⟨cAn_o hkw (by rw [if_neg (show ¬ vb ≤ 0 by omega)]; exact hiv.symm), hb⟩ | exact ⟨cAn_o (cAn_n hw) (by rw [if_neg (show ¬ vb ≤ 0 by omega)]; exact hiv.symm), hb⟩ | exact ⟨cAn_o (cAn_z hkw (by with_reducible assumption)) (by rw [if_pos hvs]), hb2⟩ | exact ⟨cAn_o hkw (by rw [if_pos hvs]), hb2⟩ | exact ⟨cAn_o (cAn_n hw) (by rw [if_pos hvs]), hb2⟩ | exact ⟨cAn_o (cAn_z hkw (by with_reducible assumption)) (by rw [if_neg (show ¬ vb ≤ 0 by omega)]), hb2⟩ | exact ⟨cAn_o hkw (by rw [if_neg (show ¬ vb ≤ 0 by omega)]), hb2⟩ | exact ⟨cAn_o (cAn_n hw) (by rw [if_neg (show ¬ vb ≤ 0 by omega)]), hb2⟩ | exact ⟨cAn_o (cAn_z hkw (by with_reducible assumption)) (by rw [if_neg (show ¬ vb ≤ 0 by omega)]; exact hiv.symm), hb2⟩ | exact ⟨cAn_o hkw (by rw [if_neg (show ¬ vb ≤ 0 by omega)]; exact hiv.symm), hb2⟩ | exact ⟨cAn_o (cAn_n hw) (by rw [if_neg (show ¬ vb ≤ 0 by omega)]; exact hiv.symm), hb2⟩)
theorem V_whole_ab8 {x2 : Int32} {x3 : Int32} {x4 : Int32} {x5 : Int32} {t0_0 : Int32} {t0_1 : Int32} {t1_0 : (Nat → Int32)} {t2_0 : Int32} {t2_1 : Int32} {t3_0 : (Nat → Int32)} {t4_0 : Int32} {t4_1 : Int32} {t5_0 : (Nat → Int32)} {t6_0 : Int32} {t6_1 : Int32} {t7_0 : (Nat → Int32)} {t8_0 : Int32} {t8_1 : Int32} {t9_0 : (Nat → Int32)} {t10_0 : Int32} {t10_1 : Int32} {t11_0 : (Nat → Int32)} {t12_0 : Int32} {t12_1 : Int32} {t13_0 : (Nat → Int32)} {t14_0 : Int32} {t14_1 : Int32} {t15_0 : (Nat → Int32)} {t16_0 : Int32} {t16_1 : Int32} {t17_0 : (Nat → Int32)} {vb vt : Int} (hb : bO 68 t14_0 t14_1 t15_0 vb) (hB : bB 67 vb) (hw : bO 68 t16_0 t16_1 t17_0 vt) (e2 : x2 = 8) (hr3 : ¬ F_NH_isRegister x3 = 0) (hr4 : ¬ F_NH_isRegister x4 = 0) (hr5 : ¬ F_NH_isRegister x5 = 0) : QV_whole_ab (some (sMix 0 vb vb)) vt vb (F_NH_whole_ab x2 x3 x4 x5 t0_0 t0_1 t1_0 t2_0 t2_1 t3_0 t4_0 t4_1 t5_0 t6_0 t6_1 t7_0 t8_0 t8_1 t9_0 t10_0 t10_1 t11_0 t12_0 t12_1 t13_0 t14_0 t14_1 t15_0 t16_0 t16_1 t17_0) := by
  have e0 : (0 : Int32).toInt = 0 := rfl
  have e220 : (220 : Int32).toInt = 220 := rfl
  have e68 : (68 : Int32).toInt = 68 := rfl
  have sa : t14_0.toInt ≤ 68 := hb.2.2.2.1
  have sb : t14_0.toInt ≤ 68 := hb.2.2.2.1
  unfold F_NH_whole_ab
  have g1 : ¬ (x2 < (0 : Int32)) := (by rw [e2]; decide)
  rw [if_neg g1]
  have g2 : ¬ ((11 : Int32) < x2) := (by rw [e2]; decide)
  rw [if_neg g2]
  rw [if_neg hr3]
  rw [if_neg hr4]
  rw [if_neg hr5]
  unfold F_NH_whole_ab_J37
  have g3 : ((F_NH_need (1 : Int32)) = (0 : Int32)) := (by decide)
  rw [if_pos g3]
  have g4 : ((2 : Int32) < x2) := (by rw [e2]; decide)
  rw [if_pos g4]
  have g5 : ((4 : Int32) < x2) := (by rw [e2]; decide)
  rw [if_pos g5]
  have g6 : ¬ (x2 = (5 : Int32)) := (by rw [e2]; decide)
  rw [if_neg g6]
  have g7 : ¬ (x2 = (6 : Int32)) := (by rw [e2]; decide)
  rw [if_neg g7]
  have g8 : ¬ (x2 = (7 : Int32)) := (by rw [e2]; decide)
  rw [if_neg g8]
  have h9 := V_mixBits (x2 := x2) (R := (68 : Int32)) (R2 := (68 : Int32)) (t0_0 := t0_0) (t0_1 := t0_1) (t1_0 := t1_0) (t2_0 := t14_0) (t2_1 := t14_1) (t3_0 := t15_0) (t4_0 := t14_0) (t4_1 := t14_1) (t5_0 := t15_0) (h := 0) (by decide) (by rw [e2]; rfl) hb hb (by omega) (by omega)
  generalize F_Mil_mixBits x2 (68 : Int32) (68 : Int32) t0_0 t0_1 t1_0 t14_0 t14_1 t15_0 t14_0 t14_1 t15_0 = p144 at h9 ⊢
  have hn := h9
  unfold F_NH_whole_ab_c231
  have h10 := V_keepWhole (x2 := x5) (t0_0 := (p144.1 : Int32)) (t0_1 := (p144.2.1 : Int32)) (t1_0 := (p144.2.2 : (Nat → Int32))) (t2_0 := t16_0) (t2_1 := t16_1) (t3_0 := t17_0) hn (by first | exact hw2 | exact hw)
  generalize F_NH_keepWhole x5 (p144.1 : Int32) (p144.2.1 : Int32) (p144.2.2 : (Nat → Int32)) t16_0 t16_1 t17_0 = p167 at h10 ⊢
  have hkw := h10
  unfold F_NH_whole_ab_c237
  by_cases g11 : p167.1 = (0 : Int32)
  ·
    rw [if_pos g11]
    have g11i : p167.1.toInt = 0 := q_eqI g11
    (unfold QV_whole_ab; dsimp only; first | exact ⟨cAn_o (cAn_z hkw (by with_reducible assumption)) rfl, hb⟩ | exact ⟨cAn_o hkw rfl, hb⟩ | exact ⟨cAn_o (cAn_n hw) rfl, hb⟩ | exact ⟨cAn_o (cAn_z hkw (by with_reducible assumption)) rfl, hb2⟩ | exact ⟨cAn_o hkw rfl, hb2⟩ | exact ⟨cAn_o (cAn_n hw) rfl, hb2⟩)
  ·
    rw [if_neg g11]
    have g11i : p167.1.toInt ≠ 0 := q_neI g11
    (unfold QV_whole_ab; dsimp only; first | exact ⟨cAn_o (cAn_z hkw (by with_reducible assumption)) rfl, hb⟩ | exact ⟨cAn_o hkw rfl, hb⟩ | exact ⟨cAn_o (cAn_n hw) rfl, hb⟩ | exact ⟨cAn_o (cAn_z hkw (by with_reducible assumption)) rfl, hb2⟩ | exact ⟨cAn_o hkw rfl, hb2⟩ | exact ⟨cAn_o (cAn_n hw) rfl, hb2⟩)
theorem V_whole_ab9 {x2 : Int32} {x3 : Int32} {x4 : Int32} {x5 : Int32} {t0_0 : Int32} {t0_1 : Int32} {t1_0 : (Nat → Int32)} {t2_0 : Int32} {t2_1 : Int32} {t3_0 : (Nat → Int32)} {t4_0 : Int32} {t4_1 : Int32} {t5_0 : (Nat → Int32)} {t6_0 : Int32} {t6_1 : Int32} {t7_0 : (Nat → Int32)} {t8_0 : Int32} {t8_1 : Int32} {t9_0 : (Nat → Int32)} {t10_0 : Int32} {t10_1 : Int32} {t11_0 : (Nat → Int32)} {t12_0 : Int32} {t12_1 : Int32} {t13_0 : (Nat → Int32)} {t14_0 : Int32} {t14_1 : Int32} {t15_0 : (Nat → Int32)} {t16_0 : Int32} {t16_1 : Int32} {t17_0 : (Nat → Int32)} {vb vt : Int} (hb : bO 68 t14_0 t14_1 t15_0 vb) (hB : bB 67 vb) (hw : bO 68 t16_0 t16_1 t17_0 vt) (e2 : x2 = 9) (hr3 : ¬ F_NH_isRegister x3 = 0) (hr4 : ¬ F_NH_isRegister x4 = 0) (hr5 : ¬ F_NH_isRegister x5 = 0) : QV_whole_ab (some (sMix 1 vb vb)) vt vb (F_NH_whole_ab x2 x3 x4 x5 t0_0 t0_1 t1_0 t2_0 t2_1 t3_0 t4_0 t4_1 t5_0 t6_0 t6_1 t7_0 t8_0 t8_1 t9_0 t10_0 t10_1 t11_0 t12_0 t12_1 t13_0 t14_0 t14_1 t15_0 t16_0 t16_1 t17_0) := by
  have e0 : (0 : Int32).toInt = 0 := rfl
  have e220 : (220 : Int32).toInt = 220 := rfl
  have e68 : (68 : Int32).toInt = 68 := rfl
  have sa : t14_0.toInt ≤ 68 := hb.2.2.2.1
  have sb : t14_0.toInt ≤ 68 := hb.2.2.2.1
  unfold F_NH_whole_ab
  have g1 : ¬ (x2 < (0 : Int32)) := (by rw [e2]; decide)
  rw [if_neg g1]
  have g2 : ¬ ((11 : Int32) < x2) := (by rw [e2]; decide)
  rw [if_neg g2]
  rw [if_neg hr3]
  rw [if_neg hr4]
  rw [if_neg hr5]
  unfold F_NH_whole_ab_J37
  have g3 : ((F_NH_need (1 : Int32)) = (0 : Int32)) := (by decide)
  rw [if_pos g3]
  have g4 : ((2 : Int32) < x2) := (by rw [e2]; decide)
  rw [if_pos g4]
  have g5 : ((4 : Int32) < x2) := (by rw [e2]; decide)
  rw [if_pos g5]
  have g6 : ¬ (x2 = (5 : Int32)) := (by rw [e2]; decide)
  rw [if_neg g6]
  have g7 : ¬ (x2 = (6 : Int32)) := (by rw [e2]; decide)
  rw [if_neg g7]
  have g8 : ¬ (x2 = (7 : Int32)) := (by rw [e2]; decide)
  rw [if_neg g8]
  have h9 := V_mixBits (x2 := x2) (R := (68 : Int32)) (R2 := (68 : Int32)) (t0_0 := t0_0) (t0_1 := t0_1) (t1_0 := t1_0) (t2_0 := t14_0) (t2_1 := t14_1) (t3_0 := t15_0) (t4_0 := t14_0) (t4_1 := t14_1) (t5_0 := t15_0) (h := 1) (by decide) (by rw [e2]; rfl) hb hb (by omega) (by omega)
  generalize F_Mil_mixBits x2 (68 : Int32) (68 : Int32) t0_0 t0_1 t1_0 t14_0 t14_1 t15_0 t14_0 t14_1 t15_0 = p144 at h9 ⊢
  have hn := h9
  unfold F_NH_whole_ab_c231
  have h10 := V_keepWhole (x2 := x5) (t0_0 := (p144.1 : Int32)) (t0_1 := (p144.2.1 : Int32)) (t1_0 := (p144.2.2 : (Nat → Int32))) (t2_0 := t16_0) (t2_1 := t16_1) (t3_0 := t17_0) hn (by first | exact hw2 | exact hw)
  generalize F_NH_keepWhole x5 (p144.1 : Int32) (p144.2.1 : Int32) (p144.2.2 : (Nat → Int32)) t16_0 t16_1 t17_0 = p167 at h10 ⊢
  have hkw := h10
  unfold F_NH_whole_ab_c237
  by_cases g11 : p167.1 = (0 : Int32)
  ·
    rw [if_pos g11]
    have g11i : p167.1.toInt = 0 := q_eqI g11
    (unfold QV_whole_ab; dsimp only; first | exact ⟨cAn_o (cAn_z hkw (by with_reducible assumption)) rfl, hb⟩ | exact ⟨cAn_o hkw rfl, hb⟩ | exact ⟨cAn_o (cAn_n hw) rfl, hb⟩ | exact ⟨cAn_o (cAn_z hkw (by with_reducible assumption)) rfl, hb2⟩ | exact ⟨cAn_o hkw rfl, hb2⟩ | exact ⟨cAn_o (cAn_n hw) rfl, hb2⟩)
  ·
    rw [if_neg g11]
    have g11i : p167.1.toInt ≠ 0 := q_neI g11
    (unfold QV_whole_ab; dsimp only; first | exact ⟨cAn_o (cAn_z hkw (by with_reducible assumption)) rfl, hb⟩ | exact ⟨cAn_o hkw rfl, hb⟩ | exact ⟨cAn_o (cAn_n hw) rfl, hb⟩ | exact ⟨cAn_o (cAn_z hkw (by with_reducible assumption)) rfl, hb2⟩ | exact ⟨cAn_o hkw rfl, hb2⟩ | exact ⟨cAn_o (cAn_n hw) rfl, hb2⟩)
theorem V_whole_ab10 {x2 : Int32} {x3 : Int32} {x4 : Int32} {x5 : Int32} {t0_0 : Int32} {t0_1 : Int32} {t1_0 : (Nat → Int32)} {t2_0 : Int32} {t2_1 : Int32} {t3_0 : (Nat → Int32)} {t4_0 : Int32} {t4_1 : Int32} {t5_0 : (Nat → Int32)} {t6_0 : Int32} {t6_1 : Int32} {t7_0 : (Nat → Int32)} {t8_0 : Int32} {t8_1 : Int32} {t9_0 : (Nat → Int32)} {t10_0 : Int32} {t10_1 : Int32} {t11_0 : (Nat → Int32)} {t12_0 : Int32} {t12_1 : Int32} {t13_0 : (Nat → Int32)} {t14_0 : Int32} {t14_1 : Int32} {t15_0 : (Nat → Int32)} {t16_0 : Int32} {t16_1 : Int32} {t17_0 : (Nat → Int32)} {vb vt : Int} (hb : bO 68 t14_0 t14_1 t15_0 vb) (hB : bB 67 vb) (hw : bO 68 t16_0 t16_1 t17_0 vt) (e2 : x2 = 10) (hr3 : ¬ F_NH_isRegister x3 = 0) (hr4 : ¬ F_NH_isRegister x4 = 0) (hr5 : ¬ F_NH_isRegister x5 = 0) : QV_whole_ab (some (sMix 2 vb vb)) vt vb (F_NH_whole_ab x2 x3 x4 x5 t0_0 t0_1 t1_0 t2_0 t2_1 t3_0 t4_0 t4_1 t5_0 t6_0 t6_1 t7_0 t8_0 t8_1 t9_0 t10_0 t10_1 t11_0 t12_0 t12_1 t13_0 t14_0 t14_1 t15_0 t16_0 t16_1 t17_0) := by
  have e0 : (0 : Int32).toInt = 0 := rfl
  have e220 : (220 : Int32).toInt = 220 := rfl
  have e68 : (68 : Int32).toInt = 68 := rfl
  have sa : t14_0.toInt ≤ 68 := hb.2.2.2.1
  have sb : t14_0.toInt ≤ 68 := hb.2.2.2.1
  unfold F_NH_whole_ab
  have g1 : ¬ (x2 < (0 : Int32)) := (by rw [e2]; decide)
  rw [if_neg g1]
  have g2 : ¬ ((11 : Int32) < x2) := (by rw [e2]; decide)
  rw [if_neg g2]
  rw [if_neg hr3]
  rw [if_neg hr4]
  rw [if_neg hr5]
  unfold F_NH_whole_ab_J37
  have g3 : ((F_NH_need (1 : Int32)) = (0 : Int32)) := (by decide)
  rw [if_pos g3]
  have g4 : ((2 : Int32) < x2) := (by rw [e2]; decide)
  rw [if_pos g4]
  have g5 : ((4 : Int32) < x2) := (by rw [e2]; decide)
  rw [if_pos g5]
  have g6 : ¬ (x2 = (5 : Int32)) := (by rw [e2]; decide)
  rw [if_neg g6]
  have g7 : ¬ (x2 = (6 : Int32)) := (by rw [e2]; decide)
  rw [if_neg g7]
  have g8 : ¬ (x2 = (7 : Int32)) := (by rw [e2]; decide)
  rw [if_neg g8]
  have h9 := V_mixBits (x2 := x2) (R := (68 : Int32)) (R2 := (68 : Int32)) (t0_0 := t0_0) (t0_1 := t0_1) (t1_0 := t1_0) (t2_0 := t14_0) (t2_1 := t14_1) (t3_0 := t15_0) (t4_0 := t14_0) (t4_1 := t14_1) (t5_0 := t15_0) (h := 2) (by decide) (by rw [e2]; rfl) hb hb (by omega) (by omega)
  generalize F_Mil_mixBits x2 (68 : Int32) (68 : Int32) t0_0 t0_1 t1_0 t14_0 t14_1 t15_0 t14_0 t14_1 t15_0 = p144 at h9 ⊢
  have hn := h9
  unfold F_NH_whole_ab_c231
  have h10 := V_keepWhole (x2 := x5) (t0_0 := (p144.1 : Int32)) (t0_1 := (p144.2.1 : Int32)) (t1_0 := (p144.2.2 : (Nat → Int32))) (t2_0 := t16_0) (t2_1 := t16_1) (t3_0 := t17_0) hn (by first | exact hw2 | exact hw)
  generalize F_NH_keepWhole x5 (p144.1 : Int32) (p144.2.1 : Int32) (p144.2.2 : (Nat → Int32)) t16_0 t16_1 t17_0 = p167 at h10 ⊢
  have hkw := h10
  unfold F_NH_whole_ab_c237
  by_cases g11 : p167.1 = (0 : Int32)
  ·
    rw [if_pos g11]
    have g11i : p167.1.toInt = 0 := q_eqI g11
    (unfold QV_whole_ab; dsimp only; first | exact ⟨cAn_o (cAn_z hkw (by with_reducible assumption)) rfl, hb⟩ | exact ⟨cAn_o hkw rfl, hb⟩ | exact ⟨cAn_o (cAn_n hw) rfl, hb⟩ | exact ⟨cAn_o (cAn_z hkw (by with_reducible assumption)) rfl, hb2⟩ | exact ⟨cAn_o hkw rfl, hb2⟩ | exact ⟨cAn_o (cAn_n hw) rfl, hb2⟩)
  ·
    rw [if_neg g11]
    have g11i : p167.1.toInt ≠ 0 := q_neI g11
    (unfold QV_whole_ab; dsimp only; first | exact ⟨cAn_o (cAn_z hkw (by with_reducible assumption)) rfl, hb⟩ | exact ⟨cAn_o hkw rfl, hb⟩ | exact ⟨cAn_o (cAn_n hw) rfl, hb⟩ | exact ⟨cAn_o (cAn_z hkw (by with_reducible assumption)) rfl, hb2⟩ | exact ⟨cAn_o hkw rfl, hb2⟩ | exact ⟨cAn_o (cAn_n hw) rfl, hb2⟩)
theorem V_whole_ab11 {x2 : Int32} {x3 : Int32} {x4 : Int32} {x5 : Int32} {t0_0 : Int32} {t0_1 : Int32} {t1_0 : (Nat → Int32)} {t2_0 : Int32} {t2_1 : Int32} {t3_0 : (Nat → Int32)} {t4_0 : Int32} {t4_1 : Int32} {t5_0 : (Nat → Int32)} {t6_0 : Int32} {t6_1 : Int32} {t7_0 : (Nat → Int32)} {t8_0 : Int32} {t8_1 : Int32} {t9_0 : (Nat → Int32)} {t10_0 : Int32} {t10_1 : Int32} {t11_0 : (Nat → Int32)} {t12_0 : Int32} {t12_1 : Int32} {t13_0 : (Nat → Int32)} {t14_0 : Int32} {t14_1 : Int32} {t15_0 : (Nat → Int32)} {t16_0 : Int32} {t16_1 : Int32} {t17_0 : (Nat → Int32)} {vb vt : Int} (hb : bO 68 t14_0 t14_1 t15_0 vb) (hB : bB 67 vb) (hw : bO 68 t16_0 t16_1 t17_0 vt) (e2 : x2 = 11) (hr3 : ¬ F_NH_isRegister x3 = 0) (hr4 : ¬ F_NH_isRegister x4 = 0) (hr5 : ¬ F_NH_isRegister x5 = 0) : QV_whole_ab (some (sMix 3 vb vb)) vt vb (F_NH_whole_ab x2 x3 x4 x5 t0_0 t0_1 t1_0 t2_0 t2_1 t3_0 t4_0 t4_1 t5_0 t6_0 t6_1 t7_0 t8_0 t8_1 t9_0 t10_0 t10_1 t11_0 t12_0 t12_1 t13_0 t14_0 t14_1 t15_0 t16_0 t16_1 t17_0) := by
  have e0 : (0 : Int32).toInt = 0 := rfl
  have e220 : (220 : Int32).toInt = 220 := rfl
  have e68 : (68 : Int32).toInt = 68 := rfl
  have sa : t14_0.toInt ≤ 68 := hb.2.2.2.1
  have sb : t14_0.toInt ≤ 68 := hb.2.2.2.1
  unfold F_NH_whole_ab
  have g1 : ¬ (x2 < (0 : Int32)) := (by rw [e2]; decide)
  rw [if_neg g1]
  have g2 : ¬ ((11 : Int32) < x2) := (by rw [e2]; decide)
  rw [if_neg g2]
  rw [if_neg hr3]
  rw [if_neg hr4]
  rw [if_neg hr5]
  unfold F_NH_whole_ab_J37
  have g3 : ((F_NH_need (1 : Int32)) = (0 : Int32)) := (by decide)
  rw [if_pos g3]
  have g4 : ((2 : Int32) < x2) := (by rw [e2]; decide)
  rw [if_pos g4]
  have g5 : ((4 : Int32) < x2) := (by rw [e2]; decide)
  rw [if_pos g5]
  have g6 : ¬ (x2 = (5 : Int32)) := (by rw [e2]; decide)
  rw [if_neg g6]
  have g7 : ¬ (x2 = (6 : Int32)) := (by rw [e2]; decide)
  rw [if_neg g7]
  have g8 : ¬ (x2 = (7 : Int32)) := (by rw [e2]; decide)
  rw [if_neg g8]
  have h9 := V_mixBits (x2 := x2) (R := (68 : Int32)) (R2 := (68 : Int32)) (t0_0 := t0_0) (t0_1 := t0_1) (t1_0 := t1_0) (t2_0 := t14_0) (t2_1 := t14_1) (t3_0 := t15_0) (t4_0 := t14_0) (t4_1 := t14_1) (t5_0 := t15_0) (h := 3) (by decide) (by rw [e2]; rfl) hb hb (by omega) (by omega)
  generalize F_Mil_mixBits x2 (68 : Int32) (68 : Int32) t0_0 t0_1 t1_0 t14_0 t14_1 t15_0 t14_0 t14_1 t15_0 = p144 at h9 ⊢
  have hn := h9
  unfold F_NH_whole_ab_c231
  have h10 := V_keepWhole (x2 := x5) (t0_0 := (p144.1 : Int32)) (t0_1 := (p144.2.1 : Int32)) (t1_0 := (p144.2.2 : (Nat → Int32))) (t2_0 := t16_0) (t2_1 := t16_1) (t3_0 := t17_0) hn (by first | exact hw2 | exact hw)
  generalize F_NH_keepWhole x5 (p144.1 : Int32) (p144.2.1 : Int32) (p144.2.2 : (Nat → Int32)) t16_0 t16_1 t17_0 = p167 at h10 ⊢
  have hkw := h10
  unfold F_NH_whole_ab_c237
  by_cases g11 : p167.1 = (0 : Int32)
  ·
    rw [if_pos g11]
    have g11i : p167.1.toInt = 0 := q_eqI g11
    (unfold QV_whole_ab; dsimp only; first | exact ⟨cAn_o (cAn_z hkw (by with_reducible assumption)) rfl, hb⟩ | exact ⟨cAn_o hkw rfl, hb⟩ | exact ⟨cAn_o (cAn_n hw) rfl, hb⟩ | exact ⟨cAn_o (cAn_z hkw (by with_reducible assumption)) rfl, hb2⟩ | exact ⟨cAn_o hkw rfl, hb2⟩ | exact ⟨cAn_o (cAn_n hw) rfl, hb2⟩)
  ·
    rw [if_neg g11]
    have g11i : p167.1.toInt ≠ 0 := q_neI g11
    (unfold QV_whole_ab; dsimp only; first | exact ⟨cAn_o (cAn_z hkw (by with_reducible assumption)) rfl, hb⟩ | exact ⟨cAn_o hkw rfl, hb⟩ | exact ⟨cAn_o (cAn_n hw) rfl, hb⟩ | exact ⟨cAn_o (cAn_z hkw (by with_reducible assumption)) rfl, hb2⟩ | exact ⟨cAn_o hkw rfl, hb2⟩ | exact ⟨cAn_o (cAn_n hw) rfl, hb2⟩)
theorem V_whole_ab {x2 : Int32} {x3 : Int32} {x4 : Int32} {x5 : Int32} {t0_0 : Int32} {t0_1 : Int32} {t1_0 : (Nat → Int32)} {t2_0 : Int32} {t2_1 : Int32} {t3_0 : (Nat → Int32)} {t4_0 : Int32} {t4_1 : Int32} {t5_0 : (Nat → Int32)} {t6_0 : Int32} {t6_1 : Int32} {t7_0 : (Nat → Int32)} {t8_0 : Int32} {t8_1 : Int32} {t9_0 : (Nat → Int32)} {t10_0 : Int32} {t10_1 : Int32} {t11_0 : (Nat → Int32)} {t12_0 : Int32} {t12_1 : Int32} {t13_0 : (Nat → Int32)} {t14_0 : Int32} {t14_1 : Int32} {t15_0 : (Nat → Int32)} {t16_0 : Int32} {t16_1 : Int32} {t17_0 : (Nat → Int32)} {vb vt : Int} (hb : bO 68 t14_0 t14_1 t15_0 vb) (hB : bB 67 vb) (hw : bO 68 t16_0 t16_1 t17_0 vt) (h2 : 0 ≤ x2.toInt ∧ x2.toInt ≤ 11) (hr3 : ¬ F_NH_isRegister x3 = 0) (hr4 : ¬ F_NH_isRegister x4 = 0) (hr5 : ¬ F_NH_isRegister x5 = 0) : QV_whole_ab (sWh x2.toNatClampNeg vb vb) vt vb (F_NH_whole_ab x2 x3 x4 x5 t0_0 t0_1 t1_0 t2_0 t2_1 t3_0 t4_0 t4_1 t5_0 t6_0 t6_1 t7_0 t8_0 t8_1 t9_0 t10_0 t10_1 t11_0 t12_0 t12_1 t13_0 t14_0 t14_1 t15_0 t16_0 t16_1 t17_0) := by
  have hc := q_clI (i := x2) rfl h2.1
  have hx : x2 = 0 ∨ x2 = 1 ∨ x2 = 2 ∨ x2 = 3 ∨ x2 = 4 ∨ x2 = 5 ∨ x2 = 6 ∨ x2 = 7 ∨ x2 = 8 ∨ x2 = 9 ∨ x2 = 10 ∨ x2 = 11 := q_x12 h2.1 h2.2
  rcases hx with e | e | e | e | e | e | e | e | e | e | e | e <;> (rw [show x2.toNatClampNeg = _ from congrArg Int32.toNatClampNeg e])
  · exact V_whole_ab0 hb hB hw e hr3 hr4 hr5
  · exact V_whole_ab1 hb hB hw e hr3 hr4 hr5
  · exact V_whole_ab2 hb hB hw e hr3 hr4 hr5
  · exact V_whole_ab3 hb hB hw e hr3 hr4 hr5
  · exact V_whole_ab4 hb hB hw e hr3 hr4 hr5
  · exact V_whole_ab5 hb hB hw e hr3 hr4 hr5
  · exact V_whole_ab6 hb hB hw e hr3 hr4 hr5
  · exact V_whole_ab7 hb hB hw e hr3 hr4 hr5
  · exact V_whole_ab8 hb hB hw e hr3 hr4 hr5
  · exact V_whole_ab9 hb hB hw e hr3 hr4 hr5
  · exact V_whole_ab10 hb hB hw e hr3 hr4 hr5
  · exact V_whole_ab11 hb hB hw e hr3 hr4 hr5
def QV_whole_bt (o : Option Int) (vb : Int) (p : Int32 × Int32 × Int32 × (Nat → Int32) × Int32 × Int32 × (Nat → Int32) × Int32 × Int32 × (Nat → Int32) × Int32 × Int32 × (Nat → Int32) × Int32 × Int32 × (Nat → Int32) × Int32 × Int32 × (Nat → Int32) × Int32 × Int32 × (Nat → Int32) × Int32 × Int32 × (Nat → Int32)) : Prop := cAn o vb p.1 p.2.2.2.2.2.2.2.2.2.2.2.2.2.2.2.2.2.2.2.2.2.2.1 p.2.2.2.2.2.2.2.2.2.2.2.2.2.2.2.2.2.2.2.2.2.2.2.1 p.2.2.2.2.2.2.2.2.2.2.2.2.2.2.2.2.2.2.2.2.2.2.2.2
theorem V_whole_bt0 {x2 : Int32} {x3 : Int32} {x4 : Int32} {x5 : Int32} {t0_0 : Int32} {t0_1 : Int32} {t1_0 : (Nat → Int32)} {t2_0 : Int32} {t2_1 : Int32} {t3_0 : (Nat → Int32)} {t4_0 : Int32} {t4_1 : Int32} {t5_0 : (Nat → Int32)} {t6_0 : Int32} {t6_1 : Int32} {t7_0 : (Nat → Int32)} {t8_0 : Int32} {t8_1 : Int32} {t9_0 : (Nat → Int32)} {t10_0 : Int32} {t10_1 : Int32} {t11_0 : (Nat → Int32)} {t12_0 : Int32} {t12_1 : Int32} {t13_0 : (Nat → Int32)} {t14_0 : Int32} {t14_1 : Int32} {t15_0 : (Nat → Int32)} {t16_0 : Int32} {t16_1 : Int32} {t17_0 : (Nat → Int32)} {va vb : Int} (ha : bO 68 t14_0 t14_1 t15_0 va) (hA : bB 67 va) (hb : bO 68 t16_0 t16_1 t17_0 vb) (hB : bB 67 vb) (e2 : x2 = 0) (hr3 : ¬ F_NH_isRegister x3 = 0) (hr4 : ¬ F_NH_isRegister x4 = 0) (hr5 : ¬ F_NH_isRegister x5 = 0) : QV_whole_bt (some (va + vb)) vb (F_NH_whole_bt x2 x3 x4 x5 t0_0 t0_1 t1_0 t2_0 t2_1 t3_0 t4_0 t4_1 t5_0 t6_0 t6_1 t7_0 t8_0 t8_1 t9_0 t10_0 t10_1 t11_0 t12_0 t12_1 t13_0 t14_0 t14_1 t15_0 t16_0 t16_1 t17_0) := by
  have e0 : (0 : Int32).toInt = 0 := rfl
  have e220 : (220 : Int32).toInt = 220 := rfl
  have e68 : (68 : Int32).toInt = 68 := rfl
  have sa : t14_0.toInt ≤ 68 := ha.2.2.2.1
  have sb : t16_0.toInt ≤ 68 := hb.2.2.2.1
  have hw := hb
  unfold F_NH_whole_bt
  have g1 : ¬ (x2 < (0 : Int32)) := (by rw [e2]; decide)
  rw [if_neg g1]
  have g2 : ¬ ((11 : Int32) < x2) := (by rw [e2]; decide)
  rw [if_neg g2]
  rw [if_neg hr3]
  rw [if_neg hr4]
  rw [if_neg hr5]
  unfold F_NH_whole_bt_J37
  have g3 : ((F_NH_need (1 : Int32)) = (0 : Int32)) := (by decide)
  rw [if_pos g3]
  have g4 : ¬ ((2 : Int32) < x2) := (by rw [e2]; decide)
  rw [if_neg g4]
  have h5 := T_addOrMultiply (x2 := x2) (R := (68 : Int32)) (R2 := (68 : Int32)) (t0_0 := t0_0) (t0_1 := t0_1) (t1_0 := t1_0) (t2_0 := t14_0) (t2_1 := t14_1) (t3_0 := t15_0) (t4_0 := t16_0) (t4_1 := t16_1) (t5_0 := t17_0) ha hb (by first | assumption | omega | trivial | decide)
  generalize F_Mil_addOrMultiply x2 (68 : Int32) (68 : Int32) t0_0 t0_1 t1_0 t14_0 t14_1 t15_0 t16_0 t16_1 t17_0 = p1080 at h5 ⊢
  have hn := h5
  rw [if_neg (by rw [e2]; decide), if_neg (by rw [e2]; decide)] at hn
  unfold F_NH_whole_bt_c70
  have h6 := V_keepWhole (x2 := x5) (t0_0 := (p1080.1 : Int32)) (t0_1 := (p1080.2.1 : Int32)) (t1_0 := (p1080.2.2 : (Nat → Int32))) (t2_0 := t16_0) (t2_1 := t16_1) (t3_0 := t17_0) hn (by first | exact hw2 | exact hw)
  generalize F_NH_keepWhole x5 (p1080.1 : Int32) (p1080.2.1 : Int32) (p1080.2.2 : (Nat → Int32)) t16_0 t16_1 t17_0 = p1103 at h6 ⊢
  have hkw := h6
  unfold F_NH_whole_bt_c237_19
  by_cases g7 : p1103.1 = (0 : Int32)
  ·
    rw [if_pos g7]
    have g7i : p1103.1.toInt = 0 := q_eqI g7
    (unfold QV_whole_bt; dsimp only; first | exact cAn_o (cAn_z hkw (by with_reducible assumption)) rfl | exact cAn_o hkw rfl | exact cAn_o (cAn_n hw) rfl | exact cAn_o (cAn_n hw2) rfl)
  ·
    rw [if_neg g7]
    have g7i : p1103.1.toInt ≠ 0 := q_neI g7
    (unfold QV_whole_bt; dsimp only; first | exact cAn_o (cAn_z hkw (by with_reducible assumption)) rfl | exact cAn_o hkw rfl | exact cAn_o (cAn_n hw) rfl | exact cAn_o (cAn_n hw2) rfl)
theorem V_whole_bt1 {x2 : Int32} {x3 : Int32} {x4 : Int32} {x5 : Int32} {t0_0 : Int32} {t0_1 : Int32} {t1_0 : (Nat → Int32)} {t2_0 : Int32} {t2_1 : Int32} {t3_0 : (Nat → Int32)} {t4_0 : Int32} {t4_1 : Int32} {t5_0 : (Nat → Int32)} {t6_0 : Int32} {t6_1 : Int32} {t7_0 : (Nat → Int32)} {t8_0 : Int32} {t8_1 : Int32} {t9_0 : (Nat → Int32)} {t10_0 : Int32} {t10_1 : Int32} {t11_0 : (Nat → Int32)} {t12_0 : Int32} {t12_1 : Int32} {t13_0 : (Nat → Int32)} {t14_0 : Int32} {t14_1 : Int32} {t15_0 : (Nat → Int32)} {t16_0 : Int32} {t16_1 : Int32} {t17_0 : (Nat → Int32)} {va vb : Int} (ha : bO 68 t14_0 t14_1 t15_0 va) (hA : bB 67 va) (hb : bO 68 t16_0 t16_1 t17_0 vb) (hB : bB 67 vb) (e2 : x2 = 1) (hr3 : ¬ F_NH_isRegister x3 = 0) (hr4 : ¬ F_NH_isRegister x4 = 0) (hr5 : ¬ F_NH_isRegister x5 = 0) : QV_whole_bt (some (va - vb)) vb (F_NH_whole_bt x2 x3 x4 x5 t0_0 t0_1 t1_0 t2_0 t2_1 t3_0 t4_0 t4_1 t5_0 t6_0 t6_1 t7_0 t8_0 t8_1 t9_0 t10_0 t10_1 t11_0 t12_0 t12_1 t13_0 t14_0 t14_1 t15_0 t16_0 t16_1 t17_0) := by
  have e0 : (0 : Int32).toInt = 0 := rfl
  have e220 : (220 : Int32).toInt = 220 := rfl
  have e68 : (68 : Int32).toInt = 68 := rfl
  have sa : t14_0.toInt ≤ 68 := ha.2.2.2.1
  have sb : t16_0.toInt ≤ 68 := hb.2.2.2.1
  have hw := hb
  unfold F_NH_whole_bt
  have g1 : ¬ (x2 < (0 : Int32)) := (by rw [e2]; decide)
  rw [if_neg g1]
  have g2 : ¬ ((11 : Int32) < x2) := (by rw [e2]; decide)
  rw [if_neg g2]
  rw [if_neg hr3]
  rw [if_neg hr4]
  rw [if_neg hr5]
  unfold F_NH_whole_bt_J37
  have g3 : ((F_NH_need (1 : Int32)) = (0 : Int32)) := (by decide)
  rw [if_pos g3]
  have g4 : ¬ ((2 : Int32) < x2) := (by rw [e2]; decide)
  rw [if_neg g4]
  have h5 := T_addOrMultiply (x2 := x2) (R := (68 : Int32)) (R2 := (68 : Int32)) (t0_0 := t0_0) (t0_1 := t0_1) (t1_0 := t1_0) (t2_0 := t14_0) (t2_1 := t14_1) (t3_0 := t15_0) (t4_0 := t16_0) (t4_1 := t16_1) (t5_0 := t17_0) ha hb (by first | assumption | omega | trivial | decide)
  generalize F_Mil_addOrMultiply x2 (68 : Int32) (68 : Int32) t0_0 t0_1 t1_0 t14_0 t14_1 t15_0 t16_0 t16_1 t17_0 = p1080 at h5 ⊢
  have hn := h5
  rw [if_neg (by rw [e2]; decide), if_pos e2] at hn
  unfold F_NH_whole_bt_c70
  have h6 := V_keepWhole (x2 := x5) (t0_0 := (p1080.1 : Int32)) (t0_1 := (p1080.2.1 : Int32)) (t1_0 := (p1080.2.2 : (Nat → Int32))) (t2_0 := t16_0) (t2_1 := t16_1) (t3_0 := t17_0) hn (by first | exact hw2 | exact hw)
  generalize F_NH_keepWhole x5 (p1080.1 : Int32) (p1080.2.1 : Int32) (p1080.2.2 : (Nat → Int32)) t16_0 t16_1 t17_0 = p1103 at h6 ⊢
  have hkw := h6
  unfold F_NH_whole_bt_c237_19
  by_cases g7 : p1103.1 = (0 : Int32)
  ·
    rw [if_pos g7]
    have g7i : p1103.1.toInt = 0 := q_eqI g7
    (unfold QV_whole_bt; dsimp only; first | exact cAn_o (cAn_z hkw (by with_reducible assumption)) rfl | exact cAn_o hkw rfl | exact cAn_o (cAn_n hw) rfl | exact cAn_o (cAn_n hw2) rfl)
  ·
    rw [if_neg g7]
    have g7i : p1103.1.toInt ≠ 0 := q_neI g7
    (unfold QV_whole_bt; dsimp only; first | exact cAn_o (cAn_z hkw (by with_reducible assumption)) rfl | exact cAn_o hkw rfl | exact cAn_o (cAn_n hw) rfl | exact cAn_o (cAn_n hw2) rfl)
theorem V_whole_bt2 {x2 : Int32} {x3 : Int32} {x4 : Int32} {x5 : Int32} {t0_0 : Int32} {t0_1 : Int32} {t1_0 : (Nat → Int32)} {t2_0 : Int32} {t2_1 : Int32} {t3_0 : (Nat → Int32)} {t4_0 : Int32} {t4_1 : Int32} {t5_0 : (Nat → Int32)} {t6_0 : Int32} {t6_1 : Int32} {t7_0 : (Nat → Int32)} {t8_0 : Int32} {t8_1 : Int32} {t9_0 : (Nat → Int32)} {t10_0 : Int32} {t10_1 : Int32} {t11_0 : (Nat → Int32)} {t12_0 : Int32} {t12_1 : Int32} {t13_0 : (Nat → Int32)} {t14_0 : Int32} {t14_1 : Int32} {t15_0 : (Nat → Int32)} {t16_0 : Int32} {t16_1 : Int32} {t17_0 : (Nat → Int32)} {va vb : Int} (ha : bO 68 t14_0 t14_1 t15_0 va) (hA : bB 67 va) (hb : bO 68 t16_0 t16_1 t17_0 vb) (hB : bB 67 vb) (e2 : x2 = 2) (hr3 : ¬ F_NH_isRegister x3 = 0) (hr4 : ¬ F_NH_isRegister x4 = 0) (hr5 : ¬ F_NH_isRegister x5 = 0) : QV_whole_bt (some (va * vb)) vb (F_NH_whole_bt x2 x3 x4 x5 t0_0 t0_1 t1_0 t2_0 t2_1 t3_0 t4_0 t4_1 t5_0 t6_0 t6_1 t7_0 t8_0 t8_1 t9_0 t10_0 t10_1 t11_0 t12_0 t12_1 t13_0 t14_0 t14_1 t15_0 t16_0 t16_1 t17_0) := by
  have e0 : (0 : Int32).toInt = 0 := rfl
  have e220 : (220 : Int32).toInt = 220 := rfl
  have e68 : (68 : Int32).toInt = 68 := rfl
  have sa : t14_0.toInt ≤ 68 := ha.2.2.2.1
  have sb : t16_0.toInt ≤ 68 := hb.2.2.2.1
  have hw := hb
  unfold F_NH_whole_bt
  have g1 : ¬ (x2 < (0 : Int32)) := (by rw [e2]; decide)
  rw [if_neg g1]
  have g2 : ¬ ((11 : Int32) < x2) := (by rw [e2]; decide)
  rw [if_neg g2]
  rw [if_neg hr3]
  rw [if_neg hr4]
  rw [if_neg hr5]
  unfold F_NH_whole_bt_J37
  have g3 : ((F_NH_need (1 : Int32)) = (0 : Int32)) := (by decide)
  rw [if_pos g3]
  have g4 : ¬ ((2 : Int32) < x2) := (by rw [e2]; decide)
  rw [if_neg g4]
  have h5 := T_addOrMultiply (x2 := x2) (R := (68 : Int32)) (R2 := (68 : Int32)) (t0_0 := t0_0) (t0_1 := t0_1) (t1_0 := t1_0) (t2_0 := t14_0) (t2_1 := t14_1) (t3_0 := t15_0) (t4_0 := t16_0) (t4_1 := t16_1) (t5_0 := t17_0) ha hb (by first | assumption | omega | trivial | decide)
  generalize F_Mil_addOrMultiply x2 (68 : Int32) (68 : Int32) t0_0 t0_1 t1_0 t14_0 t14_1 t15_0 t16_0 t16_1 t17_0 = p1080 at h5 ⊢
  have hn := h5
  rw [if_pos e2] at hn
  unfold F_NH_whole_bt_c70
  have h6 := V_keepWhole (x2 := x5) (t0_0 := (p1080.1 : Int32)) (t0_1 := (p1080.2.1 : Int32)) (t1_0 := (p1080.2.2 : (Nat → Int32))) (t2_0 := t16_0) (t2_1 := t16_1) (t3_0 := t17_0) hn (by first | exact hw2 | exact hw)
  generalize F_NH_keepWhole x5 (p1080.1 : Int32) (p1080.2.1 : Int32) (p1080.2.2 : (Nat → Int32)) t16_0 t16_1 t17_0 = p1103 at h6 ⊢
  have hkw := h6
  unfold F_NH_whole_bt_c237_19
  by_cases g7 : p1103.1 = (0 : Int32)
  ·
    rw [if_pos g7]
    have g7i : p1103.1.toInt = 0 := q_eqI g7
    (unfold QV_whole_bt; dsimp only; first | exact cAn_o (cAn_z hkw (by with_reducible assumption)) rfl | exact cAn_o hkw rfl | exact cAn_o (cAn_n hw) rfl | exact cAn_o (cAn_n hw2) rfl)
  ·
    rw [if_neg g7]
    have g7i : p1103.1.toInt ≠ 0 := q_neI g7
    (unfold QV_whole_bt; dsimp only; first | exact cAn_o (cAn_z hkw (by with_reducible assumption)) rfl | exact cAn_o hkw rfl | exact cAn_o (cAn_n hw) rfl | exact cAn_o (cAn_n hw2) rfl)
theorem V_whole_bt3 {x2 : Int32} {x3 : Int32} {x4 : Int32} {x5 : Int32} {t0_0 : Int32} {t0_1 : Int32} {t1_0 : (Nat → Int32)} {t2_0 : Int32} {t2_1 : Int32} {t3_0 : (Nat → Int32)} {t4_0 : Int32} {t4_1 : Int32} {t5_0 : (Nat → Int32)} {t6_0 : Int32} {t6_1 : Int32} {t7_0 : (Nat → Int32)} {t8_0 : Int32} {t8_1 : Int32} {t9_0 : (Nat → Int32)} {t10_0 : Int32} {t10_1 : Int32} {t11_0 : (Nat → Int32)} {t12_0 : Int32} {t12_1 : Int32} {t13_0 : (Nat → Int32)} {t14_0 : Int32} {t14_1 : Int32} {t15_0 : (Nat → Int32)} {t16_0 : Int32} {t16_1 : Int32} {t17_0 : (Nat → Int32)} {va vb : Int} (ha : bO 68 t14_0 t14_1 t15_0 va) (hA : bB 67 va) (hb : bO 68 t16_0 t16_1 t17_0 vb) (hB : bB 67 vb) (e2 : x2 = 3) (hr3 : ¬ F_NH_isRegister x3 = 0) (hr4 : ¬ F_NH_isRegister x4 = 0) (hr5 : ¬ F_NH_isRegister x5 = 0) : QV_whole_bt (if vb = 0 then none else some (va.tdiv vb)) vb (F_NH_whole_bt x2 x3 x4 x5 t0_0 t0_1 t1_0 t2_0 t2_1 t3_0 t4_0 t4_1 t5_0 t6_0 t6_1 t7_0 t8_0 t8_1 t9_0 t10_0 t10_1 t11_0 t12_0 t12_1 t13_0 t14_0 t14_1 t15_0 t16_0 t16_1 t17_0) := by
  have e0 : (0 : Int32).toInt = 0 := rfl
  have e220 : (220 : Int32).toInt = 220 := rfl
  have e68 : (68 : Int32).toInt = 68 := rfl
  have sa : t14_0.toInt ≤ 68 := ha.2.2.2.1
  have sb : t16_0.toInt ≤ 68 := hb.2.2.2.1
  have hw := hb
  unfold F_NH_whole_bt
  have g1 : ¬ (x2 < (0 : Int32)) := (by rw [e2]; decide)
  rw [if_neg g1]
  have g2 : ¬ ((11 : Int32) < x2) := (by rw [e2]; decide)
  rw [if_neg g2]
  rw [if_neg hr3]
  rw [if_neg hr4]
  rw [if_neg hr5]
  unfold F_NH_whole_bt_J37
  have g3 : ((F_NH_need (1 : Int32)) = (0 : Int32)) := (by decide)
  rw [if_pos g3]
  have g4 : ((2 : Int32) < x2) := (by rw [e2]; decide)
  rw [if_pos g4]
  have g5 : ¬ ((4 : Int32) < x2) := (by rw [e2]; decide)
  rw [if_neg g5]
  by_cases g6 : t16_0 ≤ (0 : Int32)
  ·
    rw [if_pos g6]
    have hvz : vb = 0 := Classical.byContradiction (fun c => absurd (q_leI g6) (by have := hb.pos.mpr c; omega))
    unfold F_NH_whole_bt_J94
    have g7 : ¬ ((F_NH_canHave (0 : Int32)) = (0 : Int32)) := (by decide)
    rw [if_neg g7]
    (unfold QV_whole_bt; dsimp only; first | exact cAn_o (cAn_z hkw (by with_reducible assumption)) (by rw [if_pos hvz]) | exact cAn_o hkw (by rw [if_pos hvz]) | exact cAn_o (cAn_n hw) (by rw [if_pos hvz]) | exact cAn_o (cAn_n hw2) (by rw [if_pos hvz]) | exact cAn_o (cAn_z hkw (by with_reducible assumption)) (by rw [if_neg hvz]) | exact cAn_o hkw (by rw [if_neg hvz]) | exact cAn_o (cAn_n hw) (by rw [if_neg hvz]) | exact cAn_o (cAn_n hw2) (by rw [if_neg hvz]))
  ·
    rw [if_neg g6]
    have hvz : vb ≠ 0 := hb.pos.mp (by have := q_nleI g6; omega)
    have g6i := q_nleI g6
    unfold F_NH_whole_bt_J94
    have g8 : ((F_NH_canHave (1 : Int32)) = (0 : Int32)) := (by decide)
    rw [if_pos g8]
    rw [if_pos e2]
    have h9 := T_quotientOrRest (x2 := (1 : Int32)) (R := (68 : Int32)) (R2 := (68 : Int32)) (t0_0 := t0_0) (t0_1 := t0_1) (t1_0 := t1_0) (t2_0 := t2_0) (t2_1 := t2_1) (t3_0 := t3_0) (t4_0 := t14_0) (t4_1 := t14_1) (t5_0 := t15_0) (t6_0 := t16_0) (t6_1 := t16_1) (t7_0 := t17_0) ha hb (hb.pos.mp (by omega)) (hA.mono (by decide))
    replace h9 := h9.2
    generalize F_Mil_quotientOrRest (1 : Int32) (68 : Int32) (68 : Int32) t0_0 t0_1 t1_0 t2_0 t2_1 t3_0 t14_0 t14_1 t15_0 t16_0 t16_1 t17_0 = p1002 at h9 ⊢
    have hn := h9.1
    rw [if_neg (by decide)] at hn
    have hb2 := h9.2.2
    have hw2 := hb2
    unfold F_NH_whole_bt_c115_16
    have h10 := V_keepWhole (x2 := x5) (t0_0 := (p1002.1 : Int32)) (t0_1 := (p1002.2.1 : Int32)) (t1_0 := (p1002.2.2.1 : (Nat → Int32))) (t2_0 := (p1002.2.2.2.2.2.2.1 : Int32)) (t2_1 := (p1002.2.2.2.2.2.2.2.1 : Int32)) (t3_0 := (p1002.2.2.2.2.2.2.2.2 : (Nat → Int32))) hn (by first | exact hw2 | exact hw)
    generalize F_NH_keepWhole x5 (p1002.1 : Int32) (p1002.2.1 : Int32) (p1002.2.2.1 : (Nat → Int32)) (p1002.2.2.2.2.2.2.1 : Int32) (p1002.2.2.2.2.2.2.2.1 : Int32) (p1002.2.2.2.2.2.2.2.2 : (Nat → Int32)) = p1031 at h10 ⊢
    have hkw := h10
    unfold F_NH_whole_bt_c237_17
    by_cases g11 : p1031.1 = (0 : Int32)
    ·
      rw [if_pos g11]
      have g11i : p1031.1.toInt = 0 := q_eqI g11
      (unfold QV_whole_bt; dsimp only; first | exact cAn_o (cAn_z hkw (by with_reducible assumption)) (by rw [if_pos hvz]) | exact cAn_o hkw (by rw [if_pos hvz]) | exact cAn_o (cAn_n hw) (by rw [if_pos hvz]) | exact cAn_o (cAn_n hw2) (by rw [if_pos hvz]) | exact cAn_o (cAn_z hkw (by with_reducible assumption)) (by rw [if_neg hvz]) | exact cAn_o hkw (by rw [if_neg hvz]) | exact cAn_o (cAn_n hw) (by rw [if_neg hvz]) | exact cAn_o (cAn_n hw2) (by rw [if_neg hvz]))
    ·
      rw [if_neg g11]
      have g11i : p1031.1.toInt ≠ 0 := q_neI g11
      (unfold QV_whole_bt; dsimp only; first | exact cAn_o (cAn_z hkw (by with_reducible assumption)) (by rw [if_pos hvz]) | exact cAn_o hkw (by rw [if_pos hvz]) | exact cAn_o (cAn_n hw) (by rw [if_pos hvz]) | exact cAn_o (cAn_n hw2) (by rw [if_pos hvz]) | exact cAn_o (cAn_z hkw (by with_reducible assumption)) (by rw [if_neg hvz]) | exact cAn_o hkw (by rw [if_neg hvz]) | exact cAn_o (cAn_n hw) (by rw [if_neg hvz]) | exact cAn_o (cAn_n hw2) (by rw [if_neg hvz]))
theorem V_whole_bt4 {x2 : Int32} {x3 : Int32} {x4 : Int32} {x5 : Int32} {t0_0 : Int32} {t0_1 : Int32} {t1_0 : (Nat → Int32)} {t2_0 : Int32} {t2_1 : Int32} {t3_0 : (Nat → Int32)} {t4_0 : Int32} {t4_1 : Int32} {t5_0 : (Nat → Int32)} {t6_0 : Int32} {t6_1 : Int32} {t7_0 : (Nat → Int32)} {t8_0 : Int32} {t8_1 : Int32} {t9_0 : (Nat → Int32)} {t10_0 : Int32} {t10_1 : Int32} {t11_0 : (Nat → Int32)} {t12_0 : Int32} {t12_1 : Int32} {t13_0 : (Nat → Int32)} {t14_0 : Int32} {t14_1 : Int32} {t15_0 : (Nat → Int32)} {t16_0 : Int32} {t16_1 : Int32} {t17_0 : (Nat → Int32)} {va vb : Int} (ha : bO 68 t14_0 t14_1 t15_0 va) (hA : bB 67 va) (hb : bO 68 t16_0 t16_1 t17_0 vb) (hB : bB 67 vb) (e2 : x2 = 4) (hr3 : ¬ F_NH_isRegister x3 = 0) (hr4 : ¬ F_NH_isRegister x4 = 0) (hr5 : ¬ F_NH_isRegister x5 = 0) : QV_whole_bt (if vb = 0 then none else some (va.tmod vb)) vb (F_NH_whole_bt x2 x3 x4 x5 t0_0 t0_1 t1_0 t2_0 t2_1 t3_0 t4_0 t4_1 t5_0 t6_0 t6_1 t7_0 t8_0 t8_1 t9_0 t10_0 t10_1 t11_0 t12_0 t12_1 t13_0 t14_0 t14_1 t15_0 t16_0 t16_1 t17_0) := by
  have e0 : (0 : Int32).toInt = 0 := rfl
  have e220 : (220 : Int32).toInt = 220 := rfl
  have e68 : (68 : Int32).toInt = 68 := rfl
  have sa : t14_0.toInt ≤ 68 := ha.2.2.2.1
  have sb : t16_0.toInt ≤ 68 := hb.2.2.2.1
  have hw := hb
  unfold F_NH_whole_bt
  have g1 : ¬ (x2 < (0 : Int32)) := (by rw [e2]; decide)
  rw [if_neg g1]
  have g2 : ¬ ((11 : Int32) < x2) := (by rw [e2]; decide)
  rw [if_neg g2]
  rw [if_neg hr3]
  rw [if_neg hr4]
  rw [if_neg hr5]
  unfold F_NH_whole_bt_J37
  have g3 : ((F_NH_need (1 : Int32)) = (0 : Int32)) := (by decide)
  rw [if_pos g3]
  have g4 : ((2 : Int32) < x2) := (by rw [e2]; decide)
  rw [if_pos g4]
  have g5 : ¬ ((4 : Int32) < x2) := (by rw [e2]; decide)
  rw [if_neg g5]
  by_cases g6 : t16_0 ≤ (0 : Int32)
  ·
    rw [if_pos g6]
    have hvz : vb = 0 := Classical.byContradiction (fun c => absurd (q_leI g6) (by have := hb.pos.mpr c; omega))
    unfold F_NH_whole_bt_J94
    have g7 : ¬ ((F_NH_canHave (0 : Int32)) = (0 : Int32)) := (by decide)
    rw [if_neg g7]
    (unfold QV_whole_bt; dsimp only; first | exact cAn_o (cAn_z hkw (by with_reducible assumption)) (by rw [if_pos hvz]) | exact cAn_o hkw (by rw [if_pos hvz]) | exact cAn_o (cAn_n hw) (by rw [if_pos hvz]) | exact cAn_o (cAn_n hw2) (by rw [if_pos hvz]) | exact cAn_o (cAn_z hkw (by with_reducible assumption)) (by rw [if_neg hvz]) | exact cAn_o hkw (by rw [if_neg hvz]) | exact cAn_o (cAn_n hw) (by rw [if_neg hvz]) | exact cAn_o (cAn_n hw2) (by rw [if_neg hvz]))
  ·
    rw [if_neg g6]
    have hvz : vb ≠ 0 := hb.pos.mp (by have := q_nleI g6; omega)
    have g6i := q_nleI g6
    unfold F_NH_whole_bt_J94
    have g8 : ((F_NH_canHave (1 : Int32)) = (0 : Int32)) := (by decide)
    rw [if_pos g8]
    have g9 : ¬ (x2 = (3 : Int32)) := (by rw [e2]; decide)
    rw [if_neg g9]
    have h10 := T_quotientOrRest (x2 := (0 : Int32)) (R := (68 : Int32)) (R2 := (68 : Int32)) (t0_0 := t0_0) (t0_1 := t0_1) (t1_0 := t1_0) (t2_0 := t2_0) (t2_1 := t2_1) (t3_0 := t3_0) (t4_0 := t14_0) (t4_1 := t14_1) (t5_0 := t15_0) (t6_0 := t16_0) (t6_1 := t16_1) (t7_0 := t17_0) ha hb (hb.pos.mp (by omega)) (hA.mono (by decide))
    replace h10 := h10.2
    generalize F_Mil_quotientOrRest (0 : Int32) (68 : Int32) (68 : Int32) t0_0 t0_1 t1_0 t2_0 t2_1 t3_0 t14_0 t14_1 t15_0 t16_0 t16_1 t17_0 = p904 at h10 ⊢
    have hn := h10.1
    rw [if_pos rfl] at hn
    have hb2 := h10.2.2
    have hw2 := hb2
    unfold F_NH_whole_bt_c115
    have h11 := V_keepWhole (x2 := x5) (t0_0 := (p904.1 : Int32)) (t0_1 := (p904.2.1 : Int32)) (t1_0 := (p904.2.2.1 : (Nat → Int32))) (t2_0 := (p904.2.2.2.2.2.2.1 : Int32)) (t2_1 := (p904.2.2.2.2.2.2.2.1 : Int32)) (t3_0 := (p904.2.2.2.2.2.2.2.2 : (Nat → Int32))) hn (by first | exact hw2 | exact hw)
    generalize F_NH_keepWhole x5 (p904.1 : Int32) (p904.2.1 : Int32) (p904.2.2.1 : (Nat → Int32)) (p904.2.2.2.2.2.2.1 : Int32) (p904.2.2.2.2.2.2.2.1 : Int32) (p904.2.2.2.2.2.2.2.2 : (Nat → Int32)) = p933 at h11 ⊢
    have hkw := h11
    unfold F_NH_whole_bt_c237_15
    by_cases g12 : p933.1 = (0 : Int32)
    ·
      rw [if_pos g12]
      have g12i : p933.1.toInt = 0 := q_eqI g12
      (unfold QV_whole_bt; dsimp only; first | exact cAn_o (cAn_z hkw (by with_reducible assumption)) (by rw [if_pos hvz]) | exact cAn_o hkw (by rw [if_pos hvz]) | exact cAn_o (cAn_n hw) (by rw [if_pos hvz]) | exact cAn_o (cAn_n hw2) (by rw [if_pos hvz]) | exact cAn_o (cAn_z hkw (by with_reducible assumption)) (by rw [if_neg hvz]) | exact cAn_o hkw (by rw [if_neg hvz]) | exact cAn_o (cAn_n hw) (by rw [if_neg hvz]) | exact cAn_o (cAn_n hw2) (by rw [if_neg hvz]))
    ·
      rw [if_neg g12]
      have g12i : p933.1.toInt ≠ 0 := q_neI g12
      (unfold QV_whole_bt; dsimp only; first | exact cAn_o (cAn_z hkw (by with_reducible assumption)) (by rw [if_pos hvz]) | exact cAn_o hkw (by rw [if_pos hvz]) | exact cAn_o (cAn_n hw) (by rw [if_pos hvz]) | exact cAn_o (cAn_n hw2) (by rw [if_pos hvz]) | exact cAn_o (cAn_z hkw (by with_reducible assumption)) (by rw [if_neg hvz]) | exact cAn_o hkw (by rw [if_neg hvz]) | exact cAn_o (cAn_n hw) (by rw [if_neg hvz]) | exact cAn_o (cAn_n hw2) (by rw [if_neg hvz]))
theorem V_whole_bt5 {x2 : Int32} {x3 : Int32} {x4 : Int32} {x5 : Int32} {t0_0 : Int32} {t0_1 : Int32} {t1_0 : (Nat → Int32)} {t2_0 : Int32} {t2_1 : Int32} {t3_0 : (Nat → Int32)} {t4_0 : Int32} {t4_1 : Int32} {t5_0 : (Nat → Int32)} {t6_0 : Int32} {t6_1 : Int32} {t7_0 : (Nat → Int32)} {t8_0 : Int32} {t8_1 : Int32} {t9_0 : (Nat → Int32)} {t10_0 : Int32} {t10_1 : Int32} {t11_0 : (Nat → Int32)} {t12_0 : Int32} {t12_1 : Int32} {t13_0 : (Nat → Int32)} {t14_0 : Int32} {t14_1 : Int32} {t15_0 : (Nat → Int32)} {t16_0 : Int32} {t16_1 : Int32} {t17_0 : (Nat → Int32)} {va vb : Int} (ha : bO 68 t14_0 t14_1 t15_0 va) (hA : bB 67 va) (hb : bO 68 t16_0 t16_1 t17_0 vb) (hB : bB 67 vb) (e2 : x2 = 5) (hr3 : ¬ F_NH_isRegister x3 = 0) (hr4 : ¬ F_NH_isRegister x4 = 0) (hr5 : ¬ F_NH_isRegister x5 = 0) : QV_whole_bt (if vb ≤ 0 then none else some (va % vb)) vb (F_NH_whole_bt x2 x3 x4 x5 t0_0 t0_1 t1_0 t2_0 t2_1 t3_0 t4_0 t4_1 t5_0 t6_0 t6_1 t7_0 t8_0 t8_1 t9_0 t10_0 t10_1 t11_0 t12_0 t12_1 t13_0 t14_0 t14_1 t15_0 t16_0 t16_1 t17_0) := by
  have e0 : (0 : Int32).toInt = 0 := rfl
  have e220 : (220 : Int32).toInt = 220 := rfl
  have e68 : (68 : Int32).toInt = 68 := rfl
  have sa : t14_0.toInt ≤ 68 := ha.2.2.2.1
  have sb : t16_0.toInt ≤ 68 := hb.2.2.2.1
  have hw := hb
  unfold F_NH_whole_bt
  have g1 : ¬ (x2 < (0 : Int32)) := (by rw [e2]; decide)
  rw [if_neg g1]
  have g2 : ¬ ((11 : Int32) < x2) := (by rw [e2]; decide)
  rw [if_neg g2]
  rw [if_neg hr3]
  rw [if_neg hr4]
  rw [if_neg hr5]
  unfold F_NH_whole_bt_J37
  have g3 : ((F_NH_need (1 : Int32)) = (0 : Int32)) := (by decide)
  rw [if_pos g3]
  have g4 : ((2 : Int32) < x2) := (by rw [e2]; decide)
  rw [if_pos g4]
  have g5 : ((4 : Int32) < x2) := (by rw [e2]; decide)
  rw [if_pos g5]
  rw [if_pos e2]
  by_cases g6 : ((F_Big_sign (68 : Int32) t16_0 t16_1) : Int32) ≤ (0 : Int32)
  ·
    rw [if_pos g6]
    have hvs := v_sgnP0 hb g6
    unfold F_NH_whole_bt_J139
    have g7 : ¬ ((F_NH_canHave (0 : Int32)) = (0 : Int32)) := (by decide)
    rw [if_neg g7]
    (unfold QV_whole_bt; dsimp only; first | exact cAn_o (cAn_z hkw (by with_reducible assumption)) (by rw [if_pos hvs]) | exact cAn_o hkw (by rw [if_pos hvs]) | exact cAn_o (cAn_n hw) (by rw [if_pos hvs]) | exact cAn_o (cAn_n hw2) (by rw [if_pos hvs]) | exact cAn_o (cAn_z hkw (by with_reducible assumption)) (by rw [if_neg (show ¬ vb ≤ 0 by omega)]) | exact cAn_o hkw (by rw [if_neg (show ¬ vb ≤ 0 by omega)]) | exact cAn_o (cAn_n hw) (by rw [if_neg (show ¬ vb ≤ 0 by omega)]) | exact cAn_o (cAn_n hw2) (by rw [if_neg (show ¬ vb ≤ 0 by omega)]))
  ·
    rw [if_neg g6]
    have hvs := v_sgnP hb g6
    unfold F_NH_whole_bt_J139
    have g8 : ((F_NH_canHave (1 : Int32)) = (0 : Int32)) := (by decide)
    rw [if_pos g8]
    have h9 := T_modulo (R := (68 : Int32)) (R2 := (68 : Int32)) (R3 := (220 : Int32)) (t0_0 := t2_0) (t0_1 := t2_1) (t1_0 := t3_0) (t2_0 := t14_0) (t2_1 := t14_1) (t3_0 := t15_0) (t4_0 := t16_0) (t4_1 := t16_1) (t5_0 := t17_0) (t6_0 := t0_0) (t6_1 := t0_1) (t7_0 := t1_0) ha hb (by omega) hA (by decide) (by omega) (by decide)
    replace h9 := h9.2
    generalize F_Mil_modulo (68 : Int32) (68 : Int32) (220 : Int32) t2_0 t2_1 t3_0 t14_0 t14_1 t15_0 t16_0 t16_1 t17_0 t0_0 t0_1 t1_0 = p765 at h9 ⊢
    have hn := h9.2.2
    rw [v_modE hvs] at hn
    have hb2 := h9.2.1
    have hw2 := hb2
    unfold F_NH_whole_bt_c157
    have h10 := V_keepWhole (x2 := x5) (t0_0 := (p765.2.2.2.2.2.2.1 : Int32)) (t0_1 := (p765.2.2.2.2.2.2.2.1 : Int32)) (t1_0 := (p765.2.2.2.2.2.2.2.2 : (Nat → Int32))) (t2_0 := (p765.2.2.2.1 : Int32)) (t2_1 := (p765.2.2.2.2.1 : Int32)) (t3_0 := (p765.2.2.2.2.2.1 : (Nat → Int32))) hn (by first | exact hw2 | exact hw)
    generalize F_NH_keepWhole x5 (p765.2.2.2.2.2.2.1 : Int32) (p765.2.2.2.2.2.2.2.1 : Int32) (p765.2.2.2.2.2.2.2.2 : (Nat → Int32)) (p765.2.2.2.1 : Int32) (p765.2.2.2.2.1 : Int32) (p765.2.2.2.2.2.1 : (Nat → Int32)) = p794 at h10 ⊢
    have hkw := h10
    unfold F_NH_whole_bt_c237_12
    by_cases g11 : p794.1 = (0 : Int32)
    ·
      rw [if_pos g11]
      have g11i : p794.1.toInt = 0 := q_eqI g11
      (unfold QV_whole_bt; dsimp only; first | exact cAn_o (cAn_z hkw (by with_reducible assumption)) (by rw [if_pos hvs]) | exact cAn_o hkw (by rw [if_pos hvs]) | exact cAn_o (cAn_n hw) (by rw [if_pos hvs]) | exact cAn_o (cAn_n hw2) (by rw [if_pos hvs]) | exact cAn_o (cAn_z hkw (by with_reducible assumption)) (by rw [if_neg (show ¬ vb ≤ 0 by omega)]) | exact cAn_o hkw (by rw [if_neg (show ¬ vb ≤ 0 by omega)]) | exact cAn_o (cAn_n hw) (by rw [if_neg (show ¬ vb ≤ 0 by omega)]) | exact cAn_o (cAn_n hw2) (by rw [if_neg (show ¬ vb ≤ 0 by omega)]))
    ·
      rw [if_neg g11]
      have g11i : p794.1.toInt ≠ 0 := q_neI g11
      (unfold QV_whole_bt; dsimp only; first | exact cAn_o (cAn_z hkw (by with_reducible assumption)) (by rw [if_pos hvs]) | exact cAn_o hkw (by rw [if_pos hvs]) | exact cAn_o (cAn_n hw) (by rw [if_pos hvs]) | exact cAn_o (cAn_n hw2) (by rw [if_pos hvs]) | exact cAn_o (cAn_z hkw (by with_reducible assumption)) (by rw [if_neg (show ¬ vb ≤ 0 by omega)]) | exact cAn_o hkw (by rw [if_neg (show ¬ vb ≤ 0 by omega)]) | exact cAn_o (cAn_n hw) (by rw [if_neg (show ¬ vb ≤ 0 by omega)]) | exact cAn_o (cAn_n hw2) (by rw [if_neg (show ¬ vb ≤ 0 by omega)]))
theorem V_whole_bt6 {x2 : Int32} {x3 : Int32} {x4 : Int32} {x5 : Int32} {t0_0 : Int32} {t0_1 : Int32} {t1_0 : (Nat → Int32)} {t2_0 : Int32} {t2_1 : Int32} {t3_0 : (Nat → Int32)} {t4_0 : Int32} {t4_1 : Int32} {t5_0 : (Nat → Int32)} {t6_0 : Int32} {t6_1 : Int32} {t7_0 : (Nat → Int32)} {t8_0 : Int32} {t8_1 : Int32} {t9_0 : (Nat → Int32)} {t10_0 : Int32} {t10_1 : Int32} {t11_0 : (Nat → Int32)} {t12_0 : Int32} {t12_1 : Int32} {t13_0 : (Nat → Int32)} {t14_0 : Int32} {t14_1 : Int32} {t15_0 : (Nat → Int32)} {t16_0 : Int32} {t16_1 : Int32} {t17_0 : (Nat → Int32)} {va vb : Int} (ha : bO 68 t14_0 t14_1 t15_0 va) (hA : bB 67 va) (hb : bO 68 t16_0 t16_1 t17_0 vb) (hB : bB 67 vb) (e2 : x2 = 6) (hr3 : ¬ F_NH_isRegister x3 = 0) (hr4 : ¬ F_NH_isRegister x4 = 0) (hr5 : ¬ F_NH_isRegister x5 = 0) : QV_whole_bt (some (Int.gcd va vb : Int)) vb (F_NH_whole_bt x2 x3 x4 x5 t0_0 t0_1 t1_0 t2_0 t2_1 t3_0 t4_0 t4_1 t5_0 t6_0 t6_1 t7_0 t8_0 t8_1 t9_0 t10_0 t10_1 t11_0 t12_0 t12_1 t13_0 t14_0 t14_1 t15_0 t16_0 t16_1 t17_0) := by
  have e0 : (0 : Int32).toInt = 0 := rfl
  have e220 : (220 : Int32).toInt = 220 := rfl
  have e68 : (68 : Int32).toInt = 68 := rfl
  have sa : t14_0.toInt ≤ 68 := ha.2.2.2.1
  have sb : t16_0.toInt ≤ 68 := hb.2.2.2.1
  have hw := hb
  unfold F_NH_whole_bt
  have g1 : ¬ (x2 < (0 : Int32)) := (by rw [e2]; decide)
  rw [if_neg g1]
  have g2 : ¬ ((11 : Int32) < x2) := (by rw [e2]; decide)
  rw [if_neg g2]
  rw [if_neg hr3]
  rw [if_neg hr4]
  rw [if_neg hr5]
  unfold F_NH_whole_bt_J37
  have g3 : ((F_NH_need (1 : Int32)) = (0 : Int32)) := (by decide)
  rw [if_pos g3]
  have g4 : ((2 : Int32) < x2) := (by rw [e2]; decide)
  rw [if_pos g4]
  have g5 : ((4 : Int32) < x2) := (by rw [e2]; decide)
  rw [if_pos g5]
  have g6 : ¬ (x2 = (5 : Int32)) := (by rw [e2]; decide)
  rw [if_neg g6]
  rw [if_pos e2]
  have h7 := V_commonDivisor (M := 67) (R := (68 : Int32)) (R2 := (68 : Int32)) (t0_0 := t0_0) (t0_1 := t0_1) (t1_0 := t1_0) (t2_0 := t2_0) (t2_1 := t2_1) (t3_0 := t3_0) (t4_0 := t6_0) (t4_1 := t6_1) (t5_0 := t7_0) (t6_0 := t8_0) (t6_1 := t8_1) (t7_0 := t9_0) (t8_0 := t14_0) (t8_1 := t14_1) (t9_0 := t15_0) (t10_0 := t16_0) (t10_1 := t16_1) (t11_0 := t17_0) (by decide) ha hb hA hB
  replace h7 := h7.2
  generalize F_Mil_commonDivisor (68 : Int32) (68 : Int32) t0_0 t0_1 t1_0 t2_0 t2_1 t3_0 t6_0 t6_1 t7_0 t8_0 t8_1 t9_0 t14_0 t14_1 t15_0 t16_0 t16_1 t17_0 = p619 at h7 ⊢
  have hn := h7.1
  unfold F_NH_whole_bt_c177
  have h8 := V_keepWhole (x2 := x5) (t0_0 := (p619.1 : Int32)) (t0_1 := (p619.2.1 : Int32)) (t1_0 := (p619.2.2.1 : (Nat → Int32))) (t2_0 := t16_0) (t2_1 := t16_1) (t3_0 := t17_0) hn (by first | exact hw2 | exact hw)
  generalize F_NH_keepWhole x5 (p619.1 : Int32) (p619.2.1 : Int32) (p619.2.2.1 : (Nat → Int32)) t16_0 t16_1 t17_0 = p651 at h8 ⊢
  have hkw := h8
  unfold F_NH_whole_bt_c237_9
  by_cases g9 : p651.1 = (0 : Int32)
  ·
    rw [if_pos g9]
    have g9i : p651.1.toInt = 0 := q_eqI g9
    (unfold QV_whole_bt; dsimp only; first | exact cAn_o (cAn_z hkw (by with_reducible assumption)) rfl | exact cAn_o hkw rfl | exact cAn_o (cAn_n hw) rfl | exact cAn_o (cAn_n hw2) rfl)
  ·
    rw [if_neg g9]
    have g9i : p651.1.toInt ≠ 0 := q_neI g9
    (unfold QV_whole_bt; dsimp only; first | exact cAn_o (cAn_z hkw (by with_reducible assumption)) rfl | exact cAn_o hkw rfl | exact cAn_o (cAn_n hw) rfl | exact cAn_o (cAn_n hw2) rfl)
theorem V_whole_bt7 {x2 : Int32} {x3 : Int32} {x4 : Int32} {x5 : Int32} {t0_0 : Int32} {t0_1 : Int32} {t1_0 : (Nat → Int32)} {t2_0 : Int32} {t2_1 : Int32} {t3_0 : (Nat → Int32)} {t4_0 : Int32} {t4_1 : Int32} {t5_0 : (Nat → Int32)} {t6_0 : Int32} {t6_1 : Int32} {t7_0 : (Nat → Int32)} {t8_0 : Int32} {t8_1 : Int32} {t9_0 : (Nat → Int32)} {t10_0 : Int32} {t10_1 : Int32} {t11_0 : (Nat → Int32)} {t12_0 : Int32} {t12_1 : Int32} {t13_0 : (Nat → Int32)} {t14_0 : Int32} {t14_1 : Int32} {t15_0 : (Nat → Int32)} {t16_0 : Int32} {t16_1 : Int32} {t17_0 : (Nat → Int32)} {va vb : Int} (ha : bO 68 t14_0 t14_1 t15_0 va) (hA : bB 67 va) (hb : bO 68 t16_0 t16_1 t17_0 vb) (hB : bB 67 vb) (e2 : x2 = 7) (hr3 : ¬ F_NH_isRegister x3 = 0) (hr4 : ¬ F_NH_isRegister x4 = 0) (hr5 : ¬ F_NH_isRegister x5 = 0) : QV_whole_bt (if vb ≤ 0 then none else sInv va vb) vb (F_NH_whole_bt x2 x3 x4 x5 t0_0 t0_1 t1_0 t2_0 t2_1 t3_0 t4_0 t4_1 t5_0 t6_0 t6_1 t7_0 t8_0 t8_1 t9_0 t10_0 t10_1 t11_0 t12_0 t12_1 t13_0 t14_0 t14_1 t15_0 t16_0 t16_1 t17_0) := by
  have e0 : (0 : Int32).toInt = 0 := rfl
  have e220 : (220 : Int32).toInt = 220 := rfl
  have e68 : (68 : Int32).toInt = 68 := rfl
  have sa : t14_0.toInt ≤ 68 := ha.2.2.2.1
  have sb : t16_0.toInt ≤ 68 := hb.2.2.2.1
  have hw := hb
  unfold F_NH_whole_bt
  have g1 : ¬ (x2 < (0 : Int32)) := (by rw [e2]; decide)
  rw [if_neg g1]
  have g2 : ¬ ((11 : Int32) < x2) := (by rw [e2]; decide)
  rw [if_neg g2]
  rw [if_neg hr3]
  rw [if_neg hr4]
  rw [if_neg hr5]
  unfold F_NH_whole_bt_J37
  have g3 : ((F_NH_need (1 : Int32)) = (0 : Int32)) := (by decide)
  rw [if_pos g3]
  have g4 : ((2 : Int32) < x2) := (by rw [e2]; decide)
  rw [if_pos g4]
  have g5 : ((4 : Int32) < x2) := (by rw [e2]; decide)
  rw [if_pos g5]
  have g6 : ¬ (x2 = (5 : Int32)) := (by rw [e2]; decide)
  rw [if_neg g6]
  have g7 : ¬ (x2 = (6 : Int32)) := (by rw [e2]; decide)
  rw [if_neg g7]
  rw [if_pos e2]
  by_cases g8 : ((F_Big_sign (68 : Int32) t16_0 t16_1) : Int32) ≤ (0 : Int32)
  ·
    rw [if_pos g8]
    have hvs := v_sgnP0 hb g8
    have g9 : ¬ ((F_NH_canHave (0 : Int32)) = (0 : Int32)) := (by decide)
    rw [if_neg g9]
    (unfold QV_whole_bt; dsimp only; first | exact cAn_o (cAn_z hkw (by with_reducible assumption)) (by rw [if_neg (show ¬ vb ≤ 0 by omega), hiv]) | exact cAn_o hkw (by rw [if_neg (show ¬ vb ≤ 0 by omega), hiv]) | exact cAn_o (cAn_z hkw (by with_reducible assumption)) (by rw [if_pos hvs]) | exact cAn_o hkw (by rw [if_pos hvs]) | exact cAn_o (cAn_n hw) (by rw [if_pos hvs]) | exact cAn_o (cAn_n hw2) (by rw [if_pos hvs]) | exact cAn_o (cAn_z hkw (by with_reducible assumption)) (by rw [if_neg (show ¬ vb ≤ 0 by omega)]) | exact cAn_o hkw (by rw [if_neg (show ¬ vb ≤ 0 by omega)]) | exact cAn_o (cAn_n hw) (by rw [if_neg (show ¬ vb ≤ 0 by omega)]) | exact cAn_o (cAn_n hw2) (by rw [if_neg (show ¬ vb ≤ 0 by omega)]) | exact cAn_o (cAn_z hkw (by with_reducible assumption)) (by rw [if_neg (show ¬ vb ≤ 0 by omega)]; exact hiv.symm) | exact cAn_o hkw (by rw [if_neg (show ¬ vb ≤ 0 by omega)]; exact hiv.symm) | exact cAn_o (cAn_n hw) (by rw [if_neg (show ¬ vb ≤ 0 by omega)]; exact hiv.symm) | exact cAn_o (cAn_n hw2) (by rw [if_neg (show ¬ vb ≤ 0 by omega)]; exact hiv.symm))
  ·
    rw [if_neg g8]
    have hvs := v_sgnP hb g8
    have g10 : ((F_NH_canHave (1 : Int32)) = (0 : Int32)) := (by decide)
    rw [if_pos g10]
    have h11 := V_inverseO (R := (68 : Int32)) (R2 := (68 : Int32)) (t0_0 := t0_0) (t0_1 := t0_1) (t1_0 := t1_0) (t2_0 := t2_0) (t2_1 := t2_1) (t3_0 := t3_0) (t4_0 := t4_0) (t4_1 := t4_1) (t5_0 := t5_0) (t6_0 := t6_0) (t6_1 := t6_1) (t7_0 := t7_0) (t8_0 := t8_0) (t8_1 := t8_1) (t9_0 := t9_0) (t10_0 := t10_0) (t10_1 := t10_1) (t11_0 := t11_0) (t12_0 := t12_0) (t12_1 := t12_1) (t13_0 := t13_0) (t14_0 := t14_0) (t14_1 := t14_1) (t15_0 := t15_0) (t16_0 := t16_0) (t16_1 := t16_1) (t17_0 := t17_0) ha hb hvs hA hB (by decide)
    generalize F_Mil_inverse (68 : Int32) (68 : Int32) t0_0 t0_1 t1_0 t2_0 t2_1 t3_0 t4_0 t4_1 t5_0 t6_0 t6_1 t7_0 t8_0 t8_1 t9_0 t10_0 t10_1 t11_0 t12_0 t12_1 t13_0 t14_0 t14_1 t15_0 t16_0 t16_1 t17_0 = p491 at h11 ⊢
    unfold F_NH_whole_bt_c213_6
    rcases h11 with ⟨h110, h111, h112⟩ | ⟨xv, h110, h111, h11n, h112⟩
    ·
      have hb2 := h112
      have hiv := h110
      have hw2 := hb2
      have g12 : ¬ ((F_NH_canHave (p491.1 : Int32)) = (0 : Int32)) := (by rw [h111]; decide)
      rw [if_neg g12]
      (unfold QV_whole_bt; dsimp only; first | exact (by rw [show F_NH_canHave p491.1 = 2 by rw [h111]; rfl]; exact cAn_o (cAn_n hw) (by rw [if_neg (show ¬ vb ≤ 0 by omega), hiv])) | exact (by rw [show F_NH_canHave p491.1 = 2 by rw [h111]; rfl]; exact cAn_o (cAn_n hw2) (by rw [if_neg (show ¬ vb ≤ 0 by omega), hiv])) | exact cAn_o (cAn_z hkw (by with_reducible assumption)) (by rw [if_neg (show ¬ vb ≤ 0 by omega), hiv]) | exact cAn_o hkw (by rw [if_neg (show ¬ vb ≤ 0 by omega), hiv]) | exact cAn_o (cAn_z hkw (by with_reducible assumption)) (by rw [if_pos hvs]) | exact cAn_o hkw (by rw [if_pos hvs]) | exact cAn_o (cAn_n hw) (by rw [if_pos hvs]) | exact cAn_o (cAn_n hw2) (by rw [if_pos hvs]) | exact cAn_o (cAn_z hkw (by with_reducible assumption)) (by rw [if_neg (show ¬ vb ≤ 0 by omega)]) | exact cAn_o hkw (by rw [if_neg (show ¬ vb ≤ 0 by omega)]) | exact cAn_o (cAn_n hw) (by rw [if_neg (show ¬ vb ≤ 0 by omega)]) | exact cAn_o (cAn_n hw2) (by rw [if_neg (show ¬ vb ≤ 0 by omega)]) | exact cAn_o (cAn_z hkw (by with_reducible assumption)) (by rw [if_neg (show ¬ vb ≤ 0 by omega)]; exact hiv.symm) | exact cAn_o hkw (by rw [if_neg (show ¬ vb ≤ 0 by omega)]; exact hiv.symm) | exact cAn_o (cAn_n hw) (by rw [if_neg (show ¬ vb ≤ 0 by omega)]; exact hiv.symm) | exact cAn_o (cAn_n hw2) (by rw [if_neg (show ¬ vb ≤ 0 by omega)]; exact hiv.symm))
    ·
      have hn := h11n
      have hb2 := h112
      have hiv := h110
      have hw2 := hb2
      have g13 : ((F_NH_canHave (p491.1 : Int32)) = (0 : Int32)) := (by rw [h111]; decide)
      rw [if_pos g13]
      have h14 := V_keepWhole (x2 := x5) (t0_0 := (p491.2.1 : Int32)) (t0_1 := (p491.2.2.1 : Int32)) (t1_0 := (p491.2.2.2.1 : (Nat → Int32))) (t2_0 := (p491.2.2.2.2.2.2.2.2.2.2.2.2.2.2.2.2.2.2.2.2.2.2.1 : Int32)) (t2_1 := (p491.2.2.2.2.2.2.2.2.2.2.2.2.2.2.2.2.2.2.2.2.2.2.2.1 : Int32)) (t3_0 := (p491.2.2.2.2.2.2.2.2.2.2.2.2.2.2.2.2.2.2.2.2.2.2.2.2 : (Nat → Int32))) hn (by first | exact hw2 | exact hw)
      generalize F_NH_keepWhole x5 (p491.2.1 : Int32) (p491.2.2.1 : Int32) (p491.2.2.2.1 : (Nat → Int32)) (p491.2.2.2.2.2.2.2.2.2.2.2.2.2.2.2.2.2.2.2.2.2.2.1 : Int32) (p491.2.2.2.2.2.2.2.2.2.2.2.2.2.2.2.2.2.2.2.2.2.2.2.1 : Int32) (p491.2.2.2.2.2.2.2.2.2.2.2.2.2.2.2.2.2.2.2.2.2.2.2.2 : (Nat → Int32)) = p545 at h14 ⊢
      have hkw := h14
      unfold F_NH_whole_bt_c237_7
      by_cases g15 : p545.1 = (0 : Int32)
      ·
        rw [if_pos g15]
        have g15i : p545.1.toInt = 0 := q_eqI g15
        (unfold QV_whole_bt; dsimp only; first | exact (by rw [show F_NH_canHave p491.1 = 2 by rw [h111]; rfl]; exact cAn_o (cAn_n hw) (by rw [if_neg (show ¬ vb ≤ 0 by omega), hiv])) | exact (by rw [show F_NH_canHave p491.1 = 2 by rw [h111]; rfl]; exact cAn_o (cAn_n hw2) (by rw [if_neg (show ¬ vb ≤ 0 by omega), hiv])) | exact cAn_o (cAn_z hkw (by with_reducible assumption)) (by rw [if_neg (show ¬ vb ≤ 0 by omega), hiv]) | exact cAn_o hkw (by rw [if_neg (show ¬ vb ≤ 0 by omega), hiv]) | exact cAn_o (cAn_z hkw (by with_reducible assumption)) (by rw [if_pos hvs]) | exact cAn_o hkw (by rw [if_pos hvs]) | exact cAn_o (cAn_n hw) (by rw [if_pos hvs]) | exact cAn_o (cAn_n hw2) (by rw [if_pos hvs]) | exact cAn_o (cAn_z hkw (by with_reducible assumption)) (by rw [if_neg (show ¬ vb ≤ 0 by omega)]) | exact cAn_o hkw (by rw [if_neg (show ¬ vb ≤ 0 by omega)]) | exact cAn_o (cAn_n hw) (by rw [if_neg (show ¬ vb ≤ 0 by omega)]) | exact cAn_o (cAn_n hw2) (by rw [if_neg (show ¬ vb ≤ 0 by omega)]) | exact cAn_o (cAn_z hkw (by with_reducible assumption)) (by rw [if_neg (show ¬ vb ≤ 0 by omega)]; exact hiv.symm) | exact cAn_o hkw (by rw [if_neg (show ¬ vb ≤ 0 by omega)]; exact hiv.symm) | exact cAn_o (cAn_n hw) (by rw [if_neg (show ¬ vb ≤ 0 by omega)]; exact hiv.symm) | exact cAn_o (cAn_n hw2) (by rw [if_neg (show ¬ vb ≤ 0 by omega)]; exact hiv.symm))
      ·
        rw [if_neg g15]
        have g15i : p545.1.toInt ≠ 0 := q_neI g15
        (unfold QV_whole_bt; dsimp only; first | exact cAn_o (cAn_z hkw (by with_reducible assumption)) (by rw [if_neg (show ¬ vb ≤ 0 by omega), hiv]) | exact cAn_o hkw (by rw [if_neg (show ¬ vb ≤ 0 by omega), hiv]) | exact cAn_o (cAn_z hkw (by with_reducible assumption)) (by rw [if_pos hvs]) | exact cAn_o hkw (by rw [if_pos hvs]) | exact cAn_o (cAn_n hw) (by rw [if_pos hvs]) | exact cAn_o (cAn_n hw2) (by rw [if_pos hvs]) | exact cAn_o (cAn_z hkw (by with_reducible assumption)) (by rw [if_neg (show ¬ vb ≤ 0 by omega)]) | exact cAn_o hkw (by rw [if_neg (show ¬ vb ≤ 0 by omega)]) | exact cAn_o (cAn_n hw) (by rw [if_neg (show ¬ vb ≤ 0 by omega)]) | exact cAn_o (cAn_n hw2) (by rw [if_neg (show ¬ vb ≤ 0 by omega)]) | exact cAn_o (cAn_z hkw (by with_reducible assumption)) (by rw [if_neg (show ¬ vb ≤ 0 by omega)]; exact hiv.symm) | exact cAn_o hkw (by rw [if_neg (show ¬ vb ≤ 0 by omega)]; exact hiv.symm) | exact cAn_o (cAn_n hw) (by rw [if_neg (show ¬ vb ≤ 0 by omega)]; exact hiv.symm) | exact cAn_o (cAn_n hw2) (by rw [if_neg (show ¬ vb ≤ 0 by omega)]; exact hiv.symm))
theorem V_whole_bt8 {x2 : Int32} {x3 : Int32} {x4 : Int32} {x5 : Int32} {t0_0 : Int32} {t0_1 : Int32} {t1_0 : (Nat → Int32)} {t2_0 : Int32} {t2_1 : Int32} {t3_0 : (Nat → Int32)} {t4_0 : Int32} {t4_1 : Int32} {t5_0 : (Nat → Int32)} {t6_0 : Int32} {t6_1 : Int32} {t7_0 : (Nat → Int32)} {t8_0 : Int32} {t8_1 : Int32} {t9_0 : (Nat → Int32)} {t10_0 : Int32} {t10_1 : Int32} {t11_0 : (Nat → Int32)} {t12_0 : Int32} {t12_1 : Int32} {t13_0 : (Nat → Int32)} {t14_0 : Int32} {t14_1 : Int32} {t15_0 : (Nat → Int32)} {t16_0 : Int32} {t16_1 : Int32} {t17_0 : (Nat → Int32)} {va vb : Int} (ha : bO 68 t14_0 t14_1 t15_0 va) (hA : bB 67 va) (hb : bO 68 t16_0 t16_1 t17_0 vb) (hB : bB 67 vb) (e2 : x2 = 8) (hr3 : ¬ F_NH_isRegister x3 = 0) (hr4 : ¬ F_NH_isRegister x4 = 0) (hr5 : ¬ F_NH_isRegister x5 = 0) : QV_whole_bt (some (sMix 0 va vb)) vb (F_NH_whole_bt x2 x3 x4 x5 t0_0 t0_1 t1_0 t2_0 t2_1 t3_0 t4_0 t4_1 t5_0 t6_0 t6_1 t7_0 t8_0 t8_1 t9_0 t10_0 t10_1 t11_0 t12_0 t12_1 t13_0 t14_0 t14_1 t15_0 t16_0 t16_1 t17_0) := by
  have e0 : (0 : Int32).toInt = 0 := rfl
  have e220 : (220 : Int32).toInt = 220 := rfl
  have e68 : (68 : Int32).toInt = 68 := rfl
  have sa : t14_0.toInt ≤ 68 := ha.2.2.2.1
  have sb : t16_0.toInt ≤ 68 := hb.2.2.2.1
  have hw := hb
  unfold F_NH_whole_bt
  have g1 : ¬ (x2 < (0 : Int32)) := (by rw [e2]; decide)
  rw [if_neg g1]
  have g2 : ¬ ((11 : Int32) < x2) := (by rw [e2]; decide)
  rw [if_neg g2]
  rw [if_neg hr3]
  rw [if_neg hr4]
  rw [if_neg hr5]
  unfold F_NH_whole_bt_J37
  have g3 : ((F_NH_need (1 : Int32)) = (0 : Int32)) := (by decide)
  rw [if_pos g3]
  have g4 : ((2 : Int32) < x2) := (by rw [e2]; decide)
  rw [if_pos g4]
  have g5 : ((4 : Int32) < x2) := (by rw [e2]; decide)
  rw [if_pos g5]
  have g6 : ¬ (x2 = (5 : Int32)) := (by rw [e2]; decide)
  rw [if_neg g6]
  have g7 : ¬ (x2 = (6 : Int32)) := (by rw [e2]; decide)
  rw [if_neg g7]
  have g8 : ¬ (x2 = (7 : Int32)) := (by rw [e2]; decide)
  rw [if_neg g8]
  have h9 := V_mixBits (x2 := x2) (R := (68 : Int32)) (R2 := (68 : Int32)) (t0_0 := t0_0) (t0_1 := t0_1) (t1_0 := t1_0) (t2_0 := t14_0) (t2_1 := t14_1) (t3_0 := t15_0) (t4_0 := t16_0) (t4_1 := t16_1) (t5_0 := t17_0) (h := 0) (by decide) (by rw [e2]; rfl) ha hb (by omega) (by omega)
  generalize F_Mil_mixBits x2 (68 : Int32) (68 : Int32) t0_0 t0_1 t1_0 t14_0 t14_1 t15_0 t16_0 t16_1 t17_0 = p144 at h9 ⊢
  have hn := h9
  unfold F_NH_whole_bt_c231
  have h10 := V_keepWhole (x2 := x5) (t0_0 := (p144.1 : Int32)) (t0_1 := (p144.2.1 : Int32)) (t1_0 := (p144.2.2 : (Nat → Int32))) (t2_0 := t16_0) (t2_1 := t16_1) (t3_0 := t17_0) hn (by first | exact hw2 | exact hw)
  generalize F_NH_keepWhole x5 (p144.1 : Int32) (p144.2.1 : Int32) (p144.2.2 : (Nat → Int32)) t16_0 t16_1 t17_0 = p167 at h10 ⊢
  have hkw := h10
  unfold F_NH_whole_bt_c237
  by_cases g11 : p167.1 = (0 : Int32)
  ·
    rw [if_pos g11]
    have g11i : p167.1.toInt = 0 := q_eqI g11
    (unfold QV_whole_bt; dsimp only; first | exact cAn_o (cAn_z hkw (by with_reducible assumption)) rfl | exact cAn_o hkw rfl | exact cAn_o (cAn_n hw) rfl | exact cAn_o (cAn_n hw2) rfl)
  ·
    rw [if_neg g11]
    have g11i : p167.1.toInt ≠ 0 := q_neI g11
    (unfold QV_whole_bt; dsimp only; first | exact cAn_o (cAn_z hkw (by with_reducible assumption)) rfl | exact cAn_o hkw rfl | exact cAn_o (cAn_n hw) rfl | exact cAn_o (cAn_n hw2) rfl)
theorem V_whole_bt9 {x2 : Int32} {x3 : Int32} {x4 : Int32} {x5 : Int32} {t0_0 : Int32} {t0_1 : Int32} {t1_0 : (Nat → Int32)} {t2_0 : Int32} {t2_1 : Int32} {t3_0 : (Nat → Int32)} {t4_0 : Int32} {t4_1 : Int32} {t5_0 : (Nat → Int32)} {t6_0 : Int32} {t6_1 : Int32} {t7_0 : (Nat → Int32)} {t8_0 : Int32} {t8_1 : Int32} {t9_0 : (Nat → Int32)} {t10_0 : Int32} {t10_1 : Int32} {t11_0 : (Nat → Int32)} {t12_0 : Int32} {t12_1 : Int32} {t13_0 : (Nat → Int32)} {t14_0 : Int32} {t14_1 : Int32} {t15_0 : (Nat → Int32)} {t16_0 : Int32} {t16_1 : Int32} {t17_0 : (Nat → Int32)} {va vb : Int} (ha : bO 68 t14_0 t14_1 t15_0 va) (hA : bB 67 va) (hb : bO 68 t16_0 t16_1 t17_0 vb) (hB : bB 67 vb) (e2 : x2 = 9) (hr3 : ¬ F_NH_isRegister x3 = 0) (hr4 : ¬ F_NH_isRegister x4 = 0) (hr5 : ¬ F_NH_isRegister x5 = 0) : QV_whole_bt (some (sMix 1 va vb)) vb (F_NH_whole_bt x2 x3 x4 x5 t0_0 t0_1 t1_0 t2_0 t2_1 t3_0 t4_0 t4_1 t5_0 t6_0 t6_1 t7_0 t8_0 t8_1 t9_0 t10_0 t10_1 t11_0 t12_0 t12_1 t13_0 t14_0 t14_1 t15_0 t16_0 t16_1 t17_0) := by
  have e0 : (0 : Int32).toInt = 0 := rfl
  have e220 : (220 : Int32).toInt = 220 := rfl
  have e68 : (68 : Int32).toInt = 68 := rfl
  have sa : t14_0.toInt ≤ 68 := ha.2.2.2.1
  have sb : t16_0.toInt ≤ 68 := hb.2.2.2.1
  have hw := hb
  unfold F_NH_whole_bt
  have g1 : ¬ (x2 < (0 : Int32)) := (by rw [e2]; decide)
  rw [if_neg g1]
  have g2 : ¬ ((11 : Int32) < x2) := (by rw [e2]; decide)
  rw [if_neg g2]
  rw [if_neg hr3]
  rw [if_neg hr4]
  rw [if_neg hr5]
  unfold F_NH_whole_bt_J37
  have g3 : ((F_NH_need (1 : Int32)) = (0 : Int32)) := (by decide)
  rw [if_pos g3]
  have g4 : ((2 : Int32) < x2) := (by rw [e2]; decide)
  rw [if_pos g4]
  have g5 : ((4 : Int32) < x2) := (by rw [e2]; decide)
  rw [if_pos g5]
  have g6 : ¬ (x2 = (5 : Int32)) := (by rw [e2]; decide)
  rw [if_neg g6]
  have g7 : ¬ (x2 = (6 : Int32)) := (by rw [e2]; decide)
  rw [if_neg g7]
  have g8 : ¬ (x2 = (7 : Int32)) := (by rw [e2]; decide)
  rw [if_neg g8]
  have h9 := V_mixBits (x2 := x2) (R := (68 : Int32)) (R2 := (68 : Int32)) (t0_0 := t0_0) (t0_1 := t0_1) (t1_0 := t1_0) (t2_0 := t14_0) (t2_1 := t14_1) (t3_0 := t15_0) (t4_0 := t16_0) (t4_1 := t16_1) (t5_0 := t17_0) (h := 1) (by decide) (by rw [e2]; rfl) ha hb (by omega) (by omega)
  generalize F_Mil_mixBits x2 (68 : Int32) (68 : Int32) t0_0 t0_1 t1_0 t14_0 t14_1 t15_0 t16_0 t16_1 t17_0 = p144 at h9 ⊢
  have hn := h9
  unfold F_NH_whole_bt_c231
  have h10 := V_keepWhole (x2 := x5) (t0_0 := (p144.1 : Int32)) (t0_1 := (p144.2.1 : Int32)) (t1_0 := (p144.2.2 : (Nat → Int32))) (t2_0 := t16_0) (t2_1 := t16_1) (t3_0 := t17_0) hn (by first | exact hw2 | exact hw)
  generalize F_NH_keepWhole x5 (p144.1 : Int32) (p144.2.1 : Int32) (p144.2.2 : (Nat → Int32)) t16_0 t16_1 t17_0 = p167 at h10 ⊢
  have hkw := h10
  unfold F_NH_whole_bt_c237
  by_cases g11 : p167.1 = (0 : Int32)
  ·
    rw [if_pos g11]
    have g11i : p167.1.toInt = 0 := q_eqI g11
    (unfold QV_whole_bt; dsimp only; first | exact cAn_o (cAn_z hkw (by with_reducible assumption)) rfl | exact cAn_o hkw rfl | exact cAn_o (cAn_n hw) rfl | exact cAn_o (cAn_n hw2) rfl)
  ·
    rw [if_neg g11]
    have g11i : p167.1.toInt ≠ 0 := q_neI g11
    (unfold QV_whole_bt; dsimp only; first | exact cAn_o (cAn_z hkw (by with_reducible assumption)) rfl | exact cAn_o hkw rfl | exact cAn_o (cAn_n hw) rfl | exact cAn_o (cAn_n hw2) rfl)
theorem V_whole_bt10 {x2 : Int32} {x3 : Int32} {x4 : Int32} {x5 : Int32} {t0_0 : Int32} {t0_1 : Int32} {t1_0 : (Nat → Int32)} {t2_0 : Int32} {t2_1 : Int32} {t3_0 : (Nat → Int32)} {t4_0 : Int32} {t4_1 : Int32} {t5_0 : (Nat → Int32)} {t6_0 : Int32} {t6_1 : Int32} {t7_0 : (Nat → Int32)} {t8_0 : Int32} {t8_1 : Int32} {t9_0 : (Nat → Int32)} {t10_0 : Int32} {t10_1 : Int32} {t11_0 : (Nat → Int32)} {t12_0 : Int32} {t12_1 : Int32} {t13_0 : (Nat → Int32)} {t14_0 : Int32} {t14_1 : Int32} {t15_0 : (Nat → Int32)} {t16_0 : Int32} {t16_1 : Int32} {t17_0 : (Nat → Int32)} {va vb : Int} (ha : bO 68 t14_0 t14_1 t15_0 va) (hA : bB 67 va) (hb : bO 68 t16_0 t16_1 t17_0 vb) (hB : bB 67 vb) (e2 : x2 = 10) (hr3 : ¬ F_NH_isRegister x3 = 0) (hr4 : ¬ F_NH_isRegister x4 = 0) (hr5 : ¬ F_NH_isRegister x5 = 0) : QV_whole_bt (some (sMix 2 va vb)) vb (F_NH_whole_bt x2 x3 x4 x5 t0_0 t0_1 t1_0 t2_0 t2_1 t3_0 t4_0 t4_1 t5_0 t6_0 t6_1 t7_0 t8_0 t8_1 t9_0 t10_0 t10_1 t11_0 t12_0 t12_1 t13_0 t14_0 t14_1 t15_0 t16_0 t16_1 t17_0) := by
  have e0 : (0 : Int32).toInt = 0 := rfl
  have e220 : (220 : Int32).toInt = 220 := rfl
  have e68 : (68 : Int32).toInt = 68 := rfl
  have sa : t14_0.toInt ≤ 68 := ha.2.2.2.1
  have sb : t16_0.toInt ≤ 68 := hb.2.2.2.1
  have hw := hb
  unfold F_NH_whole_bt
  have g1 : ¬ (x2 < (0 : Int32)) := (by rw [e2]; decide)
  rw [if_neg g1]
  have g2 : ¬ ((11 : Int32) < x2) := (by rw [e2]; decide)
  rw [if_neg g2]
  rw [if_neg hr3]
  rw [if_neg hr4]
  rw [if_neg hr5]
  unfold F_NH_whole_bt_J37
  have g3 : ((F_NH_need (1 : Int32)) = (0 : Int32)) := (by decide)
  rw [if_pos g3]
  have g4 : ((2 : Int32) < x2) := (by rw [e2]; decide)
  rw [if_pos g4]
  have g5 : ((4 : Int32) < x2) := (by rw [e2]; decide)
  rw [if_pos g5]
  have g6 : ¬ (x2 = (5 : Int32)) := (by rw [e2]; decide)
  rw [if_neg g6]
  have g7 : ¬ (x2 = (6 : Int32)) := (by rw [e2]; decide)
  rw [if_neg g7]
  have g8 : ¬ (x2 = (7 : Int32)) := (by rw [e2]; decide)
  rw [if_neg g8]
  have h9 := V_mixBits (x2 := x2) (R := (68 : Int32)) (R2 := (68 : Int32)) (t0_0 := t0_0) (t0_1 := t0_1) (t1_0 := t1_0) (t2_0 := t14_0) (t2_1 := t14_1) (t3_0 := t15_0) (t4_0 := t16_0) (t4_1 := t16_1) (t5_0 := t17_0) (h := 2) (by decide) (by rw [e2]; rfl) ha hb (by omega) (by omega)
  generalize F_Mil_mixBits x2 (68 : Int32) (68 : Int32) t0_0 t0_1 t1_0 t14_0 t14_1 t15_0 t16_0 t16_1 t17_0 = p144 at h9 ⊢
  have hn := h9
  unfold F_NH_whole_bt_c231
  have h10 := V_keepWhole (x2 := x5) (t0_0 := (p144.1 : Int32)) (t0_1 := (p144.2.1 : Int32)) (t1_0 := (p144.2.2 : (Nat → Int32))) (t2_0 := t16_0) (t2_1 := t16_1) (t3_0 := t17_0) hn (by first | exact hw2 | exact hw)
  generalize F_NH_keepWhole x5 (p144.1 : Int32) (p144.2.1 : Int32) (p144.2.2 : (Nat → Int32)) t16_0 t16_1 t17_0 = p167 at h10 ⊢
  have hkw := h10
  unfold F_NH_whole_bt_c237
  by_cases g11 : p167.1 = (0 : Int32)
  ·
    rw [if_pos g11]
    have g11i : p167.1.toInt = 0 := q_eqI g11
    (unfold QV_whole_bt; dsimp only; first | exact cAn_o (cAn_z hkw (by with_reducible assumption)) rfl | exact cAn_o hkw rfl | exact cAn_o (cAn_n hw) rfl | exact cAn_o (cAn_n hw2) rfl)
  ·
    rw [if_neg g11]
    have g11i : p167.1.toInt ≠ 0 := q_neI g11
    (unfold QV_whole_bt; dsimp only; first | exact cAn_o (cAn_z hkw (by with_reducible assumption)) rfl | exact cAn_o hkw rfl | exact cAn_o (cAn_n hw) rfl | exact cAn_o (cAn_n hw2) rfl)
theorem V_whole_bt11 {x2 : Int32} {x3 : Int32} {x4 : Int32} {x5 : Int32} {t0_0 : Int32} {t0_1 : Int32} {t1_0 : (Nat → Int32)} {t2_0 : Int32} {t2_1 : Int32} {t3_0 : (Nat → Int32)} {t4_0 : Int32} {t4_1 : Int32} {t5_0 : (Nat → Int32)} {t6_0 : Int32} {t6_1 : Int32} {t7_0 : (Nat → Int32)} {t8_0 : Int32} {t8_1 : Int32} {t9_0 : (Nat → Int32)} {t10_0 : Int32} {t10_1 : Int32} {t11_0 : (Nat → Int32)} {t12_0 : Int32} {t12_1 : Int32} {t13_0 : (Nat → Int32)} {t14_0 : Int32} {t14_1 : Int32} {t15_0 : (Nat → Int32)} {t16_0 : Int32} {t16_1 : Int32} {t17_0 : (Nat → Int32)} {va vb : Int} (ha : bO 68 t14_0 t14_1 t15_0 va) (hA : bB 67 va) (hb : bO 68 t16_0 t16_1 t17_0 vb) (hB : bB 67 vb) (e2 : x2 = 11) (hr3 : ¬ F_NH_isRegister x3 = 0) (hr4 : ¬ F_NH_isRegister x4 = 0) (hr5 : ¬ F_NH_isRegister x5 = 0) : QV_whole_bt (some (sMix 3 va vb)) vb (F_NH_whole_bt x2 x3 x4 x5 t0_0 t0_1 t1_0 t2_0 t2_1 t3_0 t4_0 t4_1 t5_0 t6_0 t6_1 t7_0 t8_0 t8_1 t9_0 t10_0 t10_1 t11_0 t12_0 t12_1 t13_0 t14_0 t14_1 t15_0 t16_0 t16_1 t17_0) := by
  have e0 : (0 : Int32).toInt = 0 := rfl
  have e220 : (220 : Int32).toInt = 220 := rfl
  have e68 : (68 : Int32).toInt = 68 := rfl
  have sa : t14_0.toInt ≤ 68 := ha.2.2.2.1
  have sb : t16_0.toInt ≤ 68 := hb.2.2.2.1
  have hw := hb
  unfold F_NH_whole_bt
  have g1 : ¬ (x2 < (0 : Int32)) := (by rw [e2]; decide)
  rw [if_neg g1]
  have g2 : ¬ ((11 : Int32) < x2) := (by rw [e2]; decide)
  rw [if_neg g2]
  rw [if_neg hr3]
  rw [if_neg hr4]
  rw [if_neg hr5]
  unfold F_NH_whole_bt_J37
  have g3 : ((F_NH_need (1 : Int32)) = (0 : Int32)) := (by decide)
  rw [if_pos g3]
  have g4 : ((2 : Int32) < x2) := (by rw [e2]; decide)
  rw [if_pos g4]
  have g5 : ((4 : Int32) < x2) := (by rw [e2]; decide)
  rw [if_pos g5]
  have g6 : ¬ (x2 = (5 : Int32)) := (by rw [e2]; decide)
  rw [if_neg g6]
  have g7 : ¬ (x2 = (6 : Int32)) := (by rw [e2]; decide)
  rw [if_neg g7]
  have g8 : ¬ (x2 = (7 : Int32)) := (by rw [e2]; decide)
  rw [if_neg g8]
  have h9 := V_mixBits (x2 := x2) (R := (68 : Int32)) (R2 := (68 : Int32)) (t0_0 := t0_0) (t0_1 := t0_1) (t1_0 := t1_0) (t2_0 := t14_0) (t2_1 := t14_1) (t3_0 := t15_0) (t4_0 := t16_0) (t4_1 := t16_1) (t5_0 := t17_0) (h := 3) (by decide) (by rw [e2]; rfl) ha hb (by omega) (by omega)
  generalize F_Mil_mixBits x2 (68 : Int32) (68 : Int32) t0_0 t0_1 t1_0 t14_0 t14_1 t15_0 t16_0 t16_1 t17_0 = p144 at h9 ⊢
  have hn := h9
  unfold F_NH_whole_bt_c231
  have h10 := V_keepWhole (x2 := x5) (t0_0 := (p144.1 : Int32)) (t0_1 := (p144.2.1 : Int32)) (t1_0 := (p144.2.2 : (Nat → Int32))) (t2_0 := t16_0) (t2_1 := t16_1) (t3_0 := t17_0) hn (by first | exact hw2 | exact hw)
  generalize F_NH_keepWhole x5 (p144.1 : Int32) (p144.2.1 : Int32) (p144.2.2 : (Nat → Int32)) t16_0 t16_1 t17_0 = p167 at h10 ⊢
  have hkw := h10
  unfold F_NH_whole_bt_c237
  by_cases g11 : p167.1 = (0 : Int32)
  ·
    rw [if_pos g11]
    have g11i : p167.1.toInt = 0 := q_eqI g11
    (unfold QV_whole_bt; dsimp only; first | exact cAn_o (cAn_z hkw (by with_reducible assumption)) rfl | exact cAn_o hkw rfl | exact cAn_o (cAn_n hw) rfl | exact cAn_o (cAn_n hw2) rfl)
  ·
    rw [if_neg g11]
    have g11i : p167.1.toInt ≠ 0 := q_neI g11
    (unfold QV_whole_bt; dsimp only; first | exact cAn_o (cAn_z hkw (by with_reducible assumption)) rfl | exact cAn_o hkw rfl | exact cAn_o (cAn_n hw) rfl | exact cAn_o (cAn_n hw2) rfl)
theorem V_whole_bt {x2 : Int32} {x3 : Int32} {x4 : Int32} {x5 : Int32} {t0_0 : Int32} {t0_1 : Int32} {t1_0 : (Nat → Int32)} {t2_0 : Int32} {t2_1 : Int32} {t3_0 : (Nat → Int32)} {t4_0 : Int32} {t4_1 : Int32} {t5_0 : (Nat → Int32)} {t6_0 : Int32} {t6_1 : Int32} {t7_0 : (Nat → Int32)} {t8_0 : Int32} {t8_1 : Int32} {t9_0 : (Nat → Int32)} {t10_0 : Int32} {t10_1 : Int32} {t11_0 : (Nat → Int32)} {t12_0 : Int32} {t12_1 : Int32} {t13_0 : (Nat → Int32)} {t14_0 : Int32} {t14_1 : Int32} {t15_0 : (Nat → Int32)} {t16_0 : Int32} {t16_1 : Int32} {t17_0 : (Nat → Int32)} {va vb : Int} (ha : bO 68 t14_0 t14_1 t15_0 va) (hA : bB 67 va) (hb : bO 68 t16_0 t16_1 t17_0 vb) (hB : bB 67 vb) (h2 : 0 ≤ x2.toInt ∧ x2.toInt ≤ 11) (hr3 : ¬ F_NH_isRegister x3 = 0) (hr4 : ¬ F_NH_isRegister x4 = 0) (hr5 : ¬ F_NH_isRegister x5 = 0) : QV_whole_bt (sWh x2.toNatClampNeg va vb) vb (F_NH_whole_bt x2 x3 x4 x5 t0_0 t0_1 t1_0 t2_0 t2_1 t3_0 t4_0 t4_1 t5_0 t6_0 t6_1 t7_0 t8_0 t8_1 t9_0 t10_0 t10_1 t11_0 t12_0 t12_1 t13_0 t14_0 t14_1 t15_0 t16_0 t16_1 t17_0) := by
  have hc := q_clI (i := x2) rfl h2.1
  have hx : x2 = 0 ∨ x2 = 1 ∨ x2 = 2 ∨ x2 = 3 ∨ x2 = 4 ∨ x2 = 5 ∨ x2 = 6 ∨ x2 = 7 ∨ x2 = 8 ∨ x2 = 9 ∨ x2 = 10 ∨ x2 = 11 := q_x12 h2.1 h2.2
  rcases hx with e | e | e | e | e | e | e | e | e | e | e | e <;> (rw [show x2.toNatClampNeg = _ from congrArg Int32.toNatClampNeg e])
  · exact V_whole_bt0 ha hA hb hB e hr3 hr4 hr5
  · exact V_whole_bt1 ha hA hb hB e hr3 hr4 hr5
  · exact V_whole_bt2 ha hA hb hB e hr3 hr4 hr5
  · exact V_whole_bt3 ha hA hb hB e hr3 hr4 hr5
  · exact V_whole_bt4 ha hA hb hB e hr3 hr4 hr5
  · exact V_whole_bt5 ha hA hb hB e hr3 hr4 hr5
  · exact V_whole_bt6 ha hA hb hB e hr3 hr4 hr5
  · exact V_whole_bt7 ha hA hb hB e hr3 hr4 hr5
  · exact V_whole_bt8 ha hA hb hB e hr3 hr4 hr5
  · exact V_whole_bt9 ha hA hb hB e hr3 hr4 hr5
  · exact V_whole_bt10 ha hA hb hB e hr3 hr4 hr5
  · exact V_whole_bt11 ha hA hb hB e hr3 hr4 hr5
def QV_whole_abt (o : Option Int) (vb : Int) (p : Int32 × Int32 × Int32 × (Nat → Int32) × Int32 × Int32 × (Nat → Int32) × Int32 × Int32 × (Nat → Int32) × Int32 × Int32 × (Nat → Int32) × Int32 × Int32 × (Nat → Int32) × Int32 × Int32 × (Nat → Int32) × Int32 × Int32 × (Nat → Int32) × Int32 × Int32 × (Nat → Int32)) : Prop := cAn o vb p.1 p.2.2.2.2.2.2.2.2.2.2.2.2.2.2.2.2.2.2.2.2.2.2.1 p.2.2.2.2.2.2.2.2.2.2.2.2.2.2.2.2.2.2.2.2.2.2.2.1 p.2.2.2.2.2.2.2.2.2.2.2.2.2.2.2.2.2.2.2.2.2.2.2.2
theorem V_whole_abt0 {x2 : Int32} {x3 : Int32} {x4 : Int32} {x5 : Int32} {t0_0 : Int32} {t0_1 : Int32} {t1_0 : (Nat → Int32)} {t2_0 : Int32} {t2_1 : Int32} {t3_0 : (Nat → Int32)} {t4_0 : Int32} {t4_1 : Int32} {t5_0 : (Nat → Int32)} {t6_0 : Int32} {t6_1 : Int32} {t7_0 : (Nat → Int32)} {t8_0 : Int32} {t8_1 : Int32} {t9_0 : (Nat → Int32)} {t10_0 : Int32} {t10_1 : Int32} {t11_0 : (Nat → Int32)} {t12_0 : Int32} {t12_1 : Int32} {t13_0 : (Nat → Int32)} {t14_0 : Int32} {t14_1 : Int32} {t15_0 : (Nat → Int32)} {vb : Int} (hb : bO 68 t14_0 t14_1 t15_0 vb) (hB : bB 67 vb) (e2 : x2 = 0) (hr3 : ¬ F_NH_isRegister x3 = 0) (hr4 : ¬ F_NH_isRegister x4 = 0) (hr5 : ¬ F_NH_isRegister x5 = 0) : QV_whole_abt (some (vb + vb)) vb (F_NH_whole_abt x2 x3 x4 x5 t0_0 t0_1 t1_0 t2_0 t2_1 t3_0 t4_0 t4_1 t5_0 t6_0 t6_1 t7_0 t8_0 t8_1 t9_0 t10_0 t10_1 t11_0 t12_0 t12_1 t13_0 t14_0 t14_1 t15_0) := by
  have e0 : (0 : Int32).toInt = 0 := rfl
  have e220 : (220 : Int32).toInt = 220 := rfl
  have e68 : (68 : Int32).toInt = 68 := rfl
  have sa : t14_0.toInt ≤ 68 := hb.2.2.2.1
  have sb : t14_0.toInt ≤ 68 := hb.2.2.2.1
  have hw := hb
  unfold F_NH_whole_abt
  have g1 : ¬ (x2 < (0 : Int32)) := (by rw [e2]; decide)
  rw [if_neg g1]
  have g2 : ¬ ((11 : Int32) < x2) := (by rw [e2]; decide)
  rw [if_neg g2]
  rw [if_neg hr3]
  rw [if_neg hr4]
  rw [if_neg hr5]
  unfold F_NH_whole_abt_J37
  have g3 : ((F_NH_need (1 : Int32)) = (0 : Int32)) := (by decide)
  rw [if_pos g3]
  have g4 : ¬ ((2 : Int32) < x2) := (by rw [e2]; decide)
  rw [if_neg g4]
  have h5 := T_addOrMultiply (x2 := x2) (R := (68 : Int32)) (R2 := (68 : Int32)) (t0_0 := t0_0) (t0_1 := t0_1) (t1_0 := t1_0) (t2_0 := t14_0) (t2_1 := t14_1) (t3_0 := t15_0) (t4_0 := t14_0) (t4_1 := t14_1) (t5_0 := t15_0) hb hb (by first | assumption | omega | trivial | decide)
  generalize F_Mil_addOrMultiply x2 (68 : Int32) (68 : Int32) t0_0 t0_1 t1_0 t14_0 t14_1 t15_0 t14_0 t14_1 t15_0 = p1050 at h5 ⊢
  have hn := h5
  rw [if_neg (by rw [e2]; decide), if_neg (by rw [e2]; decide)] at hn
  unfold F_NH_whole_abt_c70
  have h6 := V_keepWhole (x2 := x5) (t0_0 := (p1050.1 : Int32)) (t0_1 := (p1050.2.1 : Int32)) (t1_0 := (p1050.2.2 : (Nat → Int32))) (t2_0 := t14_0) (t2_1 := t14_1) (t3_0 := t15_0) hn (by first | exact hw2 | exact hw)
  generalize F_NH_keepWhole x5 (p1050.1 : Int32) (p1050.2.1 : Int32) (p1050.2.2 : (Nat → Int32)) t14_0 t14_1 t15_0 = p1073 at h6 ⊢
  have hkw := h6
  unfold F_NH_whole_abt_c237_19
  by_cases g7 : p1073.1 = (0 : Int32)
  ·
    rw [if_pos g7]
    have g7i : p1073.1.toInt = 0 := q_eqI g7
    (unfold QV_whole_abt; dsimp only; first | exact cAn_o (cAn_z hkw (by with_reducible assumption)) rfl | exact cAn_o hkw rfl | exact cAn_o (cAn_n hw) rfl | exact cAn_o (cAn_n hw2) rfl)
  ·
    rw [if_neg g7]
    have g7i : p1073.1.toInt ≠ 0 := q_neI g7
    (unfold QV_whole_abt; dsimp only; first | exact cAn_o (cAn_z hkw (by with_reducible assumption)) rfl | exact cAn_o hkw rfl | exact cAn_o (cAn_n hw) rfl | exact cAn_o (cAn_n hw2) rfl)
theorem V_whole_abt1 {x2 : Int32} {x3 : Int32} {x4 : Int32} {x5 : Int32} {t0_0 : Int32} {t0_1 : Int32} {t1_0 : (Nat → Int32)} {t2_0 : Int32} {t2_1 : Int32} {t3_0 : (Nat → Int32)} {t4_0 : Int32} {t4_1 : Int32} {t5_0 : (Nat → Int32)} {t6_0 : Int32} {t6_1 : Int32} {t7_0 : (Nat → Int32)} {t8_0 : Int32} {t8_1 : Int32} {t9_0 : (Nat → Int32)} {t10_0 : Int32} {t10_1 : Int32} {t11_0 : (Nat → Int32)} {t12_0 : Int32} {t12_1 : Int32} {t13_0 : (Nat → Int32)} {t14_0 : Int32} {t14_1 : Int32} {t15_0 : (Nat → Int32)} {vb : Int} (hb : bO 68 t14_0 t14_1 t15_0 vb) (hB : bB 67 vb) (e2 : x2 = 1) (hr3 : ¬ F_NH_isRegister x3 = 0) (hr4 : ¬ F_NH_isRegister x4 = 0) (hr5 : ¬ F_NH_isRegister x5 = 0) : QV_whole_abt (some (vb - vb)) vb (F_NH_whole_abt x2 x3 x4 x5 t0_0 t0_1 t1_0 t2_0 t2_1 t3_0 t4_0 t4_1 t5_0 t6_0 t6_1 t7_0 t8_0 t8_1 t9_0 t10_0 t10_1 t11_0 t12_0 t12_1 t13_0 t14_0 t14_1 t15_0) := by
  have e0 : (0 : Int32).toInt = 0 := rfl
  have e220 : (220 : Int32).toInt = 220 := rfl
  have e68 : (68 : Int32).toInt = 68 := rfl
  have sa : t14_0.toInt ≤ 68 := hb.2.2.2.1
  have sb : t14_0.toInt ≤ 68 := hb.2.2.2.1
  have hw := hb
  unfold F_NH_whole_abt
  have g1 : ¬ (x2 < (0 : Int32)) := (by rw [e2]; decide)
  rw [if_neg g1]
  have g2 : ¬ ((11 : Int32) < x2) := (by rw [e2]; decide)
  rw [if_neg g2]
  rw [if_neg hr3]
  rw [if_neg hr4]
  rw [if_neg hr5]
  unfold F_NH_whole_abt_J37
  have g3 : ((F_NH_need (1 : Int32)) = (0 : Int32)) := (by decide)
  rw [if_pos g3]
  have g4 : ¬ ((2 : Int32) < x2) := (by rw [e2]; decide)
  rw [if_neg g4]
  have h5 := T_addOrMultiply (x2 := x2) (R := (68 : Int32)) (R2 := (68 : Int32)) (t0_0 := t0_0) (t0_1 := t0_1) (t1_0 := t1_0) (t2_0 := t14_0) (t2_1 := t14_1) (t3_0 := t15_0) (t4_0 := t14_0) (t4_1 := t14_1) (t5_0 := t15_0) hb hb (by first | assumption | omega | trivial | decide)
  generalize F_Mil_addOrMultiply x2 (68 : Int32) (68 : Int32) t0_0 t0_1 t1_0 t14_0 t14_1 t15_0 t14_0 t14_1 t15_0 = p1050 at h5 ⊢
  have hn := h5
  rw [if_neg (by rw [e2]; decide), if_pos e2] at hn
  unfold F_NH_whole_abt_c70
  have h6 := V_keepWhole (x2 := x5) (t0_0 := (p1050.1 : Int32)) (t0_1 := (p1050.2.1 : Int32)) (t1_0 := (p1050.2.2 : (Nat → Int32))) (t2_0 := t14_0) (t2_1 := t14_1) (t3_0 := t15_0) hn (by first | exact hw2 | exact hw)
  generalize F_NH_keepWhole x5 (p1050.1 : Int32) (p1050.2.1 : Int32) (p1050.2.2 : (Nat → Int32)) t14_0 t14_1 t15_0 = p1073 at h6 ⊢
  have hkw := h6
  unfold F_NH_whole_abt_c237_19
  by_cases g7 : p1073.1 = (0 : Int32)
  ·
    rw [if_pos g7]
    have g7i : p1073.1.toInt = 0 := q_eqI g7
    (unfold QV_whole_abt; dsimp only; first | exact cAn_o (cAn_z hkw (by with_reducible assumption)) rfl | exact cAn_o hkw rfl | exact cAn_o (cAn_n hw) rfl | exact cAn_o (cAn_n hw2) rfl)
  ·
    rw [if_neg g7]
    have g7i : p1073.1.toInt ≠ 0 := q_neI g7
    (unfold QV_whole_abt; dsimp only; first | exact cAn_o (cAn_z hkw (by with_reducible assumption)) rfl | exact cAn_o hkw rfl | exact cAn_o (cAn_n hw) rfl | exact cAn_o (cAn_n hw2) rfl)
theorem V_whole_abt2 {x2 : Int32} {x3 : Int32} {x4 : Int32} {x5 : Int32} {t0_0 : Int32} {t0_1 : Int32} {t1_0 : (Nat → Int32)} {t2_0 : Int32} {t2_1 : Int32} {t3_0 : (Nat → Int32)} {t4_0 : Int32} {t4_1 : Int32} {t5_0 : (Nat → Int32)} {t6_0 : Int32} {t6_1 : Int32} {t7_0 : (Nat → Int32)} {t8_0 : Int32} {t8_1 : Int32} {t9_0 : (Nat → Int32)} {t10_0 : Int32} {t10_1 : Int32} {t11_0 : (Nat → Int32)} {t12_0 : Int32} {t12_1 : Int32} {t13_0 : (Nat → Int32)} {t14_0 : Int32} {t14_1 : Int32} {t15_0 : (Nat → Int32)} {vb : Int} (hb : bO 68 t14_0 t14_1 t15_0 vb) (hB : bB 67 vb) (e2 : x2 = 2) (hr3 : ¬ F_NH_isRegister x3 = 0) (hr4 : ¬ F_NH_isRegister x4 = 0) (hr5 : ¬ F_NH_isRegister x5 = 0) : QV_whole_abt (some (vb * vb)) vb (F_NH_whole_abt x2 x3 x4 x5 t0_0 t0_1 t1_0 t2_0 t2_1 t3_0 t4_0 t4_1 t5_0 t6_0 t6_1 t7_0 t8_0 t8_1 t9_0 t10_0 t10_1 t11_0 t12_0 t12_1 t13_0 t14_0 t14_1 t15_0) := by
  have e0 : (0 : Int32).toInt = 0 := rfl
  have e220 : (220 : Int32).toInt = 220 := rfl
  have e68 : (68 : Int32).toInt = 68 := rfl
  have sa : t14_0.toInt ≤ 68 := hb.2.2.2.1
  have sb : t14_0.toInt ≤ 68 := hb.2.2.2.1
  have hw := hb
  unfold F_NH_whole_abt
  have g1 : ¬ (x2 < (0 : Int32)) := (by rw [e2]; decide)
  rw [if_neg g1]
  have g2 : ¬ ((11 : Int32) < x2) := (by rw [e2]; decide)
  rw [if_neg g2]
  rw [if_neg hr3]
  rw [if_neg hr4]
  rw [if_neg hr5]
  unfold F_NH_whole_abt_J37
  have g3 : ((F_NH_need (1 : Int32)) = (0 : Int32)) := (by decide)
  rw [if_pos g3]
  have g4 : ¬ ((2 : Int32) < x2) := (by rw [e2]; decide)
  rw [if_neg g4]
  have h5 := T_addOrMultiply (x2 := x2) (R := (68 : Int32)) (R2 := (68 : Int32)) (t0_0 := t0_0) (t0_1 := t0_1) (t1_0 := t1_0) (t2_0 := t14_0) (t2_1 := t14_1) (t3_0 := t15_0) (t4_0 := t14_0) (t4_1 := t14_1) (t5_0 := t15_0) hb hb (by first | assumption | omega | trivial | decide)
  generalize F_Mil_addOrMultiply x2 (68 : Int32) (68 : Int32) t0_0 t0_1 t1_0 t14_0 t14_1 t15_0 t14_0 t14_1 t15_0 = p1050 at h5 ⊢
  have hn := h5
  rw [if_pos e2] at hn
  unfold F_NH_whole_abt_c70
  have h6 := V_keepWhole (x2 := x5) (t0_0 := (p1050.1 : Int32)) (t0_1 := (p1050.2.1 : Int32)) (t1_0 := (p1050.2.2 : (Nat → Int32))) (t2_0 := t14_0) (t2_1 := t14_1) (t3_0 := t15_0) hn (by first | exact hw2 | exact hw)
  generalize F_NH_keepWhole x5 (p1050.1 : Int32) (p1050.2.1 : Int32) (p1050.2.2 : (Nat → Int32)) t14_0 t14_1 t15_0 = p1073 at h6 ⊢
  have hkw := h6
  unfold F_NH_whole_abt_c237_19
  by_cases g7 : p1073.1 = (0 : Int32)
  ·
    rw [if_pos g7]
    have g7i : p1073.1.toInt = 0 := q_eqI g7
    (unfold QV_whole_abt; dsimp only; first | exact cAn_o (cAn_z hkw (by with_reducible assumption)) rfl | exact cAn_o hkw rfl | exact cAn_o (cAn_n hw) rfl | exact cAn_o (cAn_n hw2) rfl)
  ·
    rw [if_neg g7]
    have g7i : p1073.1.toInt ≠ 0 := q_neI g7
    (unfold QV_whole_abt; dsimp only; first | exact cAn_o (cAn_z hkw (by with_reducible assumption)) rfl | exact cAn_o hkw rfl | exact cAn_o (cAn_n hw) rfl | exact cAn_o (cAn_n hw2) rfl)
theorem V_whole_abt3 {x2 : Int32} {x3 : Int32} {x4 : Int32} {x5 : Int32} {t0_0 : Int32} {t0_1 : Int32} {t1_0 : (Nat → Int32)} {t2_0 : Int32} {t2_1 : Int32} {t3_0 : (Nat → Int32)} {t4_0 : Int32} {t4_1 : Int32} {t5_0 : (Nat → Int32)} {t6_0 : Int32} {t6_1 : Int32} {t7_0 : (Nat → Int32)} {t8_0 : Int32} {t8_1 : Int32} {t9_0 : (Nat → Int32)} {t10_0 : Int32} {t10_1 : Int32} {t11_0 : (Nat → Int32)} {t12_0 : Int32} {t12_1 : Int32} {t13_0 : (Nat → Int32)} {t14_0 : Int32} {t14_1 : Int32} {t15_0 : (Nat → Int32)} {vb : Int} (hb : bO 68 t14_0 t14_1 t15_0 vb) (hB : bB 67 vb) (e2 : x2 = 3) (hr3 : ¬ F_NH_isRegister x3 = 0) (hr4 : ¬ F_NH_isRegister x4 = 0) (hr5 : ¬ F_NH_isRegister x5 = 0) : QV_whole_abt (if vb = 0 then none else some (vb.tdiv vb)) vb (F_NH_whole_abt x2 x3 x4 x5 t0_0 t0_1 t1_0 t2_0 t2_1 t3_0 t4_0 t4_1 t5_0 t6_0 t6_1 t7_0 t8_0 t8_1 t9_0 t10_0 t10_1 t11_0 t12_0 t12_1 t13_0 t14_0 t14_1 t15_0) := by
  have e0 : (0 : Int32).toInt = 0 := rfl
  have e220 : (220 : Int32).toInt = 220 := rfl
  have e68 : (68 : Int32).toInt = 68 := rfl
  have sa : t14_0.toInt ≤ 68 := hb.2.2.2.1
  have sb : t14_0.toInt ≤ 68 := hb.2.2.2.1
  have hw := hb
  unfold F_NH_whole_abt
  have g1 : ¬ (x2 < (0 : Int32)) := (by rw [e2]; decide)
  rw [if_neg g1]
  have g2 : ¬ ((11 : Int32) < x2) := (by rw [e2]; decide)
  rw [if_neg g2]
  rw [if_neg hr3]
  rw [if_neg hr4]
  rw [if_neg hr5]
  unfold F_NH_whole_abt_J37
  have g3 : ((F_NH_need (1 : Int32)) = (0 : Int32)) := (by decide)
  rw [if_pos g3]
  have g4 : ((2 : Int32) < x2) := (by rw [e2]; decide)
  rw [if_pos g4]
  have g5 : ¬ ((4 : Int32) < x2) := (by rw [e2]; decide)
  rw [if_neg g5]
  by_cases g6 : t14_0 ≤ (0 : Int32)
  ·
    rw [if_pos g6]
    have hvz : vb = 0 := Classical.byContradiction (fun c => absurd (q_leI g6) (by have := hb.pos.mpr c; omega))
    unfold F_NH_whole_abt_J94
    have g7 : ¬ ((F_NH_canHave (0 : Int32)) = (0 : Int32)) := (by decide)
    rw [if_neg g7]
    (unfold QV_whole_abt; dsimp only; first | exact cAn_o (cAn_z hkw (by with_reducible assumption)) (by rw [if_pos hvz]) | exact cAn_o hkw (by rw [if_pos hvz]) | exact cAn_o (cAn_n hw) (by rw [if_pos hvz]) | exact cAn_o (cAn_n hw2) (by rw [if_pos hvz]) | exact cAn_o (cAn_z hkw (by with_reducible assumption)) (by rw [if_neg hvz]) | exact cAn_o hkw (by rw [if_neg hvz]) | exact cAn_o (cAn_n hw) (by rw [if_neg hvz]) | exact cAn_o (cAn_n hw2) (by rw [if_neg hvz]))
  ·
    rw [if_neg g6]
    have hvz : vb ≠ 0 := hb.pos.mp (by have := q_nleI g6; omega)
    have g6i := q_nleI g6
    unfold F_NH_whole_abt_J94
    have g8 : ((F_NH_canHave (1 : Int32)) = (0 : Int32)) := (by decide)
    rw [if_pos g8]
    rw [if_pos e2]
    have h9 := T_quotientOrRest_a (x2 := (1 : Int32)) (R3 := (68 : Int32)) (t0_0 := t0_0) (t0_1 := t0_1) (t1_0 := t1_0) (t2_0 := t2_0) (t2_1 := t2_1) (t3_0 := t3_0) (t4_0 := t14_0) (t4_1 := t14_1) (t5_0 := t15_0) hb (hb.pos.mp (by omega)) (hB.mono (by decide))
    replace h9 := h9.2
    generalize F_Mil_quotientOrRest_a (1 : Int32) (68 : Int32) t0_0 t0_1 t1_0 t2_0 t2_1 t3_0 t14_0 t14_1 t15_0 = p972 at h9 ⊢
    have hn := h9.1
    rw [if_neg (by decide)] at hn
    have hb2 := h9.2.2
    have hw2 := hb2
    unfold F_NH_whole_abt_c115_16
    have h10 := V_keepWhole (x2 := x5) (t0_0 := (p972.1 : Int32)) (t0_1 := (p972.2.1 : Int32)) (t1_0 := (p972.2.2.1 : (Nat → Int32))) (t2_0 := (p972.2.2.2.2.2.2.1 : Int32)) (t2_1 := (p972.2.2.2.2.2.2.2.1 : Int32)) (t3_0 := (p972.2.2.2.2.2.2.2.2 : (Nat → Int32))) hn (by first | exact hw2 | exact hw)
    generalize F_NH_keepWhole x5 (p972.1 : Int32) (p972.2.1 : Int32) (p972.2.2.1 : (Nat → Int32)) (p972.2.2.2.2.2.2.1 : Int32) (p972.2.2.2.2.2.2.2.1 : Int32) (p972.2.2.2.2.2.2.2.2 : (Nat → Int32)) = p1001 at h10 ⊢
    have hkw := h10
    unfold F_NH_whole_abt_c237_17
    by_cases g11 : p1001.1 = (0 : Int32)
    ·
      rw [if_pos g11]
      have g11i : p1001.1.toInt = 0 := q_eqI g11
      (unfold QV_whole_abt; dsimp only; first | exact cAn_o (cAn_z hkw (by with_reducible assumption)) (by rw [if_pos hvz]) | exact cAn_o hkw (by rw [if_pos hvz]) | exact cAn_o (cAn_n hw) (by rw [if_pos hvz]) | exact cAn_o (cAn_n hw2) (by rw [if_pos hvz]) | exact cAn_o (cAn_z hkw (by with_reducible assumption)) (by rw [if_neg hvz]) | exact cAn_o hkw (by rw [if_neg hvz]) | exact cAn_o (cAn_n hw) (by rw [if_neg hvz]) | exact cAn_o (cAn_n hw2) (by rw [if_neg hvz]))
    ·
      rw [if_neg g11]
      have g11i : p1001.1.toInt ≠ 0 := q_neI g11
      (unfold QV_whole_abt; dsimp only; first | exact cAn_o (cAn_z hkw (by with_reducible assumption)) (by rw [if_pos hvz]) | exact cAn_o hkw (by rw [if_pos hvz]) | exact cAn_o (cAn_n hw) (by rw [if_pos hvz]) | exact cAn_o (cAn_n hw2) (by rw [if_pos hvz]) | exact cAn_o (cAn_z hkw (by with_reducible assumption)) (by rw [if_neg hvz]) | exact cAn_o hkw (by rw [if_neg hvz]) | exact cAn_o (cAn_n hw) (by rw [if_neg hvz]) | exact cAn_o (cAn_n hw2) (by rw [if_neg hvz]))
theorem V_whole_abt4 {x2 : Int32} {x3 : Int32} {x4 : Int32} {x5 : Int32} {t0_0 : Int32} {t0_1 : Int32} {t1_0 : (Nat → Int32)} {t2_0 : Int32} {t2_1 : Int32} {t3_0 : (Nat → Int32)} {t4_0 : Int32} {t4_1 : Int32} {t5_0 : (Nat → Int32)} {t6_0 : Int32} {t6_1 : Int32} {t7_0 : (Nat → Int32)} {t8_0 : Int32} {t8_1 : Int32} {t9_0 : (Nat → Int32)} {t10_0 : Int32} {t10_1 : Int32} {t11_0 : (Nat → Int32)} {t12_0 : Int32} {t12_1 : Int32} {t13_0 : (Nat → Int32)} {t14_0 : Int32} {t14_1 : Int32} {t15_0 : (Nat → Int32)} {vb : Int} (hb : bO 68 t14_0 t14_1 t15_0 vb) (hB : bB 67 vb) (e2 : x2 = 4) (hr3 : ¬ F_NH_isRegister x3 = 0) (hr4 : ¬ F_NH_isRegister x4 = 0) (hr5 : ¬ F_NH_isRegister x5 = 0) : QV_whole_abt (if vb = 0 then none else some (vb.tmod vb)) vb (F_NH_whole_abt x2 x3 x4 x5 t0_0 t0_1 t1_0 t2_0 t2_1 t3_0 t4_0 t4_1 t5_0 t6_0 t6_1 t7_0 t8_0 t8_1 t9_0 t10_0 t10_1 t11_0 t12_0 t12_1 t13_0 t14_0 t14_1 t15_0) := by
  have e0 : (0 : Int32).toInt = 0 := rfl
  have e220 : (220 : Int32).toInt = 220 := rfl
  have e68 : (68 : Int32).toInt = 68 := rfl
  have sa : t14_0.toInt ≤ 68 := hb.2.2.2.1
  have sb : t14_0.toInt ≤ 68 := hb.2.2.2.1
  have hw := hb
  unfold F_NH_whole_abt
  have g1 : ¬ (x2 < (0 : Int32)) := (by rw [e2]; decide)
  rw [if_neg g1]
  have g2 : ¬ ((11 : Int32) < x2) := (by rw [e2]; decide)
  rw [if_neg g2]
  rw [if_neg hr3]
  rw [if_neg hr4]
  rw [if_neg hr5]
  unfold F_NH_whole_abt_J37
  have g3 : ((F_NH_need (1 : Int32)) = (0 : Int32)) := (by decide)
  rw [if_pos g3]
  have g4 : ((2 : Int32) < x2) := (by rw [e2]; decide)
  rw [if_pos g4]
  have g5 : ¬ ((4 : Int32) < x2) := (by rw [e2]; decide)
  rw [if_neg g5]
  by_cases g6 : t14_0 ≤ (0 : Int32)
  ·
    rw [if_pos g6]
    have hvz : vb = 0 := Classical.byContradiction (fun c => absurd (q_leI g6) (by have := hb.pos.mpr c; omega))
    unfold F_NH_whole_abt_J94
    have g7 : ¬ ((F_NH_canHave (0 : Int32)) = (0 : Int32)) := (by decide)
    rw [if_neg g7]
    (unfold QV_whole_abt; dsimp only; first | exact cAn_o (cAn_z hkw (by with_reducible assumption)) (by rw [if_pos hvz]) | exact cAn_o hkw (by rw [if_pos hvz]) | exact cAn_o (cAn_n hw) (by rw [if_pos hvz]) | exact cAn_o (cAn_n hw2) (by rw [if_pos hvz]) | exact cAn_o (cAn_z hkw (by with_reducible assumption)) (by rw [if_neg hvz]) | exact cAn_o hkw (by rw [if_neg hvz]) | exact cAn_o (cAn_n hw) (by rw [if_neg hvz]) | exact cAn_o (cAn_n hw2) (by rw [if_neg hvz]))
  ·
    rw [if_neg g6]
    have hvz : vb ≠ 0 := hb.pos.mp (by have := q_nleI g6; omega)
    have g6i := q_nleI g6
    unfold F_NH_whole_abt_J94
    have g8 : ((F_NH_canHave (1 : Int32)) = (0 : Int32)) := (by decide)
    rw [if_pos g8]
    have g9 : ¬ (x2 = (3 : Int32)) := (by rw [e2]; decide)
    rw [if_neg g9]
    have h10 := T_quotientOrRest_a (x2 := (0 : Int32)) (R3 := (68 : Int32)) (t0_0 := t0_0) (t0_1 := t0_1) (t1_0 := t1_0) (t2_0 := t2_0) (t2_1 := t2_1) (t3_0 := t3_0) (t4_0 := t14_0) (t4_1 := t14_1) (t5_0 := t15_0) hb (hb.pos.mp (by omega)) (hB.mono (by decide))
    replace h10 := h10.2
    generalize F_Mil_quotientOrRest_a (0 : Int32) (68 : Int32) t0_0 t0_1 t1_0 t2_0 t2_1 t3_0 t14_0 t14_1 t15_0 = p876 at h10 ⊢
    have hn := h10.1
    rw [if_pos rfl] at hn
    have hb2 := h10.2.2
    have hw2 := hb2
    unfold F_NH_whole_abt_c115
    have h11 := V_keepWhole (x2 := x5) (t0_0 := (p876.1 : Int32)) (t0_1 := (p876.2.1 : Int32)) (t1_0 := (p876.2.2.1 : (Nat → Int32))) (t2_0 := (p876.2.2.2.2.2.2.1 : Int32)) (t2_1 := (p876.2.2.2.2.2.2.2.1 : Int32)) (t3_0 := (p876.2.2.2.2.2.2.2.2 : (Nat → Int32))) hn (by first | exact hw2 | exact hw)
    generalize F_NH_keepWhole x5 (p876.1 : Int32) (p876.2.1 : Int32) (p876.2.2.1 : (Nat → Int32)) (p876.2.2.2.2.2.2.1 : Int32) (p876.2.2.2.2.2.2.2.1 : Int32) (p876.2.2.2.2.2.2.2.2 : (Nat → Int32)) = p905 at h11 ⊢
    have hkw := h11
    unfold F_NH_whole_abt_c237_15
    by_cases g12 : p905.1 = (0 : Int32)
    ·
      rw [if_pos g12]
      have g12i : p905.1.toInt = 0 := q_eqI g12
      (unfold QV_whole_abt; dsimp only; first | exact cAn_o (cAn_z hkw (by with_reducible assumption)) (by rw [if_pos hvz]) | exact cAn_o hkw (by rw [if_pos hvz]) | exact cAn_o (cAn_n hw) (by rw [if_pos hvz]) | exact cAn_o (cAn_n hw2) (by rw [if_pos hvz]) | exact cAn_o (cAn_z hkw (by with_reducible assumption)) (by rw [if_neg hvz]) | exact cAn_o hkw (by rw [if_neg hvz]) | exact cAn_o (cAn_n hw) (by rw [if_neg hvz]) | exact cAn_o (cAn_n hw2) (by rw [if_neg hvz]))
    ·
      rw [if_neg g12]
      have g12i : p905.1.toInt ≠ 0 := q_neI g12
      (unfold QV_whole_abt; dsimp only; first | exact cAn_o (cAn_z hkw (by with_reducible assumption)) (by rw [if_pos hvz]) | exact cAn_o hkw (by rw [if_pos hvz]) | exact cAn_o (cAn_n hw) (by rw [if_pos hvz]) | exact cAn_o (cAn_n hw2) (by rw [if_pos hvz]) | exact cAn_o (cAn_z hkw (by with_reducible assumption)) (by rw [if_neg hvz]) | exact cAn_o hkw (by rw [if_neg hvz]) | exact cAn_o (cAn_n hw) (by rw [if_neg hvz]) | exact cAn_o (cAn_n hw2) (by rw [if_neg hvz]))
theorem V_whole_abt5 {x2 : Int32} {x3 : Int32} {x4 : Int32} {x5 : Int32} {t0_0 : Int32} {t0_1 : Int32} {t1_0 : (Nat → Int32)} {t2_0 : Int32} {t2_1 : Int32} {t3_0 : (Nat → Int32)} {t4_0 : Int32} {t4_1 : Int32} {t5_0 : (Nat → Int32)} {t6_0 : Int32} {t6_1 : Int32} {t7_0 : (Nat → Int32)} {t8_0 : Int32} {t8_1 : Int32} {t9_0 : (Nat → Int32)} {t10_0 : Int32} {t10_1 : Int32} {t11_0 : (Nat → Int32)} {t12_0 : Int32} {t12_1 : Int32} {t13_0 : (Nat → Int32)} {t14_0 : Int32} {t14_1 : Int32} {t15_0 : (Nat → Int32)} {vb : Int} (hb : bO 68 t14_0 t14_1 t15_0 vb) (hB : bB 67 vb) (e2 : x2 = 5) (hr3 : ¬ F_NH_isRegister x3 = 0) (hr4 : ¬ F_NH_isRegister x4 = 0) (hr5 : ¬ F_NH_isRegister x5 = 0) : QV_whole_abt (if vb ≤ 0 then none else some (vb % vb)) vb (F_NH_whole_abt x2 x3 x4 x5 t0_0 t0_1 t1_0 t2_0 t2_1 t3_0 t4_0 t4_1 t5_0 t6_0 t6_1 t7_0 t8_0 t8_1 t9_0 t10_0 t10_1 t11_0 t12_0 t12_1 t13_0 t14_0 t14_1 t15_0) := by
  have e0 : (0 : Int32).toInt = 0 := rfl
  have e220 : (220 : Int32).toInt = 220 := rfl
  have e68 : (68 : Int32).toInt = 68 := rfl
  have sa : t14_0.toInt ≤ 68 := hb.2.2.2.1
  have sb : t14_0.toInt ≤ 68 := hb.2.2.2.1
  have hw := hb
  unfold F_NH_whole_abt
  have g1 : ¬ (x2 < (0 : Int32)) := (by rw [e2]; decide)
  rw [if_neg g1]
  have g2 : ¬ ((11 : Int32) < x2) := (by rw [e2]; decide)
  rw [if_neg g2]
  rw [if_neg hr3]
  rw [if_neg hr4]
  rw [if_neg hr5]
  unfold F_NH_whole_abt_J37
  have g3 : ((F_NH_need (1 : Int32)) = (0 : Int32)) := (by decide)
  rw [if_pos g3]
  have g4 : ((2 : Int32) < x2) := (by rw [e2]; decide)
  rw [if_pos g4]
  have g5 : ((4 : Int32) < x2) := (by rw [e2]; decide)
  rw [if_pos g5]
  rw [if_pos e2]
  by_cases g6 : ((F_Big_sign (68 : Int32) t14_0 t14_1) : Int32) ≤ (0 : Int32)
  ·
    rw [if_pos g6]
    have hvs := v_sgnP0 hb g6
    unfold F_NH_whole_abt_J139
    have g7 : ¬ ((F_NH_canHave (0 : Int32)) = (0 : Int32)) := (by decide)
    rw [if_neg g7]
    (unfold QV_whole_abt; dsimp only; first | exact cAn_o (cAn_z hkw (by with_reducible assumption)) (by rw [if_pos hvs]) | exact cAn_o hkw (by rw [if_pos hvs]) | exact cAn_o (cAn_n hw) (by rw [if_pos hvs]) | exact cAn_o (cAn_n hw2) (by rw [if_pos hvs]) | exact cAn_o (cAn_z hkw (by with_reducible assumption)) (by rw [if_neg (show ¬ vb ≤ 0 by omega)]) | exact cAn_o hkw (by rw [if_neg (show ¬ vb ≤ 0 by omega)]) | exact cAn_o (cAn_n hw) (by rw [if_neg (show ¬ vb ≤ 0 by omega)]) | exact cAn_o (cAn_n hw2) (by rw [if_neg (show ¬ vb ≤ 0 by omega)]))
  ·
    rw [if_neg g6]
    have hvs := v_sgnP hb g6
    unfold F_NH_whole_abt_J139
    have g8 : ((F_NH_canHave (1 : Int32)) = (0 : Int32)) := (by decide)
    rw [if_pos g8]
    have h9 := T_modulo_a (R2 := (68 : Int32)) (R4 := (220 : Int32)) (t0_0 := t2_0) (t0_1 := t2_1) (t1_0 := t3_0) (t2_0 := t14_0) (t2_1 := t14_1) (t3_0 := t15_0) (t4_0 := t0_0) (t4_1 := t0_1) (t5_0 := t1_0) hb (by omega) hB (by decide) (by decide)
    replace h9 := h9.2
    generalize F_Mil_modulo_a (68 : Int32) (220 : Int32) t2_0 t2_1 t3_0 t14_0 t14_1 t15_0 t0_0 t0_1 t1_0 = p741 at h9 ⊢
    have hn := h9.2.2
    rw [v_mod0 hvs] at hn
    have hb2 := h9.2.1
    have hw2 := hb2
    unfold F_NH_whole_abt_c157
    have h10 := V_keepWhole (x2 := x5) (t0_0 := (p741.2.2.2.2.2.2.1 : Int32)) (t0_1 := (p741.2.2.2.2.2.2.2.1 : Int32)) (t1_0 := (p741.2.2.2.2.2.2.2.2 : (Nat → Int32))) (t2_0 := (p741.2.2.2.1 : Int32)) (t2_1 := (p741.2.2.2.2.1 : Int32)) (t3_0 := (p741.2.2.2.2.2.1 : (Nat → Int32))) hn (by first | exact hw2 | exact hw)
    generalize F_NH_keepWhole x5 (p741.2.2.2.2.2.2.1 : Int32) (p741.2.2.2.2.2.2.2.1 : Int32) (p741.2.2.2.2.2.2.2.2 : (Nat → Int32)) (p741.2.2.2.1 : Int32) (p741.2.2.2.2.1 : Int32) (p741.2.2.2.2.2.1 : (Nat → Int32)) = p770 at h10 ⊢
    have hkw := h10
    unfold F_NH_whole_abt_c237_12
    by_cases g11 : p770.1 = (0 : Int32)
    ·
      rw [if_pos g11]
      have g11i : p770.1.toInt = 0 := q_eqI g11
      (unfold QV_whole_abt; dsimp only; first | exact cAn_o (cAn_z hkw (by with_reducible assumption)) (by rw [if_pos hvs]) | exact cAn_o hkw (by rw [if_pos hvs]) | exact cAn_o (cAn_n hw) (by rw [if_pos hvs]) | exact cAn_o (cAn_n hw2) (by rw [if_pos hvs]) | exact cAn_o (cAn_z hkw (by with_reducible assumption)) (by rw [if_neg (show ¬ vb ≤ 0 by omega)]) | exact cAn_o hkw (by rw [if_neg (show ¬ vb ≤ 0 by omega)]) | exact cAn_o (cAn_n hw) (by rw [if_neg (show ¬ vb ≤ 0 by omega)]) | exact cAn_o (cAn_n hw2) (by rw [if_neg (show ¬ vb ≤ 0 by omega)]))
    ·
      rw [if_neg g11]
      have g11i : p770.1.toInt ≠ 0 := q_neI g11
      (unfold QV_whole_abt; dsimp only; first | exact cAn_o (cAn_z hkw (by with_reducible assumption)) (by rw [if_pos hvs]) | exact cAn_o hkw (by rw [if_pos hvs]) | exact cAn_o (cAn_n hw) (by rw [if_pos hvs]) | exact cAn_o (cAn_n hw2) (by rw [if_pos hvs]) | exact cAn_o (cAn_z hkw (by with_reducible assumption)) (by rw [if_neg (show ¬ vb ≤ 0 by omega)]) | exact cAn_o hkw (by rw [if_neg (show ¬ vb ≤ 0 by omega)]) | exact cAn_o (cAn_n hw) (by rw [if_neg (show ¬ vb ≤ 0 by omega)]) | exact cAn_o (cAn_n hw2) (by rw [if_neg (show ¬ vb ≤ 0 by omega)]))
theorem V_whole_abt6 {x2 : Int32} {x3 : Int32} {x4 : Int32} {x5 : Int32} {t0_0 : Int32} {t0_1 : Int32} {t1_0 : (Nat → Int32)} {t2_0 : Int32} {t2_1 : Int32} {t3_0 : (Nat → Int32)} {t4_0 : Int32} {t4_1 : Int32} {t5_0 : (Nat → Int32)} {t6_0 : Int32} {t6_1 : Int32} {t7_0 : (Nat → Int32)} {t8_0 : Int32} {t8_1 : Int32} {t9_0 : (Nat → Int32)} {t10_0 : Int32} {t10_1 : Int32} {t11_0 : (Nat → Int32)} {t12_0 : Int32} {t12_1 : Int32} {t13_0 : (Nat → Int32)} {t14_0 : Int32} {t14_1 : Int32} {t15_0 : (Nat → Int32)} {vb : Int} (hb : bO 68 t14_0 t14_1 t15_0 vb) (hB : bB 67 vb) (e2 : x2 = 6) (hr3 : ¬ F_NH_isRegister x3 = 0) (hr4 : ¬ F_NH_isRegister x4 = 0) (hr5 : ¬ F_NH_isRegister x5 = 0) : QV_whole_abt (some (Int.gcd vb vb : Int)) vb (F_NH_whole_abt x2 x3 x4 x5 t0_0 t0_1 t1_0 t2_0 t2_1 t3_0 t4_0 t4_1 t5_0 t6_0 t6_1 t7_0 t8_0 t8_1 t9_0 t10_0 t10_1 t11_0 t12_0 t12_1 t13_0 t14_0 t14_1 t15_0) := by
  have e0 : (0 : Int32).toInt = 0 := rfl
  have e220 : (220 : Int32).toInt = 220 := rfl
  have e68 : (68 : Int32).toInt = 68 := rfl
  have sa : t14_0.toInt ≤ 68 := hb.2.2.2.1
  have sb : t14_0.toInt ≤ 68 := hb.2.2.2.1
  have hw := hb
  unfold F_NH_whole_abt
  have g1 : ¬ (x2 < (0 : Int32)) := (by rw [e2]; decide)
  rw [if_neg g1]
  have g2 : ¬ ((11 : Int32) < x2) := (by rw [e2]; decide)
  rw [if_neg g2]
  rw [if_neg hr3]
  rw [if_neg hr4]
  rw [if_neg hr5]
  unfold F_NH_whole_abt_J37
  have g3 : ((F_NH_need (1 : Int32)) = (0 : Int32)) := (by decide)
  rw [if_pos g3]
  have g4 : ((2 : Int32) < x2) := (by rw [e2]; decide)
  rw [if_pos g4]
  have g5 : ((4 : Int32) < x2) := (by rw [e2]; decide)
  rw [if_pos g5]
  have g6 : ¬ (x2 = (5 : Int32)) := (by rw [e2]; decide)
  rw [if_neg g6]
  rw [if_pos e2]
  have h7 := V_commonDivisor (M := 67) (R := (68 : Int32)) (R2 := (68 : Int32)) (t0_0 := t0_0) (t0_1 := t0_1) (t1_0 := t1_0) (t2_0 := t2_0) (t2_1 := t2_1) (t3_0 := t3_0) (t4_0 := t6_0) (t4_1 := t6_1) (t5_0 := t7_0) (t6_0 := t8_0) (t6_1 := t8_1) (t7_0 := t9_0) (t8_0 := t14_0) (t8_1 := t14_1) (t9_0 := t15_0) (t10_0 := t14_0) (t10_1 := t14_1) (t11_0 := t15_0) (by decide) hb hb hB hB
  replace h7 := h7.2
  generalize F_Mil_commonDivisor (68 : Int32) (68 : Int32) t0_0 t0_1 t1_0 t2_0 t2_1 t3_0 t6_0 t6_1 t7_0 t8_0 t8_1 t9_0 t14_0 t14_1 t15_0 t14_0 t14_1 t15_0 = p599 at h7 ⊢
  have hn := h7.1
  unfold F_NH_whole_abt_c177
  have h8 := V_keepWhole (x2 := x5) (t0_0 := (p599.1 : Int32)) (t0_1 := (p599.2.1 : Int32)) (t1_0 := (p599.2.2.1 : (Nat → Int32))) (t2_0 := t14_0) (t2_1 := t14_1) (t3_0 := t15_0) hn (by first | exact hw2 | exact hw)
  generalize F_NH_keepWhole x5 (p599.1 : Int32) (p599.2.1 : Int32) (p599.2.2.1 : (Nat → Int32)) t14_0 t14_1 t15_0 = p631 at h8 ⊢
  have hkw := h8
  unfold F_NH_whole_abt_c237_9
  by_cases g9 : p631.1 = (0 : Int32)
  ·
    rw [if_pos g9]
    have g9i : p631.1.toInt = 0 := q_eqI g9
    (unfold QV_whole_abt; dsimp only; first | exact cAn_o (cAn_z hkw (by with_reducible assumption)) rfl | exact cAn_o hkw rfl | exact cAn_o (cAn_n hw) rfl | exact cAn_o (cAn_n hw2) rfl)
  ·
    rw [if_neg g9]
    have g9i : p631.1.toInt ≠ 0 := q_neI g9
    (unfold QV_whole_abt; dsimp only; first | exact cAn_o (cAn_z hkw (by with_reducible assumption)) rfl | exact cAn_o hkw rfl | exact cAn_o (cAn_n hw) rfl | exact cAn_o (cAn_n hw2) rfl)
theorem V_whole_abt7 {x2 : Int32} {x3 : Int32} {x4 : Int32} {x5 : Int32} {t0_0 : Int32} {t0_1 : Int32} {t1_0 : (Nat → Int32)} {t2_0 : Int32} {t2_1 : Int32} {t3_0 : (Nat → Int32)} {t4_0 : Int32} {t4_1 : Int32} {t5_0 : (Nat → Int32)} {t6_0 : Int32} {t6_1 : Int32} {t7_0 : (Nat → Int32)} {t8_0 : Int32} {t8_1 : Int32} {t9_0 : (Nat → Int32)} {t10_0 : Int32} {t10_1 : Int32} {t11_0 : (Nat → Int32)} {t12_0 : Int32} {t12_1 : Int32} {t13_0 : (Nat → Int32)} {t14_0 : Int32} {t14_1 : Int32} {t15_0 : (Nat → Int32)} {vb : Int} (hb : bO 68 t14_0 t14_1 t15_0 vb) (hB : bB 67 vb) (e2 : x2 = 7) (hr3 : ¬ F_NH_isRegister x3 = 0) (hr4 : ¬ F_NH_isRegister x4 = 0) (hr5 : ¬ F_NH_isRegister x5 = 0) : QV_whole_abt (if vb ≤ 0 then none else sInv vb vb) vb (F_NH_whole_abt x2 x3 x4 x5 t0_0 t0_1 t1_0 t2_0 t2_1 t3_0 t4_0 t4_1 t5_0 t6_0 t6_1 t7_0 t8_0 t8_1 t9_0 t10_0 t10_1 t11_0 t12_0 t12_1 t13_0 t14_0 t14_1 t15_0) := by
  have e0 : (0 : Int32).toInt = 0 := rfl
  have e220 : (220 : Int32).toInt = 220 := rfl
  have e68 : (68 : Int32).toInt = 68 := rfl
  have sa : t14_0.toInt ≤ 68 := hb.2.2.2.1
  have sb : t14_0.toInt ≤ 68 := hb.2.2.2.1
  have hw := hb
  unfold F_NH_whole_abt
  have g1 : ¬ (x2 < (0 : Int32)) := (by rw [e2]; decide)
  rw [if_neg g1]
  have g2 : ¬ ((11 : Int32) < x2) := (by rw [e2]; decide)
  rw [if_neg g2]
  rw [if_neg hr3]
  rw [if_neg hr4]
  rw [if_neg hr5]
  unfold F_NH_whole_abt_J37
  have g3 : ((F_NH_need (1 : Int32)) = (0 : Int32)) := (by decide)
  rw [if_pos g3]
  have g4 : ((2 : Int32) < x2) := (by rw [e2]; decide)
  rw [if_pos g4]
  have g5 : ((4 : Int32) < x2) := (by rw [e2]; decide)
  rw [if_pos g5]
  have g6 : ¬ (x2 = (5 : Int32)) := (by rw [e2]; decide)
  rw [if_neg g6]
  have g7 : ¬ (x2 = (6 : Int32)) := (by rw [e2]; decide)
  rw [if_neg g7]
  rw [if_pos e2]
  by_cases g8 : ((F_Big_sign (68 : Int32) t14_0 t14_1) : Int32) ≤ (0 : Int32)
  ·
    rw [if_pos g8]
    have hvs := v_sgnP0 hb g8
    have g9 : ¬ ((F_NH_canHave (0 : Int32)) = (0 : Int32)) := (by decide)
    rw [if_neg g9]
    (unfold QV_whole_abt; dsimp only; first | exact cAn_o (cAn_z hkw (by with_reducible assumption)) (by rw [if_neg (show ¬ vb ≤ 0 by omega), hiv]) | exact cAn_o hkw (by rw [if_neg (show ¬ vb ≤ 0 by omega), hiv]) | exact cAn_o (cAn_z hkw (by with_reducible assumption)) (by rw [if_pos hvs]) | exact cAn_o hkw (by rw [if_pos hvs]) | exact cAn_o (cAn_n hw) (by rw [if_pos hvs]) | exact cAn_o (cAn_n hw2) (by rw [if_pos hvs]) | exact cAn_o (cAn_z hkw (by with_reducible assumption)) (by rw [if_neg (show ¬ vb ≤ 0 by omega)]) | exact cAn_o hkw (by rw [if_neg (show ¬ vb ≤ 0 by omega)]) | exact cAn_o (cAn_n hw) (by rw [if_neg (show ¬ vb ≤ 0 by omega)]) | exact cAn_o (cAn_n hw2) (by rw [if_neg (show ¬ vb ≤ 0 by omega)]) | exact cAn_o (cAn_z hkw (by with_reducible assumption)) (by rw [if_neg (show ¬ vb ≤ 0 by omega)]; exact hiv.symm) | exact cAn_o hkw (by rw [if_neg (show ¬ vb ≤ 0 by omega)]; exact hiv.symm) | exact cAn_o (cAn_n hw) (by rw [if_neg (show ¬ vb ≤ 0 by omega)]; exact hiv.symm) | exact cAn_o (cAn_n hw2) (by rw [if_neg (show ¬ vb ≤ 0 by omega)]; exact hiv.symm))
  ·
    rw [if_neg g8]
    have hvs := v_sgnP hb g8
    have g10 : ((F_NH_canHave (1 : Int32)) = (0 : Int32)) := (by decide)
    rw [if_pos g10]
    have h11 := V_inverse_aO (R2 := (68 : Int32)) (t0_0 := t0_0) (t0_1 := t0_1) (t1_0 := t1_0) (t2_0 := t2_0) (t2_1 := t2_1) (t3_0 := t3_0) (t4_0 := t4_0) (t4_1 := t4_1) (t5_0 := t5_0) (t6_0 := t6_0) (t6_1 := t6_1) (t7_0 := t7_0) (t8_0 := t8_0) (t8_1 := t8_1) (t9_0 := t9_0) (t10_0 := t10_0) (t10_1 := t10_1) (t11_0 := t11_0) (t12_0 := t12_0) (t12_1 := t12_1) (t13_0 := t13_0) (t14_0 := t14_0) (t14_1 := t14_1) (t15_0 := t15_0) hb hvs hB (by decide)
    generalize F_Mil_inverse_a (68 : Int32) t0_0 t0_1 t1_0 t2_0 t2_1 t3_0 t4_0 t4_1 t5_0 t6_0 t6_1 t7_0 t8_0 t8_1 t9_0 t10_0 t10_1 t11_0 t12_0 t12_1 t13_0 t14_0 t14_1 t15_0 = p471 at h11 ⊢
    unfold F_NH_whole_abt_c213_6
    rcases h11 with ⟨h110, h111, h112⟩ | ⟨xv, h110, h111, h11n, h112⟩
    ·
      have hb2 := h112
      have hiv := h110
      have hw2 := hb2
      have g12 : ¬ ((F_NH_canHave (p471.1 : Int32)) = (0 : Int32)) := (by rw [h111]; decide)
      rw [if_neg g12]
      (unfold QV_whole_abt; dsimp only; first | exact (by rw [show F_NH_canHave p471.1 = 2 by rw [h111]; rfl]; exact cAn_o (cAn_n hw) (by rw [if_neg (show ¬ vb ≤ 0 by omega), hiv])) | exact (by rw [show F_NH_canHave p471.1 = 2 by rw [h111]; rfl]; exact cAn_o (cAn_n hw2) (by rw [if_neg (show ¬ vb ≤ 0 by omega), hiv])) | exact cAn_o (cAn_z hkw (by with_reducible assumption)) (by rw [if_neg (show ¬ vb ≤ 0 by omega), hiv]) | exact cAn_o hkw (by rw [if_neg (show ¬ vb ≤ 0 by omega), hiv]) | exact cAn_o (cAn_z hkw (by with_reducible assumption)) (by rw [if_pos hvs]) | exact cAn_o hkw (by rw [if_pos hvs]) | exact cAn_o (cAn_n hw) (by rw [if_pos hvs]) | exact cAn_o (cAn_n hw2) (by rw [if_pos hvs]) | exact cAn_o (cAn_z hkw (by with_reducible assumption)) (by rw [if_neg (show ¬ vb ≤ 0 by omega)]) | exact cAn_o hkw (by rw [if_neg (show ¬ vb ≤ 0 by omega)]) | exact cAn_o (cAn_n hw) (by rw [if_neg (show ¬ vb ≤ 0 by omega)]) | exact cAn_o (cAn_n hw2) (by rw [if_neg (show ¬ vb ≤ 0 by omega)]) | exact cAn_o (cAn_z hkw (by with_reducible assumption)) (by rw [if_neg (show ¬ vb ≤ 0 by omega)]; exact hiv.symm) | exact cAn_o hkw (by rw [if_neg (show ¬ vb ≤ 0 by omega)]; exact hiv.symm) | exact cAn_o (cAn_n hw) (by rw [if_neg (show ¬ vb ≤ 0 by omega)]; exact hiv.symm) | exact cAn_o (cAn_n hw2) (by rw [if_neg (show ¬ vb ≤ 0 by omega)]; exact hiv.symm))
    ·
      have hn := h11n
      have hb2 := h112
      have hiv := h110
      have hw2 := hb2
      have g13 : ((F_NH_canHave (p471.1 : Int32)) = (0 : Int32)) := (by rw [h111]; decide)
      rw [if_pos g13]
      have h14 := V_keepWhole (x2 := x5) (t0_0 := (p471.2.1 : Int32)) (t0_1 := (p471.2.2.1 : Int32)) (t1_0 := (p471.2.2.2.1 : (Nat → Int32))) (t2_0 := (p471.2.2.2.2.2.2.2.2.2.2.2.2.2.2.2.2.2.2.2.2.2.2.1 : Int32)) (t2_1 := (p471.2.2.2.2.2.2.2.2.2.2.2.2.2.2.2.2.2.2.2.2.2.2.2.1 : Int32)) (t3_0 := (p471.2.2.2.2.2.2.2.2.2.2.2.2.2.2.2.2.2.2.2.2.2.2.2.2 : (Nat → Int32))) hn (by first | exact hw2 | exact hw)
      generalize F_NH_keepWhole x5 (p471.2.1 : Int32) (p471.2.2.1 : Int32) (p471.2.2.2.1 : (Nat → Int32)) (p471.2.2.2.2.2.2.2.2.2.2.2.2.2.2.2.2.2.2.2.2.2.2.1 : Int32) (p471.2.2.2.2.2.2.2.2.2.2.2.2.2.2.2.2.2.2.2.2.2.2.2.1 : Int32) (p471.2.2.2.2.2.2.2.2.2.2.2.2.2.2.2.2.2.2.2.2.2.2.2.2 : (Nat → Int32)) = p525 at h14 ⊢
      have hkw := h14
      unfold F_NH_whole_abt_c237_7
      by_cases g15 : p525.1 = (0 : Int32)
      ·
        rw [if_pos g15]
        have g15i : p525.1.toInt = 0 := q_eqI g15
        (unfold QV_whole_abt; dsimp only; first | exact (by rw [show F_NH_canHave p471.1 = 2 by rw [h111]; rfl]; exact cAn_o (cAn_n hw) (by rw [if_neg (show ¬ vb ≤ 0 by omega), hiv])) | exact (by rw [show F_NH_canHave p471.1 = 2 by rw [h111]; rfl]; exact cAn_o (cAn_n hw2) (by rw [if_neg (show ¬ vb ≤ 0 by omega), hiv])) | exact cAn_o (cAn_z hkw (by with_reducible assumption)) (by rw [if_neg (show ¬ vb ≤ 0 by omega), hiv]) | exact cAn_o hkw (by rw [if_neg (show ¬ vb ≤ 0 by omega), hiv]) | exact cAn_o (cAn_z hkw (by with_reducible assumption)) (by rw [if_pos hvs]) | exact cAn_o hkw (by rw [if_pos hvs]) | exact cAn_o (cAn_n hw) (by rw [if_pos hvs]) | exact cAn_o (cAn_n hw2) (by rw [if_pos hvs]) | exact cAn_o (cAn_z hkw (by with_reducible assumption)) (by rw [if_neg (show ¬ vb ≤ 0 by omega)]) | exact cAn_o hkw (by rw [if_neg (show ¬ vb ≤ 0 by omega)]) | exact cAn_o (cAn_n hw) (by rw [if_neg (show ¬ vb ≤ 0 by omega)]) | exact cAn_o (cAn_n hw2) (by rw [if_neg (show ¬ vb ≤ 0 by omega)]) | exact cAn_o (cAn_z hkw (by with_reducible assumption)) (by rw [if_neg (show ¬ vb ≤ 0 by omega)]; exact hiv.symm) | exact cAn_o hkw (by rw [if_neg (show ¬ vb ≤ 0 by omega)]; exact hiv.symm) | exact cAn_o (cAn_n hw) (by rw [if_neg (show ¬ vb ≤ 0 by omega)]; exact hiv.symm) | exact cAn_o (cAn_n hw2) (by rw [if_neg (show ¬ vb ≤ 0 by omega)]; exact hiv.symm))
      ·
        rw [if_neg g15]
        have g15i : p525.1.toInt ≠ 0 := q_neI g15
        (unfold QV_whole_abt; dsimp only; first | exact cAn_o (cAn_z hkw (by with_reducible assumption)) (by rw [if_neg (show ¬ vb ≤ 0 by omega), hiv]) | exact cAn_o hkw (by rw [if_neg (show ¬ vb ≤ 0 by omega), hiv]) | exact cAn_o (cAn_z hkw (by with_reducible assumption)) (by rw [if_pos hvs]) | exact cAn_o hkw (by rw [if_pos hvs]) | exact cAn_o (cAn_n hw) (by rw [if_pos hvs]) | exact cAn_o (cAn_n hw2) (by rw [if_pos hvs]) | exact cAn_o (cAn_z hkw (by with_reducible assumption)) (by rw [if_neg (show ¬ vb ≤ 0 by omega)]) | exact cAn_o hkw (by rw [if_neg (show ¬ vb ≤ 0 by omega)]) | exact cAn_o (cAn_n hw) (by rw [if_neg (show ¬ vb ≤ 0 by omega)]) | exact cAn_o (cAn_n hw2) (by rw [if_neg (show ¬ vb ≤ 0 by omega)]) | exact cAn_o (cAn_z hkw (by with_reducible assumption)) (by rw [if_neg (show ¬ vb ≤ 0 by omega)]; exact hiv.symm) | exact cAn_o hkw (by rw [if_neg (show ¬ vb ≤ 0 by omega)]; exact hiv.symm) | exact cAn_o (cAn_n hw) (by rw [if_neg (show ¬ vb ≤ 0 by omega)]; exact hiv.symm) | exact cAn_o (cAn_n hw2) (by rw [if_neg (show ¬ vb ≤ 0 by omega)]; exact hiv.symm))
theorem V_whole_abt8 {x2 : Int32} {x3 : Int32} {x4 : Int32} {x5 : Int32} {t0_0 : Int32} {t0_1 : Int32} {t1_0 : (Nat → Int32)} {t2_0 : Int32} {t2_1 : Int32} {t3_0 : (Nat → Int32)} {t4_0 : Int32} {t4_1 : Int32} {t5_0 : (Nat → Int32)} {t6_0 : Int32} {t6_1 : Int32} {t7_0 : (Nat → Int32)} {t8_0 : Int32} {t8_1 : Int32} {t9_0 : (Nat → Int32)} {t10_0 : Int32} {t10_1 : Int32} {t11_0 : (Nat → Int32)} {t12_0 : Int32} {t12_1 : Int32} {t13_0 : (Nat → Int32)} {t14_0 : Int32} {t14_1 : Int32} {t15_0 : (Nat → Int32)} {vb : Int} (hb : bO 68 t14_0 t14_1 t15_0 vb) (hB : bB 67 vb) (e2 : x2 = 8) (hr3 : ¬ F_NH_isRegister x3 = 0) (hr4 : ¬ F_NH_isRegister x4 = 0) (hr5 : ¬ F_NH_isRegister x5 = 0) : QV_whole_abt (some (sMix 0 vb vb)) vb (F_NH_whole_abt x2 x3 x4 x5 t0_0 t0_1 t1_0 t2_0 t2_1 t3_0 t4_0 t4_1 t5_0 t6_0 t6_1 t7_0 t8_0 t8_1 t9_0 t10_0 t10_1 t11_0 t12_0 t12_1 t13_0 t14_0 t14_1 t15_0) := by
  have e0 : (0 : Int32).toInt = 0 := rfl
  have e220 : (220 : Int32).toInt = 220 := rfl
  have e68 : (68 : Int32).toInt = 68 := rfl
  have sa : t14_0.toInt ≤ 68 := hb.2.2.2.1
  have sb : t14_0.toInt ≤ 68 := hb.2.2.2.1
  have hw := hb
  unfold F_NH_whole_abt
  have g1 : ¬ (x2 < (0 : Int32)) := (by rw [e2]; decide)
  rw [if_neg g1]
  have g2 : ¬ ((11 : Int32) < x2) := (by rw [e2]; decide)
  rw [if_neg g2]
  rw [if_neg hr3]
  rw [if_neg hr4]
  rw [if_neg hr5]
  unfold F_NH_whole_abt_J37
  have g3 : ((F_NH_need (1 : Int32)) = (0 : Int32)) := (by decide)
  rw [if_pos g3]
  have g4 : ((2 : Int32) < x2) := (by rw [e2]; decide)
  rw [if_pos g4]
  have g5 : ((4 : Int32) < x2) := (by rw [e2]; decide)
  rw [if_pos g5]
  have g6 : ¬ (x2 = (5 : Int32)) := (by rw [e2]; decide)
  rw [if_neg g6]
  have g7 : ¬ (x2 = (6 : Int32)) := (by rw [e2]; decide)
  rw [if_neg g7]
  have g8 : ¬ (x2 = (7 : Int32)) := (by rw [e2]; decide)
  rw [if_neg g8]
  have h9 := V_mixBits (x2 := x2) (R := (68 : Int32)) (R2 := (68 : Int32)) (t0_0 := t0_0) (t0_1 := t0_1) (t1_0 := t1_0) (t2_0 := t14_0) (t2_1 := t14_1) (t3_0 := t15_0) (t4_0 := t14_0) (t4_1 := t14_1) (t5_0 := t15_0) (h := 0) (by decide) (by rw [e2]; rfl) hb hb (by omega) (by omega)
  generalize F_Mil_mixBits x2 (68 : Int32) (68 : Int32) t0_0 t0_1 t1_0 t14_0 t14_1 t15_0 t14_0 t14_1 t15_0 = p134 at h9 ⊢
  have hn := h9
  unfold F_NH_whole_abt_c231
  have h10 := V_keepWhole (x2 := x5) (t0_0 := (p134.1 : Int32)) (t0_1 := (p134.2.1 : Int32)) (t1_0 := (p134.2.2 : (Nat → Int32))) (t2_0 := t14_0) (t2_1 := t14_1) (t3_0 := t15_0) hn (by first | exact hw2 | exact hw)
  generalize F_NH_keepWhole x5 (p134.1 : Int32) (p134.2.1 : Int32) (p134.2.2 : (Nat → Int32)) t14_0 t14_1 t15_0 = p157 at h10 ⊢
  have hkw := h10
  unfold F_NH_whole_abt_c237
  by_cases g11 : p157.1 = (0 : Int32)
  ·
    rw [if_pos g11]
    have g11i : p157.1.toInt = 0 := q_eqI g11
    (unfold QV_whole_abt; dsimp only; first | exact cAn_o (cAn_z hkw (by with_reducible assumption)) rfl | exact cAn_o hkw rfl | exact cAn_o (cAn_n hw) rfl | exact cAn_o (cAn_n hw2) rfl)
  ·
    rw [if_neg g11]
    have g11i : p157.1.toInt ≠ 0 := q_neI g11
    (unfold QV_whole_abt; dsimp only; first | exact cAn_o (cAn_z hkw (by with_reducible assumption)) rfl | exact cAn_o hkw rfl | exact cAn_o (cAn_n hw) rfl | exact cAn_o (cAn_n hw2) rfl)
theorem V_whole_abt9 {x2 : Int32} {x3 : Int32} {x4 : Int32} {x5 : Int32} {t0_0 : Int32} {t0_1 : Int32} {t1_0 : (Nat → Int32)} {t2_0 : Int32} {t2_1 : Int32} {t3_0 : (Nat → Int32)} {t4_0 : Int32} {t4_1 : Int32} {t5_0 : (Nat → Int32)} {t6_0 : Int32} {t6_1 : Int32} {t7_0 : (Nat → Int32)} {t8_0 : Int32} {t8_1 : Int32} {t9_0 : (Nat → Int32)} {t10_0 : Int32} {t10_1 : Int32} {t11_0 : (Nat → Int32)} {t12_0 : Int32} {t12_1 : Int32} {t13_0 : (Nat → Int32)} {t14_0 : Int32} {t14_1 : Int32} {t15_0 : (Nat → Int32)} {vb : Int} (hb : bO 68 t14_0 t14_1 t15_0 vb) (hB : bB 67 vb) (e2 : x2 = 9) (hr3 : ¬ F_NH_isRegister x3 = 0) (hr4 : ¬ F_NH_isRegister x4 = 0) (hr5 : ¬ F_NH_isRegister x5 = 0) : QV_whole_abt (some (sMix 1 vb vb)) vb (F_NH_whole_abt x2 x3 x4 x5 t0_0 t0_1 t1_0 t2_0 t2_1 t3_0 t4_0 t4_1 t5_0 t6_0 t6_1 t7_0 t8_0 t8_1 t9_0 t10_0 t10_1 t11_0 t12_0 t12_1 t13_0 t14_0 t14_1 t15_0) := by
  have e0 : (0 : Int32).toInt = 0 := rfl
  have e220 : (220 : Int32).toInt = 220 := rfl
  have e68 : (68 : Int32).toInt = 68 := rfl
  have sa : t14_0.toInt ≤ 68 := hb.2.2.2.1
  have sb : t14_0.toInt ≤ 68 := hb.2.2.2.1
  have hw := hb
  unfold F_NH_whole_abt
  have g1 : ¬ (x2 < (0 : Int32)) := (by rw [e2]; decide)
  rw [if_neg g1]
  have g2 : ¬ ((11 : Int32) < x2) := (by rw [e2]; decide)
  rw [if_neg g2]
  rw [if_neg hr3]
  rw [if_neg hr4]
  rw [if_neg hr5]
  unfold F_NH_whole_abt_J37
  have g3 : ((F_NH_need (1 : Int32)) = (0 : Int32)) := (by decide)
  rw [if_pos g3]
  have g4 : ((2 : Int32) < x2) := (by rw [e2]; decide)
  rw [if_pos g4]
  have g5 : ((4 : Int32) < x2) := (by rw [e2]; decide)
  rw [if_pos g5]
  have g6 : ¬ (x2 = (5 : Int32)) := (by rw [e2]; decide)
  rw [if_neg g6]
  have g7 : ¬ (x2 = (6 : Int32)) := (by rw [e2]; decide)
  rw [if_neg g7]
  have g8 : ¬ (x2 = (7 : Int32)) := (by rw [e2]; decide)
  rw [if_neg g8]
  have h9 := V_mixBits (x2 := x2) (R := (68 : Int32)) (R2 := (68 : Int32)) (t0_0 := t0_0) (t0_1 := t0_1) (t1_0 := t1_0) (t2_0 := t14_0) (t2_1 := t14_1) (t3_0 := t15_0) (t4_0 := t14_0) (t4_1 := t14_1) (t5_0 := t15_0) (h := 1) (by decide) (by rw [e2]; rfl) hb hb (by omega) (by omega)
  generalize F_Mil_mixBits x2 (68 : Int32) (68 : Int32) t0_0 t0_1 t1_0 t14_0 t14_1 t15_0 t14_0 t14_1 t15_0 = p134 at h9 ⊢
  have hn := h9
  unfold F_NH_whole_abt_c231
  have h10 := V_keepWhole (x2 := x5) (t0_0 := (p134.1 : Int32)) (t0_1 := (p134.2.1 : Int32)) (t1_0 := (p134.2.2 : (Nat → Int32))) (t2_0 := t14_0) (t2_1 := t14_1) (t3_0 := t15_0) hn (by first | exact hw2 | exact hw)
  generalize F_NH_keepWhole x5 (p134.1 : Int32) (p134.2.1 : Int32) (p134.2.2 : (Nat → Int32)) t14_0 t14_1 t15_0 = p157 at h10 ⊢
  have hkw := h10
  unfold F_NH_whole_abt_c237
  by_cases g11 : p157.1 = (0 : Int32)
  ·
    rw [if_pos g11]
    have g11i : p157.1.toInt = 0 := q_eqI g11
    (unfold QV_whole_abt; dsimp only; first | exact cAn_o (cAn_z hkw (by with_reducible assumption)) rfl | exact cAn_o hkw rfl | exact cAn_o (cAn_n hw) rfl | exact cAn_o (cAn_n hw2) rfl)
  ·
    rw [if_neg g11]
    have g11i : p157.1.toInt ≠ 0 := q_neI g11
    (unfold QV_whole_abt; dsimp only; first | exact cAn_o (cAn_z hkw (by with_reducible assumption)) rfl | exact cAn_o hkw rfl | exact cAn_o (cAn_n hw) rfl | exact cAn_o (cAn_n hw2) rfl)
theorem V_whole_abt10 {x2 : Int32} {x3 : Int32} {x4 : Int32} {x5 : Int32} {t0_0 : Int32} {t0_1 : Int32} {t1_0 : (Nat → Int32)} {t2_0 : Int32} {t2_1 : Int32} {t3_0 : (Nat → Int32)} {t4_0 : Int32} {t4_1 : Int32} {t5_0 : (Nat → Int32)} {t6_0 : Int32} {t6_1 : Int32} {t7_0 : (Nat → Int32)} {t8_0 : Int32} {t8_1 : Int32} {t9_0 : (Nat → Int32)} {t10_0 : Int32} {t10_1 : Int32} {t11_0 : (Nat → Int32)} {t12_0 : Int32} {t12_1 : Int32} {t13_0 : (Nat → Int32)} {t14_0 : Int32} {t14_1 : Int32} {t15_0 : (Nat → Int32)} {vb : Int} (hb : bO 68 t14_0 t14_1 t15_0 vb) (hB : bB 67 vb) (e2 : x2 = 10) (hr3 : ¬ F_NH_isRegister x3 = 0) (hr4 : ¬ F_NH_isRegister x4 = 0) (hr5 : ¬ F_NH_isRegister x5 = 0) : QV_whole_abt (some (sMix 2 vb vb)) vb (F_NH_whole_abt x2 x3 x4 x5 t0_0 t0_1 t1_0 t2_0 t2_1 t3_0 t4_0 t4_1 t5_0 t6_0 t6_1 t7_0 t8_0 t8_1 t9_0 t10_0 t10_1 t11_0 t12_0 t12_1 t13_0 t14_0 t14_1 t15_0) := by
  have e0 : (0 : Int32).toInt = 0 := rfl
  have e220 : (220 : Int32).toInt = 220 := rfl
  have e68 : (68 : Int32).toInt = 68 := rfl
  have sa : t14_0.toInt ≤ 68 := hb.2.2.2.1
  have sb : t14_0.toInt ≤ 68 := hb.2.2.2.1
  have hw := hb
  unfold F_NH_whole_abt
  have g1 : ¬ (x2 < (0 : Int32)) := (by rw [e2]; decide)
  rw [if_neg g1]
  have g2 : ¬ ((11 : Int32) < x2) := (by rw [e2]; decide)
  rw [if_neg g2]
  rw [if_neg hr3]
  rw [if_neg hr4]
  rw [if_neg hr5]
  unfold F_NH_whole_abt_J37
  have g3 : ((F_NH_need (1 : Int32)) = (0 : Int32)) := (by decide)
  rw [if_pos g3]
  have g4 : ((2 : Int32) < x2) := (by rw [e2]; decide)
  rw [if_pos g4]
  have g5 : ((4 : Int32) < x2) := (by rw [e2]; decide)
  rw [if_pos g5]
  have g6 : ¬ (x2 = (5 : Int32)) := (by rw [e2]; decide)
  rw [if_neg g6]
  have g7 : ¬ (x2 = (6 : Int32)) := (by rw [e2]; decide)
  rw [if_neg g7]
  have g8 : ¬ (x2 = (7 : Int32)) := (by rw [e2]; decide)
  rw [if_neg g8]
  have h9 := V_mixBits (x2 := x2) (R := (68 : Int32)) (R2 := (68 : Int32)) (t0_0 := t0_0) (t0_1 := t0_1) (t1_0 := t1_0) (t2_0 := t14_0) (t2_1 := t14_1) (t3_0 := t15_0) (t4_0 := t14_0) (t4_1 := t14_1) (t5_0 := t15_0) (h := 2) (by decide) (by rw [e2]; rfl) hb hb (by omega) (by omega)
  generalize F_Mil_mixBits x2 (68 : Int32) (68 : Int32) t0_0 t0_1 t1_0 t14_0 t14_1 t15_0 t14_0 t14_1 t15_0 = p134 at h9 ⊢
  have hn := h9
  unfold F_NH_whole_abt_c231
  have h10 := V_keepWhole (x2 := x5) (t0_0 := (p134.1 : Int32)) (t0_1 := (p134.2.1 : Int32)) (t1_0 := (p134.2.2 : (Nat → Int32))) (t2_0 := t14_0) (t2_1 := t14_1) (t3_0 := t15_0) hn (by first | exact hw2 | exact hw)
  generalize F_NH_keepWhole x5 (p134.1 : Int32) (p134.2.1 : Int32) (p134.2.2 : (Nat → Int32)) t14_0 t14_1 t15_0 = p157 at h10 ⊢
  have hkw := h10
  unfold F_NH_whole_abt_c237
  by_cases g11 : p157.1 = (0 : Int32)
  ·
    rw [if_pos g11]
    have g11i : p157.1.toInt = 0 := q_eqI g11
    (unfold QV_whole_abt; dsimp only; first | exact cAn_o (cAn_z hkw (by with_reducible assumption)) rfl | exact cAn_o hkw rfl | exact cAn_o (cAn_n hw) rfl | exact cAn_o (cAn_n hw2) rfl)
  ·
    rw [if_neg g11]
    have g11i : p157.1.toInt ≠ 0 := q_neI g11
    (unfold QV_whole_abt; dsimp only; first | exact cAn_o (cAn_z hkw (by with_reducible assumption)) rfl | exact cAn_o hkw rfl | exact cAn_o (cAn_n hw) rfl | exact cAn_o (cAn_n hw2) rfl)
theorem V_whole_abt11 {x2 : Int32} {x3 : Int32} {x4 : Int32} {x5 : Int32} {t0_0 : Int32} {t0_1 : Int32} {t1_0 : (Nat → Int32)} {t2_0 : Int32} {t2_1 : Int32} {t3_0 : (Nat → Int32)} {t4_0 : Int32} {t4_1 : Int32} {t5_0 : (Nat → Int32)} {t6_0 : Int32} {t6_1 : Int32} {t7_0 : (Nat → Int32)} {t8_0 : Int32} {t8_1 : Int32} {t9_0 : (Nat → Int32)} {t10_0 : Int32} {t10_1 : Int32} {t11_0 : (Nat → Int32)} {t12_0 : Int32} {t12_1 : Int32} {t13_0 : (Nat → Int32)} {t14_0 : Int32} {t14_1 : Int32} {t15_0 : (Nat → Int32)} {vb : Int} (hb : bO 68 t14_0 t14_1 t15_0 vb) (hB : bB 67 vb) (e2 : x2 = 11) (hr3 : ¬ F_NH_isRegister x3 = 0) (hr4 : ¬ F_NH_isRegister x4 = 0) (hr5 : ¬ F_NH_isRegister x5 = 0) : QV_whole_abt (some (sMix 3 vb vb)) vb (F_NH_whole_abt x2 x3 x4 x5 t0_0 t0_1 t1_0 t2_0 t2_1 t3_0 t4_0 t4_1 t5_0 t6_0 t6_1 t7_0 t8_0 t8_1 t9_0 t10_0 t10_1 t11_0 t12_0 t12_1 t13_0 t14_0 t14_1 t15_0) := by
  have e0 : (0 : Int32).toInt = 0 := rfl
  have e220 : (220 : Int32).toInt = 220 := rfl
  have e68 : (68 : Int32).toInt = 68 := rfl
  have sa : t14_0.toInt ≤ 68 := hb.2.2.2.1
  have sb : t14_0.toInt ≤ 68 := hb.2.2.2.1
  have hw := hb
  unfold F_NH_whole_abt
  have g1 : ¬ (x2 < (0 : Int32)) := (by rw [e2]; decide)
  rw [if_neg g1]
  have g2 : ¬ ((11 : Int32) < x2) := (by rw [e2]; decide)
  rw [if_neg g2]
  rw [if_neg hr3]
  rw [if_neg hr4]
  rw [if_neg hr5]
  unfold F_NH_whole_abt_J37
  have g3 : ((F_NH_need (1 : Int32)) = (0 : Int32)) := (by decide)
  rw [if_pos g3]
  have g4 : ((2 : Int32) < x2) := (by rw [e2]; decide)
  rw [if_pos g4]
  have g5 : ((4 : Int32) < x2) := (by rw [e2]; decide)
  rw [if_pos g5]
  have g6 : ¬ (x2 = (5 : Int32)) := (by rw [e2]; decide)
  rw [if_neg g6]
  have g7 : ¬ (x2 = (6 : Int32)) := (by rw [e2]; decide)
  rw [if_neg g7]
  have g8 : ¬ (x2 = (7 : Int32)) := (by rw [e2]; decide)
  rw [if_neg g8]
  have h9 := V_mixBits (x2 := x2) (R := (68 : Int32)) (R2 := (68 : Int32)) (t0_0 := t0_0) (t0_1 := t0_1) (t1_0 := t1_0) (t2_0 := t14_0) (t2_1 := t14_1) (t3_0 := t15_0) (t4_0 := t14_0) (t4_1 := t14_1) (t5_0 := t15_0) (h := 3) (by decide) (by rw [e2]; rfl) hb hb (by omega) (by omega)
  generalize F_Mil_mixBits x2 (68 : Int32) (68 : Int32) t0_0 t0_1 t1_0 t14_0 t14_1 t15_0 t14_0 t14_1 t15_0 = p134 at h9 ⊢
  have hn := h9
  unfold F_NH_whole_abt_c231
  have h10 := V_keepWhole (x2 := x5) (t0_0 := (p134.1 : Int32)) (t0_1 := (p134.2.1 : Int32)) (t1_0 := (p134.2.2 : (Nat → Int32))) (t2_0 := t14_0) (t2_1 := t14_1) (t3_0 := t15_0) hn (by first | exact hw2 | exact hw)
  generalize F_NH_keepWhole x5 (p134.1 : Int32) (p134.2.1 : Int32) (p134.2.2 : (Nat → Int32)) t14_0 t14_1 t15_0 = p157 at h10 ⊢
  have hkw := h10
  unfold F_NH_whole_abt_c237
  by_cases g11 : p157.1 = (0 : Int32)
  ·
    rw [if_pos g11]
    have g11i : p157.1.toInt = 0 := q_eqI g11
    (unfold QV_whole_abt; dsimp only; first | exact cAn_o (cAn_z hkw (by with_reducible assumption)) rfl | exact cAn_o hkw rfl | exact cAn_o (cAn_n hw) rfl | exact cAn_o (cAn_n hw2) rfl)
  ·
    rw [if_neg g11]
    have g11i : p157.1.toInt ≠ 0 := q_neI g11
    (unfold QV_whole_abt; dsimp only; first | exact cAn_o (cAn_z hkw (by with_reducible assumption)) rfl | exact cAn_o hkw rfl | exact cAn_o (cAn_n hw) rfl | exact cAn_o (cAn_n hw2) rfl)
theorem V_whole_abt {x2 : Int32} {x3 : Int32} {x4 : Int32} {x5 : Int32} {t0_0 : Int32} {t0_1 : Int32} {t1_0 : (Nat → Int32)} {t2_0 : Int32} {t2_1 : Int32} {t3_0 : (Nat → Int32)} {t4_0 : Int32} {t4_1 : Int32} {t5_0 : (Nat → Int32)} {t6_0 : Int32} {t6_1 : Int32} {t7_0 : (Nat → Int32)} {t8_0 : Int32} {t8_1 : Int32} {t9_0 : (Nat → Int32)} {t10_0 : Int32} {t10_1 : Int32} {t11_0 : (Nat → Int32)} {t12_0 : Int32} {t12_1 : Int32} {t13_0 : (Nat → Int32)} {t14_0 : Int32} {t14_1 : Int32} {t15_0 : (Nat → Int32)} {vb : Int} (hb : bO 68 t14_0 t14_1 t15_0 vb) (hB : bB 67 vb) (h2 : 0 ≤ x2.toInt ∧ x2.toInt ≤ 11) (hr3 : ¬ F_NH_isRegister x3 = 0) (hr4 : ¬ F_NH_isRegister x4 = 0) (hr5 : ¬ F_NH_isRegister x5 = 0) : QV_whole_abt (sWh x2.toNatClampNeg vb vb) vb (F_NH_whole_abt x2 x3 x4 x5 t0_0 t0_1 t1_0 t2_0 t2_1 t3_0 t4_0 t4_1 t5_0 t6_0 t6_1 t7_0 t8_0 t8_1 t9_0 t10_0 t10_1 t11_0 t12_0 t12_1 t13_0 t14_0 t14_1 t15_0) := by
  have hc := q_clI (i := x2) rfl h2.1
  have hx : x2 = 0 ∨ x2 = 1 ∨ x2 = 2 ∨ x2 = 3 ∨ x2 = 4 ∨ x2 = 5 ∨ x2 = 6 ∨ x2 = 7 ∨ x2 = 8 ∨ x2 = 9 ∨ x2 = 10 ∨ x2 = 11 := q_x12 h2.1 h2.2
  rcases hx with e | e | e | e | e | e | e | e | e | e | e | e <;> (rw [show x2.toNatClampNeg = _ from congrArg Int32.toNatClampNeg e])
  · exact V_whole_abt0 hb hB e hr3 hr4 hr5
  · exact V_whole_abt1 hb hB e hr3 hr4 hr5
  · exact V_whole_abt2 hb hB e hr3 hr4 hr5
  · exact V_whole_abt3 hb hB e hr3 hr4 hr5
  · exact V_whole_abt4 hb hB e hr3 hr4 hr5
  · exact V_whole_abt5 hb hB e hr3 hr4 hr5
  · exact V_whole_abt6 hb hB e hr3 hr4 hr5
  · exact V_whole_abt7 hb hB e hr3 hr4 hr5
  · exact V_whole_abt8 hb hB e hr3 hr4 hr5
  · exact V_whole_abt9 hb hB e hr3 hr4 hr5
  · exact V_whole_abt10 hb hB e hr3 hr4 hr5
  · exact V_whole_abt11 hb hB e hr3 hr4 hr5
