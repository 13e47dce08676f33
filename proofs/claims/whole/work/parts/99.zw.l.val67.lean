/-! values, for whole: the reference's powers modulo m -/
theorem w_pmS {X m v : Int} {h : Nat} (hv : v = X ^ h % m) : (v * v) % m = X ^ (h + h) % m := by
  rw [hv, ← Int.mul_emod, ← Int.pow_add]
theorem w_pmM {X m w : Int} {h : Nat} (hw : w = X ^ h % m) : (w * X) % m = X ^ (h + 1) % m := by
  rw [hw, Int.mul_emod, Int.emod_emod, ← Int.mul_emod, ← Int.pow_succ]
theorem V_pmL {K_F_WR_powerModulo_L134 : Int32 → (Int32 × Int32 × Int32 × Int32 × Int32 × Int32 × Int32 × (Nat → Int32) × (Nat → Int32) × (Nat → Int32) × (Nat → Int32) × (Nat → Int32) × (Nat → Int32) × (Nat → Int32) × (Nat → Int32) × (Nat → Int32) × (Nat → Int32) × (Nat → Int32) × (Nat → Int32))} {x2 : Int32} {x3 : Int32} {x4 : Int32} {x5 : Int32} {t0_0 : Int32} {t0_1 : Int32} {t0_2 : Int32} {t0_3 : Int32} {t0_4 : Int32} {t0_5 : Int32} {t0_6 : Int32} {t1_0 : (Nat → Int32)} {t2_0 : (Nat → Int32)} {t3_0 : (Nat → Int32)} {t4_0 : (Nat → Int32)} {t5_0 : (Nat → Int32)} {t6_0 : (Nat → Int32)} {t7_0 : (Nat → Int32)} {t8_0 : (Nat → Int32)} {t9_0 : (Nat → Int32)} {t10_0 : (Nat → Int32)} {t11_0 : (Nat → Int32)} {t12_0 : (Nat → Int32)} {lx57 : Int32} {f86 : (Nat → Int32)} {p104 : ((Nat → Int32) × (Nat → Int32) × (Nat → Int32) × (Nat → Int32))} {lx119 : Int32} {lx120 : Int32} {lx121 : Int32} {lx122 : Int32} {lx123 : Int32} {lx124 : Int32} {lx125 : Int32} {lx126 : (Nat → Int32)} {lx127 : (Nat → Int32)} {lx128 : (Nat → Int32)} {lx129 : (Nat → Int32)} {lx130 : (Nat → Int32)} {lx131 : (Nat → Int32)} {lx132 : (Nat → Int32)} {lx133 : (Nat → Int32)} {lx134 : (Nat → Int32)} {f172 : (Nat → Int32)} {p186 : ((Nat → Int32) × (Nat → Int32))} {f180 : (Nat → Int32)} {f182 : (Nat → Int32)} {f197 : (Nat → Int32)} {lx203 : Int32} {W : Nat → Int} {X vm : Int} {E : Nat} (hr : wRv t1_0 t2_0 W) (hx3 : 0 ≤ x3.toInt ∧ x3.toInt ≤ 10) (hx5 : 0 ≤ x5.toInt ∧ x5.toInt ≤ 10) (hm0 : 0 < vm) (hm : wK vm f86) (hm1 : vm < 65536 ^ 128) (hX : wK X lx131) (hX1 : X < vm) (hE : (wVk t1_0 x3).natAbs = E) (h119 : lx119 = 0) : ∀ (n : Nat) (lx235 : Int32) (lx236 : (Nat → Int32)) (lx237 : (Nat → Int32)) (lx238 : (Nat → Int32)) (lx239 : (Nat → Int32)) (lx240 : (Nat → Int32)), ∀ i : Nat, lx235.toInt = (i : Int) - 1 → i ≤ 2048 → i < n → wK (X ^ (E / 2 ^ i) % vm) lx239 → wAn x5 W (some (X ^ E % vm)) (F_WR_powerModulo_L182 K_F_WR_powerModulo_L134 x2 x3 x4 x5 t0_0 t0_1 t0_2 t0_3 t0_4 t0_5 t0_6 t1_0 t2_0 t3_0 t4_0 t5_0 t6_0 t7_0 t8_0 t9_0 t10_0 t11_0 t12_0 lx57 f86 p104 lx119 lx120 lx121 lx122 lx123 lx124 lx125 lx126 lx127 lx128 lx129 lx130 lx131 lx132 lx133 lx134 f172 p186 f180 f182 f197 lx203 n lx235 lx236 lx237 lx238 lx239 lx240).1 (F_WR_powerModulo_L182 K_F_WR_powerModulo_L134 x2 x3 x4 x5 t0_0 t0_1 t0_2 t0_3 t0_4 t0_5 t0_6 t1_0 t2_0 t3_0 t4_0 t5_0 t6_0 t7_0 t8_0 t9_0 t10_0 t11_0 t12_0 lx57 f86 p104 lx119 lx120 lx121 lx122 lx123 lx124 lx125 lx126 lx127 lx128 lx129 lx130 lx131 lx132 lx133 lx134 f172 p186 f180 f182 f197 lx203 n lx235 lx236 lx237 lx238 lx239 lx240).2.2.2.2.2.2.2.1 (F_WR_powerModulo_L182 K_F_WR_powerModulo_L134 x2 x3 x4 x5 t0_0 t0_1 t0_2 t0_3 t0_4 t0_5 t0_6 t1_0 t2_0 t3_0 t4_0 t5_0 t6_0 t7_0 t8_0 t9_0 t10_0 t11_0 t12_0 lx57 f86 p104 lx119 lx120 lx121 lx122 lx123 lx124 lx125 lx126 lx127 lx128 lx129 lx130 lx131 lx132 lx133 lx134 f172 p186 f180 f182 f197 lx203 n lx235 lx236 lx237 lx238 lx239 lx240).2.2.2.2.2.2.2.2.1 := by
  have e0 : (0 : Int32).toInt = 0 := rfl
  have X0 := hX.nn
  have hm3 := Int.lt_of_lt_of_le hm1 w_p128
  have hv0 : vm ≠ 0 := by omega
  intro n
  induction n with
  | zero => intros; omega
  | succ n ih =>
    intro lx235 lx236 lx237 lx238 lx239 lx240 i hi hi2 hin hp
    rw [F_WR_powerModulo_L182.eq_2]
    have r0 := Int.emod_nonneg (X ^ (E / 2 ^ i)) hv0
    have r1 := Int.emod_lt_of_pos (X ^ (E / 2 ^ i)) hm0
    obtain ⟨v, hvE⟩ := q_nm (X ^ (E / 2 ^ i) % vm)
    rw [hvE] at hp r0 r1
    by_cases hj : lx235 < 0
    · rw [if_pos hj]
      have hj2 := q_ltI hj
      have i0 : i = 0 := by omega
      rw [i0, Nat.pow_zero, Nat.div_one] at hvE
      have h1 : wSv x5 W v lx119 lx120 0 (F_WR_store x5 lx119 lx120 lx121 (0 : Int32) lx123 lx124 lx125 t1_0 t2_0 ((F_WR_copy (264 : Int32) (264 : Int32) lx239 lx126) : (Nat → Int32))) := (R_storeV hx5 hr (R_copy4 hp)).2
      generalize (F_WR_store x5 lx119 lx120 lx121 (0 : Int32) lx123 lx124 lx125 t1_0 t2_0 ((F_WR_copy (264 : Int32) (264 : Int32) lx239 lx126) : (Nat → Int32))) = p303 at h1 ⊢
      unfold F_WR_powerModulo_c318
      have b1 : v < 65536 ^ 128 := Int.lt_trans r1 hm1
      obtain ⟨_, f1, f2⟩ := w_fit h1 b1
      rw [sgI0] at f2
      rw [hvE]
      exact wAn_ok (f1.trans h119) f2 r0 b1
    · rw [if_neg hj]
      have hj2 := q_nltI hj
      obtain ⟨k, rfl⟩ : ∃ k : Nat, i = k + 1 := ⟨i - 1, by omega⟩
      have ek : lx235.toInt = (k : Int) := by omega
      have kn : k < n := Nat.lt_of_succ_lt_succ hin
      have k2 : k ≤ 2048 := Nat.le_of_succ_le hi2
      have ej : (lx235 + (-1) : Int32).toInt = (k : Int) - 1 := by
        rw [q_addI (b := -1) (y := -1) ek (by decide) (by omega) (by omega)]
        omega
      have hkb := w_kbit hx3 hr.1 ek (Nat.lt_of_succ_le hi2)
      rw [hE] at hkb
      have b2 : 0 ≤ v ∧ v < 65536 ^ 128 := ⟨r0, Int.lt_trans r1 hm1⟩
      have h1 : (fun p => wK (v * v) p.2) (F_WR_multiplyRows_b (264 : Int32) (264 : Int32) lx119 lx120 lx121 lx122 lx123 lx124 lx125 lx236 lx239 lx240) := (R_mul4bV hp (w_m264 b2 b2)).2
      generalize (F_WR_multiplyRows_b (264 : Int32) (264 : Int32) lx119 lx120 lx121 lx122 lx123 lx124 lx125 lx236 lx239 lx240) = p329 at h1 ⊢
      unfold F_WR_powerModulo_c200
      have h2 : (fun p => wK (v * v % vm) p.1) (F_WR_divideRows (264 : Int32) (264 : Int32) lx119 lx120 lx121 lx122 lx123 lx124 lx125 lx237 lx238 (p329.2 : (Nat → Int32)) f86) := (R_div4V h1 hm hm0 hm3).2.1
      generalize (F_WR_divideRows (264 : Int32) (264 : Int32) lx119 lx120 lx121 lx122 lx123 lx124 lx125 lx237 lx238 (p329.2 : (Nat → Int32)) f86) = p347 at h2 ⊢
      unfold F_WR_powerModulo_c212
      have t3 := w_pmS hvE.symm
      have w0 := Int.emod_nonneg (v * v) hv0
      have w1 := Int.emod_lt_of_pos (v * v) hm0
      generalize v * v % vm = w at h2 t3 w0 w1
      have b3 : 0 ≤ w ∧ w < 65536 ^ 128 := ⟨w0, Int.lt_trans w1 hm1⟩
      have b4 : 0 ≤ X ∧ X < 65536 ^ 128 := ⟨X0, Int.lt_trans hX1 hm1⟩
      have hc := R_copy4 (g := lx239) h2
      split
      · rename_i hbt
        have hh := v_halfE (hkb.symm.trans (w_and1.mp hbt))
        have h3 : (fun p => wK (w * X) p.2) (F_WR_multiplyRows (264 : Int32) (264 : Int32) (264 : Int32) lx119 lx120 lx121 lx122 lx123 lx124 lx125 (p329.1 : (Nat → Int32)) ((F_WR_copy (264 : Int32) (264 : Int32) (p347.1 : (Nat → Int32)) lx239) : (Nat → Int32)) lx131 (p329.2 : (Nat → Int32))) := (R_mul4V hc hX (w_m264 b3 b4)).2
        generalize (F_WR_multiplyRows (264 : Int32) (264 : Int32) (264 : Int32) lx119 lx120 lx121 lx122 lx123 lx124 lx125 (p329.1 : (Nat → Int32)) ((F_WR_copy (264 : Int32) (264 : Int32) (p347.1 : (Nat → Int32)) lx239) : (Nat → Int32)) lx131 (p329.2 : (Nat → Int32))) = p398 at h3 ⊢
        unfold F_WR_powerModulo_c267
        have h4 : (fun p => wK (w * X % vm) p.1) (F_WR_divideRows (264 : Int32) (264 : Int32) lx119 lx120 lx121 lx122 lx123 lx124 lx125 (p347.1 : (Nat → Int32)) (p347.2 : (Nat → Int32)) (p398.2 : (Nat → Int32)) f86) := (R_div4V h3 hm hm0 hm3).2.1
        generalize (F_WR_divideRows (264 : Int32) (264 : Int32) lx119 lx120 lx121 lx122 lx123 lx124 lx125 (p347.1 : (Nat → Int32)) (p347.2 : (Nat → Int32)) (p398.2 : (Nat → Int32)) f86) = p416 at h4 ⊢
        unfold F_WR_powerModulo_c279
        have t4 := w_pmM t3
        rw [← hh] at t4
        refine ih _ _ _ _ _ _ k ej k2 kn ?_
        rw [← t4]
        exact R_copy4 h4
      · rename_i hbt
        have hh := v_halfO (fun h9 => hbt (w_and1.mpr (hkb.trans h9)))
        rw [← hh] at t3
        refine ih _ _ _ _ _ _ k ej k2 kn ?_
        rw [← t3]
        exact hc
theorem V_pbL {x2 : Int32} {x3 : Int32} {x4 : Int32} {x5 : Int32} {t0_0 : Int32} {t0_1 : Int32} {t0_2 : Int32} {t0_3 : Int32} {t0_4 : Int32} {t0_5 : Int32} {t0_6 : Int32} {t1_0 : (Nat → Int32)} {t2_0 : (Nat → Int32)} {t3_0 : (Nat → Int32)} {t4_0 : (Nat → Int32)} {t5_0 : (Nat → Int32)} {t6_0 : (Nat → Int32)} {t7_0 : (Nat → Int32)} {t8_0 : (Nat → Int32)} {t9_0 : (Nat → Int32)} {t10_0 : (Nat → Int32)} {t11_0 : (Nat → Int32)} {t12_0 : (Nat → Int32)} {lx57 : Int32} {f86 : (Nat → Int32)} {p104 : ((Nat → Int32) × (Nat → Int32) × (Nat → Int32) × (Nat → Int32))} {lx119 : Int32} {lx120 : Int32} {lx121 : Int32} {lx122 : Int32} {lx123 : Int32} {lx124 : Int32} {lx125 : Int32} {lx126 : (Nat → Int32)} {lx127 : (Nat → Int32)} {lx128 : (Nat → Int32)} {lx129 : (Nat → Int32)} {lx130 : (Nat → Int32)} {lx131 : (Nat → Int32)} {lx132 : (Nat → Int32)} {lx133 : (Nat → Int32)} {lx134 : (Nat → Int32)} {f172 : (Nat → Int32)} {p186 : ((Nat → Int32) × (Nat → Int32))} {f180 : (Nat → Int32)} {f182 : (Nat → Int32)} {f197 : (Nat → Int32)} {W : Nat → Int} {X vm : Int} {E : Nat} (hr : wRv t1_0 t2_0 W) (hx3 : 0 ≤ x3.toInt ∧ x3.toInt ≤ 10) (hx5 : 0 ≤ x5.toInt ∧ x5.toInt ≤ 10) (hm0 : 0 < vm) (hm : wK vm f86) (hm1 : vm < 65536 ^ 128) (hX : wK X lx131) (hX1 : X < vm) (hE : (wVk t1_0 x3).natAbs = E) (h119 : lx119 = 0) (ht : wK (1 % vm) f197) : ∀ (n : Nat) (lx203 : Int32), ∀ i : Nat, lx203.toInt = (i : Int) → i ≤ 2048 → i < n → E / 2 ^ i = 0 → wAn x5 W (some (X ^ E % vm)) (F_WR_powerModulo_L134 x2 x3 x4 x5 t0_0 t0_1 t0_2 t0_3 t0_4 t0_5 t0_6 t1_0 t2_0 t3_0 t4_0 t5_0 t6_0 t7_0 t8_0 t9_0 t10_0 t11_0 t12_0 lx57 f86 p104 lx119 lx120 lx121 lx122 lx123 lx124 lx125 lx126 lx127 lx128 lx129 lx130 lx131 lx132 lx133 lx134 f172 p186 f180 f182 f197 n lx203).1 (F_WR_powerModulo_L134 x2 x3 x4 x5 t0_0 t0_1 t0_2 t0_3 t0_4 t0_5 t0_6 t1_0 t2_0 t3_0 t4_0 t5_0 t6_0 t7_0 t8_0 t9_0 t10_0 t11_0 t12_0 lx57 f86 p104 lx119 lx120 lx121 lx122 lx123 lx124 lx125 lx126 lx127 lx128 lx129 lx130 lx131 lx132 lx133 lx134 f172 p186 f180 f182 f197 n lx203).2.2.2.2.2.2.2.1 (F_WR_powerModulo_L134 x2 x3 x4 x5 t0_0 t0_1 t0_2 t0_3 t0_4 t0_5 t0_6 t1_0 t2_0 t3_0 t4_0 t5_0 t6_0 t7_0 t8_0 t9_0 t10_0 t11_0 t12_0 lx57 f86 p104 lx119 lx120 lx121 lx122 lx123 lx124 lx125 lx126 lx127 lx128 lx129 lx130 lx131 lx132 lx133 lx134 f172 p186 f180 f182 f197 n lx203).2.2.2.2.2.2.2.2.1 := by
  have e0 : (0 : Int32).toInt = 0 := rfl
  intro n
  induction n with
  | zero => intros; omega
  | succ n ih =>
    intro lx203 i hi hi2 hin hz
    rw [F_WR_powerModulo_L134.eq_2]
    have k1 : (lx203 - 1 : Int32).toInt = (i : Int) - 1 := q_subI hi v_e1 (by omega) (by omega)
    have ht2 : wK (X ^ (E / 2 ^ i) % vm) f197 := by
      rw [hz, Int.pow_zero]
      exact ht
    by_cases hj : lx203 ≤ 0
    · rw [if_pos hj]
      unfold F_WR_powerModulo_J176
      exact V_pmL hr hx3 hx5 hm0 hm hm1 hX hX1 hE h119 _ _ _ _ _ _ _ i k1 hi2 (by rw [k1]; omega) ht2
    · rw [if_neg hj]
      have hj2 := q_nleI hj
      obtain ⟨k, rfl⟩ : ∃ k : Nat, i = k + 1 := ⟨i - 1, by omega⟩
      have ek : (lx203 - 1 : Int32).toInt = (k : Int) := by omega
      have kn : k < n := Nat.lt_of_succ_lt_succ hin
      have k2 : k ≤ 2048 := Nat.le_of_succ_le hi2
      have hkb := w_kbit hx3 hr.1 ek (Nat.lt_of_succ_le hi2)
      rw [hE] at hkb
      split
      · rename_i hbt
        have hb0 := hkb.symm.trans (w_and0.mp hbt)
        have hh := v_halfO (n := E) (i := k) (by omega)
        rw [hz] at hh
        have ej : (lx203 + (-1) : Int32).toInt = (k : Int) := by
          rw [q_addI (b := -1) (y := -1) hi (by decide) (by omega) (by omega)]
          omega
        exact ih _ k ej k2 kn hh
      · unfold F_WR_powerModulo_J176
        exact V_pmL hr hx3 hx5 hm0 hm hm1 hX hX1 hE h119 _ _ _ _ _ _ _ (k + 1) k1 hi2 (by rw [k1]; omega) ht2
theorem V_pJ98 {x2 : Int32} {x3 : Int32} {x4 : Int32} {x5 : Int32} {t0_0 : Int32} {t0_1 : Int32} {t0_2 : Int32} {t0_3 : Int32} {t0_4 : Int32} {t0_5 : Int32} {t0_6 : Int32} {t1_0 : (Nat → Int32)} {t2_0 : (Nat → Int32)} {t3_0 : (Nat → Int32)} {t4_0 : (Nat → Int32)} {t5_0 : (Nat → Int32)} {t6_0 : (Nat → Int32)} {t7_0 : (Nat → Int32)} {t8_0 : (Nat → Int32)} {t9_0 : (Nat → Int32)} {t10_0 : (Nat → Int32)} {t11_0 : (Nat → Int32)} {t12_0 : (Nat → Int32)} {lx57 : Int32} {f86 : (Nat → Int32)} {p104 : ((Nat → Int32) × (Nat → Int32) × (Nat → Int32) × (Nat → Int32))} {lx119 : Int32} {lx120 : Int32} {lx121 : Int32} {lx122 : Int32} {lx123 : Int32} {lx124 : Int32} {lx125 : Int32} {lx126 : (Nat → Int32)} {lx127 : (Nat → Int32)} {lx128 : (Nat → Int32)} {lx129 : (Nat → Int32)} {lx130 : (Nat → Int32)} {lx131 : (Nat → Int32)} {lx132 : (Nat → Int32)} {lx133 : (Nat → Int32)} {lx134 : (Nat → Int32)} {W : Nat → Int} {X vm : Int} {E : Nat} (hr : wRv t1_0 t2_0 W) (hx3 : 0 ≤ x3.toInt ∧ x3.toInt ≤ 10) (hx5 : 0 ≤ x5.toInt ∧ x5.toInt ≤ 10) (hm0 : 0 < vm) (hm : wK vm f86) (hm1 : vm < 65536 ^ 128) (hX : wK X lx131) (hX1 : X < vm) (hE : (wVk t1_0 x3).natAbs = E) (h119 : lx119 = 0) : wAn x5 W (some (X ^ E % vm)) (F_WR_powerModulo_J98 x2 x3 x4 x5 t0_0 t0_1 t0_2 t0_3 t0_4 t0_5 t0_6 t1_0 t2_0 t3_0 t4_0 t5_0 t6_0 t7_0 t8_0 t9_0 t10_0 t11_0 t12_0 lx57 f86 p104 lx119 lx120 lx121 lx122 lx123 lx124 lx125 lx126 lx127 lx128 lx129 lx130 lx131 lx132 lx133 lx134).1 (F_WR_powerModulo_J98 x2 x3 x4 x5 t0_0 t0_1 t0_2 t0_3 t0_4 t0_5 t0_6 t1_0 t2_0 t3_0 t4_0 t5_0 t6_0 t7_0 t8_0 t9_0 t10_0 t11_0 t12_0 lx57 f86 p104 lx119 lx120 lx121 lx122 lx123 lx124 lx125 lx126 lx127 lx128 lx129 lx130 lx131 lx132 lx133 lx134).2.2.2.2.2.2.2.1 (F_WR_powerModulo_J98 x2 x3 x4 x5 t0_0 t0_1 t0_2 t0_3 t0_4 t0_5 t0_6 t1_0 t2_0 t3_0 t4_0 t5_0 t6_0 t7_0 t8_0 t9_0 t10_0 t11_0 t12_0 lx57 f86 p104 lx119 lx120 lx121 lx122 lx123 lx124 lx125 lx126 lx127 lx128 lx129 lx130 lx131 lx132 lx133 lx134).2.2.2.2.2.2.2.2.1 := by
  have hb := wVk_nn hx3 hr.1
  have e48 : (2048 : Int32).toInt = 2048 := rfl
  unfold F_WR_powerModulo_J98
  have h1 : wK 1 (F_WR_setOne 264 lx119 lx120 lx121 lx122 lx123 lx124 lx125 lx132) := R_setOne.2
  have h2 : (fun p : (Nat → Int32) × (Nat → Int32) => wK (1 % vm) p.1) (F_WR_divideRows 264 264 lx119 lx120 lx121 lx122 lx123 lx124 lx125 lx129 lx130 (F_WR_setOne 264 lx119 lx120 lx121 lx122 lx123 lx124 lx125 lx132) f86) := (R_div4V h1 hm hm0 (Int.lt_of_lt_of_le hm1 w_p128)).2.1
  generalize F_WR_divideRows 264 264 lx119 lx120 lx121 lx122 lx123 lx124 lx125 lx129 lx130 (F_WR_setOne 264 lx119 lx120 lx121 lx122 lx123 lx124 lx125 lx132) f86 = p186 at h2 ⊢
  unfold F_WR_powerModulo_c115
  refine V_pbL hr hx3 hx5 hm0 hm hm1 hX hX1 hE h119 (R_copy4 h2) _ _ 2048 e48 (by omega) (by rw [e48]; omega) ?_
  rw [← hE]
  apply Nat.div_eq_of_lt
  have h3 := hb.2
  rw [w_2048] at h3
  generalize 2 ^ 2048 = N at h3 ⊢
  omega
/-- a to the e modulo m -/
noncomputable def sPM (a e m : Int) : Option Int := if m ≤ 0 then none else if e < 0 then (sInv a m).map (fun x => x ^ e.natAbs % m) else some ((a % m) ^ e.natAbs % m)
theorem V_pC {x2 : Int32} {x3 : Int32} {x4 : Int32} {x5 : Int32} {t0_0 : Int32} {t0_1 : Int32} {t0_2 : Int32} {t0_3 : Int32} {t0_4 : Int32} {t0_5 : Int32} {t0_6 : Int32} {t1_0 : (Nat → Int32)} {t2_0 : (Nat → Int32)} {t3_0 : (Nat → Int32)} {t4_0 : (Nat → Int32)} {t5_0 : (Nat → Int32)} {t6_0 : (Nat → Int32)} {t7_0 : (Nat → Int32)} {t8_0 : (Nat → Int32)} {t9_0 : (Nat → Int32)} {t10_0 : (Nat → Int32)} {t11_0 : (Nat → Int32)} {t12_0 : (Nat → Int32)} {lx57 : Int32} {f86 : (Nat → Int32)} {p104 : ((Nat → Int32) × (Nat → Int32) × (Nat → Int32) × (Nat → Int32))} {W : Nat → Int} {va vm : Int} (hr : wRv t1_0 t2_0 W) (hx3 : 0 ≤ x3.toInt ∧ x3.toInt ≤ 10) (hx5 : 0 ≤ x5.toInt ∧ x5.toInt ≤ 10) (hm0 : 0 < vm) (hm : wK vm f86) (hm1 : vm < 65536 ^ 128) (hh : wK (va % vm) p104.2.2.2) (h57 : lx57 = 0) : wAn x5 W (sPM va (W x3.toNatClampNeg) vm) (F_WR_powerModulo_c73 x2 x3 x4 x5 t0_0 t0_1 t0_2 t0_3 t0_4 t0_5 t0_6 t1_0 t2_0 t3_0 t4_0 t5_0 t6_0 t7_0 t8_0 t9_0 t10_0 t11_0 t12_0 lx57 f86 p104).1 (F_WR_powerModulo_c73 x2 x3 x4 x5 t0_0 t0_1 t0_2 t0_3 t0_4 t0_5 t0_6 t1_0 t2_0 t3_0 t4_0 t5_0 t6_0 t7_0 t8_0 t9_0 t10_0 t11_0 t12_0 lx57 f86 p104).2.2.2.2.2.2.2.1 (F_WR_powerModulo_c73 x2 x3 x4 x5 t0_0 t0_1 t0_2 t0_3 t0_4 t0_5 t0_6 t1_0 t2_0 t3_0 t4_0 t5_0 t6_0 t7_0 t8_0 t9_0 t10_0 t11_0 t12_0 lx57 f86 p104).2.2.2.2.2.2.2.2.1 := by
  obtain ⟨hm3, hW3⟩ := hr.sg hx3
  have hc3 := q_clI (i := x3) rfl hx3.1
  have hE : (wVk t1_0 x3).natAbs = (W x3.toNatClampNeg).natAbs := by rw [hW3, sgI_abs]
  have hlt : W x3.toNatClampNeg < 0 ↔ ¬ t2_0 x3.toNatClampNeg = 0 := by
    rcases hr.2 x3.toNatClampNeg (by omega) with ⟨a, b⟩ | ⟨a, b, c⟩
    · have := (wVk_nn hx3 hr.1).1
      have e : W x3.toNatClampNeg = wVk t1_0 x3 := b
      exact ⟨fun h => by omega, fun h => absurd a h⟩
    · exact ⟨fun _ h => by rw [a] at h; exact absurd h (by decide), fun _ => by omega⟩
  unfold F_WR_powerModulo_c73 sPM
  rw [if_neg (by omega : ¬ vm ≤ 0)]
  by_cases c : t2_0 x3.toNatClampNeg = 0
  · rw [if_pos c, if_neg (fun h => hlt.mp h c)]
    exact V_pJ98 hr hx3 hx5 hm0 hm hm1 hh (Int.emod_lt_of_pos va hm0) hE h57
  · rw [if_neg c, if_pos (hlt.mpr c)]
    have hi : wIn va vm lx57 t0_1 (F_WR_inverts lx57 t0_1 t0_2 t0_3 t0_4 t0_5 t0_6 p104.1 t4_0 t5_0 p104.2.1 p104.2.2.1 p104.2.2.2 t9_0 t10_0 t11_0 f86) := V_invN hm0 hm hm1 hh rfl
    generalize F_WR_inverts lx57 t0_1 t0_2 t0_3 t0_4 t0_5 t0_6 p104.1 t4_0 t5_0 p104.2.1 p104.2.2.1 p104.2.2.2 t9_0 t10_0 t11_0 f86 = p522 at hi ⊢
    unfold F_WR_powerModulo_c86
    obtain ⟨s1, s2, s3⟩ := hi
    rcases s3 with ⟨d, g⟩ | ⟨d, g, x, hx, hk⟩
    · rw [if_pos d, sInv_none g]
      exact Or.inr ⟨Or.inl rfl, rfl, hr.w⟩
    · rw [if_neg (by rw [d]; decide), sInv_some hm0 hx]
      exact V_pJ98 hr hx3 hx5 hm0 hm hm1 hk hx.2.1 hE (s1.trans h57)
theorem V_WR_powerModulo {x2 : Int32} {x3 : Int32} {x4 : Int32} {x5 : Int32} {t0_0 : Int32} {t0_1 : Int32} {t0_2 : Int32} {t0_3 : Int32} {t0_4 : Int32} {t0_5 : Int32} {t0_6 : Int32} {t1_0 : (Nat → Int32)} {t2_0 : (Nat → Int32)} {t3_0 : (Nat → Int32)} {t4_0 : (Nat → Int32)} {t5_0 : (Nat → Int32)} {t6_0 : (Nat → Int32)} {t7_0 : (Nat → Int32)} {t8_0 : (Nat → Int32)} {t9_0 : (Nat → Int32)} {t10_0 : (Nat → Int32)} {t11_0 : (Nat → Int32)} {t12_0 : (Nat → Int32)} {W : Nat → Int} (hr : wRv t1_0 t2_0 W) (hx2 : 0 ≤ x2.toInt ∧ x2.toInt ≤ 10) (hx3 : 0 ≤ x3.toInt ∧ x3.toInt ≤ 10) (hx4 : 0 ≤ x4.toInt ∧ x4.toInt ≤ 10) (hx5 : 0 ≤ x5.toInt ∧ x5.toInt ≤ 10) : wAn x5 W (sPM (W x2.toNatClampNeg) (W x3.toNatClampNeg) (W x4.toNatClampNeg)) (F_WR_powerModulo x2 x3 x4 x5 t0_0 t0_1 t0_2 t0_3 t0_4 t0_5 t0_6 t1_0 t2_0 t3_0 t4_0 t5_0 t6_0 t7_0 t8_0 t9_0 t10_0 t11_0 t12_0).1 (F_WR_powerModulo x2 x3 x4 x5 t0_0 t0_1 t0_2 t0_3 t0_4 t0_5 t0_6 t1_0 t2_0 t3_0 t4_0 t5_0 t6_0 t7_0 t8_0 t9_0 t10_0 t11_0 t12_0).2.2.2.2.2.2.2.1 (F_WR_powerModulo x2 x3 x4 x5 t0_0 t0_1 t0_2 t0_3 t0_4 t0_5 t0_6 t1_0 t2_0 t3_0 t4_0 t5_0 t6_0 t7_0 t8_0 t9_0 t10_0 t11_0 t12_0).2.2.2.2.2.2.2.2.1 := by
  have b1 := (wVk_nn hx4 hr.1).2
  unfold F_WR_powerModulo
  rw [if_pos (w_no0 hx2), if_pos (w_no0 hx3), if_pos (w_no0 hx4), if_pos (w_no0 hx5)]
  rcases w_above (t0_0 := t0_0) (t0_1 := t0_1) (t0_2 := t0_2) (t0_3 := t0_3) (t0_4 := t0_4) (t0_5 := t0_5) (t0_6 := t0_6) hx4 hr with ⟨c, h⟩ | ⟨c, h0, hE⟩
  · rw [if_pos c]
    unfold sPM
    rw [if_pos h]
    unfold F_WR_powerModulo_J47
    rw [if_neg (by decide)]
    exact Or.inr ⟨Or.inl rfl, rfl, hr.w⟩
  · rw [if_neg c]
    unfold F_WR_powerModulo_J47
    rw [if_pos (by decide)]
    have t2 := (R_take (x2 := x4) (t0_0 := 0) (t0_1 := t0_1) (t0_2 := t0_2) (t0_3 := t0_3) (t0_4 := t0_4) (t0_5 := t0_5) (t0_6 := t0_6) (t1_0 := t1_0) (t2_0 := t12_0) hx4 hr.1).2
    rw [← hE] at t2 b1
    have hp := R_reduceV (t0_0 := 0) (t0_1 := t0_1) (t0_2 := t0_2) (t0_3 := t0_3) (t0_4 := t0_4) (t0_5 := t0_5) (t0_6 := t0_6) (t3_0 := t3_0) (t4_0 := t6_0) (t5_0 := t7_0) (t7_0 := t8_0) hx2 hr t2 h0 (Int.lt_of_lt_of_le b1 w_p128)
    exact V_pC hr hx3 hx5 h0 t2 b1 hp rfl
