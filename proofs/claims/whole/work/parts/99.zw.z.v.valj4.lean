/-! values, for whole: the printer's s -/
theorem V_sbA {m : List Nat} : ySb m 0 m.length = m := by
  unfold ySb
  rw [List.drop_zero, Nat.sub_zero, List.take_length]
theorem V_an1 {x2 : Int32} {t0_0 : Int32} {t0_1 : Int32} {t0_2 : Int32} {t0_3 : Int32} {t1_0 : (Nat → Int32)} {t2_0 : (Nat → Int64)} {t3_0 : (Nat → Int32)} {t4_0 : Int32} {t4_1 : Int32} {t5_0 : (Nat → Int32)} {t6_0 : Int32} {t7_0 : (Nat → Int64)} {t8_0 : Int32} {t9_0 : (Nat → Int64)} {t10_0 : Int32} {t11_0 : (Nat → Int64)} {t12_0 : Int32} {t13_0 : (Nat → Int64)} {t14_0 : Int32} {t15_0 : (Nat → Int64)} {t16_0 : Int32} {t17_0 : (Nat → Int64)} {t18_0 : Int32} {t19_0 : (Nat → Int64)} {t20_0 : Int32} {t21_0 : (Nat → Int64)} {t22_0 : Int32} {t23_0 : (Nat → Int64)} {t24_0 : Int32} {t25_0 : (Nat → Int64)} {lx181 : Int32} {lx182 : (Nat → Int64)} {a : yA} {i : Nat} (hi : x2.toInt = (i : Int)) (hi2 : i ≤ 8) (hk : (t1_0 x2.toNatClampNeg).toInt = (a.1 : Int)) (hv : t2_0 x2.toNatClampNeg = a.2.1) (hs : (t3_0 x2.toNatClampNeg).toInt = (a.2.2.1 : Int)) (aw : yAw a) {l : List Nat} (hl : yShl 4104 lx181 lx182 l) (hl2 : l.length ≤ 10) : ∃ v, zTf a.2.1.toInt.natAbs a.2.2.1 a.2.2.1 0 0 v ∧ yShl 4104 (F_Pri_writeAnything_J143 x2 t0_0 t0_1 t0_2 t0_3 t1_0 t2_0 t3_0 t4_0 t4_1 t5_0 t6_0 t7_0 t8_0 t9_0 t10_0 t11_0 t12_0 t13_0 t14_0 t15_0 t16_0 t17_0 t18_0 t19_0 t20_0 t21_0 t22_0 t23_0 t24_0 t25_0 lx181 lx182).2.2.2.1 (F_Pri_writeAnything_J143 x2 t0_0 t0_1 t0_2 t0_3 t1_0 t2_0 t3_0 t4_0 t4_1 t5_0 t6_0 t7_0 t8_0 t9_0 t10_0 t11_0 t12_0 t13_0 t14_0 t15_0 t16_0 t17_0 t18_0 t19_0 t20_0 t21_0 t22_0 t23_0 t24_0 t25_0 lx181 lx182).2.2.2.2 (l ++ v) := by
  have s40 := aw.2.1
  unfold F_Pri_writeAnything_J143
  obtain ⟨f1, f2⟩ := V_filM (x2 := t2_0 x2.toNatClampNeg) (x3 := t3_0 x2.toNatClampNeg) (t0_0 := t4_0) (t0_1 := t4_1) (t1_0 := t5_0) (by omega)
  rw [hv] at f1 f2
  rw [hv]
  revert f1 f2
  generalize F_Dig_fillLong a.2.1 (t3_0 x2.toNatClampNeg) t4_0 t4_1 t5_0 = q
  intro f1 f2
  obtain ⟨c, g1, g2, g3, g4⟩ := f1
  have pw := f2 c g3
  rw [hs] at pw
  unfold F_Pri_writeAnything_c159
  have wp := V_wPlain4 (R := 4104) (N := 513) (K := 1000000) (x3 := t3_0 x2.toNatClampNeg) (x4 := 0) (x5 := 0) (t0_0 := q.1) (t0_1 := q.2.1) (t1_0 := q.2.2) (N0 := a.2.1.toInt.natAbs) (c := c) (pl := a.2.2.1) (s := (a.2.2.1 : Int)) rfl ⟨g1, g2, g3, g4⟩ (fun w => by rw [pw, if_neg w]) (by rw [pw]; split <;> omega) hs (by omega) hl (by omega)
  revert wp
  generalize F_Dig_writePlain 4104 513 1000000 (t3_0 x2.toNatClampNeg) 0 0 q.1 q.2.1 q.2.2 lx181 lx182 = w
  intro wp
  unfold F_Pri_writeAnything_c178
  have A : (if q.2.1.toInt < 0 then 0 else q.2.1.toInt).toNat + 1 = max (c - a.2.2.1) 1 := by
    rw [pw]
    by_cases z : c = 0
    · rw [if_pos z, z]
      simp
    · rw [if_neg z]
      split <;> omega
  rw [A, List.append_assoc] at wp
  exact ⟨_, ⟨c, by rw [Z_rdS]; exact g3, by rw [Z_rdS]⟩, wp⟩
theorem V_an2 {x2 : Int32} {t0_0 : Int32} {t0_1 : Int32} {t0_2 : Int32} {t0_3 : Int32} {t1_0 : (Nat → Int32)} {t2_0 : (Nat → Int64)} {t3_0 : (Nat → Int32)} {t4_0 : Int32} {t4_1 : Int32} {t5_0 : (Nat → Int32)} {t6_0 : Int32} {t7_0 : (Nat → Int64)} {t8_0 : Int32} {t9_0 : (Nat → Int64)} {t10_0 : Int32} {t11_0 : (Nat → Int64)} {t12_0 : Int32} {t13_0 : (Nat → Int64)} {t14_0 : Int32} {t15_0 : (Nat → Int64)} {t16_0 : Int32} {t17_0 : (Nat → Int64)} {t18_0 : Int32} {t19_0 : (Nat → Int64)} {t20_0 : Int32} {t21_0 : (Nat → Int64)} {t22_0 : Int32} {t23_0 : (Nat → Int64)} {t24_0 : Int32} {t25_0 : (Nat → Int64)} {lx550 : Int32} {lx551 : (Nat → Int64)} {a : yA} {i : Nat} (hi : x2.toInt = (i : Int)) (hi2 : i ≤ 8) (hk : (t1_0 x2.toNatClampNeg).toInt = (a.1 : Int)) (hv : t2_0 x2.toNatClampNeg = a.2.1) (hs : (t3_0 x2.toNatClampNeg).toInt = (a.2.2.1 : Int)) (aw : yAw a) {l : List Nat} (hl : yShl 4104 lx550 lx551 l) (hl2 : l.length ≤ 10) : ∃ v, zTf a.2.1.toInt.natAbs a.2.2.1 a.2.2.1 0 0 v ∧ yShl 4104 (F_Pri_writeAnything_J143_18 x2 t0_0 t0_1 t0_2 t0_3 t1_0 t2_0 t3_0 t4_0 t4_1 t5_0 t6_0 t7_0 t8_0 t9_0 t10_0 t11_0 t12_0 t13_0 t14_0 t15_0 t16_0 t17_0 t18_0 t19_0 t20_0 t21_0 t22_0 t23_0 t24_0 t25_0 lx550 lx551).2.2.2.1 (F_Pri_writeAnything_J143_18 x2 t0_0 t0_1 t0_2 t0_3 t1_0 t2_0 t3_0 t4_0 t4_1 t5_0 t6_0 t7_0 t8_0 t9_0 t10_0 t11_0 t12_0 t13_0 t14_0 t15_0 t16_0 t17_0 t18_0 t19_0 t20_0 t21_0 t22_0 t23_0 t24_0 t25_0 lx550 lx551).2.2.2.2 (l ++ v) := by
  have s40 := aw.2.1
  unfold F_Pri_writeAnything_J143_18
  obtain ⟨f1, f2⟩ := V_filM (x2 := t2_0 x2.toNatClampNeg) (x3 := t3_0 x2.toNatClampNeg) (t0_0 := t4_0) (t0_1 := t4_1) (t1_0 := t5_0) (by omega)
  rw [hv] at f1 f2
  rw [hv]
  revert f1 f2
  generalize F_Dig_fillLong a.2.1 (t3_0 x2.toNatClampNeg) t4_0 t4_1 t5_0 = q
  intro f1 f2
  obtain ⟨c, g1, g2, g3, g4⟩ := f1
  have pw := f2 c g3
  rw [hs] at pw
  unfold F_Pri_writeAnything_c159_19
  have wp := V_wPlain4 (R := 4104) (N := 513) (K := 1000000) (x3 := t3_0 x2.toNatClampNeg) (x4 := 0) (x5 := 0) (t0_0 := q.1) (t0_1 := q.2.1) (t1_0 := q.2.2) (N0 := a.2.1.toInt.natAbs) (c := c) (pl := a.2.2.1) (s := (a.2.2.1 : Int)) rfl ⟨g1, g2, g3, g4⟩ (fun w => by rw [pw, if_neg w]) (by rw [pw]; split <;> omega) hs (by omega) hl (by omega)
  revert wp
  generalize F_Dig_writePlain 4104 513 1000000 (t3_0 x2.toNatClampNeg) 0 0 q.1 q.2.1 q.2.2 lx550 lx551 = w
  intro wp
  unfold F_Pri_writeAnything_c178_20
  have A : (if q.2.1.toInt < 0 then 0 else q.2.1.toInt).toNat + 1 = max (c - a.2.2.1) 1 := by
    rw [pw]
    by_cases z : c = 0
    · rw [if_pos z, z]
      simp
    · rw [if_neg z]
      split <;> omega
  rw [A, List.append_assoc] at wp
  exact ⟨_, ⟨c, by rw [Z_rdS]; exact g3, by rw [Z_rdS]⟩, wp⟩
theorem V_any {x2 : Int32} {t0_0 : Int32} {t0_1 : Int32} {t0_2 : Int32} {t0_3 : Int32} {t1_0 : (Nat → Int32)} {t2_0 : (Nat → Int64)} {t3_0 : (Nat → Int32)} {t4_0 : Int32} {t4_1 : Int32} {t5_0 : (Nat → Int32)} {t6_0 : Int32} {t7_0 : (Nat → Int64)} {t8_0 : Int32} {t9_0 : (Nat → Int64)} {t10_0 : Int32} {t11_0 : (Nat → Int64)} {t12_0 : Int32} {t13_0 : (Nat → Int64)} {t14_0 : Int32} {t15_0 : (Nat → Int64)} {t16_0 : Int32} {t17_0 : (Nat → Int64)} {t18_0 : Int32} {t19_0 : (Nat → Int64)} {t20_0 : Int32} {t21_0 : (Nat → Int64)} {t22_0 : Int32} {t23_0 : (Nat → Int64)} {t24_0 : Int32} {t25_0 : (Nat → Int64)} {a : yA} {i : Nat} (hi : x2.toInt = (i : Int)) (hi2 : i ≤ 8) (hk : (t1_0 x2.toNatClampNeg).toInt = (a.1 : Int)) (hv : t2_0 x2.toNatClampNeg = a.2.1) (hs : (t3_0 x2.toNatClampNeg).toInt = (a.2.2.1 : Int)) (aw : yAw a) (ht : a.1 = 4 → yShl 64 (yTx9 t8_0 t9_0 t10_0 t11_0 t12_0 t13_0 t14_0 t15_0 t16_0 t17_0 t18_0 t19_0 t20_0 t21_0 t22_0 t23_0 t24_0 t25_0 i).1 (yTx9 t8_0 t9_0 t10_0 t11_0 t12_0 t13_0 t14_0 t15_0 t16_0 t17_0 t18_0 t19_0 t20_0 t21_0 t22_0 t23_0 t24_0 t25_0 i).2 a.2.2.2) (hl : yShl 4104 t6_0 t7_0 []) : ∃ u, zStr a u ∧ yShl 4104 (F_Pri_writeAnything x2 t0_0 t0_1 t0_2 t0_3 t1_0 t2_0 t3_0 t4_0 t4_1 t5_0 t6_0 t7_0 t8_0 t9_0 t10_0 t11_0 t12_0 t13_0 t14_0 t15_0 t16_0 t17_0 t18_0 t19_0 t20_0 t21_0 t22_0 t23_0 t24_0 t25_0).2.2.2.1 (F_Pri_writeAnything x2 t0_0 t0_1 t0_2 t0_3 t1_0 t2_0 t3_0 t4_0 t4_1 t5_0 t6_0 t7_0 t8_0 t9_0 t10_0 t11_0 t12_0 t13_0 t14_0 t15_0 t16_0 t17_0 t18_0 t19_0 t20_0 t21_0 t22_0 t23_0 t24_0 t25_0).2.2.2.2 u := by
  have e0 : (0 : Int32).toInt = 0 := rfl
  have e1 : (1 : Int32).toInt = 1 := rfl
  have e2 : (2 : Int32).toInt = 2 := rfl
  have e3 : (3 : Int32).toInt = 3 := rfl
  have e4 : (4 : Int32).toInt = 4 := rfl
  have e0L : (0 : Int64).toInt = 0 := rfl
  have K : ∀ (x : Int32) (n : Nat), x.toInt = (n : Int) → (t1_0 x2.toNatClampNeg = x ↔ a.1 = n) := by
    intro x n hx
    rw [← Int32.toInt_inj, hk, hx]
    omega
  have kle := aw.1
  have neg : ∀ {q : Int32 × (Nat → Int64)}, yShl 4104 q.1 q.2 ([] ++ [45]) → yShl 4104 q.1 q.2 [45] := fun h => h
  unfold F_Pri_writeAnything
  by_cases k0 : a.1 = 0
  · rw [if_pos ((K 0 0 rfl).mpr k0)]
    have p := V_at154 (N := 513) (K := 1000000) rfl hl (by decide)
    rw [List.nil_append] at p
    revert p
    generalize F_She_addText_15 4104 513 1000000 t6_0 t7_0 = q
    intro p
    unfold F_Pri_writeAnything_c46
    exact ⟨_, Or.inl ⟨k0, rfl⟩, p⟩
  · rw [if_neg (fun w => k0 ((K 0 0 rfl).mp w))]
    by_cases k1 : a.1 = 1
    · rw [if_pos ((K 1 1 rfl).mpr k1)]
      by_cases v : lg_cmp (t2_0 x2.toNatClampNeg) 0 = 0
      · rw [if_pos v]
        have v' := q_k9 v
        rw [hv] at v'
        have p := V_at124 (N := 513) (K := 1000000) rfl hl (by decide)
        rw [List.nil_append] at p
        revert p
        generalize F_She_addText_12 4104 513 1000000 t6_0 t7_0 = q
        intro p
        unfold F_Pri_writeAnything_c74_3
        exact ⟨_, Or.inr (Or.inl ⟨k1, by rw [if_pos (Int64.toInt_inj.mp v')]; rfl⟩), p⟩
      · rw [if_neg v]
        have v' := q_k10 v
        rw [hv] at v'
        have p := V_at134 (N := 513) (K := 1000000) rfl hl (by decide)
        rw [List.nil_append] at p
        revert p
        generalize F_She_addText_13 4104 513 1000000 t6_0 t7_0 = q
        intro p
        unfold F_Pri_writeAnything_c74
        exact ⟨_, Or.inr (Or.inl ⟨k1, by rw [if_neg (fun w => v' (by rw [w]))]; rfl⟩), p⟩
    · rw [if_neg (fun w => k1 ((K 1 1 rfl).mp w))]
      by_cases k2 : a.1 = 2
      · rw [if_pos ((K 2 2 rfl).mpr k2)]
        have vb := aw.2.2.2.2.2.2.1 k2
        have p := V_paP4 (N := 513) (K := 1000000) (x2 := (t2_0 x2.toNatClampNeg).toInt32) (v := a.2.1.toInt.toNat) hl (by decide) (by
          rw [hv, Int64.toInt_toInt32, Int.bmod_eq_of_le (by omega) (by omega)]
          omega) (by omega)
        rw [List.nil_append] at p
        revert p
        generalize F_She_add_p 4104 513 1000000 (t2_0 x2.toNatClampNeg).toInt32 t6_0 t7_0 = q
        intro p
        unfold F_Pri_writeAnything_c91
        exact ⟨_, Or.inr (Or.inr (Or.inl ⟨k2, rfl⟩)), p⟩
      · rw [if_neg (fun w => k2 ((K 2 2 rfl).mp w))]
        by_cases k3 : a.1 = 3
        · rw [if_pos ((K 3 3 rfl).mpr k3)]
          by_cases v : 0 ≤ lg_cmp (t2_0 x2.toNatClampNeg) 0
          · rw [if_pos v]
            have v' := q_k7 v
            rw [hv, e0L] at v'
            obtain ⟨u, w1, w2⟩ := V_an1 hi hi2 hk hv hs aw hl (by decide)
            exact ⟨_, Or.inr (Or.inr (Or.inr (Or.inr ⟨Or.inl k3, u, w1, by unfold yMin; rw [if_neg (by omega)]⟩))), w2⟩
          · rw [if_neg v]
            have v' := q_k8 v
            rw [hv, e0L] at v'
            have p := V_paP4 (N := 513) (K := 1000000) (x2 := 45) (v := 45) hl (by decide) rfl (by decide)
            revert p
            generalize F_She_add_p 4104 513 1000000 45 t6_0 t7_0 = q
            intro p
            unfold F_Pri_writeAnything_c140
            obtain ⟨u, w1, w2⟩ := V_an1 (lx181 := q.1) (lx182 := q.2) hi hi2 hk hv hs aw p (by decide)
            exact ⟨_, Or.inr (Or.inr (Or.inr (Or.inr ⟨Or.inl k3, u, w1, by unfold yMin; rw [if_pos (by omega)]; rfl⟩))), w2⟩
        · rw [if_neg (fun w => k3 ((K 3 3 rfl).mp w))]
          by_cases k4 : a.1 = 4
          · rw [if_pos ((K 4 4 rfl).mpr k4)]
            by_cases xx0 : x2 = 0
            · rw [if_pos xx0]
              have xv : x2.toInt = 0 := by rw [xx0]; rfl
              have ik : i = 0 := by omega
              subst ik
              have cp := V_cpy (x3 := 0) (x4 := t8_0) (t2_0 := t8_0) (t3_0 := t9_0) (R := 4104) (N := 513) (K := 1000000) (R2 := 64) (N2 := 8) (K2 := 64) (r := 4104) (r2 := 64) (a := 0) (b := a.2.2.2.length) (l := []) (m := a.2.2.2) rfl (by decide) rfl hl (ht k4) aw.2.2.1 rfl (ht k4).1 (Nat.zero_le _) (Nat.le_refl _) (by show 0 + a.2.2.2.length < _; have := aw.2.2.1; omega)
              rw [List.nil_append, V_sbA] at cp
              revert cp
              show yShl 4104 (F_Pri_copyInto 4104 513 1000000 64 8 64 0 t8_0 t6_0 t7_0 t8_0 t9_0).1 (F_Pri_copyInto 4104 513 1000000 64 8 64 0 t8_0 t6_0 t7_0 t8_0 t9_0).2 a.2.2.2 → _
              generalize F_Pri_copyInto 4104 513 1000000 64 8 64 0 t8_0 t6_0 t7_0 t8_0 t9_0 = q
              intro cp
              unfold F_Pri_writeAnything_c117
              exact ⟨a.2.2.2, Or.inr (Or.inr (Or.inr (Or.inl ⟨k4, rfl⟩))), cp⟩
            · rw [if_neg xx0]
              have n0 : i ≠ 0 := fun w => xx0 (Int32.toInt_inj.mp (by rw [hi, w]; rfl))
              by_cases xx1 : x2 = 1
              · rw [if_pos xx1]
                have xv : x2.toInt = 1 := by rw [xx1]; rfl
                have ik : i = 1 := by omega
                subst ik
                have cp := V_cpy (x3 := 0) (x4 := t10_0) (t2_0 := t10_0) (t3_0 := t11_0) (R := 4104) (N := 513) (K := 1000000) (R2 := 64) (N2 := 8) (K2 := 64) (r := 4104) (r2 := 64) (a := 0) (b := a.2.2.2.length) (l := []) (m := a.2.2.2) rfl (by decide) rfl hl (ht k4) aw.2.2.1 rfl (ht k4).1 (Nat.zero_le _) (Nat.le_refl _) (by show 0 + a.2.2.2.length < _; have := aw.2.2.1; omega)
                rw [List.nil_append, V_sbA] at cp
                revert cp
                show yShl 4104 (F_Pri_copyInto 4104 513 1000000 64 8 64 0 t10_0 t6_0 t7_0 t10_0 t11_0).1 (F_Pri_copyInto 4104 513 1000000 64 8 64 0 t10_0 t6_0 t7_0 t10_0 t11_0).2 a.2.2.2 → _
                generalize F_Pri_copyInto 4104 513 1000000 64 8 64 0 t10_0 t6_0 t7_0 t10_0 t11_0 = q
                intro cp
                unfold F_Pri_writeAnything_c117_10
                exact ⟨a.2.2.2, Or.inr (Or.inr (Or.inr (Or.inl ⟨k4, rfl⟩))), cp⟩
              · rw [if_neg xx1]
                have n1 : i ≠ 1 := fun w => xx1 (Int32.toInt_inj.mp (by rw [hi, w]; rfl))
                by_cases xx2 : x2 = 2
                · rw [if_pos xx2]
                  have xv : x2.toInt = 2 := by rw [xx2]; rfl
                  have ik : i = 2 := by omega
                  subst ik
                  have cp := V_cpy (x3 := 0) (x4 := t12_0) (t2_0 := t12_0) (t3_0 := t13_0) (R := 4104) (N := 513) (K := 1000000) (R2 := 64) (N2 := 8) (K2 := 64) (r := 4104) (r2 := 64) (a := 0) (b := a.2.2.2.length) (l := []) (m := a.2.2.2) rfl (by decide) rfl hl (ht k4) aw.2.2.1 rfl (ht k4).1 (Nat.zero_le _) (Nat.le_refl _) (by show 0 + a.2.2.2.length < _; have := aw.2.2.1; omega)
                  rw [List.nil_append, V_sbA] at cp
                  revert cp
                  show yShl 4104 (F_Pri_copyInto 4104 513 1000000 64 8 64 0 t12_0 t6_0 t7_0 t12_0 t13_0).1 (F_Pri_copyInto 4104 513 1000000 64 8 64 0 t12_0 t6_0 t7_0 t12_0 t13_0).2 a.2.2.2 → _
                  generalize F_Pri_copyInto 4104 513 1000000 64 8 64 0 t12_0 t6_0 t7_0 t12_0 t13_0 = q
                  intro cp
                  unfold F_Pri_writeAnything_c117_11
                  exact ⟨a.2.2.2, Or.inr (Or.inr (Or.inr (Or.inl ⟨k4, rfl⟩))), cp⟩
                · rw [if_neg xx2]
                  have n2 : i ≠ 2 := fun w => xx2 (Int32.toInt_inj.mp (by rw [hi, w]; rfl))
                  by_cases xx3 : x2 = 3
                  · rw [if_pos xx3]
                    have xv : x2.toInt = 3 := by rw [xx3]; rfl
                    have ik : i = 3 := by omega
                    subst ik
                    have cp := V_cpy (x3 := 0) (x4 := t14_0) (t2_0 := t14_0) (t3_0 := t15_0) (R := 4104) (N := 513) (K := 1000000) (R2 := 64) (N2 := 8) (K2 := 64) (r := 4104) (r2 := 64) (a := 0) (b := a.2.2.2.length) (l := []) (m := a.2.2.2) rfl (by decide) rfl hl (ht k4) aw.2.2.1 rfl (ht k4).1 (Nat.zero_le _) (Nat.le_refl _) (by show 0 + a.2.2.2.length < _; have := aw.2.2.1; omega)
                    rw [List.nil_append, V_sbA] at cp
                    revert cp
                    show yShl 4104 (F_Pri_copyInto 4104 513 1000000 64 8 64 0 t14_0 t6_0 t7_0 t14_0 t15_0).1 (F_Pri_copyInto 4104 513 1000000 64 8 64 0 t14_0 t6_0 t7_0 t14_0 t15_0).2 a.2.2.2 → _
                    generalize F_Pri_copyInto 4104 513 1000000 64 8 64 0 t14_0 t6_0 t7_0 t14_0 t15_0 = q
                    intro cp
                    unfold F_Pri_writeAnything_c117_12
                    exact ⟨a.2.2.2, Or.inr (Or.inr (Or.inr (Or.inl ⟨k4, rfl⟩))), cp⟩
                  · rw [if_neg xx3]
                    have n3 : i ≠ 3 := fun w => xx3 (Int32.toInt_inj.mp (by rw [hi, w]; rfl))
                    by_cases xx4 : x2 = 4
                    · rw [if_pos xx4]
                      have xv : x2.toInt = 4 := by rw [xx4]; rfl
                      have ik : i = 4 := by omega
                      subst ik
                      have cp := V_cpy (x3 := 0) (x4 := t16_0) (t2_0 := t16_0) (t3_0 := t17_0) (R := 4104) (N := 513) (K := 1000000) (R2 := 64) (N2 := 8) (K2 := 64) (r := 4104) (r2 := 64) (a := 0) (b := a.2.2.2.length) (l := []) (m := a.2.2.2) rfl (by decide) rfl hl (ht k4) aw.2.2.1 rfl (ht k4).1 (Nat.zero_le _) (Nat.le_refl _) (by show 0 + a.2.2.2.length < _; have := aw.2.2.1; omega)
                      rw [List.nil_append, V_sbA] at cp
                      revert cp
                      show yShl 4104 (F_Pri_copyInto 4104 513 1000000 64 8 64 0 t16_0 t6_0 t7_0 t16_0 t17_0).1 (F_Pri_copyInto 4104 513 1000000 64 8 64 0 t16_0 t6_0 t7_0 t16_0 t17_0).2 a.2.2.2 → _
                      generalize F_Pri_copyInto 4104 513 1000000 64 8 64 0 t16_0 t6_0 t7_0 t16_0 t17_0 = q
                      intro cp
                      unfold F_Pri_writeAnything_c117_13
                      exact ⟨a.2.2.2, Or.inr (Or.inr (Or.inr (Or.inl ⟨k4, rfl⟩))), cp⟩
                    · rw [if_neg xx4]
                      have n4 : i ≠ 4 := fun w => xx4 (Int32.toInt_inj.mp (by rw [hi, w]; rfl))
                      by_cases xx5 : x2 = 5
                      · rw [if_pos xx5]
                        have xv : x2.toInt = 5 := by rw [xx5]; rfl
                        have ik : i = 5 := by omega
                        subst ik
                        have cp := V_cpy (x3 := 0) (x4 := t18_0) (t2_0 := t18_0) (t3_0 := t19_0) (R := 4104) (N := 513) (K := 1000000) (R2 := 64) (N2 := 8) (K2 := 64) (r := 4104) (r2 := 64) (a := 0) (b := a.2.2.2.length) (l := []) (m := a.2.2.2) rfl (by decide) rfl hl (ht k4) aw.2.2.1 rfl (ht k4).1 (Nat.zero_le _) (Nat.le_refl _) (by show 0 + a.2.2.2.length < _; have := aw.2.2.1; omega)
                        rw [List.nil_append, V_sbA] at cp
                        revert cp
                        show yShl 4104 (F_Pri_copyInto 4104 513 1000000 64 8 64 0 t18_0 t6_0 t7_0 t18_0 t19_0).1 (F_Pri_copyInto 4104 513 1000000 64 8 64 0 t18_0 t6_0 t7_0 t18_0 t19_0).2 a.2.2.2 → _
                        generalize F_Pri_copyInto 4104 513 1000000 64 8 64 0 t18_0 t6_0 t7_0 t18_0 t19_0 = q
                        intro cp
                        unfold F_Pri_writeAnything_c117_14
                        exact ⟨a.2.2.2, Or.inr (Or.inr (Or.inr (Or.inl ⟨k4, rfl⟩))), cp⟩
                      · rw [if_neg xx5]
                        have n5 : i ≠ 5 := fun w => xx5 (Int32.toInt_inj.mp (by rw [hi, w]; rfl))
                        by_cases xx6 : x2 = 6
                        · rw [if_pos xx6]
                          have xv : x2.toInt = 6 := by rw [xx6]; rfl
                          have ik : i = 6 := by omega
                          subst ik
                          have cp := V_cpy (x3 := 0) (x4 := t20_0) (t2_0 := t20_0) (t3_0 := t21_0) (R := 4104) (N := 513) (K := 1000000) (R2 := 64) (N2 := 8) (K2 := 64) (r := 4104) (r2 := 64) (a := 0) (b := a.2.2.2.length) (l := []) (m := a.2.2.2) rfl (by decide) rfl hl (ht k4) aw.2.2.1 rfl (ht k4).1 (Nat.zero_le _) (Nat.le_refl _) (by show 0 + a.2.2.2.length < _; have := aw.2.2.1; omega)
                          rw [List.nil_append, V_sbA] at cp
                          revert cp
                          show yShl 4104 (F_Pri_copyInto 4104 513 1000000 64 8 64 0 t20_0 t6_0 t7_0 t20_0 t21_0).1 (F_Pri_copyInto 4104 513 1000000 64 8 64 0 t20_0 t6_0 t7_0 t20_0 t21_0).2 a.2.2.2 → _
                          generalize F_Pri_copyInto 4104 513 1000000 64 8 64 0 t20_0 t6_0 t7_0 t20_0 t21_0 = q
                          intro cp
                          unfold F_Pri_writeAnything_c117_15
                          exact ⟨a.2.2.2, Or.inr (Or.inr (Or.inr (Or.inl ⟨k4, rfl⟩))), cp⟩
                        · rw [if_neg xx6]
                          have n6 : i ≠ 6 := fun w => xx6 (Int32.toInt_inj.mp (by rw [hi, w]; rfl))
                          by_cases xx7 : x2 = 7
                          · rw [if_pos xx7]
                            have xv : x2.toInt = 7 := by rw [xx7]; rfl
                            have ik : i = 7 := by omega
                            subst ik
                            have cp := V_cpy (x3 := 0) (x4 := t22_0) (t2_0 := t22_0) (t3_0 := t23_0) (R := 4104) (N := 513) (K := 1000000) (R2 := 64) (N2 := 8) (K2 := 64) (r := 4104) (r2 := 64) (a := 0) (b := a.2.2.2.length) (l := []) (m := a.2.2.2) rfl (by decide) rfl hl (ht k4) aw.2.2.1 rfl (ht k4).1 (Nat.zero_le _) (Nat.le_refl _) (by show 0 + a.2.2.2.length < _; have := aw.2.2.1; omega)
                            rw [List.nil_append, V_sbA] at cp
                            revert cp
                            show yShl 4104 (F_Pri_copyInto 4104 513 1000000 64 8 64 0 t22_0 t6_0 t7_0 t22_0 t23_0).1 (F_Pri_copyInto 4104 513 1000000 64 8 64 0 t22_0 t6_0 t7_0 t22_0 t23_0).2 a.2.2.2 → _
                            generalize F_Pri_copyInto 4104 513 1000000 64 8 64 0 t22_0 t6_0 t7_0 t22_0 t23_0 = q
                            intro cp
                            unfold F_Pri_writeAnything_c117_16
                            exact ⟨a.2.2.2, Or.inr (Or.inr (Or.inr (Or.inl ⟨k4, rfl⟩))), cp⟩
                          · rw [if_neg xx7]
                            have n7 : i ≠ 7 := fun w => xx7 (Int32.toInt_inj.mp (by rw [hi, w]; rfl))
                            have ik : i = 8 := by omega
                            subst ik
                            have cp := V_cpy (x3 := 0) (x4 := t24_0) (t2_0 := t24_0) (t3_0 := t25_0) (R := 4104) (N := 513) (K := 1000000) (R2 := 64) (N2 := 8) (K2 := 64) (r := 4104) (r2 := 64) (a := 0) (b := a.2.2.2.length) (l := []) (m := a.2.2.2) rfl (by decide) rfl hl (ht k4) aw.2.2.1 rfl (ht k4).1 (Nat.zero_le _) (Nat.le_refl _) (by show 0 + a.2.2.2.length < _; have := aw.2.2.1; omega)
                            rw [List.nil_append, V_sbA] at cp
                            revert cp
                            show yShl 4104 (F_Pri_copyInto 4104 513 1000000 64 8 64 0 t24_0 t6_0 t7_0 t24_0 t25_0).1 (F_Pri_copyInto 4104 513 1000000 64 8 64 0 t24_0 t6_0 t7_0 t24_0 t25_0).2 a.2.2.2 → _
                            generalize F_Pri_copyInto 4104 513 1000000 64 8 64 0 t24_0 t6_0 t7_0 t24_0 t25_0 = q
                            intro cp
                            unfold F_Pri_writeAnything_c117_17
                            exact ⟨a.2.2.2, Or.inr (Or.inr (Or.inr (Or.inl ⟨k4, rfl⟩))), cp⟩
          · rw [if_neg (fun w => k4 ((K 4 4 rfl).mp w))]
            have k5 : a.1 = 5 := by omega
            by_cases v : 0 ≤ lg_cmp (t2_0 x2.toNatClampNeg) 0
            · rw [if_pos v]
              have v' := q_k7 v
              rw [hv, e0L] at v'
              obtain ⟨u, w1, w2⟩ := V_an2 hi hi2 hk hv hs aw hl (by decide)
              exact ⟨_, Or.inr (Or.inr (Or.inr (Or.inr ⟨Or.inr k5, u, w1, by unfold yMin; rw [if_neg (by omega)]⟩))), w2⟩
            · rw [if_neg v]
              have v' := q_k8 v
              rw [hv, e0L] at v'
              have p := V_paP4 (N := 513) (K := 1000000) (x2 := 45) (v := 45) hl (by decide) rfl (by decide)
              revert p
              generalize F_She_add_p 4104 513 1000000 45 t6_0 t7_0 = q
              intro p
              unfold F_Pri_writeAnything_c140_21
              obtain ⟨u, w1, w2⟩ := V_an2 (lx550 := q.1) (lx551 := q.2) hi hi2 hk hv hs aw p (by decide)
              exact ⟨_, Or.inr (Or.inr (Or.inr (Or.inr ⟨Or.inr k5, u, w1, by unfold yMin; rw [if_pos (by omega)]; rfl⟩))), w2⟩

