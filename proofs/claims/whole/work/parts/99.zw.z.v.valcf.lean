/-! values, for whole: the reference's decimals written -/
theorem y_dD {k m s d : Nat → Int32} {D : Nat → Int × Int} {x : Int32} {c : Nat} (hD : dRv k m s d D) (hx : yReg x) (hc : vG (D x.toNatClampNeg).1 c) : (m x.toNatClampNeg).toInt = (c : Int) ∧ (1 ≤ c ∧ c ≤ 1000) ∧ yFr k x.toNatClampNeg c (D x.toNatClampNeg).1.natAbs ∧ (d x.toNatClampNeg).toInt = (D x.toNatClampNeg).2 ∧ (-10000 ≤ (D x.toNatClampNeg).2 ∧ (D x.toNatClampNeg).2 ≤ 10000) ∧ s x.toNatClampNeg = (if (D x.toNatClampNeg).1 < 0 then 1 else 0) := by
  have xc := q_clI (i := x) rfl hx.1
  have x9 := hx.2
  obtain ⟨ho, hR⟩ := hD
  obtain ⟨m1, m2, m3, m4, m5, m6, m7⟩ := hR x.toNatClampNeg (by omega)
  have mc := q_clI (i := m x.toNatClampNeg) rfl (by omega)
  have hcm : c = (m x.toNatClampNeg).toNatClampNeg := by
    rcases yDt_vG hc with ⟨z, k, _⟩ | ⟨z, k⟩
    · rcases yDt_vG m3 with ⟨_, k', _⟩ | ⟨z', _⟩
      · rw [k, k']
      · exact absurd z z'
    · rcases yDt_vG m3 with ⟨z', _, _⟩ | ⟨_, k'⟩
      · exact absurd z' z
      · exact yDt_U k k'
  refine ⟨by omega, by omega, ⟨fun i hi => ho _ (by omega), ?_⟩, m5, ⟨m6, m7⟩, m4⟩
  rw [hcm]
  exact m2
theorem y_nd {v : Int} {c : Nat} (hc : vG v c) : (v.natAbs = 0 ∧ (if v = 0 then 0 else c) = 0 ∧ c = 1) ∨ (if v = 0 then 0 else c) = c := by
  by_cases z : v = 0
  · rw [if_pos z]
    exact Or.inl ⟨by rw [z]; rfl, rfl, hc.2 z⟩
  · rw [if_neg z]
    exact Or.inr rfl
theorem ySpl_len {N d be m : Nat} : ∀ {k : Nat}, (ySpl N d be k m).length ≤ 2 * m := by
  induction m with
  | zero => intro k; exact Nat.le_refl _
  | succ m ih =>
    intro k
    have := ih (k := k + 1)
    show ((if k = be then [46] else []) ++ ((48 + yFz N ((d : Int) - 1 - (k : Int))) :: ySpl N d be (k + 1) m)).length ≤ _
    rw [List.length_append, List.length_cons]
    have : (if k = be then [46] else ([] : List Nat)).length ≤ 1 := by
      split
      · exact Nat.le_refl _
      · exact Nat.zero_le _
    omega
theorem ySpI_len {N m : Nat} {n pt : Int} : ∀ {k : Int}, (ySpI N n pt k m).length ≤ 2 * m := by
  induction m with
  | zero => intro k; exact Nat.le_refl _
  | succ m ih =>
    intro k
    have := ih (k := k + 1)
    show ((if k = pt then [46] else []) ++ ((48 + yFz N (n - 1 - k)) :: ySpI N n pt (k + 1) m)).length ≤ _
    rw [List.length_append, List.length_cons]
    have : (if k = pt then [46] else ([] : List Nat)).length ≤ 1 := by
      split
      · exact Nat.le_refl _
      · exact Nat.zero_le _
    omega
theorem V_w268 {x2 : Int32} {x3 : Int32} {t0_0 : Int32} {t0_1 : Int32} {t0_2 : Int32} {t0_3 : Int64} {t0_4 : Int32} {t0_5 : Int32} {t0_6 : Int32} {t0_7 : Int32} {t0_8 : Int32} {t0_9 : Int32} {t0_10 : Int32} {t1_0 : (Nat → Int32)} {t2_0 : (Nat → Int32)} {t3_0 : (Nat → Int32)} {t4_0 : (Nat → Int32)} {t5_0 : (Nat → Int32)} {lx39 : Int32} {lx64 : Int32} {lx65 : Int32} {lx66 : Int32} {lx67 : Int64} {lx68 : Int32} {lx69 : Int32} {lx70 : Int32} {lx71 : Int32} {lx72 : Int32} {lx73 : Int32} {lx74 : Int32} {lx75 : (Nat → Int32)} {a117 : Int32} {a113 : Int32} {a111 : Int32} {a157 : Int32} {lx166 : Int32} {D : Nat → Int × Int} {c : Nat} {v s : Int} {l : List Nat} (hx2 : yReg x2) (hD : dRv t1_0 t2_0 t3_0 t4_0 D) (hc : vG v c) (hv : (D x2.toNatClampNeg).1 = v) (hs : (D x2.toNatClampNeg).2 = s) (hr : yRt lx73 lx75 l) (hl : l.length ≤ 1) (ha : a117.toInt = (c : Int) - 1 - s) (hb : a113.toInt = s) (hn : a111.toInt = (c : Int)) (hz : v ≠ 0) (hp : a157.toInt = 3 * (((c : Int) - 1 - s) / 3)) (hq : lx166.toInt = ((max c ((c : Int) - 1 - s - 3 * (((c : Int) - 1 - s) / 3) + 1).toNat : Nat) : Int)) : yRt (F_DR_written_J268 x2 x3 t0_0 t0_1 t0_2 t0_3 t0_4 t0_5 t0_6 t0_7 t0_8 t0_9 t0_10 t1_0 t2_0 t3_0 t4_0 t5_0 lx39 lx64 lx65 lx66 lx67 lx68 lx69 lx70 lx71 lx72 lx73 lx74 lx75 a117 a113 a111 a157 lx166).1 (F_DR_written_J268 x2 x3 t0_0 t0_1 t0_2 t0_3 t0_4 t0_5 t0_6 t0_7 t0_8 t0_9 t0_10 t1_0 t2_0 t3_0 t4_0 t5_0 lx39 lx64 lx65 lx66 lx67 lx68 lx69 lx70 lx71 lx72 lx73 lx74 lx75 a117 a113 a111 a157 lx166).2.2.2.2.2.2.2.2.2.2.2.2 (l ++ yThr v.natAbs c c ((c : Int) - 1 - s)) := by
  obtain ⟨m1, ⟨m0, m2⟩, hf, m3, m4, m5⟩ := y_dD hD hx2 (by rw [hv]; exact hc)
  rw [hv] at hf
  rw [hs] at m4
  have e0 : (0 : Int32).toInt = 0 := rfl
  have e1 : (1 : Int32).toInt = 1 := rfl
  unfold F_DR_written_J268 yThr yT3
  rw [if_neg (show ¬ c = 0 by omega)]
  have s1 := q_subI ha hp (by omega) (by omega)
  have s2 := q_addI s1 e1 (by omega) (by omega)
  have f := V_DRfig (t0_0 := lx64) (t0_1 := lx65) (t0_2 := lx66) (t0_3 := lx67) (t0_4 := lx68) (t0_5 := lx69) (t0_6 := lx70) (t0_7 := lx71) (t0_8 := lx72) (t0_9 := lx73) (t0_10 := lx74) hx2 hf m1 m2 e0 hq s2 (by omega) (by omega) (by omega) hr (by omega)
  revert f
  generalize F_DR_figures x2 0 lx166 ((a117 - a157) + 1) lx64 lx65 lx66 lx67 lx68 lx69 lx70 lx71 lx72 lx73 lx74 t1_0 t2_0 lx75 = p
  intro f
  unfold F_DR_written_c275
  have e : l ++ (ySpl v.natAbs c ((c : Int) - 1 - s - 3 * (((c : Int) - 1 - s) / 3) + 1).toNat 0 (max ((c : Int) - 1 - s - 3 * (((c : Int) - 1 - s) / 3) + 1).toNat c)) = l ++ ySpI v.natAbs (c : Int) ((c : Int) - 1 - s - 3 * (((c : Int) - 1 - s) / 3) + 1) 0 (((max c ((c : Int) - 1 - s - 3 * (((c : Int) - 1 - s) / 3) + 1).toNat : Nat) : Int) - 0).toNat := by
    rw [ySpl_I, show (((((c : Int) - 1 - s - 3 * (((c : Int) - 1 - s) / 3) + 1).toNat : Nat)) : Int) = (c : Int) - 1 - s - 3 * (((c : Int) - 1 - s) / 3) + 1 from by omega, show (((max c ((c : Int) - 1 - s - 3 * (((c : Int) - 1 - s) / 3) + 1).toNat : Nat) : Int) - 0).toNat = max ((c : Int) - 1 - s - 3 * (((c : Int) - 1 - s) / 3) + 1).toNat c from by omega]
    rfl
  rw [← e] at f
  by_cases z : a157 = 0
  · rw [if_pos z]
    have : 3 * (((c : Int) - 1 - s) / 3) = 0 := by
      rw [← hp, z]
      rfl
    rw [if_pos this, List.append_nil]
    exact f
  · rw [if_neg z]
    have nz : ¬ 3 * (((c : Int) - 1 - s) / 3) = 0 := fun k => z (Int32.toInt_inj.mp (by rw [hp, k]; rfl))
    rw [if_neg nz]
    have ll : (l ++ (ySpl v.natAbs c ((c : Int) - 1 - s - 3 * (((c : Int) - 1 - s) / 3) + 1).toNat 0 (max ((c : Int) - 1 - s - 3 * (((c : Int) - 1 - s) / 3) + 1).toNat c))).length < 900000000 := by
      rw [List.length_append]
      have := ySpl_len (N := v.natAbs) (d := c) (be := ((c : Int) - 1 - s - 3 * (((c : Int) - 1 - s) / 3) + 1).toNat) (k := 0) (m := max ((c : Int) - 1 - s - 3 * (((c : Int) - 1 - s) / 3) + 1).toNat c)
      omega
    have x := V_DRexp (x2 := a157) (t0_0 := p.1) (t0_1 := p.2.1) (t0_2 := p.2.2.1) (t0_3 := p.2.2.2.1) (t0_4 := p.2.2.2.2.1) (t0_5 := p.2.2.2.2.2.1) (t0_6 := p.2.2.2.2.2.2.1) (t0_7 := p.2.2.2.2.2.2.2.1) (t0_8 := p.2.2.2.2.2.2.2.2.1) (t0_10 := p.2.2.2.2.2.2.2.2.2.2.1) f ll (by omega)
    rw [hp] at x
    revert x
    generalize F_DR_exponent a157 p.1 p.2.1 p.2.2.1 p.2.2.2.1 p.2.2.2.2.1 p.2.2.2.2.2.1 p.2.2.2.2.2.2.1 p.2.2.2.2.2.2.2.1 p.2.2.2.2.2.2.2.2.1 p.2.2.2.2.2.2.2.2.2.1 p.2.2.2.2.2.2.2.2.2.2.1 p.2.2.2.2.2.2.2.2.2.2.2 = r
    intro x
    unfold F_DR_written_c286
    rw [← List.append_assoc]
    exact x
theorem V_w170 {x2 : Int32} {x3 : Int32} {t0_0 : Int32} {t0_1 : Int32} {t0_2 : Int32} {t0_3 : Int64} {t0_4 : Int32} {t0_5 : Int32} {t0_6 : Int32} {t0_7 : Int32} {t0_8 : Int32} {t0_9 : Int32} {t0_10 : Int32} {t1_0 : (Nat → Int32)} {t2_0 : (Nat → Int32)} {t3_0 : (Nat → Int32)} {t4_0 : (Nat → Int32)} {t5_0 : (Nat → Int32)} {lx39 : Int32} {lx64 : Int32} {lx65 : Int32} {lx66 : Int32} {lx67 : Int64} {lx68 : Int32} {lx69 : Int32} {lx70 : Int32} {lx71 : Int32} {lx72 : Int32} {lx73 : Int32} {lx74 : Int32} {lx75 : (Nat → Int32)} {a117 : Int32} {a113 : Int32} {a111 : Int32} {D : Nat → Int × Int} {c : Nat} {v s : Int} {l : List Nat} (hx2 : yReg x2) (hD : dRv t1_0 t2_0 t3_0 t4_0 D) (hc : vG v c) (hv : (D x2.toNatClampNeg).1 = v) (hs : (D x2.toNatClampNeg).2 = s) (hr : yRt lx73 lx75 l) (hl : l.length ≤ 1) (ha : a117.toInt = (c : Int) - 1 - s) (hb : a113.toInt = s) (hn : a111.toInt = (c : Int)) (h3 : x3.toInt = 0 ∨ x3.toInt = 2) (hk : x3 ≠ 1) : yRt (F_DR_written_J170 x2 x3 t0_0 t0_1 t0_2 t0_3 t0_4 t0_5 t0_6 t0_7 t0_8 t0_9 t0_10 t1_0 t2_0 t3_0 t4_0 t5_0 lx39 lx64 lx65 lx66 lx67 lx68 lx69 lx70 lx71 lx72 lx73 lx74 lx75 a117 a113 a111).1 (F_DR_written_J170 x2 x3 t0_0 t0_1 t0_2 t0_3 t0_4 t0_5 t0_6 t0_7 t0_8 t0_9 t0_10 t1_0 t2_0 t3_0 t4_0 t5_0 lx39 lx64 lx65 lx66 lx67 lx68 lx69 lx70 lx71 lx72 lx73 lx74 lx75 a117 a113 a111).2.2.2.2.2.2.2.2.2.2.2.2 (l ++ (if x3 = 0 then yHead v.natAbs (if v = 0 then 0 else c) c 0 ++ yE ((c : Int) - 1 - s) else yThr v.natAbs (if v = 0 then 0 else c) c ((c : Int) - 1 - s))) := by
  obtain ⟨m1, ⟨m0, m2⟩, hf, m3, m4, m5⟩ := y_dD hD hx2 (by rw [hv]; exact hc)
  rw [hv] at hf
  rw [hs] at m4
  have e0 : (0 : Int32).toInt = 0 := rfl
  have e1 : (1 : Int32).toInt = 1 := rfl
  unfold F_DR_written_J170
  by_cases z : x3 = 0
  · rw [if_pos z, if_pos z]
    have f := V_DRfig (t0_0 := lx64) (t0_1 := lx65) (t0_2 := lx66) (t0_3 := lx67) (t0_4 := lx68) (t0_5 := lx69) (t0_6 := lx70) (t0_7 := lx71) (t0_8 := lx72) (t0_9 := lx73) (t0_10 := lx74) hx2 hf m1 m2 e0 hn e1 (by omega) (by omega) (by omega) hr (by omega)
    revert f
    generalize F_DR_figures x2 0 a111 1 lx64 lx65 lx66 lx67 lx68 lx69 lx70 lx71 lx72 lx73 lx74 t1_0 t2_0 lx75 = p
    intro f
    unfold F_DR_written_c179
    have e : yHead v.natAbs (if v = 0 then 0 else c) c 0 = ySpI v.natAbs (c : Int) 1 0 ((c : Int) - 0).toNat := by
      rw [yHead_I m0, show ((c : Int) - 0).toNat = c from by omega]
      rcases y_nd hc with ⟨k1, k2, k3⟩ | k
      · rw [k1]
        exact ySpI_0
      · rw [k]
    rw [← e] at f
    have ll : (l ++ yHead v.natAbs (if v = 0 then 0 else c) c 0).length < 900000000 := by
      rw [List.length_append, e]
      have := ySpI_len (N := v.natAbs) (n := (c : Int)) (pt := 1) (k := 0) (m := ((c : Int) - 0).toNat)
      omega
    have x := V_DRexp (x2 := a117) (t0_0 := p.1) (t0_1 := p.2.1) (t0_2 := p.2.2.1) (t0_3 := p.2.2.2.1) (t0_4 := p.2.2.2.2.1) (t0_5 := p.2.2.2.2.2.1) (t0_6 := p.2.2.2.2.2.2.1) (t0_7 := p.2.2.2.2.2.2.2.1) (t0_8 := p.2.2.2.2.2.2.2.2.1) (t0_10 := p.2.2.2.2.2.2.2.2.2.2.1) f ll (by omega)
    rw [ha] at x
    revert x
    generalize F_DR_exponent a117 p.1 p.2.1 p.2.2.1 p.2.2.2.1 p.2.2.2.2.1 p.2.2.2.2.2.1 p.2.2.2.2.2.2.1 p.2.2.2.2.2.2.2.1 p.2.2.2.2.2.2.2.2.1 p.2.2.2.2.2.2.2.2.2.1 p.2.2.2.2.2.2.2.2.2.2.1 p.2.2.2.2.2.2.2.2.2.2.2 = r
    intro x
    unfold F_DR_written_c185
    rw [← List.append_assoc]
    exact x
  · rw [if_neg z, if_neg z]
    have di := d_iz (t0_0 := lx64) (t0_1 := lx65) (t0_2 := lx66) (t0_3 := lx67) (t0_4 := lx68) (t0_5 := lx69) (t0_6 := lx70) (t0_7 := lx71) (t0_8 := lx72) (t0_9 := lx73) (t0_10 := lx74) hD hx2
    rw [hv] at di
    by_cases vz : v = 0
    · rw [if_pos vz] at di
      rw [if_neg (show ¬ F_DR_isZero x2 lx64 lx65 lx66 lx67 lx68 lx69 lx70 lx71 lx72 lx73 lx74 t1_0 = 0 by rw [di]; decide), if_pos vz]
      have c1 : c = 1 := hc.2 vz
      have ng := q_negI ha (by omega)
      have d3 := y_dn3 (x := -a117) (by omega) (by omega)
      rw [ng] at d3
      have nb := q_negI d3 (by omega)
      have s1 := q_addI e1 nb (by omega) (by omega)
      have s2 := q_subI s1 ha (by omega) (by omega)
      have f := V_DRfig (t0_0 := lx64) (t0_1 := lx65) (t0_2 := lx66) (t0_3 := lx67) (t0_4 := lx68) (t0_5 := lx69) (t0_6 := lx70) (t0_7 := lx71) (t0_8 := lx72) (t0_9 := lx73) (t0_10 := lx74) hx2 hf m1 m2 e0 s2 e1 (by omega) (by omega) (by omega) hr (by omega)
      revert f
      generalize F_DR_figures x2 0 (1 + -F_DR_down3 (-a117) - a117) 1 lx64 lx65 lx66 lx67 lx68 lx69 lx70 lx71 lx72 lx73 lx74 t1_0 t2_0 lx75 = p
      intro f
      unfold F_DR_written_c219 yThr yT3
      rw [if_pos rfl]
      have e : ySpl v.natAbs 0 1 0 (max 1 (1 + -(3 * (-((c : Int) - 1 - s) / 3)) - ((c : Int) - 1 - s)).toNat) = ySpI v.natAbs (c : Int) 1 0 (1 + -(3 * (-((c : Int) - 1 - s) / 3)) - ((c : Int) - 1 - s) - 0).toNat := by
        rw [ySpl_I, vz, show (max 1 (1 + -(3 * (-((c : Int) - 1 - s) / 3)) - ((c : Int) - 1 - s)).toNat) = (1 + -(3 * (-((c : Int) - 1 - s) / 3)) - ((c : Int) - 1 - s) - 0).toNat from by omega]
        exact ySpI_0
      rw [← e] at f
      have ll : (l ++ ySpl v.natAbs 0 1 0 (max 1 (1 + -(3 * (-((c : Int) - 1 - s) / 3)) - ((c : Int) - 1 - s)).toNat)).length < 900000000 := by
        rw [List.length_append]
        have := ySpl_len (N := v.natAbs) (d := 0) (be := 1) (k := 0) (m := max 1 (1 + -(3 * (-((c : Int) - 1 - s) / 3)) - ((c : Int) - 1 - s)).toNat)
        omega
      by_cases bz : -F_DR_down3 (-a117) = 0
      · rw [if_pos bz]
        have : -(3 * (-((c : Int) - 1 - s) / 3)) = 0 := by
          rw [← nb, bz]
          rfl
        rw [if_pos this, List.append_nil]
        exact f
      · rw [if_neg bz]
        have nz : ¬ -(3 * (-((c : Int) - 1 - s) / 3)) = 0 := fun k => bz (Int32.toInt_inj.mp (by rw [nb, k]; rfl))
        rw [if_neg nz]
        have x := V_DRexp (x2 := -F_DR_down3 (-a117)) (t0_0 := p.1) (t0_1 := p.2.1) (t0_2 := p.2.2.1) (t0_3 := p.2.2.2.1) (t0_4 := p.2.2.2.2.1) (t0_5 := p.2.2.2.2.2.1) (t0_6 := p.2.2.2.2.2.2.1) (t0_7 := p.2.2.2.2.2.2.2.1) (t0_8 := p.2.2.2.2.2.2.2.2.1) (t0_10 := p.2.2.2.2.2.2.2.2.2.2.1) f ll (by omega)
        rw [nb] at x
        revert x
        generalize F_DR_exponent (-F_DR_down3 (-a117)) p.1 p.2.1 p.2.2.1 p.2.2.2.1 p.2.2.2.2.1 p.2.2.2.2.2.1 p.2.2.2.2.2.2.1 p.2.2.2.2.2.2.2.1 p.2.2.2.2.2.2.2.2.1 p.2.2.2.2.2.2.2.2.2.1 p.2.2.2.2.2.2.2.2.2.2.1 p.2.2.2.2.2.2.2.2.2.2.2 = r
        intro x
        unfold F_DR_written_c230
        rw [← List.append_assoc]
        exact x
    · rw [if_neg vz] at di
      rw [if_pos di, if_neg vz]
      have d3 := y_dn3 (x := a117) (by omega) (by omega)
      rw [ha] at d3
      have s1 := q_subI ha d3 (by omega) (by omega)
      have s2 := q_addI s1 e1 (by omega) (by omega)
      by_cases g : a111 ≤ ((a117 - F_DR_down3 a117) + 1)
      · rw [if_pos g]
        have g := q_leI g
        exact V_w268 hx2 hD hc hv hs hr hl ha hb hn vz d3 (by rw [s2]; omega)
      · rw [if_neg g]
        have g := q_nleI g
        exact V_w268 hx2 hD hc hv hs hr hl ha hb hn vz d3 (by rw [hn]; omega)
theorem V_w150 {x2 : Int32} {x3 : Int32} {t0_0 : Int32} {t0_1 : Int32} {t0_2 : Int32} {t0_3 : Int64} {t0_4 : Int32} {t0_5 : Int32} {t0_6 : Int32} {t0_7 : Int32} {t0_8 : Int32} {t0_9 : Int32} {t0_10 : Int32} {t1_0 : (Nat → Int32)} {t2_0 : (Nat → Int32)} {t3_0 : (Nat → Int32)} {t4_0 : (Nat → Int32)} {t5_0 : (Nat → Int32)} {lx39 : Int32} {lx64 : Int32} {lx65 : Int32} {lx66 : Int32} {lx67 : Int64} {lx68 : Int32} {lx69 : Int32} {lx70 : Int32} {lx71 : Int32} {lx72 : Int32} {lx73 : Int32} {lx74 : Int32} {lx75 : (Nat → Int32)} {a117 : Int32} {a113 : Int32} {a111 : Int32} {lx592 : Int32} {D : Nat → Int × Int} {c : Nat} {v s : Int} {l : List Nat} (hx2 : yReg x2) (hD : dRv t1_0 t2_0 t3_0 t4_0 D) (hc : vG v c) (hv : (D x2.toNatClampNeg).1 = v) (hs : (D x2.toNatClampNeg).2 = s) (hr : yRt lx73 lx75 l) (hl : l.length ≤ 1) (ha : a117.toInt = (c : Int) - 1 - s) (hb : a113.toInt = s) (hn : a111.toInt = (c : Int)) (h0 : 0 ≤ s) (hf2 : lx592.toInt = if (c : Int) - s < 1 then (c : Int) - s - 1 else 0) : yRt (F_DR_written_J150 x2 x3 t0_0 t0_1 t0_2 t0_3 t0_4 t0_5 t0_6 t0_7 t0_8 t0_9 t0_10 t1_0 t2_0 t3_0 t4_0 t5_0 lx39 lx64 lx65 lx66 lx67 lx68 lx69 lx70 lx71 lx72 lx73 lx74 lx75 a117 a113 a111 lx592).1 (F_DR_written_J150 x2 x3 t0_0 t0_1 t0_2 t0_3 t0_4 t0_5 t0_6 t0_7 t0_8 t0_9 t0_10 t1_0 t2_0 t3_0 t4_0 t5_0 lx39 lx64 lx65 lx66 lx67 lx68 lx69 lx70 lx71 lx72 lx73 lx74 lx75 a117 a113 a111 lx592).2.2.2.2.2.2.2.2.2.2.2.2 (l ++ yPln v.natAbs s c (if v = 0 then 0 else c)) := by
  obtain ⟨m1, ⟨m0, m2⟩, hf, m3, m4, m5⟩ := y_dD hD hx2 (by rw [hv]; exact hc)
  rw [hv] at hf
  rw [hs] at m4
  have e0 : (0 : Int32).toInt = 0 := rfl
  have em : (-1 : Int32).toInt = -1 := rfl
  have fb : -10001 ≤ (if (c : Int) - s < 1 then (c : Int) - s - 1 else 0) ∧ (if (c : Int) - s < 1 then (c : Int) - s - 1 else 0) ≤ 0 := by
    split <;> omega
  have t2 := yT2 (N := v.natAbs) (n := c) (d := if v = 0 then 0 else c) (s := s) (f := if (c : Int) - s < 1 then (c : Int) - s - 1 else 0) m0 h0 (y_nd hc) rfl
  generalize (if (c : Int) - s < 1 then (c : Int) - s - 1 else 0) = f0 at hf2 fb t2
  unfold F_DR_written_J150
  rw [t2]
  by_cases z : a113 = 0
  · rw [if_pos z]
    have : s = 0 := by
      rw [← hb, z]
      rfl
    rw [if_pos this]
    have f := V_DRfig (t0_0 := lx64) (t0_1 := lx65) (t0_2 := lx66) (t0_3 := lx67) (t0_4 := lx68) (t0_5 := lx69) (t0_6 := lx70) (t0_7 := lx71) (t0_8 := lx72) (t0_9 := lx73) (t0_10 := lx74) hx2 hf m1 m2 hf2 hn em (by omega) (by omega) (by omega) hr (by omega)
    revert f
    generalize F_DR_figures x2 lx592 a111 (-1) lx64 lx65 lx66 lx67 lx68 lx69 lx70 lx71 lx72 lx73 lx74 t1_0 t2_0 lx75 = p
    intro f
    unfold F_DR_written_c164_15
    exact f
  · rw [if_neg z]
    have : ¬ s = 0 := fun k => z (Int32.toInt_inj.mp (by rw [hb, k]; rfl))
    rw [if_neg this]
    have s1 := q_subI hn hb (by omega) (by omega)
    have f := V_DRfig (t0_0 := lx64) (t0_1 := lx65) (t0_2 := lx66) (t0_3 := lx67) (t0_4 := lx68) (t0_5 := lx69) (t0_6 := lx70) (t0_7 := lx71) (t0_8 := lx72) (t0_9 := lx73) (t0_10 := lx74) hx2 hf m1 m2 hf2 hn s1 (by omega) (by omega) (by omega) hr (by omega)
    revert f
    generalize F_DR_figures x2 lx592 a111 (a111 - a113) lx64 lx65 lx66 lx67 lx68 lx69 lx70 lx71 lx72 lx73 lx74 t1_0 t2_0 lx75 = p
    intro f
    unfold F_DR_written_c164
    exact f
theorem V_w130 {x2 : Int32} {x3 : Int32} {t0_0 : Int32} {t0_1 : Int32} {t0_2 : Int32} {t0_3 : Int64} {t0_4 : Int32} {t0_5 : Int32} {t0_6 : Int32} {t0_7 : Int32} {t0_8 : Int32} {t0_9 : Int32} {t0_10 : Int32} {t1_0 : (Nat → Int32)} {t2_0 : (Nat → Int32)} {t3_0 : (Nat → Int32)} {t4_0 : (Nat → Int32)} {t5_0 : (Nat → Int32)} {lx39 : Int32} {lx64 : Int32} {lx65 : Int32} {lx66 : Int32} {lx67 : Int64} {lx68 : Int32} {lx69 : Int32} {lx70 : Int32} {lx71 : Int32} {lx72 : Int32} {lx73 : Int32} {lx74 : Int32} {lx75 : (Nat → Int32)} {a117 : Int32} {a113 : Int32} {a111 : Int32} {D : Nat → Int × Int} {c : Nat} {v s : Int} {l : List Nat} (hx2 : yReg x2) (hD : dRv t1_0 t2_0 t3_0 t4_0 D) (hc : vG v c) (hv : (D x2.toNatClampNeg).1 = v) (hs : (D x2.toNatClampNeg).2 = s) (hr : yRt lx73 lx75 l) (hl : l.length ≤ 1) (ha : a117.toInt = (c : Int) - 1 - s) (hb : a113.toInt = s) (hn : a111.toInt = (c : Int)) (h0 : 0 ≤ s) : yRt (F_DR_written_J130 x2 x3 t0_0 t0_1 t0_2 t0_3 t0_4 t0_5 t0_6 t0_7 t0_8 t0_9 t0_10 t1_0 t2_0 t3_0 t4_0 t5_0 lx39 lx64 lx65 lx66 lx67 lx68 lx69 lx70 lx71 lx72 lx73 lx74 lx75 a117 a113 a111).1 (F_DR_written_J130 x2 x3 t0_0 t0_1 t0_2 t0_3 t0_4 t0_5 t0_6 t0_7 t0_8 t0_9 t0_10 t1_0 t2_0 t3_0 t4_0 t5_0 lx39 lx64 lx65 lx66 lx67 lx68 lx69 lx70 lx71 lx72 lx73 lx74 lx75 a117 a113 a111).2.2.2.2.2.2.2.2.2.2.2.2 (l ++ yPln v.natAbs s c (if v = 0 then 0 else c)) := by
  obtain ⟨m1, ⟨m0, m2⟩, hf, m3, m4, m5⟩ := y_dD hD hx2 (by rw [hv]; exact hc)
  rw [hv] at hf
  rw [hs] at m4
  have e0 : (0 : Int32).toInt = 0 := rfl
  have e1 : (1 : Int32).toInt = 1 := rfl
  have s1 := q_subI hn hb (by omega) (by omega)
  unfold F_DR_written_J130
  by_cases g : (1 : Int32) ≤ (a111 - a113)
  · rw [if_pos g]
    have g := q_leI g
    exact V_w150 hx2 hD hc hv hs hr hl ha hb hn h0 (by rw [if_neg (by omega)]; rfl)
  · rw [if_neg g]
    have g := q_nleI g
    exact V_w150 hx2 hD hc hv hs hr hl ha hb hn h0 (by rw [if_pos (by omega)]; exact q_subI s1 e1 (by omega) (by omega))
theorem V_w113 {x2 : Int32} {x3 : Int32} {t0_0 : Int32} {t0_1 : Int32} {t0_2 : Int32} {t0_3 : Int64} {t0_4 : Int32} {t0_5 : Int32} {t0_6 : Int32} {t0_7 : Int32} {t0_8 : Int32} {t0_9 : Int32} {t0_10 : Int32} {t1_0 : (Nat → Int32)} {t2_0 : (Nat → Int32)} {t3_0 : (Nat → Int32)} {t4_0 : (Nat → Int32)} {t5_0 : (Nat → Int32)} {lx39 : Int32} {lx64 : Int32} {lx65 : Int32} {lx66 : Int32} {lx67 : Int64} {lx68 : Int32} {lx69 : Int32} {lx70 : Int32} {lx71 : Int32} {lx72 : Int32} {lx73 : Int32} {lx74 : Int32} {lx75 : (Nat → Int32)} {a117 : Int32} {a113 : Int32} {a111 : Int32} {D : Nat → Int × Int} {c : Nat} {v s : Int} {l : List Nat} (hx2 : yReg x2) (hD : dRv t1_0 t2_0 t3_0 t4_0 D) (hc : vG v c) (hv : (D x2.toNatClampNeg).1 = v) (hs : (D x2.toNatClampNeg).2 = s) (hr : yRt lx73 lx75 l) (hl : l.length ≤ 1) (ha : a117.toInt = (c : Int) - 1 - s) (hb : a113.toInt = s) (hn : a111.toInt = (c : Int)) (h3 : 0 ≤ x3.toInt ∧ x3.toInt ≤ 2) (h1 : x3 = 1 → 0 < s) : yRt (F_DR_written_J113 x2 x3 t0_0 t0_1 t0_2 t0_3 t0_4 t0_5 t0_6 t0_7 t0_8 t0_9 t0_10 t1_0 t2_0 t3_0 t4_0 t5_0 lx39 lx64 lx65 lx66 lx67 lx68 lx69 lx70 lx71 lx72 lx73 lx74 lx75 a117 a113 a111).1 (F_DR_written_J113 x2 x3 t0_0 t0_1 t0_2 t0_3 t0_4 t0_5 t0_6 t0_7 t0_8 t0_9 t0_10 t1_0 t2_0 t3_0 t4_0 t5_0 lx39 lx64 lx65 lx66 lx67 lx68 lx69 lx70 lx71 lx72 lx73 lx74 lx75 a117 a113 a111).2.2.2.2.2.2.2.2.2.2.2.2 (l ++ (if x3 = 1 ∨ s = 0 ∨ (0 < s ∧ -6 ≤ (c : Int) - 1 - s) then yPln v.natAbs s c (if v = 0 then 0 else c) else if x3 = 0 then yHead v.natAbs (if v = 0 then 0 else c) c 0 ++ yE ((c : Int) - 1 - s) else yThr v.natAbs (if v = 0 then 0 else c) c ((c : Int) - 1 - s))) := by
  obtain ⟨m1, ⟨m0, m2⟩, hf, m3, m4, m5⟩ := y_dD hD hx2 (by rw [hv]; exact hc)
  rw [hv] at hf
  rw [hs] at m4
  have e0 : (0 : Int32).toInt = 0 := rfl
  have e1 : (1 : Int32).toInt = 1 := rfl
  have e6 : (-6 : Int32).toInt = -6 := rfl
  unfold F_DR_written_J113
  have n1 : x3 ≠ 1 → x3.toInt = 0 ∨ x3.toInt = 2 := fun k => by
    have : x3.toInt ≠ 1 := fun q => k (Int32.toInt_inj.mp q)
    omega
  by_cases g : a113 < 0
  · rw [if_pos g]
    have g := q_ltI g
    have k1 : x3 ≠ 1 := fun k => by have := h1 k; omega
    rw [if_neg (fun k => by rcases k with k | k | k; exact k1 k; omega; omega)]
    exact V_w170 hx2 hD hc hv hs hr hl ha hb hn (n1 k1) k1
  · rw [if_neg g]
    have g := q_nltI g
    by_cases k1 : x3 = 1
    · rw [if_pos k1, if_pos (Or.inl k1)]
      exact V_w130 hx2 hD hc hv hs hr hl ha hb hn (by omega)
    · rw [if_neg k1]
      by_cases w : a117 < -6
      · rw [if_pos w]
        have w := q_ltI w
        rw [if_neg (fun k => by rcases k with k | k | k; exact k1 k; omega; omega)]
        exact V_w170 hx2 hD hc hv hs hr hl ha hb hn (n1 k1) k1
      · rw [if_neg w]
        have w := q_nltI w
        rw [if_pos (by rcases Int.lt_or_le 0 s with q | q; exact Or.inr (Or.inr ⟨q, by omega⟩); exact Or.inr (Or.inl (by omega)))]
        exact V_w130 hx2 hD hc hv hs hr hl ha hb hn (by omega)
theorem V_w54 {x2 : Int32} {x3 : Int32} {t0_0 : Int32} {t0_1 : Int32} {t0_2 : Int32} {t0_3 : Int64} {t0_4 : Int32} {t0_5 : Int32} {t0_6 : Int32} {t0_7 : Int32} {t0_8 : Int32} {t0_9 : Int32} {t0_10 : Int32} {t1_0 : (Nat → Int32)} {t2_0 : (Nat → Int32)} {t3_0 : (Nat → Int32)} {t4_0 : (Nat → Int32)} {t5_0 : (Nat → Int32)} {lx39 : Int32} {lx64 : Int32} {lx65 : Int32} {lx66 : Int32} {lx67 : Int64} {lx68 : Int32} {lx69 : Int32} {lx70 : Int32} {lx71 : Int32} {lx72 : Int32} {lx73 : Int32} {lx74 : Int32} {lx75 : (Nat → Int32)} {D : Nat → Int × Int} {c : Nat} {v s : Int} {l : List Nat} (hx2 : yReg x2) (hD : dRv t1_0 t2_0 t3_0 t4_0 D) (hc : vG v c) (hv : (D x2.toNatClampNeg).1 = v) (hs : (D x2.toNatClampNeg).2 = s) (hr : yRt lx73 lx75 l) (hl : l.length ≤ 1) (h3 : 0 ≤ x3.toInt ∧ x3.toInt ≤ 2) : yRt (F_DR_written_J54 x2 x3 t0_0 t0_1 t0_2 t0_3 t0_4 t0_5 t0_6 t0_7 t0_8 t0_9 t0_10 t1_0 t2_0 t3_0 t4_0 t5_0 lx39 lx64 lx65 lx66 lx67 lx68 lx69 lx70 lx71 lx72 lx73 lx74 lx75).1 (F_DR_written_J54 x2 x3 t0_0 t0_1 t0_2 t0_3 t0_4 t0_5 t0_6 t0_7 t0_8 t0_9 t0_10 t1_0 t2_0 t3_0 t4_0 t5_0 lx39 lx64 lx65 lx66 lx67 lx68 lx69 lx70 lx71 lx72 lx73 lx74 lx75).2.2.2.2.2.2.2.2.2.2.2.2 (l ++ (if x3 = 1 ∨ s = 0 ∨ (0 < s ∧ -6 ≤ (c : Int) - 1 - s) then yPln v.natAbs s c (if v = 0 then 0 else c) else if x3 = 0 then yHead v.natAbs (if v = 0 then 0 else c) c 0 ++ yE ((c : Int) - 1 - s) else yThr v.natAbs (if v = 0 then 0 else c) c ((c : Int) - 1 - s))) := by
  obtain ⟨m1, ⟨m0, m2⟩, hf, m3, m4, m5⟩ := y_dD hD hx2 (by rw [hv]; exact hc)
  rw [hv] at hf
  rw [hs] at m4
  have e0 : (0 : Int32).toInt = 0 := rfl
  have e1 : (1 : Int32).toInt = 1 := rfl
  have em : (-1 : Int32).toInt = -1 := rfl
  rw [hs] at m3
  have s1 := q_subI m1 e1 (by omega) (by omega)
  have tp := q_subI s1 m3 (by omega) (by omega)
  unfold F_DR_written_J54
  by_cases k1 : x3 = 1
  · rw [if_pos k1]
    by_cases g : (0 : Int32) < t4_0 x2.toNatClampNeg
    · rw [if_pos g]
      have g := q_ltI g
      exact V_w113 hx2 hD hc hv hs hr hl tp m3 m1 h3 (fun _ => by omega)
    · rw [if_neg g]
      have g := q_nltI g
      rw [if_pos (Or.inl k1)]
      have t1 := yT1 (N := v.natAbs) (n := c) (d := if v = 0 then 0 else c) (s := s) m0 (by omega) (by rcases y_nd hc with ⟨a, b, _⟩ | b; exact Or.inl ⟨a, b⟩; exact Or.inr b)
      rw [t1]
      have di := d_iz (t0_0 := lx64) (t0_1 := lx65) (t0_2 := lx66) (t0_3 := lx67) (t0_4 := lx68) (t0_5 := lx69) (t0_6 := lx70) (t0_7 := lx71) (t0_8 := lx72) (t0_9 := lx73) (t0_10 := lx74) hD hx2
      rw [hv] at di
      by_cases vz : v = 0
      · rw [if_pos vz] at di
        rw [if_neg (show ¬ F_DR_isZero x2 lx64 lx65 lx66 lx67 lx68 lx69 lx70 lx71 lx72 lx73 lx74 t1_0 = 0 by rw [di]; decide), if_pos (by rw [if_pos vz])]
        have f := V_DRfig (t0_0 := lx64) (t0_1 := lx65) (t0_2 := lx66) (t0_3 := lx67) (t0_4 := lx68) (t0_5 := lx69) (t0_6 := lx70) (t0_7 := lx71) (t0_8 := lx72) (t0_9 := lx73) (t0_10 := lx74) hx2 hf m1 m2 e0 e1 em (by omega) (by omega) (by omega) hr (by omega)
        revert f
        generalize F_DR_figures x2 0 1 (-1) lx64 lx65 lx66 lx67 lx68 lx69 lx70 lx71 lx72 lx73 lx74 t1_0 t2_0 lx75 = p
        intro f
        unfold F_DR_written_c107_17
        exact f
      · rw [if_neg vz] at di
        rw [if_pos di, if_neg (by rw [if_neg vz]; omega)]
        have s2 := q_subI m1 m3 (by omega) (by omega)
        have f := V_DRfig (t0_0 := lx64) (t0_1 := lx65) (t0_2 := lx66) (t0_3 := lx67) (t0_4 := lx68) (t0_5 := lx69) (t0_6 := lx70) (t0_7 := lx71) (t0_8 := lx72) (t0_9 := lx73) (t0_10 := lx74) hx2 hf m1 m2 e0 s2 em (by omega) (by omega) (by omega) hr (by omega)
        rw [show ((c : Int) - s - 0).toNat = ((c : Int) - s).toNat from by omega] at f
        revert f
        generalize F_DR_figures x2 0 (t2_0 x2.toNatClampNeg - t4_0 x2.toNatClampNeg) (-1) lx64 lx65 lx66 lx67 lx68 lx69 lx70 lx71 lx72 lx73 lx74 t1_0 t2_0 lx75 = p
        intro f
        unfold F_DR_written_c107
        exact f
  · rw [if_neg k1]
    exact V_w113 hx2 hD hc hv hs hr hl tp m3 m1 h3 (fun k => absurd k k1)
theorem V_DRwr {x2 : Int32} {x3 : Int32} {t0_0 : Int32} {t0_1 : Int32} {t0_2 : Int32} {t0_3 : Int64} {t0_4 : Int32} {t0_5 : Int32} {t0_6 : Int32} {t0_7 : Int32} {t0_8 : Int32} {t0_9 : Int32} {t0_10 : Int32} {t1_0 : (Nat → Int32)} {t2_0 : (Nat → Int32)} {t3_0 : (Nat → Int32)} {t4_0 : (Nat → Int32)} {t5_0 : (Nat → Int32)} {D : Nat → Int × Int} {c : Nat} (hx2 : yReg x2) (hD : dRv t1_0 t2_0 t3_0 t4_0 D) (hc : vG (D x2.toNatClampNeg).1 c) (h3 : 0 ≤ x3.toInt ∧ x3.toInt ≤ 2) : yRt (F_DR_written x2 x3 t0_0 t0_1 t0_2 t0_3 t0_4 t0_5 t0_6 t0_7 t0_8 t0_9 t0_10 t1_0 t2_0 t3_0 t4_0 t5_0).1 (F_DR_written x2 x3 t0_0 t0_1 t0_2 t0_3 t0_4 t0_5 t0_6 t0_7 t0_8 t0_9 t0_10 t1_0 t2_0 t3_0 t4_0 t5_0).2.2.2.2.2.2.2.2.2.2.2.2 (yDtx x3 (D x2.toNatClampNeg).1 (D x2.toNatClampNeg).2 c) := by
  have e0 : (0 : Int32).toInt = 0 := rfl
  have e2 : (2 : Int32).toInt = 2 := rfl
  obtain ⟨m1, ⟨m0, m2⟩, hf, m3, m4, m5⟩ := y_dD hD hx2 hc
  unfold F_DR_written
  rw [if_pos (g_no0 hx2), if_neg (show ¬ x3 < 0 from fun c => by have := q_ltI c; omega), if_pos (show x3 ≤ 2 from Int32.le_iff_toInt_le.mpr (by omega))]
  unfold F_DR_written_J22
  rw [if_pos (show (0 : Int32) ≤ 0 by decide)]
  unfold yDtx yMin
  by_cases n : (D x2.toNatClampNeg).1 < 0
  · rw [if_pos n] at m5
    rw [if_neg (show ¬ t3_0 x2.toNatClampNeg = 0 by rw [m5]; decide), if_pos n]
    have w := V_rt (x := 45) (v := 45) (yRt_0 (t := t5_0)) (by decide) rfl
    unfold F_DR_print F_DR_written_c51
    exact V_w54 hx2 hD hc rfl rfl w (by decide) h3
  · rw [if_neg n] at m5
    rw [if_pos m5, if_neg n]
    exact V_w54 hx2 hD hc rfl rfl yRt_0 (by decide) h3
