/-! values, for whole: the printer's bodies -/
def zCa (kd : Int32) (nu : Int64) (sc : Int32) (tx : Int32 × (Nat → Int64)) (a : yA) : Prop := kd.toInt = (a.1 : Int) ∧ nu = a.2.1 ∧ sc.toInt = (a.2.2.1 : Int) ∧ (a.1 = 4 → yShl 64 tx.1 tx.2 a.2.2.2) ∧ yAw a
def QV_bd (cv fl : Int32) (pr : Int) (a : yA) (fr size : Int32) (row : Nat → Int64) : Prop := ∃ t f pd, zBdT (zSm cv) fl pr a t f pd ∧ yShl 4104 size row (zCut (zSm cv) pr t) ∧ ((fr = -1 ∧ f = 0 ∧ pd = 0) ∨ (fr.toInt = (f : Int) ∧ f ≤ t.length ∧ ¬ (zSm cv = 98 ∨ zSm cv = 115) ∧ pd = if fl &&& 8 = 0 then 0 else 1))
theorem yShl_tk {R k : Nat} {s m : Int32} {c : Nat → Int64} {l : List Nat} (h : yShl R s c l) (hm : m.toInt = (k : Int)) (hk : k ≤ l.length) : yShl R m c (l.take k) := by
  refine ⟨by rw [hm, List.length_take, Nat.min_eq_left hk], fun i hi hr => ?_⟩
  rw [List.length_take] at hi
  rw [h.2 i (by omega) hr, List.getD_eq_getElem?_getD, List.getD_eq_getElem?_getD, List.getElem?_take, if_pos (by omega)]
theorem V_cutB {t0_0 : Int32} {t1_0 : (Nat → Int64)} {t2_0 : Int32} {t2_1 : Int32} {t2_2 : Int32} {t2_3 : Int32} {t2_4 : Int32} {t2_5 : Int32} {t2_6 : Int32} {pr : Int} {l : List Nat} (h3 : t2_3.toInt = pr) (hpr : -1 ≤ pr) (hl : yShl 4104 t0_0 t1_0 l) : yShl 4104 (F_Pri_cutBody t0_0 t1_0 t2_0 t2_1 t2_2 t2_3 t2_4 t2_5 t2_6) t1_0 (if pr < 0 then l else l.take pr.toNat) := by
  have h0 := hl.1
  unfold F_Pri_cutBody
  by_cases c : t2_3 = -1
  · have p : pr < 0 := by rw [← h3, c]; decide
    rw [if_pos c, if_pos p]
    exact hl
  · have p : ¬ pr < 0 := fun w => c (Int32.toInt_inj.mp (by rw [h3, show (-1 : Int32).toInt = -1 from rfl]; omega))
    rw [if_neg c, if_neg p]
    unfold F_She_cut_p
    by_cases d : t2_3 < t0_0
    · rw [if_pos d]
      have d' := q_ltI d
      exact yShl_tk hl (by omega) (by omega)
    · rw [if_neg d]
      have d' := q_nltI d
      rw [List.take_of_length_le (by omega)]
      exact hl
theorem V_c30 {N c : Nat} (h : yDt N c) (hN : N < 10000000000000000000) : c ≤ 30 := by
  apply Classical.byContradiction
  intro w
  have a := h.2 (by omega)
  unfold yLt10 at a
  have b : 10 ^ 30 ≤ 10 ^ (c - 1) := Nat.pow_le_pow_right (by decide) (by omega)
  have e : (10 : Nat) ^ 30 = 1000000000000000000000000000000 := by decide
  omega
theorem V_sm7 {c : Int32} (h : 0 ≤ c.toInt ∧ c.toInt ≤ 255) : (c ∈ yO7 ↔ zSm c = 37 ∨ zSm c = 110) ∧ (c ∈ yO11 ↔ zSm c = 98) ∧ (c ∈ yO14 ↔ zSm c = 115) := by
  obtain ⟨n, hn, rfl⟩ := y_c256 h
  have k1 : ∀ n : Nat, n < 256 → (Int32.ofNat n ∈ yO7 ↔ zSm (Int32.ofNat n) = 37 ∨ zSm (Int32.ofNat n) = 110) := by decide +kernel
  have k2 : ∀ n : Nat, n < 256 → (Int32.ofNat n ∈ yO11 ↔ zSm (Int32.ofNat n) = 98) := by decide +kernel
  have k3 : ∀ n : Nat, n < 256 → (Int32.ofNat n ∈ yO14 ↔ zSm (Int32.ofNat n) = 115) := by decide +kernel
  exact ⟨k1 n hn, k2 n hn, k3 n hn⟩
theorem V_sm16 {c : Int32} (h : 0 ≤ c.toInt ∧ c.toInt ≤ 255) : (c ∈ yO16 ↔ zSm c = 111 ∨ zSm c = 120) ∧ (c = 111 ↔ zSm c = 111) ∧ (c = 110 ↔ zSm c = 110) := by
  obtain ⟨n, hn, rfl⟩ := y_c256 h
  have k1 : ∀ n : Nat, n < 256 → (Int32.ofNat n ∈ yO16 ↔ zSm (Int32.ofNat n) = 111 ∨ zSm (Int32.ofNat n) = 120) := by decide +kernel
  have k2 : ∀ n : Nat, n < 256 → (Int32.ofNat n = 111 ↔ zSm (Int32.ofNat n) = 111) := by decide +kernel
  have k3 : ∀ n : Nat, n < 256 → (Int32.ofNat n = 110 ↔ zSm (Int32.ofNat n) = 110) := by decide +kernel
  exact ⟨k1 n hn, k2 n hn, k3 n hn⟩
/-- a number's text is short: the reference's is -/
theorem V_nuB {sc fl x12 x13 : Int32} {v : Int64} {s p dg f : Nat} {t : List Nat} (h : zNuT sc v s fl p dg t f) (hx : sc = 111 ∨ sc = 120 ∨ sc = 100 ∨ sc = 102 ∨ sc = 101 ∨ sc = 103) (nx : ¬ (sc = 111 ∨ sc = 120)) (h13 : x13.toInt = (s : Int)) (hs : s ≤ 40) (hp : (x12.toInt < 0 ∧ p = 6) ∨ x12.toInt = (p : Int)) (hp2 : p ≤ 9999) (hd : yDt v.toInt.natAbs dg) : t.length ≤ 10320 := by
  have e0 : (0 : Int32).toInt = 0 := rfl
  obtain ⟨t2, f2, w1, w2, _⟩ := Z_numr (x2 := sc) (t0_0 := 0) (t0_1 := 0) (t0_2 := 0) (t0_3 := 0) (t0_4 := 0) (t0_5 := 0) (t0_6 := 0) (t0_7 := 0) (t0_8 := 0) (t0_9 := fl) (t0_10 := 0) (t0_11 := 0) (t0_12 := x12) (t0_13 := 0) (t0_14 := 0) (t0_15 := 0) (t0_16 := 0) (t0_17 := 0) (t0_18 := 0) (t0_19 := 0) (t0_20 := 0) (t0_21 := 0) (t1_0 := fun _ => x13) (t2_0 := fun _ => v) (t3_0 := fun _ => 0) (t4_0 := fun _ => 0) (p := p) (dg := dg) (s := s) (v := v) rfl (fun i _ => by show 0 ≤ x13.toInt ∧ x13.toInt ≤ 64; omega) (by decide) hx (fun w => absurd w nx) (fun _ => h13) hs hp hp2 hd yRt_0
  have w3 := (T_VR_numeric (x2 := sc) (t0_0 := 0) (t0_1 := 0) (t0_2 := 0) (t0_3 := 0) (t0_4 := 0) (t0_5 := 0) (t0_6 := 0) (t0_7 := 0) (t0_8 := 0) (t0_9 := fl) (t0_10 := 0) (t0_11 := 0) (t0_12 := x12) (t0_13 := 0) (t0_14 := 0) (t0_15 := 0) (t0_16 := 0) (t0_17 := 0) (t0_18 := 0) (t0_19 := 0) (t0_20 := 0) (t0_21 := 0) (t1_0 := fun _ => x13) (t2_0 := fun _ => v) (t3_0 := fun _ => 0) (t4_0 := fun _ => 0) (fun i _ => by show 0 ≤ x13.toInt ∧ x13.toInt ≤ 64; omega) (by decide) (by omega) (by decide)).2
  unfold Q_VR_num at w3
  have e := (zNuT_U h w1).1
  have l := w2.1
  rw [e]
  omega
theorem V_b231 {t0_0 : Int32} {t0_1 : Int32} {t0_2 : Int32} {t0_3 : Int32} {t1_0 : (Nat → Int32)} {t2_0 : (Nat → Int64)} {t3_0 : (Nat → Int32)} {t4_0 : Int32} {t4_1 : Int32} {t5_0 : (Nat → Int32)} {t6_0 : Int32} {t7_0 : (Nat → Int64)} {t8_0 : Int32} {t8_1 : Int32} {t8_2 : Int32} {t8_3 : Int32} {t8_4 : Int32} {t8_5 : Int32} {t8_6 : Int32} {t9_0 : Int32} {t10_0 : (Nat → Int64)} {t11_0 : Int32} {t12_0 : (Nat → Int64)} {t13_0 : Int32} {t14_0 : (Nat → Int64)} {t15_0 : Int32} {t16_0 : (Nat → Int64)} {t17_0 : Int32} {t18_0 : (Nat → Int64)} {t19_0 : Int32} {t20_0 : (Nat → Int64)} {t21_0 : Int32} {t22_0 : (Nat → Int64)} {t23_0 : Int32} {t24_0 : (Nat → Int64)} {t25_0 : Int32} {t26_0 : (Nat → Int64)} {lx134 : Int32} {a : yA} {i : Nat} {pr : Int} (hi : t0_3.toInt = (i : Int)) (hi2 : i ≤ 8) (ha : zCa (t1_0 t0_3.toNatClampNeg) (t2_0 t0_3.toNatClampNeg) (t3_0 t0_3.toNatClampNeg) (yTx9 t9_0 t10_0 t11_0 t12_0 t13_0 t14_0 t15_0 t16_0 t17_0 t18_0 t19_0 t20_0 t21_0 t22_0 t23_0 t24_0 t25_0 t26_0 i) a) (h3 : t8_3.toInt = pr) (hpr : -1 ≤ pr ∧ pr ≤ 9999) (h4 : 0 ≤ t8_4.toInt ∧ t8_4.toInt ≤ 255) (hl : yShl 4104 t6_0 t7_0 []) (k0 : a.1 ≠ 0) (h134 : lx134 = if a.2.1.toInt < 0 then 1 else 0) (hk : (zSm t8_4 = 100 ∧ a.1 = 3) ∨ ((zSm t8_4 = 102 ∨ zSm t8_4 = 101 ∨ zSm t8_4 = 103) ∧ a.1 = 5)) : (F_Pri_writeBody_J231 t0_0 t0_1 t0_2 t0_3 t1_0 t2_0 t3_0 t4_0 t4_1 t5_0 t6_0 t7_0 t8_0 t8_1 t8_2 t8_3 t8_4 t8_5 t8_6 t9_0 t10_0 t11_0 t12_0 t13_0 t14_0 t15_0 t16_0 t17_0 t18_0 t19_0 t20_0 t21_0 t22_0 t23_0 t24_0 t25_0 t26_0 lx134).1 = t0_0 ∧ (F_Pri_writeBody_J231 t0_0 t0_1 t0_2 t0_3 t1_0 t2_0 t3_0 t4_0 t4_1 t5_0 t6_0 t7_0 t8_0 t8_1 t8_2 t8_3 t8_4 t8_5 t8_6 t9_0 t10_0 t11_0 t12_0 t13_0 t14_0 t15_0 t16_0 t17_0 t18_0 t19_0 t20_0 t21_0 t22_0 t23_0 t24_0 t25_0 t26_0 lx134).2.2.1 = t0_2 ∧ (F_Pri_writeBody_J231 t0_0 t0_1 t0_2 t0_3 t1_0 t2_0 t3_0 t4_0 t4_1 t5_0 t6_0 t7_0 t8_0 t8_1 t8_2 t8_3 t8_4 t8_5 t8_6 t9_0 t10_0 t11_0 t12_0 t13_0 t14_0 t15_0 t16_0 t17_0 t18_0 t19_0 t20_0 t21_0 t22_0 t23_0 t24_0 t25_0 t26_0 lx134).2.2.2.1 = t0_3 ∧ QV_bd t8_4 t8_1 pr a (F_Pri_writeBody_J231 t0_0 t0_1 t0_2 t0_3 t1_0 t2_0 t3_0 t4_0 t4_1 t5_0 t6_0 t7_0 t8_0 t8_1 t8_2 t8_3 t8_4 t8_5 t8_6 t9_0 t10_0 t11_0 t12_0 t13_0 t14_0 t15_0 t16_0 t17_0 t18_0 t19_0 t20_0 t21_0 t22_0 t23_0 t24_0 t25_0 t26_0 lx134).2.1 (F_Pri_writeBody_J231 t0_0 t0_1 t0_2 t0_3 t1_0 t2_0 t3_0 t4_0 t4_1 t5_0 t6_0 t7_0 t8_0 t8_1 t8_2 t8_3 t8_4 t8_5 t8_6 t9_0 t10_0 t11_0 t12_0 t13_0 t14_0 t15_0 t16_0 t17_0 t18_0 t19_0 t20_0 t21_0 t22_0 t23_0 t24_0 t25_0 t26_0 lx134).2.2.2.2.2.2.2.1 (F_Pri_writeBody_J231 t0_0 t0_1 t0_2 t0_3 t1_0 t2_0 t3_0 t4_0 t4_1 t5_0 t6_0 t7_0 t8_0 t8_1 t8_2 t8_3 t8_4 t8_5 t8_6 t9_0 t10_0 t11_0 t12_0 t13_0 t14_0 t15_0 t16_0 t17_0 t18_0 t19_0 t20_0 t21_0 t22_0 t23_0 t24_0 t25_0 t26_0 lx134).2.2.2.2.2.2.2.2 := by
  obtain ⟨a1, a2, a3, a4, aw⟩ := ha
  have e0L : (0 : Int64).toInt = 0 := rfl
  have s40 := aw.2.1
  have hx : zSm t8_4 = 111 ∨ zSm t8_4 = 120 ∨ zSm t8_4 = 100 ∨ zSm t8_4 = 102 ∨ zSm t8_4 = 101 ∨ zSm t8_4 = 103 := by
    rcases hk with ⟨w, _⟩ | ⟨w, _⟩
    · exact Or.inr (Or.inr (Or.inl w))
    · exact Or.inr (Or.inr (Or.inr w))
  have nb : ¬ (zSm t8_4 = 98 ∨ zSm t8_4 = 115) := by
    rcases hk with ⟨w, _⟩ | ⟨w | w | w, _⟩ <;> rw [w] <;> decide
  unfold F_Pri_writeBody_J231
  obtain ⟨s1, s2, s3, s4, s5⟩ := V_sgn (x2 := lx134) (t0_0 := t0_0) (t0_1 := t0_1) (t0_2 := t0_2) (t0_3 := t0_3) (t3_0 := t8_0) (t3_1 := t8_1) (t3_2 := t8_2) (t3_3 := t8_3) (t3_4 := t8_4) (t3_5 := t8_5) (t3_6 := t8_6) hl h134
  revert s1 s2 s3 s4 s5
  generalize F_Pri_writeSign lx134 t0_0 t0_1 t0_2 t0_3 t6_0 t7_0 t8_0 t8_1 t8_2 t8_3 t8_4 t8_5 t8_6 = q1
  intro s1 s2 s3 s4 s5
  unfold F_Pri_writeBody_c231
  rw [s4]
  obtain ⟨f1, f2⟩ := V_filM (x2 := t2_0 t0_3.toNatClampNeg) (x3 := t3_0 t0_3.toNatClampNeg) (t0_0 := t4_0) (t0_1 := t4_1) (t1_0 := t5_0) (by omega)
  rw [a2] at f1 f2 ⊢
  revert f1 f2
  generalize F_Dig_fillLong a.2.1 (t3_0 t0_3.toNatClampNeg) t4_0 t4_1 t5_0 = q2
  intro f1 f2
  obtain ⟨c, g1, g2, g3, g4⟩ := f1
  have pw := f2 c g3
  rw [a3] at pw
  unfold F_Pri_writeBody_c256
  have lo := Int64.le_toInt a.2.1
  have hi' := Int64.toInt_lt a.2.1
  have sl : (zSgn a.2.1.toInt t8_1).length ≤ 1 := by
    unfold zSgn
    repeat' split
    all_goals decide
  obtain ⟨u, n1, n2⟩ := V_wrN (t0_0 := q2.1) (t0_1 := q2.2.1) (t1_0 := q2.2.2) (t4_0 := t8_0) (t4_1 := t8_1) (t4_2 := t8_2) (t4_3 := t8_3) (t4_4 := t8_4) (t4_5 := t8_5) (t4_6 := t8_6) (c := c) (s := a.2.2.1) ⟨g1, g2, g3, g4⟩ pw s40 (V_c30 g3 (by omega)) h3 hpr h4 s5 (by omega) (by
    rcases hk with ⟨w, v⟩ | ⟨w, _⟩
    · exact Or.inl ⟨w, aw.2.2.2.2.1 (by omega)⟩
    · exact Or.inr w)
  revert n2
  generalize F_Pri_writeNumber q2.1 q2.2.1 q2.2.2 q1.2.2.2.2.1 q1.2.2.2.2.2 t8_0 t8_1 t8_2 t8_3 t8_4 t8_5 t8_6 = q3
  intro n2
  unfold F_Pri_writeBody_c260
  rw [a2]
  have zn : zNuT (zSm t8_4) a.2.1 a.2.2.1 t8_1 (if pr < 0 then 6 else pr.toNat) c (zSgn a.2.1.toInt t8_1 ++ u ++ zCls a.2.1.toInt t8_1) (zSgn a.2.1.toInt t8_1).length := by
    rcases n1 with ⟨w, z⟩ | ⟨w, z⟩
    · exact Or.inr (Or.inl ⟨w, u, z, rfl, rfl⟩)
    · exact Or.inr (Or.inr ⟨w, u, z, rfl, rfl⟩)
  have bd := V_nuB (x12 := t8_3) (x13 := t3_0 t0_3.toNatClampNeg) zn hx (by rcases hk with ⟨w, _⟩ | ⟨w | w | w, _⟩ <;> rw [w] <;> decide) a3 s40 (by
    by_cases w : pr < 0
    · exact Or.inl ⟨by omega, by rw [if_pos w]⟩
    · refine Or.inr ?_
      rw [if_neg w]
      omega) (by split <;> omega) g3
  rw [List.length_append] at bd
  have fin : ∀ (cl : List Nat) (size : Int32) (row : Nat → Int64), cl = zCls a.2.1.toInt t8_1 → yShl 4104 size row (zSgn a.2.1.toInt t8_1 ++ u ++ cl) → QV_bd t8_4 t8_1 pr a q1.2.1 size row := by
    intro cl size row hcl hs
    refine ⟨zSgn a.2.1.toInt t8_1 ++ u ++ cl, (zSgn a.2.1.toInt t8_1).length, if t8_1 &&& 8 = 0 then 0 else 1, ?_, ?_, Or.inr ⟨s2, by rw [List.append_assoc, List.length_append]; omega, nb, rfl⟩⟩
    · refine Or.inr (Or.inr (Or.inr (Or.inr (Or.inr (Or.inr ⟨hx, k0, ⟨c, g3, ?_⟩, rfl⟩)))))
      rw [hcl]
      exact zn
    · unfold zCut
      rw [if_neg nb]
      exact hs
  by_cases v : 0 ≤ lg_cmp a.2.1 0
  · rw [if_pos v]
    have v' := q_k7 v
    refine ⟨s1, s3, rfl, fin [] _ _ (by unfold zCls; rw [if_neg (by omega)]) (by rw [List.append_nil]; exact n2)⟩
  · rw [if_neg v]
    have v' := q_k8 v
    rw [Z_has0]
    by_cases f : t8_1 &&& 32 = 0
    · rw [if_pos f, if_pos (rfl : (0 : Int32) = 0)]
      refine ⟨s1, s3, rfl, fin [] _ _ (by unfold zCls; rw [if_pos (by omega), if_pos f]) (by rw [List.append_nil]; exact n2)⟩
    · rw [if_neg f, if_neg (show ¬ (1 : Int32) = 0 by decide)]
      have nl := n2.1
      have p := V_paP4 (N := 513) (K := 1000000) (x2 := 41) (v := 41) n2 (by omega) rfl (by decide)
      revert p
      generalize F_She_add_p 4104 513 1000000 41 q3.2.2.2.1 q3.2.2.2.2 = q4
      intro p
      unfold F_Pri_writeBody_c295
      exact ⟨s1, s3, rfl, fin [41] _ _ (by unfold zCls; rw [if_pos (by omega), if_neg f]) p⟩

