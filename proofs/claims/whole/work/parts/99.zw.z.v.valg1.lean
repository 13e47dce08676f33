/-! values, for whole: words, copies, widths of the printer -/
theorem V_at12L4 {R : Int32} {N : Int32} {K : Int32} {t0_0 : Int32} {t1_0 : (Nat → Int64)} (hR : R = 4104) : ∀ (n : Nat) (lx7 : Int32) (lx8 : Int32) (lx9 : (Nat → Int64)), ∀ (k : Nat) (l : List Nat), lx7.toInt = (k : Int) → k ≤ 5 → 5 < n + k → yShl 4104 lx8 lx9 l → l.length + (5 - k) < 1900000000 → yShl 4104 (F_She_addText_12_L2 R N K t0_0 t1_0 n lx7 lx8 lx9).1 (F_She_addText_12_L2 R N K t0_0 t1_0 n lx7 lx8 lx9).2 (l ++ yW12.drop k) := by
  subst hR
  have e1 : (1 : Int32).toInt = 1 := rfl
  have eN : (5 : Int32).toInt = 5 := rfl
  intro n
  induction n with
  | zero =>
    intro lx7 lx8 lx9 k l h1 h2 h3
    omega
  | succ n ih =>
    intro lx7 lx8 lx9 k l h1 h2 h3 h4 h5
    rw [F_She_addText_12_L2.eq_2]
    by_cases g : (5 : Int32) ≤ lx7
    · rw [if_pos g]
      have g := q_leI g
      obtain rfl : k = 5 := by omega
      show yShl 4104 lx8 lx9 (l ++ [])
      rw [List.append_nil]
      exact h4
    · rw [if_neg g]
      have g := q_nleI g
      obtain ⟨c1, c2, c3⟩ := y_cw12 h1 (by omega)
      have pa := V_paP4 (N := N) (K := K) h4 (by omega) c1 c2
      revert pa
      generalize F_She_add_p 4104 N K (F_jStr_charAt_12 lx7) lx8 lx9 = p
      intro pa
      unfold F_She_addText_12_c16
      have r := ih (lx7 + 1) p.1 p.2 (k + 1) _ (q_addI h1 e1 (by omega) (by omega)) (by omega) (by omega) pa (by rw [List.length_append, List.length_singleton]; omega)
      rw [c3]
      rw [List.append_assoc] at r
      exact r
theorem V_at124 {R : Int32} {N : Int32} {K : Int32} {t0_0 : Int32} {t1_0 : (Nat → Int64)} {l : List Nat} (hR : R = 4104) (h : yShl 4104 t0_0 t1_0 l) (hl : l.length < 1800000000) : yShl 4104 (F_She_addText_12 R N K t0_0 t1_0).1 (F_She_addText_12 R N K t0_0 t1_0).2 (l ++ yW12) := by
  unfold F_She_addText_12
  exact V_at12L4 hR ((5 - (0 : Int32).toInt).toNat + 1) 0 t0_0 t1_0 0 l rfl (by omega) (by decide) h (by omega)
theorem V_at13L4 {R : Int32} {N : Int32} {K : Int32} {t0_0 : Int32} {t1_0 : (Nat → Int64)} (hR : R = 4104) : ∀ (n : Nat) (lx7 : Int32) (lx8 : Int32) (lx9 : (Nat → Int64)), ∀ (k : Nat) (l : List Nat), lx7.toInt = (k : Int) → k ≤ 4 → 4 < n + k → yShl 4104 lx8 lx9 l → l.length + (4 - k) < 1900000000 → yShl 4104 (F_She_addText_13_L2 R N K t0_0 t1_0 n lx7 lx8 lx9).1 (F_She_addText_13_L2 R N K t0_0 t1_0 n lx7 lx8 lx9).2 (l ++ yW13.drop k) := by
  subst hR
  have e1 : (1 : Int32).toInt = 1 := rfl
  have eN : (4 : Int32).toInt = 4 := rfl
  intro n
  induction n with
  | zero =>
    intro lx7 lx8 lx9 k l h1 h2 h3
    omega
  | succ n ih =>
    intro lx7 lx8 lx9 k l h1 h2 h3 h4 h5
    rw [F_She_addText_13_L2.eq_2]
    by_cases g : (4 : Int32) ≤ lx7
    · rw [if_pos g]
      have g := q_leI g
      obtain rfl : k = 4 := by omega
      show yShl 4104 lx8 lx9 (l ++ [])
      rw [List.append_nil]
      exact h4
    · rw [if_neg g]
      have g := q_nleI g
      obtain ⟨c1, c2, c3⟩ := y_cw13 h1 (by omega)
      have pa := V_paP4 (N := N) (K := K) h4 (by omega) c1 c2
      revert pa
      generalize F_She_add_p 4104 N K (F_jStr_charAt_13 lx7) lx8 lx9 = p
      intro pa
      unfold F_She_addText_13_c16
      have r := ih (lx7 + 1) p.1 p.2 (k + 1) _ (q_addI h1 e1 (by omega) (by omega)) (by omega) (by omega) pa (by rw [List.length_append, List.length_singleton]; omega)
      rw [c3]
      rw [List.append_assoc] at r
      exact r
theorem V_at134 {R : Int32} {N : Int32} {K : Int32} {t0_0 : Int32} {t1_0 : (Nat → Int64)} {l : List Nat} (hR : R = 4104) (h : yShl 4104 t0_0 t1_0 l) (hl : l.length < 1800000000) : yShl 4104 (F_She_addText_13 R N K t0_0 t1_0).1 (F_She_addText_13 R N K t0_0 t1_0).2 (l ++ yW13) := by
  unfold F_She_addText_13
  exact V_at13L4 hR ((4 - (0 : Int32).toInt).toNat + 1) 0 t0_0 t1_0 0 l rfl (by omega) (by decide) h (by omega)
theorem V_at15L4 {R : Int32} {N : Int32} {K : Int32} {t0_0 : Int32} {t1_0 : (Nat → Int64)} (hR : R = 4104) : ∀ (n : Nat) (lx7 : Int32) (lx8 : Int32) (lx9 : (Nat → Int64)), ∀ (k : Nat) (l : List Nat), lx7.toInt = (k : Int) → k ≤ 4 → 4 < n + k → yShl 4104 lx8 lx9 l → l.length + (4 - k) < 1900000000 → yShl 4104 (F_She_addText_15_L2 R N K t0_0 t1_0 n lx7 lx8 lx9).1 (F_She_addText_15_L2 R N K t0_0 t1_0 n lx7 lx8 lx9).2 (l ++ yW15.drop k) := by
  subst hR
  have e1 : (1 : Int32).toInt = 1 := rfl
  have eN : (4 : Int32).toInt = 4 := rfl
  intro n
  induction n with
  | zero =>
    intro lx7 lx8 lx9 k l h1 h2 h3
    omega
  | succ n ih =>
    intro lx7 lx8 lx9 k l h1 h2 h3 h4 h5
    rw [F_She_addText_15_L2.eq_2]
    by_cases g : (4 : Int32) ≤ lx7
    · rw [if_pos g]
      have g := q_leI g
      obtain rfl : k = 4 := by omega
      show yShl 4104 lx8 lx9 (l ++ [])
      rw [List.append_nil]
      exact h4
    · rw [if_neg g]
      have g := q_nleI g
      obtain ⟨c1, c2, c3⟩ := y_cw15 h1 (by omega)
      have pa := V_paP4 (N := N) (K := K) h4 (by omega) c1 c2
      revert pa
      generalize F_She_add_p 4104 N K (F_jStr_charAt_15 lx7) lx8 lx9 = p
      intro pa
      unfold F_She_addText_15_c16
      have r := ih (lx7 + 1) p.1 p.2 (k + 1) _ (q_addI h1 e1 (by omega) (by omega)) (by omega) (by omega) pa (by rw [List.length_append, List.length_singleton]; omega)
      rw [c3]
      rw [List.append_assoc] at r
      exact r
theorem V_at154 {R : Int32} {N : Int32} {K : Int32} {t0_0 : Int32} {t1_0 : (Nat → Int64)} {l : List Nat} (hR : R = 4104) (h : yShl 4104 t0_0 t1_0 l) (hl : l.length < 1800000000) : yShl 4104 (F_She_addText_15 R N K t0_0 t1_0).1 (F_She_addText_15 R N K t0_0 t1_0).2 (l ++ yW15) := by
  unfold F_She_addText_15
  exact V_at15L4 hR ((4 - (0 : Int32).toInt).toNat + 1) 0 t0_0 t1_0 0 l rfl (by omega) (by decide) h (by omega)
theorem V_at17L4 {R : Int32} {N : Int32} {K : Int32} {t0_0 : Int32} {t1_0 : (Nat → Int64)} (hR : R = 4104) : ∀ (n : Nat) (lx7 : Int32) (lx8 : Int32) (lx9 : (Nat → Int64)), ∀ (k : Nat) (l : List Nat), lx7.toInt = (k : Int) → k ≤ 1 → 1 < n + k → yShl 4104 lx8 lx9 l → l.length + (1 - k) < 1900000000 → yShl 4104 (F_She_addText_17_L2 R N K t0_0 t1_0 n lx7 lx8 lx9).1 (F_She_addText_17_L2 R N K t0_0 t1_0 n lx7 lx8 lx9).2 (l ++ yW17.drop k) := by
  subst hR
  have e1 : (1 : Int32).toInt = 1 := rfl
  have eN : (1 : Int32).toInt = 1 := rfl
  intro n
  induction n with
  | zero =>
    intro lx7 lx8 lx9 k l h1 h2 h3
    omega
  | succ n ih =>
    intro lx7 lx8 lx9 k l h1 h2 h3 h4 h5
    rw [F_She_addText_17_L2.eq_2]
    by_cases g : (1 : Int32) ≤ lx7
    · rw [if_pos g]
      have g := q_leI g
      obtain rfl : k = 1 := by omega
      show yShl 4104 lx8 lx9 (l ++ [])
      rw [List.append_nil]
      exact h4
    · rw [if_neg g]
      have g := q_nleI g
      obtain ⟨c1, c2, c3⟩ := y_cw17 h1 (by omega)
      have pa := V_paP4 (N := N) (K := K) h4 (by omega) c1 c2
      revert pa
      generalize F_She_add_p 4104 N K (F_jStr_charAt_17 lx7) lx8 lx9 = p
      intro pa
      unfold F_She_addText_17_c16
      have r := ih (lx7 + 1) p.1 p.2 (k + 1) _ (q_addI h1 e1 (by omega) (by omega)) (by omega) (by omega) pa (by rw [List.length_append, List.length_singleton]; omega)
      rw [c3]
      rw [List.append_assoc] at r
      exact r
theorem V_at174 {R : Int32} {N : Int32} {K : Int32} {t0_0 : Int32} {t1_0 : (Nat → Int64)} {l : List Nat} (hR : R = 4104) (h : yShl 4104 t0_0 t1_0 l) (hl : l.length < 1800000000) : yShl 4104 (F_She_addText_17 R N K t0_0 t1_0).1 (F_She_addText_17 R N K t0_0 t1_0).2 (l ++ yW17) := by
  unfold F_She_addText_17
  exact V_at17L4 hR ((1 - (0 : Int32).toInt).toNat + 1) 0 t0_0 t1_0 0 l rfl (by omega) (by decide) h (by omega)
theorem V_at18L4 {R : Int32} {N : Int32} {K : Int32} {t0_0 : Int32} {t1_0 : (Nat → Int64)} (hR : R = 4104) : ∀ (n : Nat) (lx7 : Int32) (lx8 : Int32) (lx9 : (Nat → Int64)), ∀ (k : Nat) (l : List Nat), lx7.toInt = (k : Int) → k ≤ 2 → 2 < n + k → yShl 4104 lx8 lx9 l → l.length + (2 - k) < 1900000000 → yShl 4104 (F_She_addText_18_L2 R N K t0_0 t1_0 n lx7 lx8 lx9).1 (F_She_addText_18_L2 R N K t0_0 t1_0 n lx7 lx8 lx9).2 (l ++ yW18.drop k) := by
  subst hR
  have e1 : (1 : Int32).toInt = 1 := rfl
  have eN : (2 : Int32).toInt = 2 := rfl
  intro n
  induction n with
  | zero =>
    intro lx7 lx8 lx9 k l h1 h2 h3
    omega
  | succ n ih =>
    intro lx7 lx8 lx9 k l h1 h2 h3 h4 h5
    rw [F_She_addText_18_L2.eq_2]
    by_cases g : (2 : Int32) ≤ lx7
    · rw [if_pos g]
      have g := q_leI g
      obtain rfl : k = 2 := by omega
      show yShl 4104 lx8 lx9 (l ++ [])
      rw [List.append_nil]
      exact h4
    · rw [if_neg g]
      have g := q_nleI g
      obtain ⟨c1, c2, c3⟩ := y_cw18 h1 (by omega)
      have pa := V_paP4 (N := N) (K := K) h4 (by omega) c1 c2
      revert pa
      generalize F_She_add_p 4104 N K (F_jStr_charAt_18 lx7) lx8 lx9 = p
      intro pa
      unfold F_She_addText_18_c16
      have r := ih (lx7 + 1) p.1 p.2 (k + 1) _ (q_addI h1 e1 (by omega) (by omega)) (by omega) (by omega) pa (by rw [List.length_append, List.length_singleton]; omega)
      rw [c3]
      rw [List.append_assoc] at r
      exact r
theorem V_at184 {R : Int32} {N : Int32} {K : Int32} {t0_0 : Int32} {t1_0 : (Nat → Int64)} {l : List Nat} (hR : R = 4104) (h : yShl 4104 t0_0 t1_0 l) (hl : l.length < 1800000000) : yShl 4104 (F_She_addText_18 R N K t0_0 t1_0).1 (F_She_addText_18 R N K t0_0 t1_0).2 (l ++ yW18) := by
  unfold F_She_addText_18
  exact V_at18L4 hR ((2 - (0 : Int32).toInt).toNat + 1) 0 t0_0 t1_0 0 l rfl (by omega) (by decide) h (by omega)
theorem y_atpE {R N K : Int32} {x : Int64} {s : Int32} {c : Nat → Int64} : F_She_at_p R N K x s c = F_She_at R N K x s c := by
  unfold F_She_at_p F_She_at
  rfl
theorem y_reppE {R N K x v s : Int32} {c : Nat → Int64} : F_She_replace_p R N K x v s c = F_She_replace R N K x v s c := by
  unfold F_She_replace_p F_She_replace
  rfl
/-- a part of a list -/
def ySb (m : List Nat) (a b : Nat) : List Nat := (m.drop a).take (b - a)
theorem ySb_n {m : List Nat} {a : Nat} : ySb m a a = [] := by
  unfold ySb
  rw [Nat.sub_self, List.take_zero]
theorem ySb_s {m : List Nat} {a b : Nat} (h : a ≤ b) (hb : b < m.length) : ySb m a (b + 1) = ySb m a b ++ [m.getD b 0] := by
  unfold ySb
  rw [show b + 1 - a = (b - a) + 1 by omega, List.take_add_one, List.getElem?_drop, show a + (b - a) = b by omega, List.getElem?_eq_getElem hb, List.getD_eq_getElem?_getD, List.getElem?_eq_getElem hb]
  rfl
theorem ySb_all {m : List Nat} : ySb m 0 m.length = m := by
  unfold ySb
  rw [List.drop_zero, Nat.sub_zero, List.take_length]
theorem ySb_len {m : List Nat} {a b : Nat} (h : b ≤ m.length) : (ySb m a b).length = b - a := by
  unfold ySb
  rw [List.length_take, List.length_drop]
  omega
theorem y_shlV {R R32 N K s x : Int32} {r i : Nat} {c : Nat → Int64} {m : List Nat} (hr : R32.toInt = (r : Int)) (h : yShl r s c m) (hm : m.length ≤ r) (hx : x.toInt = (i : Int)) (hi : i < m.length) : (F_She_at_p R32 N K x.toInt64 s c).toInt = ((m.getD i 0 : Nat) : Int) ∧ m.getD i 0 < 256 := by
  have q := V_She_at (N := N) (K := K) (x2 := x.toInt64) (t1_0 := c) (i := (i : Int)) h.1 hr hm (by rw [Int32.toInt_toInt64]; exact hx)
  rw [if_pos ⟨by omega, by omega⟩, show ((i : Int)).toNat = i by omega, h.2 i hi (by omega)] at q
  refine ⟨by rw [y_atpE]; exact q, ?_⟩
  rw [← h.2 i hi (by omega)]
  exact ySh_lt
theorem V_cpyL {R : Int32} {N : Int32} {K : Int32} {R2 : Int32} {N2 : Int32} {K2 : Int32} {x3 : Int32} {x4 : Int32} {t0_0 : Int32} {t1_0 : (Nat → Int64)} {t2_0 : Int32} {t3_0 : (Nat → Int64)} {r r2 a b : Nat} {l m : List Nat} (hR : R.toInt = (r : Int)) (hRb : r < 2147483647) (hR2 : R2.toInt = (r2 : Int)) (h : yShl r2 t2_0 t3_0 m) (hm : m.length ≤ r2) (hb : x4.toInt = (b : Int)) (hbm : b ≤ m.length) : ∀ (n : Nat) (lx12 : Int32) (lx13 : Int32) (lx14 : (Nat → Int64)), ∀ i : Nat, lx12.toInt = (i : Int) → a ≤ i → i ≤ b → b < n + i → yShl r lx13 lx14 (l ++ ySb m a i) → l.length + m.length < 1900000000 → yShl r (F_Pri_copyInto_L3 R N K R2 N2 K2 x3 x4 t0_0 t1_0 t2_0 t3_0 n lx12 lx13 lx14).1 (F_Pri_copyInto_L3 R N K R2 N2 K2 x3 x4 t0_0 t1_0 t2_0 t3_0 n lx12 lx13 lx14).2 (l ++ ySb m a b) := by
  intro n
  induction n with
  | zero =>
    intro _ _ _ i _ _ q1 q2
    omega
  | succ n ih =>
    intro lx12 lx13 lx14 i hi h1 h2 h3 hs hl
    unfold F_Pri_copyInto_L3
    by_cases c : x4 ≤ lx12
    · rw [if_pos c]
      have c' := q_leI c
      have : i = b := by omega
      rw [← this]
      exact hs
    · rw [if_neg c]
      have c' := q_nleI c
      obtain ⟨v1, v2⟩ := y_shlV (R := R) (N := N2) (K := K2) hR2 h hm hi (by omega)
      have g := V_paG (N := N) (K := K) hR hRb hs (by rw [List.length_append, ySb_len (by omega)]; omega) v1 v2
      rw [List.append_assoc, ← ySb_s h1 (by omega)] at g
      revert g
      generalize F_She_add_p R N K (F_She_at_p R2 N2 K2 lx12.toInt64 t2_0 t3_0) lx13 lx14 = p
      intro g
      unfold F_Pri_copyInto_c17
      exact ih (lx12 + 1) p.1 p.2 (i + 1) (by
        rw [q_addI (y := 1) hi rfl (by omega) (by omega)]
        omega) (by omega) (by omega) (by omega) g hl
theorem V_cpy {R : Int32} {N : Int32} {K : Int32} {R2 : Int32} {N2 : Int32} {K2 : Int32} {x3 : Int32} {x4 : Int32} {t0_0 : Int32} {t1_0 : (Nat → Int64)} {t2_0 : Int32} {t3_0 : (Nat → Int64)} {r r2 a b : Nat} {l m : List Nat} (hR : R.toInt = (r : Int)) (hRb : r < 2147483647) (hR2 : R2.toInt = (r2 : Int)) (hd : yShl r t0_0 t1_0 l) (h : yShl r2 t2_0 t3_0 m) (hm : m.length ≤ r2) (ha : x3.toInt = (a : Int)) (hb : x4.toInt = (b : Int)) (hab : a ≤ b) (hbm : b ≤ m.length) (hl : l.length + m.length < 1900000000) : yShl r (F_Pri_copyInto R N K R2 N2 K2 x3 x4 t0_0 t1_0 t2_0 t3_0).1 (F_Pri_copyInto R N K R2 N2 K2 x3 x4 t0_0 t1_0 t2_0 t3_0).2 (l ++ ySb m a b) := by
  unfold F_Pri_copyInto
  exact V_cpyL hR hRb hR2 h hm hb hbm ((x4.toInt - x3.toInt).toNat + 1) x3 t0_0 t1_0 a ha (Nat.le_refl _) hab (by omega) (by rw [ySb_n, List.append_nil]; exact hd) hl
theorem V_adtL {R : Int32} {N : Int32} {K : Int32} {x2 : Int32} {x3 : Int32} {t0_0 : Int32} {t1_0 : (Nat → Int64)} {r k v : Nat} {l : List Nat} (hR : R.toInt = (r : Int)) (hRb : r < 2147483647) (hv : x2.toInt = (v : Int)) (hv2 : v < 256) (hk : x3.toInt ≤ (k : Int)) (hk2 : 0 ≤ x3.toInt → x3.toInt = (k : Int)) (hk3 : x3.toInt < 0 → k = 0) : ∀ (n : Nat) (lx7 : Int32) (lx8 : Int32) (lx9 : (Nat → Int64)), ∀ i : Nat, lx7.toInt = (i : Int) → i ≤ k → k < n + i → yShl r lx8 lx9 (l ++ List.replicate i v) → l.length + k < 1900000000 → yShl r (F_She_addTimes_p_L2 R N K x2 x3 t0_0 t1_0 n lx7 lx8 lx9).1 (F_She_addTimes_p_L2 R N K x2 x3 t0_0 t1_0 n lx7 lx8 lx9).2 (l ++ List.replicate k v) := by
  intro n
  induction n with
  | zero =>
    intro _ _ _ i _ q1 q2
    omega
  | succ n ih =>
    intro lx7 lx8 lx9 i hi h2 h3 hs hl
    unfold F_She_addTimes_p_L2
    by_cases c : x3 ≤ lx7
    · rw [if_pos c]
      have c' := q_leI c
      have : i = k := by
        by_cases q : 0 ≤ x3.toInt
        · have := hk2 q; omega
        · have := hk3 (by omega); omega
      rw [← this]
      exact hs
    · rw [if_neg c]
      have c' := q_nleI c
      have g := V_paG (N := N) (K := K) hR hRb hs (by rw [List.length_append, List.length_replicate]; omega) hv hv2
      rw [List.append_assoc, show List.replicate i v ++ [v] = List.replicate (i + 1) v by rw [List.replicate_succ']] at g
      revert g
      generalize F_She_add_p R N K x2 lx8 lx9 = p
      intro g
      unfold F_She_addTimes_p_c9
      exact ih (lx7 + 1) p.1 p.2 (i + 1) (by
        rw [q_addI (y := 1) hi rfl (by omega) (by omega)]
        omega) (by omega) (by omega) g hl
theorem V_adt {R : Int32} {N : Int32} {K : Int32} {x2 : Int32} {x3 : Int32} {t0_0 : Int32} {t1_0 : (Nat → Int64)} {r k v : Nat} {l : List Nat} (hR : R.toInt = (r : Int)) (hRb : r < 2147483647) (hv : x2.toInt = (v : Int)) (hv2 : v < 256) (hk : k = x3.toInt.toNat) (hk1 : k ≤ 10000) (h : yShl r t0_0 t1_0 l) (hl : l.length < 1000000000) : yShl r (F_She_addTimes_p R N K x2 x3 t0_0 t1_0).1 (F_She_addTimes_p R N K x2 x3 t0_0 t1_0).2 (l ++ List.replicate k v) := by
  unfold F_She_addTimes_p
  have e0 : (0 : Int32).toInt = 0 := rfl
  have hn : k < ((10000 : Int) - (0 : Int32).toInt).toNat + 1 := by omega
  revert hn
  generalize ((10000 : Int) - (0 : Int32).toInt).toNat + 1 = fu
  intro hn
  exact V_adtL (l := l) (k := k) (x3 := x3) hR hRb hv hv2 (by omega) (fun q => by omega) (fun q => by omega) fu 0 t0_0 t1_0 0 rfl (Nat.zero_le _) (by omega) (by rw [List.replicate_zero, List.append_nil]; exact h) (by omega)

