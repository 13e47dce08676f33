/-! values, for whole: the reference's floats of others -/
theorem y_ftx {A B' C : Int32} {P T : Nat} {l : Int} (hF : yF A B' C P T l) {neg : Prop} [Decidable neg] {d1 d2 tl z t : List Nat} {o : Option Nat} {e : Int} (h1 : yDi d1) (h0 : 0 < d1.length) (h2 : yDi d2) (ht : (tl = [] ∧ d2 = [] ∧ o = none) ∨ (tl = 46 :: d2 ∧ o = some d1.length)) (hz : yEt z e) (et : t = yMin neg ++ (d1 ++ (tl ++ z))) {r : Option (Nat × Nat)} (h : yFt P T l (yBr t) 1000000000 t.length r) : ∃ b, r = some (if neg then 1 else 0, b) ∧ yfRnd P T l (yLV (d1 ++ d2) 0 * 10 ^ (-((d2.length : Int) - e)).toNat) (10 ^ ((d2.length : Int) - e).toNat) b := by
  have c9 : (1000000000 : Nat) ≤ 1000000000 := Nat.le_refl _
  have tf := y_tF c9 h1 h0 h2 ht hz et
  have hz' : z = [] ∨ ∃ r, z = 69 :: r := by
    rcases hz with ⟨q, _⟩ | ⟨q, _⟩
    · exact Or.inl q
    · exact Or.inr ⟨_, q⟩
  obtain ⟨_, _, r3, r4, _⟩ := y_rn h1 h0 h2 ht hz' et
  have eb : -99999 ≤ e ∧ e ≤ 99999 := by
    rcases hz with ⟨_, q⟩ | ⟨_, q⟩
    · omega
    · exact q
  obtain ⟨w, w1, w2⟩ := h
  rcases yFl_U c9 c9 w1 tf with ⟨_, q⟩ | ⟨s, k, M, pt, f, f', e1, e2, q1, q2, q3, q4, _, _⟩
  · exact absurd q (by simp)
  · injection q2 with q2
    injection q2 with a1 q2
    injection q2 with a2 q2
    injection q2 with a3 q2
    injection q2 with a4 q2
    injection q2 with a5 a6
    have e12 : e1 = e := by
      rw [← a6] at q4
      rcases q4 with q | q | q
      · exact q
      · omega
      · omega
    rw [q1] at w2
    rcases w2 with ⟨q, _⟩ | ⟨g, k', M', pt', f2, e', w3, w4⟩
    · exact absurd q (by simp)
    · injection w3 with w3
      injection w3 with b1 w3
      injection w3 with b2 w3
      injection w3 with b3 w3
      injection w3 with b4 w3
      injection w3 with b5 b6
      have k0 : k' = 0 := by rw [← b2, ← a2]
      rcases w4 with ⟨q, _⟩ | ⟨q, _⟩ | ⟨_, b, c1, c2⟩ | ⟨q, _⟩
      · rw [k0] at q
        exact absurd q (by decide)
      · rw [k0] at q
        exact absurd q (by decide)
      · refine ⟨b, ?_, ?_⟩
        · rw [c2, ← b1, ← a1]
        · rw [← b5, ← b3, ← b4, ← b6, e12] at c1
          rw [yuB_c q3, ← a5, ← a3, r3, ← a4] at c1
          rw [r4] at c1
          exact c1
      · rw [k0] at q
        exact absurd q (by decide)
theorem y_dtx0 {v s : Int} {c : Nat} (hc : vG v c) (hc1 : c ≤ 1000) (hs : -10000 ≤ s ∧ s ≤ 10000) : ∃ (d1 d2 tl z : List Nat) (o : Option Nat) (e : Int), yDtx 0 v s c = yMin (v < 0) ++ (d1 ++ (tl ++ z)) ∧ yDi d1 ∧ 0 < d1.length ∧ yDi d2 ∧ ((tl = [] ∧ d2 = [] ∧ o = none) ∨ (tl = 46 :: d2 ∧ o = some d1.length)) ∧ yEt z e ∧ yLV (d1 ++ d2) 0 = v.natAbs ∧ (d2.length : Int) - e = s ∧ (yDtx 0 v s c).length ≤ 4100 := by
  have cp : 1 ≤ c := by
    rcases yDt_vG hc with ⟨_, b, _⟩ | ⟨a, h⟩
    · omega
    · rcases Nat.eq_zero_or_pos c with q | q
      · have h1 : v.natAbs < 10 ^ c := h.1
        rw [q, Nat.pow_zero] at h1
        omega
      · exact q
  have lm : (yMin (v < 0)).length ≤ 1 := yMin_l
  by_cases q : (0 : Int32) = 1 ∨ s = 0 ∨ (0 < s ∧ -6 ≤ (c : Int) - 1 - s)
  · have s0 : 0 ≤ s := by
      rcases q with q | q | q
      · exact absurd q (by decide)
      · omega
      · omega
    have sb : s ≤ 1005 := by
      rcases q with q | q | q
      · exact absurd q (by decide)
      · omega
      · omega
    obtain ⟨A, a1, a2, a3, a4, a5, a6⟩ := y_pln (s := s) hc
    have hA : A + s.toNat ≤ 1010 := by
      by_cases w : v = 0
      · have := a4 w
        omega
      · have := a3 w
        omega
    have tx : yDtx 0 v s c = yMin (v < 0) ++ (yDz v.natAbs ((A : Int) - 1 + s) A ++ yTail v.natAbs s (max s 0).toNat 0) := by
      unfold yDtx
      rw [if_pos q, a1]
    have ms : (max s 0).toNat = s.toNat := by omega
    rw [ms] at tx
    have val : yLV (yDz v.natAbs ((A : Int) - 1 + s) A ++ yDz v.natAbs (s - 1) s.toNat) 0 = v.natAbs := by
      have e1 := yDz_add (N := v.natAbs) (m := A) (n := s.toNat) (z := (A : Int) - 1 + s)
      rw [show (A : Int) - 1 + s - (A : Int) = s - 1 by omega] at e1
      rw [← e1, show (A : Int) - 1 + s = ((A + s.toNat : Nat) : Int) - 1 by omega]
      apply yLV_n
      have p : 0 < 10 ^ s.toNat := Nat.pow_pos (by decide)
      rw [Nat.pow_add]
      exact (Nat.div_lt_iff_lt_mul p).mp (a5 s0)
    have len : (yDtx 0 v s c).length ≤ 4100 := by
      rw [tx, List.length_append, List.length_append, yDz_len]
      unfold yTail
      rw [List.length_append, yDz_len]
      split
      · show _ + (_ + (1 + _)) ≤ _
        omega
      · show _ + (_ + (0 + _)) ≤ _
        omega
    by_cases w : s = 0
    · refine ⟨yDz v.natAbs ((A : Int) - 1 + s) A, [], [], [], none, 0, ?_, yDz_di, by rw [yDz_len]; exact a2, yDi_nil, Or.inl ⟨rfl, rfl, rfl⟩, Or.inl ⟨rfl, rfl⟩, ?_, ?_, len⟩
      · rw [tx]
        unfold yTail
        rw [show s.toNat = 0 by omega, if_neg (by decide)]
        rfl
      · rw [show s.toNat = 0 by omega] at val
        exact val
      · rw [w]
        rfl
    · refine ⟨yDz v.natAbs ((A : Int) - 1 + s) A, yDz v.natAbs (s - 1) s.toNat, 46 :: yDz v.natAbs (s - 1) s.toNat, [], some A, 0, ?_, yDz_di, by rw [yDz_len]; exact a2, yDz_di, Or.inr ⟨rfl, by rw [yDz_len]⟩, Or.inl ⟨rfl, rfl⟩, val, ?_, len⟩
      · rw [tx, List.append_nil]
        unfold yTail
        rw [if_pos (Or.inl (by omega))]
        rfl
      · rw [yDz_len]
        omega
  · have tx : yDtx 0 v s c = yMin (v < 0) ++ (yHead v.natAbs (if v = 0 then 0 else c) c 0 ++ yE ((c : Int) - 1 - s)) := by
      unfold yDtx
      rw [if_neg q, if_pos rfl]
    generalize hd : (if v = 0 then 0 else c) = d at tx
    have el : (yE ((c : Int) - 1 - s)).length ≤ 10 := by
      unfold yE
      rw [List.length_append, yDs_len]
      have : yCt5 ((c : Int) - 1 - s).natAbs ≤ 5 := by
        unfold yCt5
        repeat' split
        all_goals omega
      have : (69 :: ySgn ((c : Int) - 1 - s)).length = 2 := by
        unfold ySgn
        split <;> rfl
      omega
    have val : yLV ([48 + yFz v.natAbs ((d : Int) - 1)] ++ yDz v.natAbs ((d : Int) - 2) (c - 1)) 0 = v.natAbs := by
      have e1 : [48 + yFz v.natAbs ((d : Int) - 1)] ++ yDz v.natAbs ((d : Int) - 2) (c - 1) = yDz v.natAbs ((d : Int) - 1) c := by
        obtain ⟨k, hk⟩ : ∃ k, c = k + 1 := ⟨c - 1, by omega⟩
        rw [hk, show (d : Int) - 2 = (d : Int) - 1 - 1 by omega]
        rfl
      rw [e1]
      rcases yDt_vG hc with ⟨a, b, _⟩ | ⟨a, h⟩
      · rw [if_pos a] at hd
        rw [← hd, a, b]
        decide
      · rw [if_neg a] at hd
        rw [← hd]
        exact yLV_n h.1
    have d1 : yDi [48 + yFz v.natAbs ((d : Int) - 1)] := yDi_cons (by have := yFz_9 v.natAbs ((d : Int) - 1); omega) yDi_nil
    have len : (yDtx 0 v s c).length ≤ 4100 := by
      rw [tx, List.length_append, List.length_append]
      unfold yHead
      rw [List.length_append, List.length_append, yDz_len]
      split
      · show _ + (1 + 1 + _ + _) ≤ _
        omega
      · show _ + (1 + 0 + _ + _) ≤ _
        omega
    by_cases w : c = 1
    · refine ⟨[48 + yFz v.natAbs ((d : Int) - 1)], [], [], yE ((c : Int) - 1 - s), none, (c : Int) - 1 - s, ?_, d1, Nat.succ_pos _, yDi_nil, Or.inl ⟨rfl, rfl, rfl⟩, Or.inr ⟨rfl, by omega⟩, ?_, ?_, len⟩
      · rw [tx]
        unfold yHead
        rw [show c - 1 = 0 by omega, if_neg (show ¬ (1 < c ∨ (0 : Int32) ≠ 0) from fun z => z.elim (fun z => by omega) (fun z => z rfl))]
        rfl
      · rw [show c - 1 = 0 by omega] at val
        exact val
      · rw [w]
        show (0 : Int) - (((1 : Nat) : Int) - 1 - s) = s
        omega
    · refine ⟨[48 + yFz v.natAbs ((d : Int) - 1)], yDz v.natAbs ((d : Int) - 2) (c - 1), 46 :: yDz v.natAbs ((d : Int) - 2) (c - 1), yE ((c : Int) - 1 - s), some 1, (c : Int) - 1 - s, ?_, d1, Nat.succ_pos _, yDz_di, Or.inr ⟨rfl, rfl⟩, Or.inr ⟨rfl, by omega⟩, val, ?_, len⟩
      · rw [tx]
        unfold yHead
        rw [if_pos (Or.inl (by omega)), List.append_assoc, List.append_assoc]
        rfl
      · rw [yDz_len]
        omega
theorem y_uW {x : Int64} {b g : Nat} (h : x.toBitVec.toNat = b + g * 9223372036854775808) : yu x = b + g * (2 ^ 52 * (2047 + 1)) := h
def yRow (k : Int32) (P T : Nat) (l : Int) : Prop := (k = 2 ∧ P = 52 ∧ T = 2047 ∧ l = -1074) ∨ (k = 3 ∧ P = 23 ∧ T = 255 ∧ l = -149)
theorem V_tfT {x2 : Int32} {x3 : Int32} {x4 : Int32} {x5 : Int32} {t0_0 : Int32} {t0_1 : Int32} {t0_2 : Int32} {t1_0 : Int32} {t1_1 : Int32} {t1_2 : Int32} {t1_3 : Int32} {t1_4 : Int32} {t1_5 : Int32} {t1_6 : Int32} {t2_0 : (Nat → Int32)} {t3_0 : (Nat → Int32)} {t4_0 : (Nat → Int32)} {t5_0 : (Nat → Int32)} {t6_0 : Int32} {t6_1 : Int32} {t6_2 : Int32} {t6_3 : Int64} {t6_4 : Int32} {t6_5 : Int32} {t6_6 : Int32} {t6_7 : Int32} {t6_8 : Int32} {t6_9 : Int32} {t6_10 : Int32} {t7_0 : (Nat → Int32)} {t8_0 : (Nat → Int32)} {t9_0 : (Nat → Int32)} {t10_0 : (Nat → Int32)} {t11_0 : (Nat → Int32)} {t12_0 : Int32} {t12_1 : Int32} {t12_2 : Int32} {t12_3 : Int32} {t12_4 : Int64} {t12_5 : Int32} {t12_6 : Int32} {t12_7 : Int64} {t12_8 : Int32} {t12_9 : Int64} {t12_10 : Int32} {t13_0 : Int32} {t13_1 : Int32} {t13_2 : Int32} {t13_3 : Int32} {t13_4 : Int32} {t13_5 : Int32} {t13_6 : Int32} {t13_7 : Int64} {t13_8 : Int32} {t13_9 : Int32} {t13_10 : Int64} {t13_11 : Int64} {t13_12 : Int32} {t13_13 : Int32} {t14_0 : (Nat → Int32)} {t15_0 : (Nat → Int32)} {t16_0 : (Nat → Int32)} {t17_0 : (Nat → Int64)} {p383 : (Int32 × Int32 × Int32 × Int32 × Int32 × Int32 × Int32 × Int32 × (Nat → Int32) × (Nat → Int32))} {a352 : Int32} {y354 : Int32} {y355 : Int32} {y356 : Int32} {y357 : Int32} {y358 : Int32} {y359 : Int32} {y360 : Int32} {f361 : (Nat → Int32)} {f363 : (Nat → Int32)} {p413 : (Int32 × (Nat → Int32))} {P T : Nat} {l : Int} {neg : Prop} [Decidable neg] {d1 d2 tl z t : List Nat} {o : Option Nat} {e : Int} (hk : yRow x4 P T l) (h1 : yDi d1) (h0 : 0 < d1.length) (h2 : yDi d2) (ht : (tl = [] ∧ d2 = [] ∧ o = none) ∨ (tl = 46 :: d2 ∧ o = some d1.length)) (hz : yEt z e) (et : t = yMin neg ++ (d1 ++ (tl ++ z))) (hl : t.length ≤ 4100) (hT : yTr p413.2 t.length (yBr t)) (hs : p413.1.toInt = (t.length : Int)) : ∃ y b, (F_NM_toFloat_c121_6 x2 x3 x4 x5 t0_0 t0_1 t0_2 t1_0 t1_1 t1_2 t1_3 t1_4 t1_5 t1_6 t2_0 t3_0 t4_0 t5_0 t6_0 t6_1 t6_2 t6_3 t6_4 t6_5 t6_6 t6_7 t6_8 t6_9 t6_10 t7_0 t8_0 t9_0 t10_0 t11_0 t12_0 t12_1 t12_2 t12_3 t12_4 t12_5 t12_6 t12_7 t12_8 t12_9 t12_10 t13_0 t13_1 t13_2 t13_3 t13_4 t13_5 t13_6 t13_7 t13_8 t13_9 t13_10 t13_11 t13_12 t13_13 t14_0 t15_0 t16_0 t17_0 p383 a352 y354 y355 y356 y357 y358 y359 y360 f361 f363 p413).2.2.2.2.2.2.2.2.2.2.2.2.2.2.2.2.2.2.2.2.2.2.2.2.2.2.2.2.2.2.2.2.2.2.2.2.2.2.2.2.2.2.2.2.2.2.2.2.2 = F_NM_setBits x4 x5 y t0_0 t0_1 t0_2 t17_0 ∧ yfRnd P T l (yLV (d1 ++ d2) 0 * 10 ^ (-((d2.length : Int) - e)).toNat) (10 ^ ((d2.length : Int) - e).toNat) b ∧ yu y = b + (if neg then 1 else 0) * (2 ^ P * (T + 1)) := by
  unfold F_NM_toFloat_c121_6
  rcases hk with ⟨k, a, b, c⟩ | ⟨k, a, b, c⟩
  · subst a b c
    rw [if_pos k]
    obtain ⟨r, r1, r2⟩ := V_TR_bits (t0_0 := t13_0) (t0_1 := p413.1) (t0_2 := t13_2) (t0_3 := t13_3) (t0_4 := t13_4) (t0_5 := t13_5) (t0_6 := t13_6) (t0_7 := t13_7) (t0_8 := t13_8) (t0_9 := t13_9) (t0_10 := t13_10) (t0_11 := t13_11) (t0_12 := t13_12) (t0_13 := t13_13) (t2_0 := t15_0) (t3_0 := t16_0) hT hs hl
    obtain ⟨b, q1, q2⟩ := y_ftx yF_w h1 h0 h2 ht hz et r1
    generalize F_TR_bits t13_0 p413.1 t13_2 t13_3 t13_4 t13_5 t13_6 t13_7 t13_8 t13_9 t13_10 t13_11 t13_12 t13_13 p413.2 t15_0 t16_0 = p at r2 ⊢
    unfold F_NM_toFloat_c136_8
    rcases r2 with ⟨w, _⟩ | ⟨g, b', w1, _, _, w2⟩
    · rw [w] at q1
      exact absurd q1 (by simp)
    · rw [w1] at q1
      injection q1 with q1
      injection q1 with q3 q4
      refine ⟨p.1, b, rfl, q2, ?_⟩
      rw [y_uW w2, q3, q4]
  · subst a b c
    rw [if_neg (by rw [k]; decide)]
    obtain ⟨r, r1, r2⟩ := V_TR_floatBits (t0_0 := t13_0) (t0_1 := p413.1) (t0_2 := t13_2) (t0_3 := t13_3) (t0_4 := t13_4) (t0_5 := t13_5) (t0_6 := t13_6) (t0_7 := t13_7) (t0_8 := t13_8) (t0_9 := t13_9) (t0_10 := t13_10) (t0_11 := t13_11) (t0_12 := t13_12) (t0_13 := t13_13) (t2_0 := t15_0) (t3_0 := t16_0) hT hs hl
    obtain ⟨b, q1, q2⟩ := y_ftx yF_n h1 h0 h2 ht hz et r1
    generalize F_TR_floatBits t13_0 p413.1 t13_2 t13_3 t13_4 t13_5 t13_6 t13_7 t13_8 t13_9 t13_10 t13_11 t13_12 t13_13 p413.2 t15_0 t16_0 = p at r2 ⊢
    unfold F_NM_toFloat_c146_7
    rcases r2 with ⟨w, _⟩ | ⟨g, b', w1, _, _, w2⟩
    · rw [w] at q1
      exact absurd q1 (by simp)
    · rw [w1] at q1
      injection q1 with q1
      injection q1 with q3 q4
      refine ⟨p.1.toInt64 &&& 4294967295, b, rfl, q2, ?_⟩
      show (p.1.toInt64 &&& 4294967295).toBitVec.toNat = _
      rw [y_u32, w2, q3, q4]
theorem V_tfU {x2 : Int32} {x3 : Int32} {x4 : Int32} {x5 : Int32} {t0_0 : Int32} {t0_1 : Int32} {t0_2 : Int32} {t1_0 : Int32} {t1_1 : Int32} {t1_2 : Int32} {t1_3 : Int32} {t1_4 : Int32} {t1_5 : Int32} {t1_6 : Int32} {t2_0 : (Nat → Int32)} {t3_0 : (Nat → Int32)} {t4_0 : (Nat → Int32)} {t5_0 : (Nat → Int32)} {t6_0 : Int32} {t6_1 : Int32} {t6_2 : Int32} {t6_3 : Int64} {t6_4 : Int32} {t6_5 : Int32} {t6_6 : Int32} {t6_7 : Int32} {t6_8 : Int32} {t6_9 : Int32} {t6_10 : Int32} {t7_0 : (Nat → Int32)} {t8_0 : (Nat → Int32)} {t9_0 : (Nat → Int32)} {t10_0 : (Nat → Int32)} {t11_0 : (Nat → Int32)} {t12_0 : Int32} {t12_1 : Int32} {t12_2 : Int32} {t12_3 : Int32} {t12_4 : Int64} {t12_5 : Int32} {t12_6 : Int32} {t12_7 : Int64} {t12_8 : Int32} {t12_9 : Int64} {t12_10 : Int32} {t13_0 : Int32} {t13_1 : Int32} {t13_2 : Int32} {t13_3 : Int32} {t13_4 : Int32} {t13_5 : Int32} {t13_6 : Int32} {t13_7 : Int64} {t13_8 : Int32} {t13_9 : Int32} {t13_10 : Int64} {t13_11 : Int64} {t13_12 : Int32} {t13_13 : Int32} {t14_0 : (Nat → Int32)} {t15_0 : (Nat → Int32)} {t16_0 : (Nat → Int32)} {t17_0 : (Nat → Int64)} {p157 : (Int32 × Int32 × Int32 × Int32 × Int64 × Int32 × Int32 × Int32 × Int32 × Int32 × Int32 × Int32 × (Nat → Int32))} {a119 : Int32} {y121 : Int32} {y122 : Int32} {y123 : Int32} {y124 : Int64} {y125 : Int32} {y126 : Int32} {y127 : Int32} {y128 : Int32} {y129 : Int32} {y130 : Int32} {y131 : Int32} {f132 : (Nat → Int32)} {p190 : (Int32 × (Nat → Int32))} {P T : Nat} {l : Int} {neg : Prop} [Decidable neg] {d1 d2 tl z t : List Nat} {o : Option Nat} {e : Int} (hk : yRow x4 P T l) (h1 : yDi d1) (h0 : 0 < d1.length) (h2 : yDi d2) (ht : (tl = [] ∧ d2 = [] ∧ o = none) ∨ (tl = 46 :: d2 ∧ o = some d1.length)) (hz : yEt z e) (et : t = yMin neg ++ (d1 ++ (tl ++ z))) (hl : t.length ≤ 4100) (hT : yTr p190.2 t.length (yBr t)) (hs : p190.1.toInt = (t.length : Int)) : ∃ y b, (F_NM_toFloat_c121 x2 x3 x4 x5 t0_0 t0_1 t0_2 t1_0 t1_1 t1_2 t1_3 t1_4 t1_5 t1_6 t2_0 t3_0 t4_0 t5_0 t6_0 t6_1 t6_2 t6_3 t6_4 t6_5 t6_6 t6_7 t6_8 t6_9 t6_10 t7_0 t8_0 t9_0 t10_0 t11_0 t12_0 t12_1 t12_2 t12_3 t12_4 t12_5 t12_6 t12_7 t12_8 t12_9 t12_10 t13_0 t13_1 t13_2 t13_3 t13_4 t13_5 t13_6 t13_7 t13_8 t13_9 t13_10 t13_11 t13_12 t13_13 t14_0 t15_0 t16_0 t17_0 p157 a119 y121 y122 y123 y124 y125 y126 y127 y128 y129 y130 y131 f132 p190).2.2.2.2.2.2.2.2.2.2.2.2.2.2.2.2.2.2.2.2.2.2.2.2.2.2.2.2.2.2.2.2.2.2.2.2.2.2.2.2.2.2.2.2.2.2.2.2.2 = F_NM_setBits x4 x5 y t0_0 t0_1 t0_2 t17_0 ∧ yfRnd P T l (yLV (d1 ++ d2) 0 * 10 ^ (-((d2.length : Int) - e)).toNat) (10 ^ ((d2.length : Int) - e).toNat) b ∧ yu y = b + (if neg then 1 else 0) * (2 ^ P * (T + 1)) := by
  unfold F_NM_toFloat_c121
  rcases hk with ⟨k, a, b, c⟩ | ⟨k, a, b, c⟩
  · subst a b c
    rw [if_pos k]
    obtain ⟨r, r1, r2⟩ := V_TR_bits (t0_0 := t13_0) (t0_1 := p190.1) (t0_2 := t13_2) (t0_3 := t13_3) (t0_4 := t13_4) (t0_5 := t13_5) (t0_6 := t13_6) (t0_7 := t13_7) (t0_8 := t13_8) (t0_9 := t13_9) (t0_10 := t13_10) (t0_11 := t13_11) (t0_12 := t13_12) (t0_13 := t13_13) (t2_0 := t15_0) (t3_0 := t16_0) hT hs hl
    obtain ⟨b, q1, q2⟩ := y_ftx yF_w h1 h0 h2 ht hz et r1
    generalize F_TR_bits t13_0 p190.1 t13_2 t13_3 t13_4 t13_5 t13_6 t13_7 t13_8 t13_9 t13_10 t13_11 t13_12 t13_13 p190.2 t15_0 t16_0 = p at r2 ⊢
    unfold F_NM_toFloat_c136
    rcases r2 with ⟨w, _⟩ | ⟨g, b', w1, _, _, w2⟩
    · rw [w] at q1
      exact absurd q1 (by simp)
    · rw [w1] at q1
      injection q1 with q1
      injection q1 with q3 q4
      refine ⟨p.1, b, rfl, q2, ?_⟩
      rw [y_uW w2, q3, q4]
  · subst a b c
    rw [if_neg (by rw [k]; decide)]
    obtain ⟨r, r1, r2⟩ := V_TR_floatBits (t0_0 := t13_0) (t0_1 := p190.1) (t0_2 := t13_2) (t0_3 := t13_3) (t0_4 := t13_4) (t0_5 := t13_5) (t0_6 := t13_6) (t0_7 := t13_7) (t0_8 := t13_8) (t0_9 := t13_9) (t0_10 := t13_10) (t0_11 := t13_11) (t0_12 := t13_12) (t0_13 := t13_13) (t2_0 := t15_0) (t3_0 := t16_0) hT hs hl
    obtain ⟨b, q1, q2⟩ := y_ftx yF_n h1 h0 h2 ht hz et r1
    generalize F_TR_floatBits t13_0 p190.1 t13_2 t13_3 t13_4 t13_5 t13_6 t13_7 t13_8 t13_9 t13_10 t13_11 t13_12 t13_13 p190.2 t15_0 t16_0 = p at r2 ⊢
    unfold F_NM_toFloat_c146
    rcases r2 with ⟨w, _⟩ | ⟨g, b', w1, _, _, w2⟩
    · rw [w] at q1
      exact absurd q1 (by simp)
    · rw [w1] at q1
      injection q1 with q1
      injection q1 with q3 q4
      refine ⟨p.1.toInt64 &&& 4294967295, b, rfl, q2, ?_⟩
      show (p.1.toInt64 &&& 4294967295).toBitVec.toNat = _
      rw [y_u32, w2, q3, q4]
theorem V_tf {x2 : Int32} {x3 : Int32} {x4 : Int32} {x5 : Int32} {t0_0 : Int32} {t0_1 : Int32} {t0_2 : Int32} {t1_0 : Int32} {t1_1 : Int32} {t1_2 : Int32} {t1_3 : Int32} {t1_4 : Int32} {t1_5 : Int32} {t1_6 : Int32} {t2_0 : (Nat → Int32)} {t3_0 : (Nat → Int32)} {t4_0 : (Nat → Int32)} {t5_0 : (Nat → Int32)} {t6_0 : Int32} {t6_1 : Int32} {t6_2 : Int32} {t6_3 : Int64} {t6_4 : Int32} {t6_5 : Int32} {t6_6 : Int32} {t6_7 : Int32} {t6_8 : Int32} {t6_9 : Int32} {t6_10 : Int32} {t7_0 : (Nat → Int32)} {t8_0 : (Nat → Int32)} {t9_0 : (Nat → Int32)} {t10_0 : (Nat → Int32)} {t11_0 : (Nat → Int32)} {t12_0 : Int32} {t12_1 : Int32} {t12_2 : Int32} {t12_3 : Int32} {t12_4 : Int64} {t12_5 : Int32} {t12_6 : Int32} {t12_7 : Int64} {t12_8 : Int32} {t12_9 : Int64} {t12_10 : Int32} {t13_0 : Int32} {t13_1 : Int32} {t13_2 : Int32} {t13_3 : Int32} {t13_4 : Int32} {t13_5 : Int32} {t13_6 : Int32} {t13_7 : Int64} {t13_8 : Int32} {t13_9 : Int32} {t13_10 : Int64} {t13_11 : Int64} {t13_12 : Int32} {t13_13 : Int32} {t14_0 : (Nat → Int32)} {t15_0 : (Nat → Int32)} {t16_0 : (Nat → Int32)} {t17_0 : (Nat → Int64)} {W : Nat → Int} {D : Nat → Int × Int} {P T : Nat} {l : Int} {wd nr : Nat} (hk : yRow x4 P T l) (h2 : 0 ≤ x2.toInt ∧ x2.toInt ≤ 3) (h3 : yReg x3) (hr : wRv t2_0 t3_0 W) (hD : dRv t7_0 t8_0 t9_0 t10_0 D) (hw : x2.toInt = 2 → yu (F_NM_bitsOf x2 x3 t0_0 t0_1 t0_2 t17_0) = wd) (hn : x2.toInt = 3 → yu (F_NM_bitsOf x2 x3 t0_0 t0_1 t0_2 t17_0) = nr ∧ yBit 23 255 nr) : ∃ y, (F_NM_toFloat x2 x3 x4 x5 t0_0 t0_1 t0_2 t1_0 t1_1 t1_2 t1_3 t1_4 t1_5 t1_6 t2_0 t3_0 t4_0 t5_0 t6_0 t6_1 t6_2 t6_3 t6_4 t6_5 t6_6 t6_7 t6_8 t6_9 t6_10 t7_0 t8_0 t9_0 t10_0 t11_0 t12_0 t12_1 t12_2 t12_3 t12_4 t12_5 t12_6 t12_7 t12_8 t12_9 t12_10 t13_0 t13_1 t13_2 t13_3 t13_4 t13_5 t13_6 t13_7 t13_8 t13_9 t13_10 t13_11 t13_12 t13_13 t14_0 t15_0 t16_0 t17_0).2.2.2.2.2.2.2.2.2.2.2.2.2.2.2.2.2.2.2.2.2.2.2.2.2.2.2.2.2.2.2.2.2.2.2.2.2.2.2.2.2.2.2.2.2.2.2.2.2 = F_NM_setBits x4 x5 y t0_0 t0_1 t0_2 t17_0 ∧ yCvF P T l x2.toInt (W x3.toNatClampNeg) (D x3.toNatClampNeg) wd nr (yu y) := by
  have e0 : (0 : Int32).toInt = 0 := rfl
  have e1 : (1 : Int32).toInt = 1 := rfl
  have e2 : (2 : Int32).toInt = 2 := rfl
  unfold F_NM_toFloat
  by_cases f : F_NM_isFloat x2 = 0
  · rw [if_pos f]
    have f' := nm_if0 f
    by_cases g : x2 = 0
    · rw [if_pos g]
      obtain ⟨c, hc⟩ := yDB_ex (b := 10) (W x3.toNatClampNeg).natAbs (by decide)
      have w := (V_WRwr (b := 10) (x2 := x3) (x3 := 10) (t0_0 := t1_0) (t0_1 := t1_1) (t0_2 := t1_2) (t0_3 := t1_3) (t0_4 := t1_4) (t0_5 := t1_5) (t0_6 := t1_6) (t3_0 := t4_0) (t4_0 := t5_0) hr (by have := h3.1; have := h3.2; omega) rfl (by decide) hc).1
      have q := (T_WR_written (x2 := x3) (x3 := 10) (t0_0 := t1_0) (t0_1 := t1_1) (t0_2 := t1_2) (t0_3 := t1_3) (t0_4 := t1_4) (t0_5 := t1_5) (t0_6 := t1_6) (t3_0 := t4_0) (t4_0 := t5_0) hr.R).2
      revert w q
      generalize F_WR_written x3 10 t1_0 t1_1 t1_2 t1_3 t1_4 t1_5 t1_6 t2_0 t3_0 t4_0 t5_0 = p
      intro w q
      obtain ⟨d, e, d1, d2, d3⟩ := y_wtx hc
      generalize yWtx 10 (W x3.toNatClampNeg) c = t at w e
      unfold F_NM_toFloat_c70
      have hlen : t.length ≤ 2100 := by have a := w.1; have b := q.2; omega
      have ld := y_ldG (N1 := 2100) (r := t14_0) w.1 (by omega) (by show (t.length : Int) ≤ 2100; omega) (by decide) (yRt_tr w)
      generalize F_NM_load 2100 p.1 4100 p.2.2.2.2.2.2.2.2.2 t14_0 = s at ld ⊢
      obtain ⟨y, b, r1, r2, r3⟩ := V_tfT (x2 := x2) (x3 := x3) (x4 := x4) (x5 := x5) (t0_0 := t0_0) (t0_1 := t0_1) (t0_2 := t0_2) (t1_0 := t1_0) (t1_1 := t1_1) (t1_2 := t1_2) (t1_3 := t1_3) (t1_4 := t1_4) (t1_5 := t1_5) (t1_6 := t1_6) (t2_0 := t2_0) (t3_0 := t3_0) (t4_0 := t4_0) (t5_0 := t5_0) (t6_0 := t6_0) (t6_1 := t6_1) (t6_2 := t6_2) (t6_3 := t6_3) (t6_4 := t6_4) (t6_5 := t6_5) (t6_6 := t6_6) (t6_7 := t6_7) (t6_8 := t6_8) (t6_9 := t6_9) (t6_10 := t6_10) (t7_0 := t7_0) (t8_0 := t8_0) (t9_0 := t9_0) (t10_0 := t10_0) (t11_0 := t11_0) (t12_0 := t12_0) (t12_1 := t12_1) (t12_2 := t12_2) (t12_3 := t12_3) (t12_4 := t12_4) (t12_5 := t12_5) (t12_6 := t12_6) (t12_7 := t12_7) (t12_8 := t12_8) (t12_9 := t12_9) (t12_10 := t12_10) (t13_0 := t13_0) (t13_1 := t13_1) (t13_2 := t13_2) (t13_3 := t13_3) (t13_4 := t13_4) (t13_5 := t13_5) (t13_6 := t13_6) (t13_7 := t13_7) (t13_8 := t13_8) (t13_9 := t13_9) (t13_10 := t13_10) (t13_11 := t13_11) (t13_12 := t13_12) (t13_13 := t13_13) (t14_0 := t14_0) (t15_0 := t15_0) (t16_0 := t16_0) (t17_0 := t17_0) (p383 := p) (a352 := p.1) (y354 := p.2.1) (y355 := p.2.2.1) (y356 := p.2.2.2.1) (y357 := p.2.2.2.2.1) (y358 := p.2.2.2.2.2.1) (y359 := p.2.2.2.2.2.2.1) (y360 := p.2.2.2.2.2.2.2.1) (f361 := p.2.2.2.2.2.2.2.2.1) (f363 := p.2.2.2.2.2.2.2.2.2) (p413 := s) hk d1 d2 yDi_nil (Or.inl ⟨rfl, rfl, rfl⟩) (Or.inl ⟨rfl, rfl⟩) (by rw [List.append_nil, List.append_nil]; exact e) (by omega) ld.2 (by rw [ld.1]; exact w.1)
      refine ⟨y, r1, Or.inl ⟨q_eqI g, b, ?_, r3⟩⟩
      rw [List.append_nil, d3] at r2
      exact yfRnd_v (Nat.pow_pos (by decide)) (by decide) (by simp) r2
    · rw [if_neg g]
      have g' := q_neI g
      have x21 : x2.toInt = 1 := by omega
      have ix : x3.toNatClampNeg < 10 := by
        show x3.toInt.toNat < 10
        have := h3.1
        have := h3.2
        omega
      have hc : vG (D x3.toNatClampNeg).1 (t8_0 x3.toNatClampNeg).toNatClampNeg := (hD.2 _ ix).2.2.1
      have lc : (t8_0 x3.toNatClampNeg).toNatClampNeg ≤ 1000 := by
        have := (hD.2 _ ix).1
        show (t8_0 x3.toNatClampNeg).toInt.toNat ≤ 1000
        omega
      have ls : -10000 ≤ (D x3.toNatClampNeg).2 ∧ (D x3.toNatClampNeg).2 ≤ 10000 := (hD.2 _ ix).2.2.2.2.2
      have w := V_DRwr (x2 := x3) (x3 := 0) (t0_0 := t6_0) (t0_1 := t6_1) (t0_2 := t6_2) (t0_3 := t6_3) (t0_4 := t6_4) (t0_5 := t6_5) (t0_6 := t6_6) (t0_7 := t6_7) (t0_8 := t6_8) (t0_9 := t6_9) (t0_10 := t6_10) (t5_0 := t11_0) h3 hD hc (by decide)
      revert w
      generalize F_DR_written x3 0 t6_0 t6_1 t6_2 t6_3 t6_4 t6_5 t6_6 t6_7 t6_8 t6_9 t6_10 t7_0 t8_0 t9_0 t10_0 t11_0 = p
      intro w
      obtain ⟨d1, d2, tl, z, o, e, k1, k2, k3, k4, k5, k6, k7, k8, k9⟩ := y_dtx0 hc lc ls
      generalize yDtx 0 (D x3.toNatClampNeg).1 (D x3.toNatClampNeg).2 (t8_0 x3.toNatClampNeg).toNatClampNeg = t at w k1 k9
      unfold F_NM_toFloat_c82
      have ld := y_ldG (N1 := 12200) (r := t14_0) w.1 (by omega) (by show (t.length : Int) ≤ 12200; omega) (by decide) (yRt_tr w)
      generalize F_NM_load 12200 p.1 4100 p.2.2.2.2.2.2.2.2.2.2.2.2 t14_0 = s at ld ⊢
      obtain ⟨y, b, r1, r2, r3⟩ := V_tfU (x2 := x2) (x3 := x3) (x4 := x4) (x5 := x5) (t0_0 := t0_0) (t0_1 := t0_1) (t0_2 := t0_2) (t1_0 := t1_0) (t1_1 := t1_1) (t1_2 := t1_2) (t1_3 := t1_3) (t1_4 := t1_4) (t1_5 := t1_5) (t1_6 := t1_6) (t2_0 := t2_0) (t3_0 := t3_0) (t4_0 := t4_0) (t5_0 := t5_0) (t6_0 := t6_0) (t6_1 := t6_1) (t6_2 := t6_2) (t6_3 := t6_3) (t6_4 := t6_4) (t6_5 := t6_5) (t6_6 := t6_6) (t6_7 := t6_7) (t6_8 := t6_8) (t6_9 := t6_9) (t6_10 := t6_10) (t7_0 := t7_0) (t8_0 := t8_0) (t9_0 := t9_0) (t10_0 := t10_0) (t11_0 := t11_0) (t12_0 := t12_0) (t12_1 := t12_1) (t12_2 := t12_2) (t12_3 := t12_3) (t12_4 := t12_4) (t12_5 := t12_5) (t12_6 := t12_6) (t12_7 := t12_7) (t12_8 := t12_8) (t12_9 := t12_9) (t12_10 := t12_10) (t13_0 := t13_0) (t13_1 := t13_1) (t13_2 := t13_2) (t13_3 := t13_3) (t13_4 := t13_4) (t13_5 := t13_5) (t13_6 := t13_6) (t13_7 := t13_7) (t13_8 := t13_8) (t13_9 := t13_9) (t13_10 := t13_10) (t13_11 := t13_11) (t13_12 := t13_12) (t13_13 := t13_13) (t14_0 := t14_0) (t15_0 := t15_0) (t16_0 := t16_0) (t17_0 := t17_0) (p157 := p) (a119 := p.1) (y121 := p.2.1) (y122 := p.2.2.1) (y123 := p.2.2.2.1) (y124 := p.2.2.2.2.1) (y125 := p.2.2.2.2.2.1) (y126 := p.2.2.2.2.2.2.1) (y127 := p.2.2.2.2.2.2.2.1) (y128 := p.2.2.2.2.2.2.2.2.1) (y129 := p.2.2.2.2.2.2.2.2.2.1) (y130 := p.2.2.2.2.2.2.2.2.2.2.1) (y131 := p.2.2.2.2.2.2.2.2.2.2.2.1) (f132 := p.2.2.2.2.2.2.2.2.2.2.2.2) (p190 := s) hk k2 k3 k4 k5 k6 k1 k9 ld.2 (by rw [ld.1]; exact w.1)
      refine ⟨y, r1, Or.inr (Or.inl ⟨x21, b, ?_, r3⟩)⟩
      rw [k7, k8] at r2
      exact r2
  · rw [if_neg f]
    have f' := nm_if1 f
    by_cases g : x2 = x4
    · rw [if_pos g]
      refine ⟨_, rfl, ?_⟩
      rcases hk with ⟨k, a, b, c⟩ | ⟨k, a, b, c⟩
      · have x22 : x2.toInt = 2 := by rw [g, k]; rfl
        exact Or.inr (Or.inr (Or.inl ⟨x22, Or.inl ⟨a, hw x22⟩⟩))
      · have x22 : x2.toInt = 3 := by rw [g, k]; rfl
        exact Or.inr (Or.inr (Or.inr ⟨x22, Or.inl ⟨a, (hn x22).1⟩⟩))
    · rw [if_neg g]
      by_cases q : x2 = 2
      · have x22 : x2.toInt = 2 := by rw [q]; rfl
        rw [if_pos q]
        have r := V_FR_narrowed (x2 := F_NM_bitsOf x2 x3 t0_0 t0_1 t0_2 t17_0) (t0_0 := t12_0) (t0_1 := t12_1) (t0_2 := t12_2) (t0_3 := t12_3) (t0_4 := t12_4) (t0_5 := t12_5) (t0_6 := t12_6) (t0_7 := t12_7) (t0_8 := t12_8) (t0_9 := t12_9) (t0_10 := t12_10)
        rw [hw x22] at r
        generalize F_FR_narrowed (F_NM_bitsOf x2 x3 t0_0 t0_1 t0_2 t17_0) t12_0 t12_1 t12_2 t12_3 t12_4 t12_5 t12_6 t12_7 t12_8 t12_9 t12_10 = p at r ⊢
        refine ⟨p.1, rfl, Or.inr (Or.inr (Or.inl ⟨x22, Or.inr ⟨?_, r⟩⟩))⟩
        rcases hk with ⟨k, a, b, c⟩ | ⟨k, a, b, c⟩
        · exact absurd (q.trans k.symm) g
        · exact a
      · have q' := q_neI q
        have x23 : x2.toInt = 3 := by omega
        rw [if_neg q]
        have hb := (hn x23).2
        have r := V_FR_widened (x2 := F_NM_bitsOf x2 x3 t0_0 t0_1 t0_2 t17_0) (t0_0 := t12_0) (t0_1 := t12_1) (t0_2 := t12_2) (t0_3 := t12_3) (t0_4 := t12_4) (t0_5 := t12_5) (t0_6 := t12_6) (t0_7 := t12_7) (t0_8 := t12_8) (t0_9 := t12_9) (t0_10 := t12_10) (by rw [(hn x23).1]; exact Nat.lt_of_lt_of_le hb (by decide))
        rw [(hn x23).1] at r
        generalize F_FR_widened (F_NM_bitsOf x2 x3 t0_0 t0_1 t0_2 t17_0) t12_0 t12_1 t12_2 t12_3 t12_4 t12_5 t12_6 t12_7 t12_8 t12_9 t12_10 = p at r ⊢
        refine ⟨p.1, rfl, Or.inr (Or.inr (Or.inr ⟨x23, Or.inr ⟨?_, r⟩⟩))⟩
        rcases hk with ⟨k, a, b, c⟩ | ⟨k, a, b, c⟩
        · exact a
        · exact absurd (Int32.toInt_inj.mp (x23.trans (by rw [k]; rfl))) g
