/-! values, for whole: what the reference reads of what it has written -/
theorem y_ldG {N1 x : Int32} {t r : Nat → Int32} {L : Nat} {B : Nat → Int} (h : x.toInt = (L : Int)) (hL : L ≤ 4100) (h1 : (L : Int) ≤ N1.toInt) (h2 : N1.toInt ≤ 20200) (hT : yTr t L B) : (F_NM_load N1 x 4100 t r).1 = x ∧ yTr (F_NM_load N1 x 4100 t r).2 L B := by
  have e : (4100 : Int32).toInt = 4100 := rfl
  have q := (T_NM_load (N1 := N1) (N3 := 4100) (x2 := x) (t0_0 := t) (t1_0 := r) (by omega) (by omega) h2).2
  refine ⟨q.1, fun i hi => ?_⟩
  rw [q.2 i (by omega)]
  exact hT i hi
theorem yRt_tr {n : Int32} {t : Nat → Int32} {l : List Nat} (h : yRt n t l) : yTr t l.length (yBr l) := fun i hi => h.2 i hi
/-- the value with its sign -/
def yNv (neg : Prop) [Decidable neg] (m : Nat) : Int := if neg then -(m : Int) else (m : Int)
theorem yNv_abs {neg : Prop} [Decidable neg] {m : Nat} : (yNv neg m).natAbs = m := by
  unfold yNv
  split <;> omega
theorem y_65k2 : (65536 : Nat) ^ 128 = 2 ^ 2048 := by decide +kernel
theorem V_wrd {x2 : Int32} {x3 : Int32} {t0_0 : Int32} {t0_1 : Int32} {t0_2 : Int32} {t0_3 : Int32} {t0_4 : Int32} {t0_5 : Int32} {t0_6 : Int32} {t1_0 : (Nat → Int32)} {t2_0 : (Nat → Int32)} {t3_0 : (Nat → Int32)} {t4_0 : (Nat → Int32)} {W : Nat → Int} {neg : Prop} [Decidable neg] {d t : List Nat} (hd : yDi d) (h0 : 0 < d.length) (e : t = yMin neg ++ d) (hl : t.length ≤ 4100) (hT : yTr t1_0 t.length (yBr t)) (h2 : t0_2.toInt = (t.length : Int)) (hx : yReg x2) (hr : wRv t2_0 t3_0 W) (hb : x3 = 10) : (65536 ^ 128 ≤ yLV d 0 ∧ (F_WR_read x2 x3 t0_0 t0_1 t0_2 t0_3 t0_4 t0_5 t0_6 t1_0 t2_0 t3_0 t4_0).1 = 3 ∧ wRv (F_WR_read x2 x3 t0_0 t0_1 t0_2 t0_3 t0_4 t0_5 t0_6 t1_0 t2_0 t3_0 t4_0).2.2.2.2.2.2.2.1 (F_WR_read x2 x3 t0_0 t0_1 t0_2 t0_3 t0_4 t0_5 t0_6 t1_0 t2_0 t3_0 t4_0).2.2.2.2.2.2.2.2.1 W) ∨ (yLV d 0 < 65536 ^ 128 ∧ (F_WR_read x2 x3 t0_0 t0_1 t0_2 t0_3 t0_4 t0_5 t0_6 t1_0 t2_0 t3_0 t4_0).1 = 0 ∧ wRv (F_WR_read x2 x3 t0_0 t0_1 t0_2 t0_3 t0_4 t0_5 t0_6 t1_0 t2_0 t3_0 t4_0).2.2.2.2.2.2.2.1 (F_WR_read x2 x3 t0_0 t0_1 t0_2 t0_3 t0_4 t0_5 t0_6 t1_0 t2_0 t3_0 t4_0).2.2.2.2.2.2.2.2.1 (updW W x2.toNatClampNeg (yNv neg (yLV d 0)))) := by
  obtain ⟨w1, w2, w3, w4⟩ := y_tW hd h0 e
  have r := V_WR_read (x2 := x2) (x3 := x3) (t0_0 := t0_0) (t0_1 := t0_1) (t0_2 := t0_2) (t0_3 := t0_3) (t0_4 := t0_4) (t0_5 := t0_5) (t0_6 := t0_6) (t4_0 := t4_0) (b := 10) hT h2 hl ⟨hx.1, by have := hx.2; omega⟩ hr (by rw [hb]; rfl) (by decide)
  rw [w2] at r
  generalize F_WR_read x2 x3 t0_0 t0_1 t0_2 t0_3 t0_4 t0_5 t0_6 t1_0 t2_0 t3_0 t4_0 = p at r ⊢
  rcases r with ⟨_, r⟩ | ⟨r, _⟩
  · rcases r with ⟨a1, a2, _, a4⟩ | ⟨a1, a2, _, g, a4, a5⟩
    · exact Or.inl ⟨a1, a2, a4⟩
    · refine Or.inr ⟨a1, a2, ?_⟩
      have : g * ((yLV d 0 : Nat) : Int) = yNv neg (yLV d 0) := by
        unfold yNv
        rcases a4 with ⟨b, c⟩ | ⟨b, c⟩
        · rw [if_pos (w3.mp b), c]; omega
        · rw [if_neg (fun q => b (w3.mpr q)), c]; omega
      rw [← this]
      exact a5
  · exact absurd w1 r
theorem V_drd {x2 : Int32} {t0_0 : Int32} {t0_1 : Int32} {t0_2 : Int32} {t0_3 : Int64} {t0_4 : Int32} {t0_5 : Int32} {t0_6 : Int32} {t0_7 : Int32} {t0_8 : Int32} {t0_9 : Int32} {t0_10 : Int32} {t1_0 : (Nat → Int32)} {t2_0 : (Nat → Int32)} {t3_0 : (Nat → Int32)} {t4_0 : (Nat → Int32)} {t5_0 : (Nat → Int32)} {t6_0 : (Nat → Int32)} {D : Nat → Int × Int} {neg : Prop} [Decidable neg] {d1 d2 tl t : List Nat} (h1 : yDi d1) (h0 : 0 < d1.length) (hd2 : yDi d2) (ht : (tl = [] ∧ d2 = []) ∨ tl = 46 :: d2) (e : t = yMin neg ++ (d1 ++ tl)) (hl : t.length ≤ 4100) (hT : yTr t1_0 t.length (yBr t)) (hs : t0_1.toInt = (t.length : Int)) (hx : yReg x2) (hD : dRv t2_0 t3_0 t4_0 t5_0 D) : (dFit (yNv neg (yLV (d1 ++ d2) 0), (d2.length : Int)) ∧ (F_DR_read x2 t0_0 t0_1 t0_2 t0_3 t0_4 t0_5 t0_6 t0_7 t0_8 t0_9 t0_10 t1_0 t2_0 t3_0 t4_0 t5_0 t6_0).1 = 0 ∧ dRv (F_DR_read x2 t0_0 t0_1 t0_2 t0_3 t0_4 t0_5 t0_6 t0_7 t0_8 t0_9 t0_10 t1_0 t2_0 t3_0 t4_0 t5_0 t6_0).2.2.2.2.2.2.2.2.2.2.2.1 (F_DR_read x2 t0_0 t0_1 t0_2 t0_3 t0_4 t0_5 t0_6 t0_7 t0_8 t0_9 t0_10 t1_0 t2_0 t3_0 t4_0 t5_0 t6_0).2.2.2.2.2.2.2.2.2.2.2.2.1 (F_DR_read x2 t0_0 t0_1 t0_2 t0_3 t0_4 t0_5 t0_6 t0_7 t0_8 t0_9 t0_10 t1_0 t2_0 t3_0 t4_0 t5_0 t6_0).2.2.2.2.2.2.2.2.2.2.2.2.2.1 (F_DR_read x2 t0_0 t0_1 t0_2 t0_3 t0_4 t0_5 t0_6 t0_7 t0_8 t0_9 t0_10 t1_0 t2_0 t3_0 t4_0 t5_0 t6_0).2.2.2.2.2.2.2.2.2.2.2.2.2.2.1 (updD D x2.toNatClampNeg (yNv neg (yLV (d1 ++ d2) 0), (d2.length : Int)))) ∨ (¬ dFit (yNv neg (yLV (d1 ++ d2) 0), (d2.length : Int)) ∧ (F_DR_read x2 t0_0 t0_1 t0_2 t0_3 t0_4 t0_5 t0_6 t0_7 t0_8 t0_9 t0_10 t1_0 t2_0 t3_0 t4_0 t5_0 t6_0).1 = 3 ∧ dRv (F_DR_read x2 t0_0 t0_1 t0_2 t0_3 t0_4 t0_5 t0_6 t0_7 t0_8 t0_9 t0_10 t1_0 t2_0 t3_0 t4_0 t5_0 t6_0).2.2.2.2.2.2.2.2.2.2.2.1 (F_DR_read x2 t0_0 t0_1 t0_2 t0_3 t0_4 t0_5 t0_6 t0_7 t0_8 t0_9 t0_10 t1_0 t2_0 t3_0 t4_0 t5_0 t6_0).2.2.2.2.2.2.2.2.2.2.2.2.1 (F_DR_read x2 t0_0 t0_1 t0_2 t0_3 t0_4 t0_5 t0_6 t0_7 t0_8 t0_9 t0_10 t1_0 t2_0 t3_0 t4_0 t5_0 t6_0).2.2.2.2.2.2.2.2.2.2.2.2.2.1 (F_DR_read x2 t0_0 t0_1 t0_2 t0_3 t0_4 t0_5 t0_6 t0_7 t0_8 t0_9 t0_10 t1_0 t2_0 t3_0 t4_0 t5_0 t6_0).2.2.2.2.2.2.2.2.2.2.2.2.2.2.1 D) := by
  obtain ⟨f, w1, w2, w3⟩ := y_tD h1 h0 hd2 ht e
  obtain ⟨o, r1, r2⟩ := V_DR_read (x2 := x2) (t0_0 := t0_0) (t0_1 := t0_1) (t0_2 := t0_2) (t0_3 := t0_3) (t0_4 := t0_4) (t0_5 := t0_5) (t0_6 := t0_6) (t0_7 := t0_7) (t0_8 := t0_8) (t0_9 := t0_9) (t0_10 := t0_10) (t6_0 := t6_0) hT hs hl hx hD
  have eo : o = some (yNv neg (yLV (d1 ++ d2) 0), (d2.length : Int)) := by
    obtain ⟨z, z1, z2⟩ := r1
    rcases yDc_U z1 w1 with ⟨_, q⟩ | ⟨M, f1, f2, x, q1, q2, q3⟩
    · exact absurd q (by simp)
    · obtain ⟨e1, e2, e3⟩ : d1.length + d2.length = M ∧ f = f2 ∧ (d2.length : Int) = x := by
        injection q2 with q2
        injection q2 with a1 q2
        injection q2 with a2 a3
        exact ⟨a1, a2, a3⟩
      rcases z2 with ⟨c, _⟩ | ⟨M', f', x', g, c1, c2, c3⟩
      · rw [c] at q1
        exact absurd q1 (by simp)
      · rw [c1] at q1
        obtain ⟨k1, k2, k3⟩ : M' = M ∧ f' = f1 ∧ x' = x := by
          injection q1 with q1
          injection q1 with a1 q1
          injection q1 with a2 a3
          exact ⟨a1, a2, a3⟩
        rw [c3, k1, k2, k3, ← e3, yuB_c q3, ← e2, ← e1, w2]
        congr 2
        unfold yNv
        rcases c2 with ⟨b, c⟩ | ⟨b, c⟩
        · rw [if_pos (w3.mp b), c]; omega
        · rw [if_neg (fun q => b (w3.mpr q)), c]; omega
  generalize F_DR_read x2 t0_0 t0_1 t0_2 t0_3 t0_4 t0_5 t0_6 t0_7 t0_8 t0_9 t0_10 t1_0 t2_0 t3_0 t4_0 t5_0 t6_0 = p at r2 ⊢
  rcases r2 with ⟨a, _⟩ | ⟨q, a, r2⟩
  · rw [eo] at a
    exact absurd a (by simp)
  · rw [eo] at a
    injection a with a
    rw [a]
    rcases r2 with ⟨b1, b2, b3⟩ | ⟨b1, b2, b3⟩
    · exact Or.inl ⟨b1, b2, b3⟩
    · exact Or.inr ⟨b1, b2, b3⟩
