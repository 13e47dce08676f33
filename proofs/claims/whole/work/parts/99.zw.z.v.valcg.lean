/-! values, for whole: a sheet's byte replaced, a sheet turned -/
theorem y_byteX (W V : BitVec 64) (k j : Nat) (hk : k < 8) (hj : j < 8) (hV : V.toNat < 256) : (W ^^^ (V <<< (8 * k))).toNat / 2 ^ (8 * j) % 256 = if j = k then (W.toNat / 2 ^ (8 * k) % 256) ^^^ V.toNat else W.toNat / 2 ^ (8 * j) % 256 := by
  have hVb : ∀ t, 8 ≤ t → V.getLsbD t = false := fun t ht => by
    rw [← BitVec.testBit_toNat]
    exact Nat.testBit_lt_two_pow (Nat.lt_of_lt_of_le hV (Nat.pow_le_pow_right (show 2 > 0 by decide) ht))
  refine Nat.eq_of_testBit_eq (fun t => ?_)
  rw [show 256 = 2 ^ 8 from rfl, Nat.testBit_mod_two_pow, Nat.testBit_div_two_pow, BitVec.testBit_toNat]
  by_cases ht : t < 8
  · rw [decide_eq_true ht, Bool.true_and, BitVec.getLsbD_xor, BitVec.getLsbD_shiftLeft]
    by_cases c : j = k
    · subst c
      rw [if_pos rfl, Nat.testBit_xor, Nat.testBit_mod_two_pow, Nat.testBit_div_two_pow, BitVec.testBit_toNat, BitVec.testBit_toNat]
      simp [show ¬ t + 8 * j < 8 * j by omega, show t + 8 * j < 64 by omega, show t + 8 * j - 8 * j = t by omega, ht]
    · rw [if_neg c, Nat.testBit_mod_two_pow, Nat.testBit_div_two_pow, decide_eq_true ht, Bool.true_and, BitVec.testBit_toNat]
      rcases Nat.lt_or_ge j k with d | d
      · simp [show t + 8 * j < 8 * k by omega, show t + 8 * j < 64 by omega]
      · simp [show ¬ t + 8 * j < 8 * k by omega, show t + 8 * j < 64 by omega, hVb (t + 8 * j - 8 * k) (by omega)]
  · rw [decide_eq_false ht, Bool.false_and]
    by_cases c : j = k
    · rw [if_pos c, Nat.testBit_xor, Nat.testBit_mod_two_pow, decide_eq_false ht, Bool.false_and, BitVec.testBit_toNat, hVb t (by omega)]
      rfl
    · rw [if_neg c, Nat.testBit_mod_two_pow, decide_eq_false ht, Bool.false_and]
theorem y_byteY {W V : Int64} {c : Int32} {k j : Nat} (hc : c.toInt = ((8 * k : Nat) : Int)) (hk : k < 8) (hj : j < 8) (hV : yu V < 256) : yu (W ^^^ (V <<< (c.toInt64 &&& 63))) / 2 ^ (8 * j) % 256 = if j = k then (yu W / 2 ^ (8 * k) % 256) ^^^ yu V else yu W / 2 ^ (8 * j) % 256 := by
  have key : (W ^^^ (V <<< (c.toInt64 &&& 63))).toBitVec = W.toBitVec ^^^ (V.toBitVec <<< (8 * k)) := by
    have e : c = Int32.ofNat (8 * k) := Int32.toInt_inj.mp (by rw [hc, Int32.toInt_ofNat_of_lt (by omega)])
    subst e
    have k8 : k = 0 ∨ k = 1 ∨ k = 2 ∨ k = 3 ∨ k = 4 ∨ k = 5 ∨ k = 6 ∨ k = 7 := by omega
    rcases k8 with rfl | rfl | rfl | rfl | rfl | rfl | rfl | rfl <;> rfl
  show (W ^^^ (V <<< (c.toInt64 &&& 63))).toBitVec.toNat / 2 ^ (8 * j) % 256 = _
  rw [key]
  exact y_byteX _ _ k j hk hj hV
theorem y_nn32 {x : Int32} {v : Nat} (h : x.toInt = (v : Int)) : x.toBitVec.toNat = v := by
  have h0 : x.toBitVec.toInt = (v : Int) := h
  rw [BitVec.toInt_eq_toNat_cond] at h0
  have := x.toBitVec.isLt
  split at h0 <;> omega
theorem y_xor8 {a b : Int32} {m n : Nat} (ha : a.toInt = (m : Int)) (hb : b.toInt = (n : Int)) (hm : m < 256) (hn : n < 256) : yu ((a ^^^ b : Int32).toInt64) = m ^^^ n := by
  have h1 : (a ^^^ b : Int32).toBitVec.toNat = m ^^^ n := by
    rw [Int32.toBitVec_xor, BitVec.toNat_xor, y_nn32 ha, y_nn32 hb]
  have h2 : m ^^^ n < 256 := Nat.xor_lt_two_pow (n := 8) hm hn
  have h3 : (a ^^^ b : Int32).toInt = ((m ^^^ n : Nat) : Int) := by
    show (a ^^^ b : Int32).toBitVec.toInt = _
    rw [BitVec.toInt_eq_toNat_cond, h1, if_pos (by omega)]
  have h4 : (a ^^^ b : Int32).toInt64.toInt = ((m ^^^ n : Nat) : Int) := q_i2l h3
  have h5 := s_nnL (x := (a ^^^ b : Int32).toInt64) (by omega)
  show (a ^^^ b : Int32).toInt64.toBitVec.toNat = _
  omega
theorem ySh_lt {c : Nat → Int64} {i : Nat} : ySh c i < 256 := Nat.mod_lt _ (by decide)
theorem V_She_rep {R : Int32} {N : Int32} {K : Int32} {x2 : Int32} {x3 : Int32} {t0_0 : Int32} {t1_0 : (Nat → Int64)} {p n r v : Nat} (hs : t0_0.toInt = (n : Int)) (hR : R.toInt = (r : Int)) (hr : n ≤ r) (hp : x2.toInt = (p : Int)) (hpn : p < n) (hx : x3.toInt = (v : Int)) (hv : v < 256) : ∀ i, ySh (F_She_replace R N K x2 x3 t0_0 t1_0) i = if i = p then v else ySh t1_0 i := by
  have e0 : (0 : Int32).toInt = 0 := rfl
  intro i
  unfold F_She_replace
  rw [if_neg (show ¬ x2 < 0 from fun c => by have := q_ltI c; omega), if_neg (show ¬ R ≤ x2 from fun c => by have := q_leI c; omega)]
  have at_ := V_She_at (R := R) (N := N) (K := K) (x2 := x2.toInt64) (t0_0 := t0_0) (t1_0 := t1_0) (i := (p : Int)) hs hR hr (q_i2l hp)
  rw [if_pos (by omega)] at at_
  have at2 : (F_She_at R N K x2.toInt64 t0_0 t1_0).toInt = ((ySh t1_0 p : Nat) : Int) := at_
  have v255 := y_a255 hx hv
  have xr := y_xor8 at2 v255 ySh_lt hv
  obtain ⟨a1, a2, a3, a4⟩ := y_sh3 hp
  rw [a4]
  unfold ySh vp_updL
  by_cases c : i / 8 = p / 8
  · rw [if_pos c]
    have by_ := y_byteY (W := t1_0 (p / 8)) (V := ((F_She_at R N K x2.toInt64 t0_0 t1_0) ^^^ (x3 &&& 255) : Int32).toInt64) (c := 8 * (x2 &&& 7)) (k := p % 8) (j := i % 8) a3 (by omega) (by omega) (by rw [xr]; exact Nat.xor_lt_two_pow (n := 8) ySh_lt hv)
    rw [by_, xr]
    by_cases d : i = p
    · rw [if_pos (by rw [d]), if_pos d]
      show ySh t1_0 p ^^^ (ySh t1_0 p ^^^ v) = v
      rw [← Nat.xor_assoc, Nat.xor_self, Nat.zero_xor]
    · rw [if_neg (by omega), if_neg d, c]
  · rw [if_neg c, if_neg (fun d => c (by rw [d]))]
theorem V_tuL {R : Int32} {N : Int32} {K : Int32} {x2 : Int32} {t0_0 : Int32} {t1_0 : (Nat → Int64)} {f z r : Nat} {B : Nat → Nat} (hs : t0_0.toInt = (z : Int)) (hR : R.toInt = (r : Int)) (hr : z ≤ r) : ∀ (n : Nat) (lx11 : Int32) (lx12 : Int32) (lx13 : (Nat → Int64)), ∀ (l h : Nat), lx12.toInt = (l : Int) → lx11.toInt + 1 = (h : Int) → f ≤ l → l ≤ h → h ≤ z → l + h = f + z → h + 1 ≤ 2 * n + l → (∀ i, ySh lx13 i = if (f ≤ i ∧ i < l) ∨ (h ≤ i ∧ i < z) then B (f + z - 1 - i) else B i) → ∀ i, ySh (F_She_turn_L9 R N K x2 t0_0 t1_0 n lx11 lx12 lx13) i = if f ≤ i ∧ i < z then B (f + z - 1 - i) else B i := by
  have e1 : (1 : Int32).toInt = 1 := rfl
  intro n
  induction n with
  | zero =>
    intro lx11 lx12 lx13 l h h1 h2 h3 h4 h5 h6 h7
    omega
  | succ n ih =>
    intro lx11 lx12 lx13 l h h1 h2 h3 h4 h5 h6 h7 h8
    rw [F_She_turn_L9.eq_2]
    by_cases g : lx11 ≤ lx12
    · rw [if_pos g]
      have g := q_leI g
      intro i
      rw [h8 i]
      by_cases k : (f ≤ i ∧ i < l) ∨ (h ≤ i ∧ i < z)
      · rw [if_pos k, if_pos (by omega)]
      · rw [if_neg k]
        by_cases q : f ≤ i ∧ i < z
        · rw [if_pos q, show f + z - 1 - i = i from by omega]
        · rw [if_neg q]
    · rw [if_neg g]
      have g := q_nleI g
      have hh : lx11.toInt = ((h - 1 : Nat) : Int) := by omega
      have a1 := V_She_at (R := R) (N := N) (K := K) (x2 := lx11.toInt64) (t0_0 := t0_0) (t1_0 := lx13) (i := ((h - 1 : Nat) : Int)) hs hR hr (q_i2l hh)
      rw [if_pos (by omega)] at a1
      have a1' : (F_She_at R N K lx11.toInt64 t0_0 lx13).toInt = ((ySh lx13 (h - 1) : Nat) : Int) := a1
      have a2 := V_She_at (R := R) (N := N) (K := K) (x2 := lx12.toInt64) (t0_0 := t0_0) (t1_0 := lx13) (i := (l : Int)) hs hR hr (q_i2l h1)
      rw [if_pos (by omega)] at a2
      have a2' : (F_She_at R N K lx12.toInt64 t0_0 lx13).toInt = ((ySh lx13 l : Nat) : Int) := a2
      have r1 := V_She_rep (R := R) (N := N) (K := K) (t1_0 := lx13) (x2 := lx12) (x3 := F_She_at R N K lx11.toInt64 t0_0 lx13) hs hR hr h1 (by omega) a1' ySh_lt
      have r2 := V_She_rep (R := R) (N := N) (K := K) (t1_0 := F_She_replace R N K lx12 (F_She_at R N K lx11.toInt64 t0_0 lx13) t0_0 lx13) (x2 := lx11) (x3 := F_She_at R N K lx12.toInt64 t0_0 lx13) hs hR hr hh (by omega) a2' ySh_lt
      revert r2 r1
      generalize F_She_replace R N K lx11 (F_She_at R N K lx12.toInt64 t0_0 lx13) t0_0 (F_She_replace R N K lx12 (F_She_at R N K lx11.toInt64 t0_0 lx13) t0_0 lx13) = c2
      generalize F_She_replace R N K lx12 (F_She_at R N K lx11.toInt64 t0_0 lx13) t0_0 lx13 = c1
      intro r1 r2
      refine ih (lx11 + -1) (lx12 + 1) c2 (l + 1) (h - 1) (q_addI h1 e1 (by omega) (by have := q_hi32 (x := lx11); omega)) (y_dn1 hh) (by omega) (by omega) (by omega) (by omega) (by omega) ?_
      intro i
      have vl := h8 l
      have vh := h8 (h - 1)
      rw [if_neg (by omega)] at vl vh
      rw [r2 i, r1 i]
      by_cases k1 : i = h - 1
      · rw [if_pos k1, if_pos (by omega), vl, show f + z - 1 - i = l from by omega]
      · rw [if_neg k1]
        by_cases k2 : i = l
        · rw [if_pos k2, if_pos (by omega), vh, show f + z - 1 - i = h - 1 from by omega]
        · rw [if_neg k2, h8 i]
          by_cases k3 : (f ≤ i ∧ i < l) ∨ (h ≤ i ∧ i < z)
          · rw [if_pos k3, if_pos (by omega)]
          · rw [if_neg k3, if_neg (by omega)]
theorem y_gdL {a b : List Nat} {i : Nat} (h : i < a.length) : (a ++ b).getD i 0 = a.getD i 0 := by
  rw [List.getD_eq_getElem?_getD, List.getD_eq_getElem?_getD, List.getElem?_append_left h]
theorem y_gdR {a b : List Nat} {i : Nat} (h : a.length ≤ i) : (a ++ b).getD i 0 = b.getD (i - a.length) 0 := by
  rw [List.getD_eq_getElem?_getD, List.getD_eq_getElem?_getD, List.getElem?_append_right h]
theorem y_gdV {b : List Nat} {i : Nat} (h : i < b.length) : b.reverse.getD i 0 = b.getD (b.length - 1 - i) 0 := by
  rw [List.getD_eq_getElem?_getD, List.getD_eq_getElem?_getD, List.getElem?_reverse h]
theorem V_turnS {R : Int32} {N : Int32} {K : Int32} {x2 : Int32} {t0_0 : Int32} {t1_0 : (Nat → Int64)} {a b : List Nat} (h : yPa t0_0 t1_0 (a ++ b)) (hl : (a ++ b).length ≤ 11008) (hR : R = 11008) (hx : x2.toInt = (a.length : Int)) (hb : 0 < b.length) : yPa t0_0 (F_She_turn R N K x2 t0_0 t1_0) (a ++ b.reverse) := by
  subst hR
  have e1 : (1 : Int32).toInt = 1 := rfl
  have hs := h.1
  have ll : (a ++ b).length = a.length + b.length := List.length_append
  unfold F_She_turn
  have s1 := q_subI hs e1 (by omega) (by omega)
  have key := V_tuL (R := 11008) (N := N) (K := K) (x2 := x2) (t1_0 := t1_0) (f := a.length) (z := (a ++ b).length) (r := 11008) (B := ySh t1_0) hs rfl hl (((t0_0 - 1).toInt - x2.toInt).toNat + 1) (t0_0 - 1) x2 t1_0 a.length (a ++ b).length hx (by omega) (by omega) (by omega) (by omega) (by omega) (by omega) (fun i => by rw [if_neg (by omega)])
  refine ⟨?_, fun i hi hiR => ?_⟩
  · rw [hs, List.length_append, List.length_append, List.length_reverse]
  · rw [key i]
    rw [List.length_append, List.length_reverse] at hi
    by_cases k : a.length ≤ i ∧ i < (a ++ b).length
    · rw [if_pos k, h.2 _ (by omega) (by omega), y_gdR (by omega), y_gdR k.1, y_gdV (by omega), show a.length + (a ++ b).length - 1 - i - a.length = b.length - 1 - (i - a.length) from by omega]
    · rw [if_neg k, h.2 i (by omega) hiR, y_gdL (by omega), y_gdL (by omega)]
