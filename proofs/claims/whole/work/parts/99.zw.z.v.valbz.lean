/-! values, for whole: feed on both sides, byte by byte -/
def yBy8 (x : Int64) (i : Nat) : Nat := yu x / 2 ^ (8 * i) % 256
theorem yu_int (x : Int64) : ∃ b : Int, x.toInt = (yu x : Int) - 18446744073709551616 * b := by
  have h : x.toBitVec.toInt = if 2 * x.toBitVec.toNat < 2 ^ 64 then (x.toBitVec.toNat : Int) else (x.toBitVec.toNat : Int) - ((2 ^ 64 : Nat) : Int) := BitVec.toInt_eq_toNat_cond x.toBitVec
  have e : x.toInt = x.toBitVec.toInt := rfl
  have e2 : yu x = x.toBitVec.toNat := rfl
  rw [e, e2, h]
  split
  · exact ⟨0, by omega⟩
  · exact ⟨1, by omega⟩
theorem y_asrK {x c : Int64} {k : Nat} (hk : k ≤ 56) (hc : c.toBitVec.smod 64 = BitVec.ofNat 64 k) : yu ((x >>> c) &&& 255) = yu x / 2 ^ k % 256 := by
  have h1 : (x >>> c).toInt = x.toInt / 2 ^ k := by
    show (x >>> c).toBitVec.toInt = _
    rw [Int64.toBitVec_shiftRight, hc, BitVec.sshiftRight_eq', BitVec.toInt_sshiftRight, Int.shiftRight_eq_div_pow]
    have : (BitVec.ofNat 64 k).toNat = k := by
      rw [BitVec.toNat_ofNat]
      exact Nat.mod_eq_of_lt (by omega)
    rw [this]
    rfl
  rw [y_andM (k := 8) (m := 255) (by decide)]
  obtain ⟨b, hb⟩ := yu_int x
  obtain ⟨d, hd⟩ := yu_int (x >>> c)
  rw [h1] at hd
  obtain ⟨m, hm⟩ : ∃ m, 56 = k + m := ⟨56 - k, by omega⟩
  have e64 : (18446744073709551616 : Int) = 2 ^ k * (2 ^ m * 256) := by
    rw [← Int.mul_assoc, ← Int.pow_add]
    have : k + m = 56 := by omega
    rw [this]
    rfl
  have hp : (2 : Int) ^ k ≠ 0 := by
    have : (0 : Int) < 2 ^ k := Int.pow_pos (by decide)
    omega
  have e1 : x.toInt / 2 ^ k = (yu x : Int) / 2 ^ k + (2 ^ m * 256) * (-b) := by
    rw [hb, e64, show (yu x : Int) - 2 ^ k * (2 ^ m * 256) * b = (yu x : Int) + 2 ^ k * ((2 ^ m * 256) * (-b)) from by
      rw [Int.mul_neg, Int.mul_neg, Int.sub_eq_add_neg, Int.mul_assoc], Int.add_mul_ediv_left _ _ hp]
  have e2 : ((yu x / 2 ^ k : Nat) : Int) = (yu x : Int) / 2 ^ k := by
    rw [Int.natCast_ediv, Int.natCast_pow]
    rfl
  rw [e1, ← e2] at hd
  generalize yu x / 2 ^ k = q at hd ⊢
  generalize yu (x >>> c) = r at hd ⊢
  have e3 : (2 : Int) ^ m * 256 * -b = 256 * (2 ^ m * -b) := by
    rw [Int.mul_comm (2 ^ m) 256, Int.mul_assoc]
  rw [e3] at hd
  generalize (2 : Int) ^ m * -b = w at hd
  show r % 256 = q % 256
  omega
theorem y_lt8 {a : Int32} {i : Nat} (ha : a.toInt = (i : Int)) (hi : i < 8) : a = 0 ∨ a = 1 ∨ a = 2 ∨ a = 3 ∨ a = 4 ∨ a = 5 ∨ a = 6 ∨ a = 7 := by
  have f : ∀ k : Int32, a.toInt = k.toInt → a = k := fun k e => Int32.toInt_inj.mp e
  have c : a.toInt = 0 ∨ a.toInt = 1 ∨ a.toInt = 2 ∨ a.toInt = 3 ∨ a.toInt = 4 ∨ a.toInt = 5 ∨ a.toInt = 6 ∨ a.toInt = 7 := by omega
  rcases c with e | e | e | e | e | e | e | e
  · exact Or.inl (f 0 e)
  · exact Or.inr (Or.inl (f 1 e))
  · exact Or.inr (Or.inr (Or.inl (f 2 e)))
  · exact Or.inr (Or.inr (Or.inr (Or.inl (f 3 e))))
  · exact Or.inr (Or.inr (Or.inr (Or.inr (Or.inl (f 4 e)))))
  · exact Or.inr (Or.inr (Or.inr (Or.inr (Or.inr (Or.inl (f 5 e))))))
  · exact Or.inr (Or.inr (Or.inr (Or.inr (Or.inr (Or.inr (Or.inl (f 6 e)))))))
  · exact Or.inr (Or.inr (Or.inr (Or.inr (Or.inr (Or.inr (Or.inr (f 7 e)))))))
theorem y_asr {x : Int64} {a : Int32} {i : Nat} (ha : a.toInt = (i : Int)) (hi : i < 8) : (((x >>> ((8 * a : Int32).toInt64 &&& 63)) &&& 255).toInt32).toInt = ((yBy8 x i : Nat) : Int) := by
  have key : yu ((x >>> ((8 * a : Int32).toInt64 &&& 63)) &&& 255) = yBy8 x i := by
    unfold yBy8
    have hs : ((8 * a : Int32).toInt64 &&& 63).toBitVec.smod 64 = BitVec.ofNat 64 (8 * i) := by
      rcases y_lt8 ha hi with rfl | rfl | rfl | rfl | rfl | rfl | rfl | rfl
      · obtain rfl : i = 0 := by
          have : (0 : Int32).toInt = 0 := rfl
          omega
        decide
      · obtain rfl : i = 1 := by
          have : (1 : Int32).toInt = 1 := rfl
          omega
        decide
      · obtain rfl : i = 2 := by
          have : (2 : Int32).toInt = 2 := rfl
          omega
        decide
      · obtain rfl : i = 3 := by
          have : (3 : Int32).toInt = 3 := rfl
          omega
        decide
      · obtain rfl : i = 4 := by
          have : (4 : Int32).toInt = 4 := rfl
          omega
        decide
      · obtain rfl : i = 5 := by
          have : (5 : Int32).toInt = 5 := rfl
          omega
        decide
      · obtain rfl : i = 6 := by
          have : (6 : Int32).toInt = 6 := rfl
          omega
        decide
      · obtain rfl : i = 7 := by
          have : (7 : Int32).toInt = 7 := rfl
          omega
        decide
    exact y_asrK (by omega) hs
  have hb : yBy8 x i < 256 := Nat.mod_lt _ (by decide)
  have h2 := y_toI key (by omega)
  rw [s_l2i (by omega) (by omega), h2]
theorem y_usr {x : Int64} {a : Int32} {i : Nat} (ha : a.toInt = (i : Int)) (hi : i < 8) : ((((x.toUInt64 >>> ((8 * a : Int32).toInt64.toUInt64 &&& Int64.toUInt64 63)).toInt64).toInt32 &&& 255) &&& 255 : Int32).toInt = ((yBy8 x i : Nat) : Int) := by
  have e8 : (8 : Int32).toInt = 8 := rfl
  have h8 : (8 * a : Int32).toInt = ((8 * i : Nat) : Int) := by
    have := q_mulI (x := 8) e8 ha (by omega) (by omega)
    rw [this]
    omega
  have w := w_lshr (x := x) h8 (by omega)
  have h := fx_and (k := 8) (m := 255) w (by decide) (by decide)
  have aa : ∀ z : Int32, (z &&& 255 &&& 255) = z &&& 255 := fun z => by
    rw [Int32.and_assoc]
    rfl
  rw [aa, h]
  rfl
theorem y_sheP {R N K x2 t0_0 : Int32} {t1_0 : Nat → Int64} : F_She_add_p R N K x2 t0_0 t1_0 = F_She_add R N K x2 t0_0 t1_0 := by
  unfold F_She_add_p F_She_add
  rfl
theorem V_feedL {x2 : Int32} {x3 : Int64} {t0_0 : Int32} {t1_0 : (Nat → Int64)} {lx6 : Int32} {k : Nat} (hx : x2.toInt = (k : Int)) (hk : k ≤ 8) : ∀ (n : Nat) (lx32 : Int32) (lx33 : Int32) (lx34 : (Nat → Int64)), ∀ (j m : Nat), lx32.toInt = (j : Int) → lx33.toInt = (m : Int) → j ≤ k → m + (k - j) ≤ 4100 → k - j < n → (F_NH_feed_L39 x2 x3 t0_0 t1_0 lx6 n lx32 lx33 lx34).1 = 0 ∧ (F_NH_feed_L39 x2 x3 t0_0 t1_0 lx6 n lx32 lx33 lx34).2.1.toInt = ((m + (k - j) : Nat) : Int) ∧ (F_NH_feed_L39 x2 x3 t0_0 t1_0 lx6 n lx32 lx33 lx34).2.2.1 = (F_NH_feed_L39 x2 x3 t0_0 t1_0 lx6 n lx32 lx33 lx34).2.1 ∧ ∀ i, ySh (F_NH_feed_L39 x2 x3 t0_0 t1_0 lx6 n lx32 lx33 lx34).2.2.2 i = if m ≤ i ∧ i < m + (k - j) then yBy8 x3 (j + (i - m)) else ySh lx34 i := by
  intro n
  induction n with
  | zero =>
    intro lx32 lx33 lx34 j m h1 h2 h3 h4 h5
    omega
  | succ n ih =>
    intro lx32 lx33 lx34 j m h1 h2 h3 h4 h5
    rw [F_NH_feed_L39.eq_2]
    by_cases g : x2 ≤ lx32
    · rw [if_pos g]
      have g := q_leI g
      have : k - j = 0 := by omega
      rw [this]
      refine ⟨rfl, by show lx33.toInt = _; rw [h2]; rfl, rfl, fun i => ?_⟩
      rw [if_neg (by omega)]
    · rw [if_neg g]
      have g := q_nleI g
      have hb := y_usr (x := x3) h1 (by omega)
      have h := V_She_add (R := 4100) (N := 513) (K := 4100) (t0_0 := lx33) (t1_0 := lx34) (n := m) (r := 4100) h2 rfl (by decide) (by omega) hb
      rw [y_sheP]
      revert h
      generalize F_She_add 4100 513 4100 _ lx33 lx34 = p
      intro h
      unfold F_NH_feed_c61
      have e1 : (lx32 + 1).toInt = ((j + 1 : Nat) : Int) := by
        have e : (1 : Int32).toInt = 1 := rfl
        exact q_addI h1 e (by omega) (by omega)
      obtain ⟨i1, i2, i3, i4⟩ := ih (lx32 + 1) p.1 p.2 (j + 1) (m + 1) e1 h.1 (by omega) (by omega) (by omega)
      refine ⟨i1, ?_, i3, fun i => ?_⟩
      · rw [i2]
        omega
      · rw [i4 i, h.2 i]
        by_cases c1 : i = m
        · rw [if_neg (by omega), if_pos c1, if_pos (by omega)]
          rw [c1, Nat.sub_self]
          rfl
        · by_cases c2 : m + 1 ≤ i ∧ i < m + 1 + (k - (j + 1))
          · rw [if_pos c2, if_pos (by omega), show j + 1 + (i - (m + 1)) = j + (i - m) from by omega]
          · rw [if_neg c2, if_neg c1, if_neg (by omega)]
def yFdOk (x : Int32) : Prop := 1 ≤ x.toInt ∧ x.toInt ≤ 8
theorem V_NH_feed {x2 : Int32} {x3 : Int64} {t0_0 : Int32} {t1_0 : (Nat → Int64)} {L : Nat} (hL : t0_0.toInt = (L : Int)) (hL2 : L ≤ 4100) : (¬ yFdOk x2 ∧ (F_NH_feed x2 x3 t0_0 t1_0).1 = 1 ∧ (F_NH_feed x2 x3 t0_0 t1_0).2.2.1 = t0_0 ∧ (F_NH_feed x2 x3 t0_0 t1_0).2.2.2 = t1_0) ∨ (yFdOk x2 ∧ (F_NH_feed x2 x3 t0_0 t1_0).1 = 0 ∧ ((4100 < (L : Int) + x2.toInt ∧ (F_NH_feed x2 x3 t0_0 t1_0).2.1 = -1 ∧ (F_NH_feed x2 x3 t0_0 t1_0).2.2.1 = t0_0 ∧ (F_NH_feed x2 x3 t0_0 t1_0).2.2.2 = t1_0) ∨ ∃ k : Nat, x2.toInt = (k : Int) ∧ L + k ≤ 4100 ∧ (F_NH_feed x2 x3 t0_0 t1_0).2.1.toInt = ((L + k : Nat) : Int) ∧ (F_NH_feed x2 x3 t0_0 t1_0).2.2.1 = (F_NH_feed x2 x3 t0_0 t1_0).2.1 ∧ ∀ i, ySh (F_NH_feed x2 x3 t0_0 t1_0).2.2.2 i = if L ≤ i ∧ i < L + k then yBy8 x3 (i - L) else ySh t1_0 i)) := by
  have e1 : (1 : Int32).toInt = 1 := rfl
  have e8 : (8 : Int32).toInt = 8 := rfl
  have eM : (4100 : Int32).toInt = 4100 := rfl
  have nk : ∀ {p : Int32 × Int32 × Int32 × (Nat → Int64)}, p = F_NH_feed_J15 x2 x3 t0_0 t1_0 → p.1 = 1 ∧ p.2.2.1 = t0_0 ∧ p.2.2.2 = t1_0 := by
    intro p hp
    unfold F_NH_feed_J15 F_NH_feed_J16 at hp
    rw [if_neg (show ¬ F_NH_need 0 = 0 by decide)] at hp
    rw [hp]
    exact ⟨by show F_NH_need 0 = 1; decide, rfl, rfl⟩
  unfold F_NH_feed
  by_cases c1 : x2 < 1
  · rw [if_pos c1]
    have c1 := q_ltI c1
    exact Or.inl ⟨fun h => by have := h.1; omega, nk rfl⟩
  · rw [if_neg c1]
    have c1 := q_nltI c1
    by_cases c2 : (8 : Int32) < x2
    · rw [if_pos c2]
      have c2 := q_ltI c2
      exact Or.inl ⟨fun h => by have := h.2; omega, nk rfl⟩
    · rw [if_neg c2]
      have c2 := q_nltI c2
      refine Or.inr ⟨⟨by omega, by omega⟩, ?_⟩
      unfold F_NH_feed_J16
      rw [if_pos (show F_NH_need 1 = 0 by decide)]
      have es : (t0_0 + x2).toInt = (L : Int) + x2.toInt := by
        exact q_addI hL rfl (by omega) (by omega)
      by_cases c3 : (t0_0 + x2) ≤ 4100
      · rw [if_pos c3]
        have c3 := q_leI c3
        obtain ⟨k, hk⟩ : ∃ k : Nat, x2.toInt = (k : Int) := ⟨x2.toInt.toNat, by omega⟩
        obtain ⟨i1, i2, i3, i4⟩ := V_feedL (x3 := x3) (t0_0 := t0_0) (t1_0 := t1_0) hk (by omega) ((4100 - (0 : Int32).toInt).toNat + 1) 0 t0_0 t1_0 0 L rfl hL (by omega) (by omega) (by show k - 0 < 4101; omega)
        refine ⟨i1, Or.inr ⟨k, hk, by omega, i2, i3, fun i => ?_⟩⟩
        rw [i4 i, Nat.zero_add]
        rfl
      · rw [if_neg c3]
        have c3 := q_nleI c3
        exact ⟨rfl, Or.inl ⟨by omega, rfl, rfl, rfl⟩⟩
