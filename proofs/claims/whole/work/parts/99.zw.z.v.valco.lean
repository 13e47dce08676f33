/-! values, for whole: the class's shortest figures: prepare -/
theorem y_tenN {s n : Int32} {f : Nat → Int32} {v M : Nat} {x : Int32} {k : Nat} (h : bO 220 s n f (v : Int)) (hk : x.toNatClampNeg = k) (hM : M < 220) (hv : v * 10 ^ k < 2147483648 ^ M) : P1 220 ((v * 10 ^ k : Nat) : Int) (F_Big_timesTen 220 x s n f) := by
  have e220 : (220 : Int32).toInt = 220 := rfl
  have r := W_ten (x := x) h (M := M) (by omega) (by rw [hk, Int.natAbs_natCast]; exact hv)
  rw [hk] at r
  have e : (v : Int) * 10 ^ k = ((v * 10 ^ k : Nat) : Int) := by
    rw [Int.natCast_mul, Int.natCast_pow]
    rfl
  rw [e] at r
  exact r
theorem y_shlN {s n : Int32} {f : Nat → Int32} {v : Nat} {x : Int32} {k : Nat} (h : bO 220 s n f (v : Int)) (hk : x.toInt = (k : Int)) (hkm : k ≤ 2000) (hs : s.toInt ≤ 100) : P1 220 ((v * 2 ^ k : Nat) : Int) (F_Big_shiftLeft 220 x s n f) := by
  have e220 : (220 : Int32).toInt = 220 := rfl
  have kc : x.toNatClampNeg = k := by
    have := q_clI hk (by omega)
    omega
  have r := W_shl (x := x) h (fun _ _ => by rw [hk, e220]; omega)
  rw [kc] at r
  have e : (v : Int) * 2 ^ k = ((v * 2 ^ k : Nat) : Int) := by
    rw [Int.natCast_mul, Int.natCast_pow]
    rfl
  rw [e] at r
  exact r
theorem y_bBN {M v : Nat} (h : v < 2147483648 ^ M) : bB M (v : Int) := by
  unfold bB
  rw [Int.natAbs_natCast]
  exact h
theorem V_pr166 {A : Int32} {B : Int32} {C : Int32} {x2 : Int64} {t0_0 : Int64} {t0_1 : Int32} {t0_2 : Int32} {t1_0 : Int32} {t1_1 : Int32} {t2_0 : (Nat → Int32)} {t3_0 : Int32} {t3_1 : Int32} {t4_0 : (Nat → Int32)} {t5_0 : Int32} {t5_1 : Int32} {t6_0 : (Nat → Int32)} {t7_0 : Int32} {t7_1 : Int32} {t8_0 : (Nat → Int32)} {a39 : Int32} {p64 : (Int32 × Int32 × (Nat → Int32))} {a99 : Int32} {p123 : (Int32 × Int32 × (Nat → Int32))} {y112 : Int32} {y113 : Int32} {f114 : (Nat → Int32)} {p147 : (Int32 × Int32 × (Nat → Int32))} {p180 : (Int32 × Int32 × (Nat → Int32))} {y169 : Int32} {y170 : Int32} {f171 : (Nat → Int32)} {p204 : (Int32 × Int32 × (Nat → Int32))} {p231 : (Int32 × Int32 × (Nat → Int32))} {y220 : Int32} {y221 : Int32} {f222 : (Nat → Int32)} {p255 : (Int32 × Int32 × (Nat → Int32))} {lx273 : Int32} {lx274 : Int32} {lx275 : (Nat → Int32)} {n' Z : Nat} {qt : Prop} {p e : Int} {b' : Nat} (hZ : yZ p Z) (hp : -1074 ≤ p ∧ p ≤ 1000) (ha99 : a99.toInt = e) (he : -324 ≤ e ∧ e ≤ 308) (hn : 0 < n') (h1 : bO 220 y112 y113 f114 ((n' * 2 ^ (2 + p.toNat) : Nat) : Int)) (h2 : bO 220 y169 y170 f171 ((2 ^ (2 + (-p).toNat) : Nat) : Int)) (h3 : bO 220 y220 y221 f222 ((2 * 2 ^ p.toNat : Nat) : Int)) (h4 : bO 220 lx273 lx274 lx275 ((b' * 2 ^ p.toNat : Nat) : Int)) (hb : (qt ∧ b' = 1) ∨ (¬ qt ∧ b' = 2)) (lo : 2 ^ (2 + (-p).toNat) * 10 ^ e.toNat ≤ n' * 2 ^ (2 + p.toNat) * 10 ^ (-e).toNat) (hi : n' * 2 ^ (2 + p.toNat) * 10 ^ (-e).toNat < 100 * (2 ^ (2 + (-p).toNat) * 10 ^ e.toNat)) : ∃ (e : Int) (a u b c : Nat), (F_Flo_prepare_J166 A B C x2 t0_0 t0_1 t0_2 t1_0 t1_1 t2_0 t3_0 t3_1 t4_0 t5_0 t5_1 t6_0 t7_0 t7_1 t8_0 a39 p64 a99 p123 y112 y113 f114 p147 p180 y169 y170 f171 p204 p231 y220 y221 f222 p255 lx273 lx274 lx275).2.2.1.toInt = e ∧ (F_Flo_prepare_J166 A B C x2 t0_0 t0_1 t0_2 t1_0 t1_1 t2_0 t3_0 t3_1 t4_0 t5_0 t5_1 t6_0 t7_0 t7_1 t8_0 a39 p64 a99 p123 y112 y113 f114 p147 p180 y169 y170 f171 p204 p231 y220 y221 f222 p255 lx273 lx274 lx275).1 = t0_0 ∧ (F_Flo_prepare_J166 A B C x2 t0_0 t0_1 t0_2 t1_0 t1_1 t2_0 t3_0 t3_1 t4_0 t5_0 t5_1 t6_0 t7_0 t7_1 t8_0 a39 p64 a99 p123 y112 y113 f114 p147 p180 y169 y170 f171 p204 p231 y220 y221 f222 p255 lx273 lx274 lx275).2.1 = t0_1 ∧ bO 220 (F_Flo_prepare_J166 A B C x2 t0_0 t0_1 t0_2 t1_0 t1_1 t2_0 t3_0 t3_1 t4_0 t5_0 t5_1 t6_0 t7_0 t7_1 t8_0 a39 p64 a99 p123 y112 y113 f114 p147 p180 y169 y170 f171 p204 p231 y220 y221 f222 p255 lx273 lx274 lx275).2.2.2.1 (F_Flo_prepare_J166 A B C x2 t0_0 t0_1 t0_2 t1_0 t1_1 t2_0 t3_0 t3_1 t4_0 t5_0 t5_1 t6_0 t7_0 t7_1 t8_0 a39 p64 a99 p123 y112 y113 f114 p147 p180 y169 y170 f171 p204 p231 y220 y221 f222 p255 lx273 lx274 lx275).2.2.2.2.1 (F_Flo_prepare_J166 A B C x2 t0_0 t0_1 t0_2 t1_0 t1_1 t2_0 t3_0 t3_1 t4_0 t5_0 t5_1 t6_0 t7_0 t7_1 t8_0 a39 p64 a99 p123 y112 y113 f114 p147 p180 y169 y170 f171 p204 p231 y220 y221 f222 p255 lx273 lx274 lx275).2.2.2.2.2.1 (a : Int) ∧ bO 220 (F_Flo_prepare_J166 A B C x2 t0_0 t0_1 t0_2 t1_0 t1_1 t2_0 t3_0 t3_1 t4_0 t5_0 t5_1 t6_0 t7_0 t7_1 t8_0 a39 p64 a99 p123 y112 y113 f114 p147 p180 y169 y170 f171 p204 p231 y220 y221 f222 p255 lx273 lx274 lx275).2.2.2.2.2.2.1 (F_Flo_prepare_J166 A B C x2 t0_0 t0_1 t0_2 t1_0 t1_1 t2_0 t3_0 t3_1 t4_0 t5_0 t5_1 t6_0 t7_0 t7_1 t8_0 a39 p64 a99 p123 y112 y113 f114 p147 p180 y169 y170 f171 p204 p231 y220 y221 f222 p255 lx273 lx274 lx275).2.2.2.2.2.2.2.1 (F_Flo_prepare_J166 A B C x2 t0_0 t0_1 t0_2 t1_0 t1_1 t2_0 t3_0 t3_1 t4_0 t5_0 t5_1 t6_0 t7_0 t7_1 t8_0 a39 p64 a99 p123 y112 y113 f114 p147 p180 y169 y170 f171 p204 p231 y220 y221 f222 p255 lx273 lx274 lx275).2.2.2.2.2.2.2.2.1 (u : Int) ∧ bO 220 (F_Flo_prepare_J166 A B C x2 t0_0 t0_1 t0_2 t1_0 t1_1 t2_0 t3_0 t3_1 t4_0 t5_0 t5_1 t6_0 t7_0 t7_1 t8_0 a39 p64 a99 p123 y112 y113 f114 p147 p180 y169 y170 f171 p204 p231 y220 y221 f222 p255 lx273 lx274 lx275).2.2.2.2.2.2.2.2.2.1 (F_Flo_prepare_J166 A B C x2 t0_0 t0_1 t0_2 t1_0 t1_1 t2_0 t3_0 t3_1 t4_0 t5_0 t5_1 t6_0 t7_0 t7_1 t8_0 a39 p64 a99 p123 y112 y113 f114 p147 p180 y169 y170 f171 p204 p231 y220 y221 f222 p255 lx273 lx274 lx275).2.2.2.2.2.2.2.2.2.2.1 (F_Flo_prepare_J166 A B C x2 t0_0 t0_1 t0_2 t1_0 t1_1 t2_0 t3_0 t3_1 t4_0 t5_0 t5_1 t6_0 t7_0 t7_1 t8_0 a39 p64 a99 p123 y112 y113 f114 p147 p180 y169 y170 f171 p204 p231 y220 y221 f222 p255 lx273 lx274 lx275).2.2.2.2.2.2.2.2.2.2.2.1 (b : Int) ∧ bO 220 (F_Flo_prepare_J166 A B C x2 t0_0 t0_1 t0_2 t1_0 t1_1 t2_0 t3_0 t3_1 t4_0 t5_0 t5_1 t6_0 t7_0 t7_1 t8_0 a39 p64 a99 p123 y112 y113 f114 p147 p180 y169 y170 f171 p204 p231 y220 y221 f222 p255 lx273 lx274 lx275).2.2.2.2.2.2.2.2.2.2.2.2.1 (F_Flo_prepare_J166 A B C x2 t0_0 t0_1 t0_2 t1_0 t1_1 t2_0 t3_0 t3_1 t4_0 t5_0 t5_1 t6_0 t7_0 t7_1 t8_0 a39 p64 a99 p123 y112 y113 f114 p147 p180 y169 y170 f171 p204 p231 y220 y221 f222 p255 lx273 lx274 lx275).2.2.2.2.2.2.2.2.2.2.2.2.2.1 (F_Flo_prepare_J166 A B C x2 t0_0 t0_1 t0_2 t1_0 t1_1 t2_0 t3_0 t3_1 t4_0 t5_0 t5_1 t6_0 t7_0 t7_1 t8_0 a39 p64 a99 p123 y112 y113 f114 p147 p180 y169 y170 f171 p204 p231 y220 y221 f222 p255 lx273 lx274 lx275).2.2.2.2.2.2.2.2.2.2.2.2.2.2 (c : Int) ∧ yPrp n' Z qt e a u b c ∧ a < u ∧ u ≤ 10 * a := by
  have e0 : (0 : Int32).toInt = 0 := rfl
  have U := y_U68 hp.1 he.2
  have zE := yZ_e (e := e) hZ (by omega)
  have ac := y_cl ha99
  have an := y_cl (q_negI ha99 (by omega))
  have c70 : 100 * 2147483648 ^ 68 ≤ 2147483648 ^ 70 := by decide +kernel
  unfold F_Flo_prepare_J166
  have t1 := y_tenN h2 ac (M := 68) (by decide) U
  revert t1
  generalize F_Big_timesTen 220 a99 y169 y170 f171 = q1
  intro t1
  unfold F_Flo_prepare_c172
  have L70 : n' * 2 ^ (2 + p.toNat) * 10 ^ (-e).toNat < 2147483648 ^ 70 := Nat.lt_of_lt_of_le (Nat.lt_trans hi (Nat.mul_lt_mul_of_pos_left U (by decide))) c70
  have t2 := y_tenN h1 an (M := 70) (by decide) L70
  revert t2
  generalize F_Big_timesTen 220 (-a99) y112 y113 f114 = q2
  intro t2
  unfold F_Flo_prepare_c182
  have thr : ∀ b : Nat, b ≤ 2 → b * 2 ^ p.toNat * 10 ^ (-e).toNat ≤ n' * 2 ^ (2 + p.toNat) * 10 ^ (-e).toNat := by
    intro b hb
    refine Nat.mul_le_mul_right _ ?_
    rw [Nat.pow_add, ← Nat.mul_assoc]
    exact Nat.mul_le_mul_right _ (by omega)
  have T70 := Nat.lt_of_le_of_lt (thr 2 (by omega)) L70
  have t3 := y_tenN h3 an (M := 70) (by decide) T70
  revert t3
  generalize F_Big_timesTen 220 (-a99) y220 y221 f222 = q3
  intro t3
  unfold F_Flo_prepare_c197
  have b2 : b' ≤ 2 := by omega
  have F70 := Nat.lt_of_le_of_lt (thr b' b2) L70
  have t4 := y_tenN h4 an (M := 70) (by decide) F70
  revert t4
  generalize F_Big_timesTen 220 (-a99) lx273 lx274 lx275 = q4
  intro t4
  unfold F_Flo_prepare_c212
  have pr : yPrp n' Z qt e (n' * 2 ^ (2 + p.toNat) * 10 ^ (-e).toNat) (2 ^ (2 + (-p).toNat) * 10 ^ e.toNat) (2 * 2 ^ p.toNat * 10 ^ (-e).toNat) (b' * 2 ^ p.toNat * 10 ^ (-e).toNat) := by
    refine ⟨by omega, ?_, ?_, ?_, (y_bBN L70).mono (by decide), (y_bBN U).mono (by decide), (y_bBN T70).mono (by decide), (y_bBN F70).mono (by decide)⟩
    · rw [Nat.mul_assoc (4 * n') Z, zE, Nat.pow_add 2 2 p.toNat]
      generalize 10 ^ (1080 + e).toNat = K
      generalize 2 ^ p.toNat = Q
      generalize 10 ^ (-e).toNat = E
      show 4 * n' * (Q * E * K) = n' * (4 * Q) * E * K
      grind
    · rw [Nat.mul_assoc 2 Z, zE]
      generalize 10 ^ (1080 + e).toNat = K
      grind
    · rcases hb with ⟨k, rfl⟩ | ⟨k, rfl⟩
      · refine Or.inl ⟨k, ?_⟩
        rw [zE, Nat.one_mul]
      · refine Or.inr ⟨k, ?_⟩
        rw [Nat.mul_assoc 2 Z, zE]
        generalize 10 ^ (1080 + e).toNat = K
        grind
  obtain ⟨e', u', r⟩ := V_prL (A := A) (B := B) (C := C) (x2 := x2) (t0_0 := t0_0) (t0_1 := t0_1) (t0_2 := t0_2) (t1_0 := t1_0) (t1_1 := t1_1) (t2_0 := t2_0) (t3_0 := t3_0) (t3_1 := t3_1) (t4_0 := t4_0) (t5_0 := t5_0) (t5_1 := t5_1) (t6_0 := t6_0) (t7_0 := t7_0) (t7_1 := t7_1) (t8_0 := t8_0) (u0 := 2 ^ (2 + (-p).toNat) * 10 ^ e.toNat) (e0 := e) t2 t3 t4 hi (y_bBN U) (by omega) ((3 - (0 : Int32).toInt).toNat + 1) 0 a99 q1.1 q1.2.1 q1.2.2 0 _ rfl (by omega) (by decide) (by rw [ha99]; omega) t1 (by rw [Nat.pow_zero, Nat.mul_one]) (by rw [show e + ((0 : Nat) : Int) = e from by omega]; exact pr) (by omega)
  exact ⟨e', _, u', _, _, r⟩
