/-! values, for whole: texts: the class's Reader: floatText -/
/-- what floatText answers -/
def QV_ft (P T : Nat) (l : Int) (B : Nat → Int) (L : Nat) (c : Int32) (bits : Int64) : Prop := ∃ o, yFt P T l B 100000000000 L o ∧ ((o = none ∧ c = 0) ∨ (∃ g b : Nat, o = some (g, b) ∧ g ≤ 1 ∧ c = 1 ∧ yu bits = b + g * (2 ^ P * (T + 1))))
/-- a decimal as it was kept -/
theorem yKd_r {A B C : Int32} {P T M pt b : Nat} {l ex : Int} {f : Nat → Int} {v d : Nat} (hF : yF A B C P T l) (h : yuB 10 f M = v * 10 ^ d ∨ ∃ m r, v = 10 * m + 1 ∧ 10 ^ 799 ≤ m ∧ yuB 10 f M = m * 10 ^ (d + 1) + r ∧ 0 < r ∧ r < 10 ^ (d + 1)) (g : yfRnd P T l (v * 10 ^ (-((M : Int) - pt - ex - d)).toNat) (10 ^ ((M : Int) - pt - ex - d).toNat) b) : yfRnd P T l (yuB 10 f M * 10 ^ (-((M : Int) - pt - ex)).toNat) (10 ^ ((M : Int) - pt - ex).toNat) b := by
  have g2 := yf_rat g
  rcases h with h | ⟨m, r, h1, h2, h3, h4, h5⟩
  · rw [h]
    exact g2
  · rw [h3]
    refine yf_st hF h2 (r1 := 10 ^ d) (Nat.pow_pos (by decide)) ?_ h4 h5 ?_
    · rw [Nat.pow_succ _ _]
      have : 0 < 10 ^ d := Nat.pow_pos (by decide)
      omega
    · rw [h1] at g2
      rw [show m * 10 ^ (d + 1) + 10 ^ d = (10 * m + 1) * 10 ^ d by rw [Nat.pow_succ _ _]; grind]
      exact g2
theorem y_1639 : (2 : Nat) ^ 54 ≤ 16 ^ 39 := by decide +kernel
theorem V_ft89 {A : Int32} {B : Int32} {C : Int32} {t0_0 : Int64} {t0_1 : Int64} {t0_2 : Int32} {t0_3 : Int32} {t0_4 : Int32} {t0_5 : Int32} {t0_6 : Int32} {t0_7 : Int32} {t0_8 : Int32} {t0_9 : Int64} {t1_0 : Int32} {t2_0 : (Nat → Int64)} {t3_0 : Int32} {t3_1 : Int32} {t4_0 : (Nat → Int32)} {t5_0 : Int32} {t5_1 : Int32} {t6_0 : (Nat → Int32)} {t7_0 : Int32} {t7_1 : Int32} {t8_0 : (Nat → Int32)} {t9_0 : Int32} {t9_1 : Int32} {t10_0 : (Nat → Int32)} {t11_0 : Int32} {t11_1 : Int32} {t12_0 : (Nat → Int32)} {p94 : (Int64 × Int64 × Int32 × Int32 × Int32 × Int32 × Int32 × Int32 × Int32 × Int64)} {p145 : (Int64 × Int64 × Int32 × Int32 × Int32 × Int32 × Int32 × Int32 × Int32 × Int64)} {p196 : (Int64 × Int64 × Int32 × Int32 × Int32 × Int32 × Int32 × Int32 × Int32 × Int64)} {j229 : Int64} {p279 : (Int32 × Int64 × Int64 × Int32 × Int32 × Int32 × Int32 × Int32 × Int32 × Int32 × Int64)} {a245 : Int32} {lx297 : Int64} {lx298 : Int64} {lx299 : Int32} {lx300 : Int32} {lx301 : Int32} {lx302 : Int32} {lx303 : Int32} {lx304 : Int32} {lx305 : Int32} {lx306 : Int64} {lx307 : Int32} {lx308 : Int32} {lx309 : (Nat → Int32)} {P T L e s a g q M pt : Nat} {l : Int} {k gg : Int32} {f : Nat → Int} (hF : yF A B C P T l) (hs : t1_0.toInt = (L : Int)) (hL : L ≤ 4100) (h3 : lx300.toInt = (e : Int)) (ha : yBl (ySB t2_0) L 0 a) (ht : yTe (ySB t2_0) L a e) (hsq : yS1 (ySB t2_0) e a = s) (n1 : ¬ (s + 3 = e ∧ yWo (ySB t2_0) e s yNaN)) (n2 : ¬ (s + 8 = e ∧ yWo (ySB t2_0) e s yInf)) (hj : j229 = F_Flo_signBit A B C gg) (hg : (gg = 0 ∧ g = 0) ∨ (gg = 1 ∧ g = 1)) (hgz : yNz (ySB t2_0) e a = g) (hN : yNr (ySB t2_0) 100000000000 e s (some (k, yEn (ySB t2_0) e q, M, pt, f, lx306.toInt))) (hqs : s ≤ q) (hq : q ≤ e) (hpt : pt ≤ M) (hM : M ≤ e) (h2 : lx299.toInt = (q : Int)) (h5 : lx302.toInt = (M : Int) - (pt : Int)) (hxb : -1000000000000 ≤ lx306.toInt ∧ lx306.toInt ≤ 1000000000000) (hk : (a245 = 0 ∧ k = 0 ∧ yKd M f lx304 lx307 lx308 lx309) ∨ (a245 = 1 ∧ k = 1 ∧ yKp 16 40 M f lx303 lx304 lx305 lx307 lx308 lx309)) : QV_ft P T l (ySB t2_0) L (F_Rea_floatText_J89 A B C t0_0 t0_1 t0_2 t0_3 t0_4 t0_5 t0_6 t0_7 t0_8 t0_9 t1_0 t2_0 t3_0 t3_1 t4_0 t5_0 t5_1 t6_0 t7_0 t7_1 t8_0 t9_0 t9_1 t10_0 t11_0 t11_1 t12_0 p94 p145 p196 j229 p279 a245 lx297 lx298 lx299 lx300 lx301 lx302 lx303 lx304 lx305 lx306 lx307 lx308 lx309).1 (F_Rea_floatText_J89 A B C t0_0 t0_1 t0_2 t0_3 t0_4 t0_5 t0_6 t0_7 t0_8 t0_9 t1_0 t2_0 t3_0 t3_1 t4_0 t5_0 t5_1 t6_0 t7_0 t7_1 t8_0 t9_0 t9_1 t10_0 t11_0 t11_1 t12_0 p94 p145 p196 j229 p279 a245 lx297 lx298 lx299 lx300 lx301 lx302 lx303 lx304 lx305 lx306 lx307 lx308 lx309).2.2.1 := by
  have he := ht.2.1
  obtain ⟨f1, f2, f3, f4, f5, f6, f7⟩ := hF.n
  have tb : T * 2 ^ P < 2 ^ P * (T + 1) := by
    rw [Nat.mul_comm (2 ^ P), Nat.add_mul, Nat.one_mul]
    have : 0 < 2 ^ P := Nat.pow_pos (by decide)
    omega
  have gt : gg.toInt.toNat = g ∧ (gg = 0 ∨ gg = 1) ∧ g ≤ 1 := by
    rcases hg with ⟨rfl, rfl⟩ | ⟨rfl, rfl⟩
    · exact ⟨rfl, Or.inl rfl, by omega⟩
    · exact ⟨rfl, Or.inr rfl, by omega⟩
  have fe := (yFl_e (cap := 100000000000) (by decide) ha ht).2.2
  rw [hsq, hgz] at fe
  have fe := (fe n1 n2).2 k (yEn (ySB t2_0) e q) M pt f lx306.toInt hN
  have ql := yEn_le (B := ySB t2_0) hq
  have fe := fe (by omega) ql.2
  unfold F_Rea_floatText_J89
  obtain ⟨c, w, w1, w2⟩ := V_R_end (t0_0 := lx297) (t0_1 := lx298) (t0_4 := lx301) (t0_5 := lx302) (t0_6 := lx303) (t0_7 := lx304) (t0_8 := lx305) (t0_9 := lx306) (t2_0 := t2_0) hs hL h3 he h2 hq
  rw [w1]
  unfold F_Rea_floatText_c90
  rcases w2 with ⟨c0, c1⟩ | ⟨c0, c1⟩
  · rw [if_pos c0]
    exact ⟨none, ⟨none, fe.2 c1, Or.inl ⟨rfl, rfl⟩⟩, Or.inl ⟨rfl, rfl⟩⟩
  · rw [if_neg (show ¬ c = 0 by rw [c0]; decide)]
    have fl := fe.1 c1
    rcases hk with ⟨z1, z2, v, d, k1, k2, k3, k4, k5⟩ | ⟨z1, z2, v, d, kp, r, k1, kn, k2, k3, k4, k5, k6, k7, k8, k9, k10, k11⟩
    · rw [if_pos z1]
      unfold F_Rea_floatText_c170
      have x1 : (lx302 - lx304 : Int32).toInt = (M : Int) - (pt : Int) - (d : Int) := q_subI h5 k2 (by omega) (by omega)
      have x2 : ((lx302 - lx304 : Int32).toInt64 - lx306 : Int64).toInt = (M : Int) - (pt : Int) - lx306.toInt - (d : Int) := by
        rw [q_subL (q_i2l x1) rfl (by omega) (by omega)]
        omega
      obtain ⟨b, b1, b2⟩ := V_nearestDecimal (t0_0 := t5_0) (t0_1 := t5_1) (t1_0 := t6_0) (t2_0 := t7_0) (t2_1 := t7_1) (t3_0 := t8_0) (t4_0 := t9_0) (t4_1 := t9_1) (t5_0 := t10_0) (t6_0 := t11_0) (t6_1 := t11_1) (t7_0 := t12_0) hF k1 (by rw [Int.natAbs_natCast]; exact k4) x2 ⟨by omega, by omega⟩
      rw [Int.natAbs_natCast] at b2
      have b3 := yKd_r hF k5 b2
      have bl := yfRnd_le b3
      have o := y_orS hF (y_tI b1) (by omega) gt.2.1
      rw [gt.1, ← hj] at o
      exact ⟨_, ⟨_, fl, Or.inr ⟨g, k, M, pt, f, _, rfl, Or.inr (Or.inr (Or.inl ⟨z2, b, b3, rfl⟩))⟩⟩, Or.inr ⟨g, b, rfl, gt.2.2, rfl, o⟩⟩
    · rw [if_neg (show ¬ a245 = 0 by rw [z1]; decide)]
      obtain ⟨E, hE⟩ : ∃ E : Int, E = 4 * ((pt : Int) - M) + lx306.toInt := ⟨_, rfl⟩
      have x1 : (lx304 - lx302 : Int32).toInt = (d : Int) - ((M : Int) - (pt : Int)) := q_subI k6 h5 (by omega) (by omega)
      have x2 : (4 * (lx304 - lx302 : Int32).toInt64 : Int64).toInt = 4 * ((d : Int) - ((M : Int) - (pt : Int))) := q_mulL rfl (q_i2l x1) (by omega) (by omega)
      have x3 : (lx306 + 4 * (lx304 - lx302 : Int32).toInt64 : Int64).toInt = E + ((4 * d : Nat) : Int) := by
        rw [q_addL rfl x2 (by omega) (by omega)]
        omega
      obtain ⟨y1, y2⟩ := yf_ex2 (n := yuB 16 f M) (pw := E)
      obtain ⟨y3, y4⟩ := yf_add (q := E) (N := yuB 16 f M * 2 ^ E.toNat) (D := 2 ^ (-E).toNat) (k := 4 * d)
      have e16 : 2 ^ (4 * d) = 16 ^ d := by rw [Nat.pow_mul]
      have p16 : 0 < 16 ^ d := Nat.pow_pos (by decide)
      rw [y1, e16, k9] at y3 y4
      have dv : (v * 16 ^ d + r) / 16 ^ d = v := by
        rw [Nat.mul_comm, Nat.mul_add_div p16, Nat.div_eq_of_lt k10, Nat.add_zero]
      have md : (v * 16 ^ d + r) % 16 ^ d = r := by
        rw [Nat.mul_comm, Nat.mul_add_mod, Nat.mod_eq_of_lt k10]
      rw [dv] at y3
      rw [md, ← k9] at y4
      rw [← k9] at y3
      have so01 : lx305 = 0 ∨ lx305 = 1 := k11.imp (fun h => h.1) (fun h => h.1)
      have big : lx305 = 0 ∨ 2 ^ (P + 2) ≤ v := by
        rcases k11 with h | h
        · exact Or.inl h.1
        · right
          have dp : 0 < d := by
            rcases Nat.eq_zero_or_pos d with u | u
            · rw [u, Nat.pow_zero] at k10
              omega
            · exact u
          have k40 := k8 dp
          rcases k5 with u | u
          · omega
          · rw [k40] at u
            exact Nat.le_trans (Nat.pow_le_pow_right (by decide) (show P + 2 ≤ 54 by omega)) (Nat.le_trans y_1639 u)
      have rr : yfR (E + ((4 * d : Nat) : Int)) (yuB 16 f M * 2 ^ E.toNat) (2 ^ (-E).toNat) = 0 ↔ lx305 = 0 := by
        rw [y4]
        constructor
        · intro h
          rcases k11 with u | u
          · exact u.1
          · have := h.2
            omega
        · intro h
          refine ⟨y2, ?_⟩
          rcases k11 with u | u
          · exact u.2
          · rw [u.1] at h
            exact absurd h (by decide)
      obtain ⟨b, b1, b2⟩ := V_nearest (v := v) (N := yuB 16 f M * 2 ^ E.toNat) (D := 2 ^ (-E).toNat) hF k1 (Int.natAbs_natCast _) x3 ⟨by omega, by omega⟩ so01 y3 rr big (Nat.pow_pos (by decide))
      have bl := yfRnd_le b2
      have o := y_orS hF (y_tI b1) (by omega) gt.2.1
      rw [gt.1, ← hj] at o
      rw [hE] at b2
      exact ⟨_, ⟨_, fl, Or.inr ⟨g, k, M, pt, f, _, rfl, Or.inr (Or.inr (Or.inr ⟨z2, b, b2, rfl⟩))⟩⟩, Or.inr ⟨g, b, rfl, gt.2.2, rfl, o⟩⟩
