/-! values, for whole: the reference's DecimalRows: quotient -/
theorem r_7n {b st : Int32} {t : Int} (h : ¬ (t % 10 = 0 ∧ st = 0)) : rGr 7 b st t = 2 := by
  unfold rGr
  rw [if_neg (by decide), if_neg (by decide), if_neg (by decide), if_neg (by decide), if_neg (by decide), if_neg (by decide), if_neg (by decide), if_neg h]
theorem sSht_7 {b st : Int32} {p : Nat} {t wish w : Int} (h : ¬ (t % 10 = 0 ∧ st = 0)) : sSht 7 b st p t wish w = none := by
  unfold sSht
  rw [if_neg h]
  unfold sRnd
  rw [if_pos (r_7n h)]
  rfl
theorem sgI_n0 {b : Int32} : sgI b 0 = 0 := by
  unfold sgI
  split <;> rfl
theorem V_qt254 {K_F_DR_quotient_L127 : Int32 → Int32 → Int32 → Int32 → Int64 → Int32 → Int32 → Int32 → Int32 → Int32 → Int32 → Int32 → (Nat → Int32) → (Nat → Int32) → (Int32 × Int32 × Int32 × Int64 × Int32 × Int32 × Int32 × Int32 × Int32 × Int32 × Int32 × (Nat → Int32) × (Nat → Int32) × (Nat → Int32) × (Nat → Int32) × (Nat → Int32) × (Nat → Int32) × (Nat → Int32))} {K_F_DR_quotient_L165 : Int32 → Int32 → Int32 → Int64 → Int32 → Int32 → Int32 → Int32 → Int32 → Int32 → Int32 → (Nat → Int32) → (Nat → Int32) → (Int32 × Int32 × Int32 × Int64 × Int32 × Int32 × Int32 × Int32 × Int32 × Int32 × Int32 × (Nat → Int32) × (Nat → Int32) × (Nat → Int32) × (Nat → Int32) × (Nat → Int32) × (Nat → Int32) × (Nat → Int32))} {x2 : Int32} {x3 : Int32} {x4 : Int32} {x5 : Int32} {x6 : Int32} {t0_0 : Int32} {t0_1 : Int32} {t0_2 : Int32} {t0_3 : Int64} {t0_4 : Int32} {t0_5 : Int32} {t0_6 : Int32} {t0_7 : Int32} {t0_8 : Int32} {t0_9 : Int32} {t0_10 : Int32} {t1_0 : (Nat → Int32)} {t2_0 : (Nat → Int32)} {t3_0 : (Nat → Int32)} {t4_0 : (Nat → Int32)} {t5_0 : (Nat → Int32)} {t6_0 : (Nat → Int32)} {t7_0 : (Nat → Int32)} {lx45 : Int32} {j82 : Int64} {lx85 : Int32} {p151 : (Int32 × Int32 × Int32 × Int64 × Int32 × Int32 × Int32 × Int32 × Int32 × Int32 × Int32 × (Nat → Int32))} {f117 : (Nat → Int32)} {p212 : (Int32 × Int32 × Int32 × Int64 × Int32 × Int32 × Int32 × Int32 × Int32 × Int32 × Int32 × (Nat → Int32))} {lx234 : Int32} {lx235 : Int32} {lx236 : Int32} {lx237 : Int32} {lx238 : Int64} {lx239 : Int32} {lx240 : Int32} {lx241 : Int32} {lx242 : Int32} {lx243 : Int32} {lx244 : Int32} {lx245 : Int32} {lx246 : (Nat → Int32)} {lx247 : (Nat → Int32)} {lx298 : Int32} {lx299 : Int32} {lx300 : Int32} {lx301 : Int64} {lx302 : Int32} {lx303 : Int32} {lx304 : Int32} {lx305 : Int32} {lx306 : Int32} {lx307 : Int32} {lx308 : Int32} {lx309 : (Nat → Int32)} {lx310 : (Nat → Int32)} {a372 : Int32} {lx383 : Int32} {lx402 : Int32} {lx403 : (Nat → Int32)} {D : Nat → Int × Int} {a b : Int × Int} {v L : Int} {i n P : Nat} {M : Int32} (hD : dRv t1_0 t2_0 t3_0 t4_0 D) (hx4 : 0 ≤ x4.toInt ∧ x4.toInt ≤ 9) (h5 : 0 ≤ x5.toInt ∧ x5.toInt ≤ 1000) (hP : (x5.toInt = 0 ∧ P = 1000 ∧ M = 7) ∨ (x5.toInt = (P : Int) ∧ 1 ≤ P ∧ M = x6)) (hT : gT v lx402 lx403) (hn : lx402.toInt = (n : Int)) (hn2 : n ≤ 4000) (hi : i ≤ 4000) (hj : j82.toInt = a.2 - b.2) (hj2 : -20000 ≤ a.2 - b.2 ∧ a.2 - b.2 ≤ 20000) (hs : lx301.toInt = a.2 - b.2 + (i : Int)) (b0 : b.1 ≠ 0) (ha : a.1.natAbs < 10 ^ 1000) (hY : (a.1.natAbs : Int) * 10 ^ i = v * (b.1.natAbs : Int) + L) (hr : 0 ≤ L ∧ L < (b.1.natAbs : Int)) (hst : (a372 = 0 ∨ a372 = 1) ∧ (a372 = 0 ↔ L = 0)) (hnp : L = 0 ∨ P + 1 ≤ n) (hx : L = 0 → i = 0 ∨ v % 10 ≠ 0) (hg : lx383 = sXor (sF a.1) (sF b.1)) (h308 : lx308 = 2) : ∃ o, sQ P M a b o ∧ dAn x4 D o lx298 2 (F_DR_quotient_J254 K_F_DR_quotient_L127 K_F_DR_quotient_L165 x2 x3 x4 x5 x6 t0_0 t0_1 t0_2 t0_3 t0_4 t0_5 t0_6 t0_7 t0_8 t0_9 t0_10 t1_0 t2_0 t3_0 t4_0 t5_0 t6_0 t7_0 lx45 j82 lx85 p151 f117 p212 lx234 lx235 lx236 lx237 lx238 lx239 lx240 lx241 lx242 lx243 lx244 lx245 lx246 lx247 lx298 lx299 lx300 lx301 lx302 lx303 lx304 lx305 lx306 lx307 lx308 lx309 lx310 a372 lx383 lx402 lx403).1 (F_DR_quotient_J254 K_F_DR_quotient_L127 K_F_DR_quotient_L165 x2 x3 x4 x5 x6 t0_0 t0_1 t0_2 t0_3 t0_4 t0_5 t0_6 t0_7 t0_8 t0_9 t0_10 t1_0 t2_0 t3_0 t4_0 t5_0 t6_0 t7_0 lx45 j82 lx85 p151 f117 p212 lx234 lx235 lx236 lx237 lx238 lx239 lx240 lx241 lx242 lx243 lx244 lx245 lx246 lx247 lx298 lx299 lx300 lx301 lx302 lx303 lx304 lx305 lx306 lx307 lx308 lx309 lx310 a372 lx383 lx402 lx403).2.2.2.2.2.2.2.2.2.2.2.1 (F_DR_quotient_J254 K_F_DR_quotient_L127 K_F_DR_quotient_L165 x2 x3 x4 x5 x6 t0_0 t0_1 t0_2 t0_3 t0_4 t0_5 t0_6 t0_7 t0_8 t0_9 t0_10 t1_0 t2_0 t3_0 t4_0 t5_0 t6_0 t7_0 lx45 j82 lx85 p151 f117 p212 lx234 lx235 lx236 lx237 lx238 lx239 lx240 lx241 lx242 lx243 lx244 lx245 lx246 lx247 lx298 lx299 lx300 lx301 lx302 lx303 lx304 lx305 lx306 lx307 lx308 lx309 lx310 a372 lx383 lx402 lx403).2.2.2.2.2.2.2.2.2.2.2.2.1 (F_DR_quotient_J254 K_F_DR_quotient_L127 K_F_DR_quotient_L165 x2 x3 x4 x5 x6 t0_0 t0_1 t0_2 t0_3 t0_4 t0_5 t0_6 t0_7 t0_8 t0_9 t0_10 t1_0 t2_0 t3_0 t4_0 t5_0 t6_0 t7_0 lx45 j82 lx85 p151 f117 p212 lx234 lx235 lx236 lx237 lx238 lx239 lx240 lx241 lx242 lx243 lx244 lx245 lx246 lx247 lx298 lx299 lx300 lx301 lx302 lx303 lx304 lx305 lx306 lx307 lx308 lx309 lx310 a372 lx383 lx402 lx403).2.2.2.2.2.2.2.2.2.2.2.2.2.1 (F_DR_quotient_J254 K_F_DR_quotient_L127 K_F_DR_quotient_L165 x2 x3 x4 x5 x6 t0_0 t0_1 t0_2 t0_3 t0_4 t0_5 t0_6 t0_7 t0_8 t0_9 t0_10 t1_0 t2_0 t3_0 t4_0 t5_0 t6_0 t7_0 lx45 j82 lx85 p151 f117 p212 lx234 lx235 lx236 lx237 lx238 lx239 lx240 lx241 lx242 lx243 lx244 lx245 lx246 lx247 lx298 lx299 lx300 lx301 lx302 lx303 lx304 lx305 lx306 lx307 lx308 lx309 lx310 a372 lx383 lx402 lx403).2.2.2.2.2.2.2.2.2.2.2.2.2.2.1 := by
  have e00 : (0 : Int32).toNatClampNeg = 0 := rfl
  have e0 : (0 : Int32).toInt = 0 := rfl
  have e0L : (0 : Int64).toInt = 0 := rfl
  have eKL : (1000 : Int64).toInt = 1000 := rfl
  have hB : 0 < (b.1.natAbs : Int) := by omega
  obtain ⟨g1, g2, g3, g4⟩ := hT
  have nc := q_clI hn (by omega)
  have nx : lx402.toNatClampNeg = n := by omega
  have g2' := g2
  have g3' := g3
  have g4' := g4
  rw [nx] at g2' g3' g4'
  have v0 : 0 ≤ v := by
    rw [← g3]
    exact u_nn g2
  have hb : lx383 = 0 ∨ lx383 = 1 := by
    rw [hg]
    exact sXor_01
  have vL : v = 0 → L = 0 := fun h => hnp.resolve_right (fun h2 => by
    have h3 := g4'.2 h
    have h4 : 1 ≤ P := by
      rcases hP with ⟨_, h, _⟩ | ⟨_, h, _⟩ <;> omega
    omega)
  have av : v = 0 → a.1 = 0 := fun h => by
    rw [h, vL h, Int.zero_mul, Int.add_zero] at hY
    rcases Int.mul_eq_zero.mp hY with h1 | h1
    · omega
    · exact absurd h1 (Int.ne_of_gt (u_pos i))
  have va : v ≠ 0 → a.1 ≠ 0 := fun h h2 => by
    have h3 := Int.mul_pos (show 0 < v by omega) hB
    rw [h2, show ((0 : Int).natAbs : Int) = 0 from rfl, Int.zero_mul] at hY
    omega
  have f0 : lx403 0 = 0 ↔ v = 0 := by
    constructor
    · intro h
      by_cases z : v = 0
      · exact z
      · exact absurd h (u_ld g2 (by omega) (by rw [g3]; exact g4) (by rw [g3]; exact z))
    · intro h
      exact u_hd g2 (by omega) (by rw [g3]; exact h)
  have sp : v ≠ 0 → sQ P M a b ((sSht M lx383 (rSt v (n - P) a372) P ((10 * v * 10 ^ (P - n)) / 10 ^ (n - P)) (a.2 - b.2) (a.2 - b.2 + (i : Int) + (P : Int) - (n : Int))).map (fun q => (sgI lx383 q.1, q.2))) := fun h => by
    obtain ⟨s1, s2⟩ := q_tz (z := (i : Int) + (P : Int) - (n : Int)) (e1 := P - n) (e2 := n - P) b0 hY hr (by omega) (by omega) (hnp.imp id (fun h => ⟨by omega, by omega⟩))
    have r1 := q_rng (p := P) g4' (by omega)
    refine Or.inr (Or.inr ⟨b0, va h, (i : Int) + (P : Int) - (n : Int), by rw [s1]; exact r1.1, by rw [s1]; exact r1.2, ?_⟩)
    rw [q_sht (m := M) (g := lx383) (st := a372) (p := P) (n := n) (w := a.2 - b.2) (wish := a.2 - b.2) (z := (i : Int) + (P : Int) - (n : Int)) b0 hY hr rfl hst.2 hnp, hg]
  have hYE : wE ((a.1.natAbs : Int) * 10 ^ i) (v * (b.1.natAbs : Int) + L) := hY
  clear hY
  unfold F_DR_quotient_J254
  rw [e00]
  by_cases c5 : x5 ≤ 0
  · have c5' := q_leI c5
    obtain ⟨p1, p2, p3⟩ : x5.toInt = 0 ∧ P = 1000 ∧ M = 7 := hP.resolve_right (fun h => by omega)
    subst p2 p3
    rw [if_pos c5]
    by_cases ca : a372 = 0
    · have L0 := hst.2.mp ca
      rw [if_pos ca]
      by_cases vz : v = 0
      · rw [if_pos (f0.mpr vz)]
        have hst := dSv_e (V_DR_store (x2 := x4) (t0_0 := lx298) (t0_1 := lx299) (t0_2 := lx402) (t0_3 := j82) (t0_4 := a372) (t0_5 := lx383) (t0_6 := lx304) (t0_7 := lx305) (t0_8 := lx306) (t0_9 := lx307) (t0_10 := lx308) (t5_0 := lx403) hD hx4 hb ⟨by omega, g1.2⟩ g2 g3) rfl rfl h308 hj
        generalize F_DR_store x4 lx298 lx299 lx402 j82 a372 lx383 lx304 lx305 lx306 lx307 lx308 t1_0 t2_0 t3_0 t4_0 lx403 = o at hst ⊢
        unfold F_DR_quotient_c374_14
        rw [vz, sgI_n0] at hst
        exact ⟨_, Or.inr (Or.inl ⟨b0, av vz, rfl⟩), hst.an⟩
      · rw [if_neg (fun h => vz (f0.mp h))]
        refine ⟨_, sp vz, ?_⟩
        obtain ⟨j, n1, n2, n3, n4, n5⟩ := V_DR_needed (t0_0 := lx298) (t0_1 := lx299) (t0_2 := lx402) (t0_3 := lx301) (t0_4 := a372) (t0_5 := lx383) (t0_6 := lx304) (t0_7 := lx305) (t0_8 := lx306) (t0_9 := lx307) (t0_10 := lx308) (t1_0 := lx403) g1
        generalize F_DR_needed lx298 lx299 lx402 lx301 a372 lx383 lx304 lx305 lx306 lx307 lx308 lx403 = N at n1 ⊢
        rw [nx] at n3 n4
        have hv : v = uV lx403 j * 10 ^ (n - j) := by
          rw [← u_tail (m := n - j) (fun i i1 i2 => n4 i i1 (by omega)), show j + (n - j) = n by omega]
          exact g3'.symm
        have hc : uV lx403 j % 10 ≠ 0 := by
          rcases n5 with h | h
          · subst h
            have f0 := g2' 0 (by omega)
            have e1 : uV lx403 1 = 0 * 10 + (lx403 0).toInt := rfl
            intro z
            apply vz
            rw [hv, show uV lx403 1 = 0 by omega, Int.zero_mul]
          · obtain ⟨i, rfl⟩ : ∃ i, j = i + 1 := ⟨j - 1, by omega⟩
            exact u_lastN (g2'.mono (by omega)) h
        have hvE : wE v (uV lx403 j * 10 ^ (n - j)) := hv
        clear hv
        have Nc := q_clI n1 (by omega)
        have Nx : N.toNatClampNeg = j := by omega
        have e1 : (lx402 - N : Int32).toInt = (n : Int) - (j : Int) := q_subI hn n1 (by omega) (by omega)
        have e2 : (lx301 - (lx402 - N).toInt64 : Int64).toInt = a.2 - b.2 + (i : Int) - ((n : Int) - (j : Int)) := q_subL hs ((Int32.toInt_toInt64 _).trans e1) (by omega) (by omega)
        generalize lx301 - (lx402 - N).toInt64 = ss at e2 ⊢
        clear e1
        have e3 : (j82 - ss : Int64).toInt = a.2 - b.2 - (a.2 - b.2 + (i : Int) - ((n : Int) - (j : Int))) := q_subL hj e2 (by omega) (by omega)
        generalize j82 - ss = dd at e3 ⊢
        have hd : (n : Int) - (j : Int) - (i : Int) ≤ 0 ∨ n ≤ 1000 := by
          rcases hx L0 with i0 | v10
          · right
            subst i0
            have hY : (a.1.natAbs : Int) * 10 ^ 0 = v * (b.1.natAbs : Int) + L := hYE
            rw [L0, Int.pow_zero, Int.mul_one, Int.add_zero] at hY
            have h1 : v ≤ (a.1.natAbs : Int) := by
              rw [hY]
              have := Int.mul_le_mul_of_nonneg_left (show (1 : Int) ≤ (b.1.natAbs : Int) by omega) v0
              omega
            exact (vG_le g4' (by decide)).mpr (by omega)
          · left
            by_cases c : n = j
            · omega
            · exfalso
              apply v10
              obtain ⟨k, hk⟩ : ∃ k, n - j = k + 1 := ⟨n - j - 1, by omega⟩
              rw [show v = uV lx403 j * 10 ^ (n - j) from hvE, hk, u_pw, ← Int.mul_assoc]
              exact Int.mul_emod_left _ _
        have key : ∀ (l : Int64) (z : Nat), l.toInt = (z : Int) → z ≤ 1000 → ((z : Int) = (n : Int) - (j : Int) - (i : Int) ∨ (z = 0 ∧ (n : Int) - (j : Int) - (i : Int) < 0)) → ∀ r, F_DR_lengthen l lx298 lx299 N ss a372 lx383 lx304 lx305 lx306 lx307 lx308 lx403 = r → dAn x4 D ((sSht 7 lx383 (rSt v (n - 1000) a372) 1000 ((10 * v * 10 ^ (1000 - n)) / 10 ^ (n - 1000)) (a.2 - b.2) (a.2 - b.2 + (i : Int) + ((1000 : Nat) : Int) - (n : Int))).map (fun q => (sgI lx383 q.1, q.2))) lx298 2 (F_DR_store x4 r.1 r.2.1 r.2.2.1 r.2.2.2.1 r.2.2.2.2.1 r.2.2.2.2.2.1 r.2.2.2.2.2.2.1 r.2.2.2.2.2.2.2.1 r.2.2.2.2.2.2.2.2.1 r.2.2.2.2.2.2.2.2.2.1 r.2.2.2.2.2.2.2.2.2.2.1 t1_0 t2_0 t3_0 t4_0 r.2.2.2.2.2.2.2.2.2.2.2).1 (F_DR_store x4 r.1 r.2.1 r.2.2.1 r.2.2.2.1 r.2.2.2.2.1 r.2.2.2.2.2.1 r.2.2.2.2.2.2.1 r.2.2.2.2.2.2.2.1 r.2.2.2.2.2.2.2.2.1 r.2.2.2.2.2.2.2.2.2.1 r.2.2.2.2.2.2.2.2.2.2.1 t1_0 t2_0 t3_0 t4_0 r.2.2.2.2.2.2.2.2.2.2.2).2.2.2.2.2.2.2.2.2.2.2.1 (F_DR_store x4 r.1 r.2.1 r.2.2.1 r.2.2.2.1 r.2.2.2.2.1 r.2.2.2.2.2.1 r.2.2.2.2.2.2.1 r.2.2.2.2.2.2.2.1 r.2.2.2.2.2.2.2.2.1 r.2.2.2.2.2.2.2.2.2.1 r.2.2.2.2.2.2.2.2.2.2.1 t1_0 t2_0 t3_0 t4_0 r.2.2.2.2.2.2.2.2.2.2.2).2.2.2.2.2.2.2.2.2.2.2.2.1 (F_DR_store x4 r.1 r.2.1 r.2.2.1 r.2.2.2.1 r.2.2.2.2.1 r.2.2.2.2.2.1 r.2.2.2.2.2.2.1 r.2.2.2.2.2.2.2.1 r.2.2.2.2.2.2.2.2.1 r.2.2.2.2.2.2.2.2.2.1 r.2.2.2.2.2.2.2.2.2.2.1 t1_0 t2_0 t3_0 t4_0 r.2.2.2.2.2.2.2.2.2.2.2).2.2.2.2.2.2.2.2.2.2.2.2.2.1 (F_DR_store x4 r.1 r.2.1 r.2.2.1 r.2.2.2.1 r.2.2.2.2.1 r.2.2.2.2.2.1 r.2.2.2.2.2.2.1 r.2.2.2.2.2.2.2.1 r.2.2.2.2.2.2.2.2.1 r.2.2.2.2.2.2.2.2.2.1 r.2.2.2.2.2.2.2.2.2.2.1 t1_0 t2_0 t3_0 t4_0 r.2.2.2.2.2.2.2.2.2.2.2).2.2.2.2.2.2.2.2.2.2.2.2.2.2.1 := fun l z hl hz hk r hr => by
          have hlen := V_DR_lengthen (x2 := l) (t0_0 := lx298) (t0_1 := lx299) (t0_2 := N) (t0_3 := ss) (t0_4 := a372) (t0_5 := lx383) (t0_6 := lx304) (t0_7 := lx305) (t0_8 := lx306) (t0_9 := lx307) (t0_10 := lx308) (t1_0 := lx403) (z := z) (by omega) hl (by omega) (by rw [Nx]; exact g2'.mono n3) rfl
          rw [hr, Nx] at hlen
          have hs := d_lst hD hx4 hb (by omega) hlen
          rw [q_addL e2 hl (by omega) (by omega), h308] at hs
          by_cases j1 : j ≤ 1000
          · obtain ⟨t1, t2⟩ := r_tx (p := 1000) (show v = uV lx403 j * 10 ^ (n - j) from hvE) j1 n3
            rw [show rSt v (n - 1000) a372 = 0 from if_pos ⟨t2, ca⟩, t1, sSht_x (k := 1000 - j - z) (z := z) hc rfl (by omega) (by omega) (by omega)]
            refine dAn_o hs.an ?_
            show some (sgI lx383 (uV lx403 j * 10 ^ z), a.2 - b.2 + (i : Int) - ((n : Int) - (j : Int)) + (z : Int)) = some (sgI lx383 (uV lx403 j * 10 ^ z), a.2 - b.2 + (i : Int) + ((1000 : Nat) : Int) - (n : Int) - ((1000 - j - z : Nat) : Int))
            rw [show a.2 - b.2 + (i : Int) - ((n : Int) - (j : Int)) + (z : Int) = a.2 - b.2 + (i : Int) + ((1000 : Nat) : Int) - (n : Int) - ((1000 - j - z : Nat) : Int) by omega]
          · rw [show 1000 - n = 0 by omega, Int.pow_zero, Int.mul_one, sSht_7 (by rw [ca]; exact r_ne (show v = uV lx403 j * 10 ^ (n - j) from hvE) hc (by omega))]
            rcases hs with ⟨f, _⟩ | ⟨_, f2, f3⟩
            · exfalso
              have f1 := f.1
              rw [show (sgI lx383 (uV lx403 j * 10 ^ z)).natAbs = _ from sgI_abs] at f1
              obtain ⟨k, rfl⟩ : ∃ k, j = k + 1 := ⟨j - 1, by omega⟩
              have h1 : (10 : Int) ^ k ≤ uV lx403 (k + 1) := u_hdL (g2'.mono (by omega)) (fun h => vz (f0.mp h))
              have h2 : (10 : Int) ^ 1000 ≤ 10 ^ k := u_pwle (by omega)
              have h3 : uV lx403 (k + 1) * 1 ≤ uV lx403 (k + 1) * 10 ^ z := Int.mul_le_mul_of_nonneg_left (by have := u_pos z; omega) (Int.le_trans (Int.le_of_lt (u_pos k)) h1)
              rw [Int.mul_one] at h3
              have h4 := Int.ofNat_lt.mpr f1
              rw [Int.natCast_pow] at h4
              generalize uV lx403 (k + 1) * 10 ^ z = X at h3 h4
              have h5 := Int.le_trans h2 (Int.le_trans h1 h3)
              have h6 : ((X.natAbs : Nat) : Int) = X := Int.natAbs_of_nonneg (Int.le_trans (Int.le_of_lt (u_pos 1000)) h5)
              rw [h6] at h4
              exact absurd (Int.lt_of_lt_of_le h4 h5) (Int.lt_irrefl _)
            · exact Or.inr ⟨Or.inl rfl, f2, f3⟩
        by_cases d0 : lg_cmp dd 1000 ≤ 0
        · have d0' := g_lc3 d0
          rw [if_pos d0]
          by_cases d1 : 0 ≤ lg_cmp dd 0
          · have d2 := g_lc5 d1
            rw [if_pos d1]
            have kk := key dd ((n : Int) - (j : Int) - (i : Int)).toNat (by omega) (by omega) (by omega) _ rfl
            generalize F_DR_lengthen dd lx298 lx299 N ss a372 lx383 lx304 lx305 lx306 lx307 lx308 lx403 = r at kk ⊢
            unfold F_DR_quotient_c369
            generalize F_DR_store x4 r.1 r.2.1 r.2.2.1 r.2.2.2.1 r.2.2.2.2.1 r.2.2.2.2.2.1 r.2.2.2.2.2.2.1 r.2.2.2.2.2.2.2.1 r.2.2.2.2.2.2.2.2.1 r.2.2.2.2.2.2.2.2.2.1 r.2.2.2.2.2.2.2.2.2.2.1 t1_0 t2_0 t3_0 t4_0 r.2.2.2.2.2.2.2.2.2.2.2 = o at kk ⊢
            unfold F_DR_quotient_c374
            exact kk
          · have d2 := g_lc6 d1
            rw [if_neg d1]
            have kk := key 0 0 rfl (by omega) (by omega) _ rfl
            generalize F_DR_lengthen 0 lx298 lx299 N ss a372 lx383 lx304 lx305 lx306 lx307 lx308 lx403 = r at kk ⊢
            unfold F_DR_quotient_c369_12
            generalize F_DR_store x4 r.1 r.2.1 r.2.2.1 r.2.2.2.1 r.2.2.2.2.1 r.2.2.2.2.2.1 r.2.2.2.2.2.2.1 r.2.2.2.2.2.2.2.1 r.2.2.2.2.2.2.2.2.1 r.2.2.2.2.2.2.2.2.2.1 r.2.2.2.2.2.2.2.2.2.2.1 t1_0 t2_0 t3_0 t4_0 r.2.2.2.2.2.2.2.2.2.2.2 = o at kk ⊢
            unfold F_DR_quotient_c374_13
            exact kk
        · have d0' := g_lc4 d0
          exfalso
          omega
    · rw [if_neg ca]
      have L0 : L ≠ 0 := fun h => ca (hst.2.mpr h)
      have vz : v ≠ 0 := fun h => L0 (vL h)
      refine ⟨_, sp vz, Or.inr ⟨Or.inl ?_, rfl, hD⟩⟩
      rw [sSht_7 (fun h => ca (r_0 h.2).2)]
      rfl
  · have c5' := q_nleI c5
    obtain ⟨p1, p2, p3⟩ : x5.toInt = (P : Int) ∧ 1 ≤ P ∧ M = x6 := hP.resolve_left (fun h => by omega)
    subst p3
    rw [if_neg c5]
    have h4' : a372 = 0 ∨ (a372 = 1 ∧ (10 : Int) ^ (P - 1) ≤ v) := hst.1.imp id (fun e => ⟨e, by
      have L0 : L ≠ 0 := fun h => absurd (hst.2.mpr h) (by rw [e]; decide)
      have h1 := hnp.resolve_left L0
      have h2 := (d_bdI g4' (fun h => L0 (vL h))).1
      rw [Int.natAbs_of_nonneg v0] at h2
      exact Int.le_trans (u_pwle (by omega)) h2⟩)
    obtain ⟨k1, k2⟩ := V_DR_toPrecision (x2 := x5) (x3 := j82) (x4 := M) (x5 := x4) (t0_0 := lx298) (t0_1 := lx299) (t0_2 := lx402) (t0_3 := lx301) (t0_4 := a372) (t0_5 := lx383) (t0_6 := lx304) (t0_7 := lx305) (t0_8 := lx306) (t0_9 := lx307) (t0_10 := lx308) (t5_0 := lx403) (p := P) hD hx4 p1 ⟨p2, by omega⟩ ⟨by omega, by omega⟩ g2 g3 ⟨by omega, by omega⟩ ⟨by omega, by omega⟩ h4' hb
    generalize F_DR_toPrecision x5 j82 M x4 lx298 lx299 lx402 lx301 a372 lx383 lx304 lx305 lx306 lx307 lx308 t1_0 t2_0 t3_0 t4_0 lx403 = u at k1 k2 ⊢
    unfold F_DR_quotient_c267
    rw [hj, h308] at k1
    rw [hj, hs, h308] at k2
    by_cases vz : v = 0
    · exact ⟨_, Or.inr (Or.inl ⟨b0, av vz, rfl⟩), k1 vz⟩
    · exact ⟨_, sp vz, k2 vz n g4'⟩
