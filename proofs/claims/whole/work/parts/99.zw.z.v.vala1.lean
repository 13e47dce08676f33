/-! values, for whole: the reference's DecimalRows: the square root -/
theorem rt_two {f : Nat → Int32} {k : Nat} : uV f (k + 2) = uV f k * 100 + 10 * (f k).toInt + (f (k + 1)).toInt := by
  show (uV f k * 10 + (f k).toInt) * 10 + (f (k + 1)).toInt = _
  omega
theorem V_ro2 {K_F_DR_root_L181 : Int32 → Int32 → (Nat → Int32) → (Int32 × Int32 × Int32 × Int64 × Int32 × Int32 × Int32 × Int32 × Int32 × Int32 × Int32 × (Nat → Int32) × (Nat → Int32) × (Nat → Int32) × (Nat → Int32) × (Nat → Int32) × (Nat → Int32) × (Nat → Int32) × (Nat → Int32))} {x2 : Int32} {x3 : Int32} {x4 : Int32} {x5 : Int32} {t0_0 : Int32} {t0_1 : Int32} {t0_2 : Int32} {t0_3 : Int64} {t0_4 : Int32} {t0_5 : Int32} {t0_6 : Int32} {t0_7 : Int32} {t0_8 : Int32} {t0_9 : Int32} {t0_10 : Int32} {t1_0 : (Nat → Int32)} {t2_0 : (Nat → Int32)} {t3_0 : (Nat → Int32)} {t4_0 : (Nat → Int32)} {t5_0 : (Nat → Int32)} {t6_0 : (Nat → Int32)} {t7_0 : (Nat → Int32)} {t8_0 : (Nat → Int32)} {lx48 : Int32} {a74 : Int32} {lx76 : Int64} {lx108 : Int32} {a126 : Int32} {lx128 : Int32} {lx150 : Int32} {lx151 : (Nat → Int32)} {lx171 : Int32} {lx172 : Int32} {lx173 : (Nat → Int32)} {lx198 : Int32} {lx199 : (Nat → Int32)} {D : Nat → Int × Int} {a : Int × Int} {S : Int} {od p T : Nat} (hD : dRv t1_0 t2_0 t3_0 t4_0 D) (hx3 : 0 ≤ x3.toInt ∧ x3.toInt ≤ 9) (h4 : x4.toInt = (p : Int)) (hp : 1 ≤ p ∧ p ≤ 1000) (hw : lx76.toInt = a.2 / 2) (ha2 : -10000 ≤ a.2 ∧ a.2 ≤ 10000) (a0 : 0 < a.1) (hS : a.2 = 2 * S - od) (h74 : a74.toInt = a.2) (h108 : (lx108 = 0 ∧ od = 0) ∨ (lx108 = 1 ∧ od = 1)) (hT : lx198.toInt = (T : Int)) (hT2 : 2 ≤ T ∧ T ≤ 1002) (hTe : T % 2 = 0) (hg : gO lx199 T) (hv : uV lx199 T = a.1 * 10 ^ od) (hnz : lx199 0 ≠ 0 ∨ lx199 1 ≠ 0) : ∀ (n : Nat) (lx240 : Int32) (lx241 : Int32) (lx242 : Int32) (lx243 : Int32) (lx244 : Int64) (lx245 : Int32) (lx246 : Int32) (lx247 : Int32) (lx248 : Int32) (lx249 : Int32) (lx250 : Int32) (lx251 : Int32) (lx252 : (Nat → Int32)) (lx253 : (Nat → Int32)) (lx254 : (Nat → Int32)), ∀ (k : Nat) (r L : Int), lx240.toInt = 2 * (k : Int) → 2 * k ≤ T → T < n + 2 * k → lx243.toInt = (k : Int) → (0 ≤ lx249.toInt ∧ lx249.toInt ≤ 2 * (k : Int)) → lx247 = lx198 → gO lx252 k → (k = 0 ∨ lx252 0 ≠ 0) → gO lx254 lx249.toNatClampNeg → uV lx252 k = r → uV lx254 lx249.toNatClampNeg = L → r * r + L = uV lx199 (2 * k) → L ≤ 2 * r → lx241 = lx48 → lx251 = 2 → ∃ o, sRt p x5 a o ∧ dAn x3 D o lx48 2 (F_DR_root_L268 K_F_DR_root_L181 x2 x3 x4 x5 t0_0 t0_1 t0_2 t0_3 t0_4 t0_5 t0_6 t0_7 t0_8 t0_9 t0_10 t1_0 t2_0 t3_0 t4_0 t5_0 t6_0 t7_0 t8_0 lx48 a74 lx76 lx108 a126 lx128 lx150 lx151 lx171 lx172 lx173 lx198 lx199 n lx240 lx241 lx242 lx243 lx244 lx245 lx246 lx247 lx248 lx249 lx250 lx251 lx252 lx253 lx254).1 (F_DR_root_L268 K_F_DR_root_L181 x2 x3 x4 x5 t0_0 t0_1 t0_2 t0_3 t0_4 t0_5 t0_6 t0_7 t0_8 t0_9 t0_10 t1_0 t2_0 t3_0 t4_0 t5_0 t6_0 t7_0 t8_0 lx48 a74 lx76 lx108 a126 lx128 lx150 lx151 lx171 lx172 lx173 lx198 lx199 n lx240 lx241 lx242 lx243 lx244 lx245 lx246 lx247 lx248 lx249 lx250 lx251 lx252 lx253 lx254).2.2.2.2.2.2.2.2.2.2.2.1 (F_DR_root_L268 K_F_DR_root_L181 x2 x3 x4 x5 t0_0 t0_1 t0_2 t0_3 t0_4 t0_5 t0_6 t0_7 t0_8 t0_9 t0_10 t1_0 t2_0 t3_0 t4_0 t5_0 t6_0 t7_0 t8_0 lx48 a74 lx76 lx108 a126 lx128 lx150 lx151 lx171 lx172 lx173 lx198 lx199 n lx240 lx241 lx242 lx243 lx244 lx245 lx246 lx247 lx248 lx249 lx250 lx251 lx252 lx253 lx254).2.2.2.2.2.2.2.2.2.2.2.2.1 (F_DR_root_L268 K_F_DR_root_L181 x2 x3 x4 x5 t0_0 t0_1 t0_2 t0_3 t0_4 t0_5 t0_6 t0_7 t0_8 t0_9 t0_10 t1_0 t2_0 t3_0 t4_0 t5_0 t6_0 t7_0 t8_0 lx48 a74 lx76 lx108 a126 lx128 lx150 lx151 lx171 lx172 lx173 lx198 lx199 n lx240 lx241 lx242 lx243 lx244 lx245 lx246 lx247 lx248 lx249 lx250 lx251 lx252 lx253 lx254).2.2.2.2.2.2.2.2.2.2.2.2.2.1 (F_DR_root_L268 K_F_DR_root_L181 x2 x3 x4 x5 t0_0 t0_1 t0_2 t0_3 t0_4 t0_5 t0_6 t0_7 t0_8 t0_9 t0_10 t1_0 t2_0 t3_0 t4_0 t5_0 t6_0 t7_0 t8_0 lx48 a74 lx76 lx108 a126 lx128 lx150 lx151 lx171 lx172 lx173 lx198 lx199 n lx240 lx241 lx242 lx243 lx244 lx245 lx246 lx247 lx248 lx249 lx250 lx251 lx252 lx253 lx254).2.2.2.2.2.2.2.2.2.2.2.2.2.2.1 := by
  intro n
  induction n with
  | zero =>
    intro lx240 lx241 lx242 lx243 lx244 lx245 lx246 lx247 lx248 lx249 lx250 lx251 lx252 lx253 lx254 k r L h0 h1 h2
    omega
  | succ n ih =>
    intro lx240 lx241 lx242 lx243 lx244 lx245 lx246 lx247 lx248 lx249 lx250 lx251 lx252 lx253 lx254 k r L h0 h1 h2 h3 h9 h7 hr hr0 hl hrv hlv hP hL2 hth hfa
    subst h7
    have c3 := q_clI h3 (by omega)
    have x3c : lx243.toNatClampNeg = k := by omega
    have c9 := q_clI (i := lx249) rfl h9.1
    have c0 := q_clI h0 (by omega)
    have x0c : lx240.toNatClampNeg = 2 * k := by omega
    rw [F_DR_root_L268.eq_2]
    by_cases g1 : lx247 ≤ lx240
    · rw [if_pos g1]
      have g2 := q_leI g1
      have eT : 2 * k = T := by omega
      rw [eT, hv] at hP
      have fin : ∀ (sc : Int64) KK, sc.toInt = S → ∃ o, sRt p x5 a o ∧ dAn x3 D o lx48 2 (F_DR_root_J324 K_F_DR_root_L181 KK x2 x3 x4 x5 t0_0 t0_1 t0_2 t0_3 t0_4 t0_5 t0_6 t0_7 t0_8 t0_9 t0_10 t1_0 t2_0 t3_0 t4_0 t5_0 t6_0 t7_0 t8_0 lx48 a74 lx76 lx108 a126 lx128 lx150 lx151 lx171 lx172 lx173 lx247 lx199 lx240 lx241 lx242 lx243 lx244 lx245 lx246 lx247 lx248 lx249 lx250 lx251 lx252 lx253 lx254 sc).1 (F_DR_root_J324 K_F_DR_root_L181 KK x2 x3 x4 x5 t0_0 t0_1 t0_2 t0_3 t0_4 t0_5 t0_6 t0_7 t0_8 t0_9 t0_10 t1_0 t2_0 t3_0 t4_0 t5_0 t6_0 t7_0 t8_0 lx48 a74 lx76 lx108 a126 lx128 lx150 lx151 lx171 lx172 lx173 lx247 lx199 lx240 lx241 lx242 lx243 lx244 lx245 lx246 lx247 lx248 lx249 lx250 lx251 lx252 lx253 lx254 sc).2.2.2.2.2.2.2.2.2.2.2.1 (F_DR_root_J324 K_F_DR_root_L181 KK x2 x3 x4 x5 t0_0 t0_1 t0_2 t0_3 t0_4 t0_5 t0_6 t0_7 t0_8 t0_9 t0_10 t1_0 t2_0 t3_0 t4_0 t5_0 t6_0 t7_0 t8_0 lx48 a74 lx76 lx108 a126 lx128 lx150 lx151 lx171 lx172 lx173 lx247 lx199 lx240 lx241 lx242 lx243 lx244 lx245 lx246 lx247 lx248 lx249 lx250 lx251 lx252 lx253 lx254 sc).2.2.2.2.2.2.2.2.2.2.2.2.1 (F_DR_root_J324 K_F_DR_root_L181 KK x2 x3 x4 x5 t0_0 t0_1 t0_2 t0_3 t0_4 t0_5 t0_6 t0_7 t0_8 t0_9 t0_10 t1_0 t2_0 t3_0 t4_0 t5_0 t6_0 t7_0 t8_0 lx48 a74 lx76 lx108 a126 lx128 lx150 lx151 lx171 lx172 lx173 lx247 lx199 lx240 lx241 lx242 lx243 lx244 lx245 lx246 lx247 lx248 lx249 lx250 lx251 lx252 lx253 lx254 sc).2.2.2.2.2.2.2.2.2.2.2.2.2.1 (F_DR_root_J324 K_F_DR_root_L181 KK x2 x3 x4 x5 t0_0 t0_1 t0_2 t0_3 t0_4 t0_5 t0_6 t0_7 t0_8 t0_9 t0_10 t1_0 t2_0 t3_0 t4_0 t5_0 t6_0 t7_0 t8_0 lx48 a74 lx76 lx108 a126 lx128 lx150 lx151 lx171 lx172 lx173 lx247 lx199 lx240 lx241 lx242 lx243 lx244 lx245 lx246 lx247 lx248 lx249 lx250 lx251 lx252 lx253 lx254 sc).2.2.2.2.2.2.2.2.2.2.2.2.2.2.1 := fun sc KK hsc => by
        unfold F_DR_root_J324
        refine V_ro3 hD hx3 h4 hp hw ha2 a0 hS (by omega) _ _ _ _ _ _ _ _ _ _ _ _ _ _ _ _ r L k 0 ⟨h3, ⟨by omega, by omega, by omega⟩, h9, hr, hr0.resolve_left (by omega), hl, hrv, hlv, ?_, hL2, ?_, hth, hfa⟩ (fun z => absurd z (by decide)) (by omega) (fun _ => by omega)
        · rw [hP, Int.pow_zero, Int.mul_one]
        · rw [hsc]
          exact (Int.add_zero S).symm
      rcases h108 with ⟨o1, o2⟩ | ⟨o1, o2⟩
      · rw [if_pos o1]
        refine fin _ _ ?_
        rw [Int32.toInt_toInt64]
        have e : (a74 / 2 : Int32).toInt = a74.toInt.tdiv 2 := Int32.toInt_div_of_ne_right _ _ (by decide)
        rw [e, h74, show a.2 = 2 * S by omega]
        exact Int.mul_tdiv_cancel_left _ (by decide)
      · rw [if_neg (show ¬ lx108 = 0 by rw [o1]; decide)]
        refine fin _ _ ?_
        rw [Int32.toInt_toInt64]
        have e1 : (a74 + 1 : Int32).toInt = a.2 + 1 := q_addI (y := 1) h74 (by decide) (by omega) (by omega)
        have e : ((a74 + 1) / 2 : Int32).toInt = (a74 + 1).toInt.tdiv 2 := Int32.toInt_div_of_ne_right _ _ (by decide)
        rw [e, e1, show a.2 + 1 = 2 * S by omega]
        exact Int.mul_tdiv_cancel_left _ (by decide)
    · rw [if_neg g1]
      have g2 := q_nleI g1
      have kT : 2 * k + 2 ≤ T := by omega
      have e1 : (lx240 + 1 : Int32).toInt = 2 * (k : Int) + 1 := by
        rw [q_addI (y := 1) h0 (by decide) (by omega) (by omega)]
      have e1c := q_clI e1 (by omega)
      have e1x : (lx240 + 1 : Int32).toNatClampNeg = 2 * k + 1 := by omega
      have e2 : (lx240 + 2 : Int32).toInt = 2 * ((k + 1 : Nat) : Int) := by
        rw [q_addI (y := 2) h0 (by decide) (by omega) (by omega)]
        omega
      rw [e1x, x0c]
      have d1 := hg (2 * k) (by omega)
      have d2 := hg (2 * k + 1) (by omega)
      have hq := (T_DR_nextRoot (x2 := lx199 (2 * k)) (x3 := lx199 (2 * k + 1)) (t0_0 := lx241) (t0_1 := lx242) (t0_2 := lx243) (t0_3 := lx244) (t0_4 := lx245) (t0_5 := lx246) (t0_6 := lx247) (t0_7 := lx248) (t0_8 := lx249) (t0_9 := lx250) (t0_10 := lx251) (t1_0 := lx252) (t2_0 := lx253) (t3_0 := lx254) ⟨by omega, by omega⟩ ⟨by omega, by omega⟩ (by rw [x3c]; exact hr) hl d1 d2).2
      have hv2 := V_nextRoot (x2 := lx199 (2 * k)) (x3 := lx199 (2 * k + 1)) (t0_0 := lx241) (t0_1 := lx242) (t0_2 := lx243) (t0_3 := lx244) (t0_4 := lx245) (t0_5 := lx246) (t0_6 := lx247) (t0_7 := lx248) (t0_8 := lx249) (t0_9 := lx250) (t0_10 := lx251) (t1_0 := lx252) (t2_0 := lx253) (t3_0 := lx254) (Z := lx249.toNatClampNeg) h3 (by omega) hr hrv hr0 (by omega) (by omega) hl hlv hP hL2 rfl rfl d1 d2
      generalize F_DR_nextRoot (lx199 (2 * k)) (lx199 (2 * k + 1)) lx241 lx242 lx243 lx244 lx245 lx246 lx247 lx248 lx249 lx250 lx251 lx252 lx253 lx254 = q at hq hv2 ⊢
      unfold F_DR_root_c294
      obtain ⟨⟨w0, w1, w3, w4, w5, w6, w9, w10⟩, w2, w8, wr, wl, wk, wz⟩ := hq
      obtain ⟨r2, L2, v1, v2, v3, v4, -⟩ := hv2
      have wc := q_clI (i := q.2.2.1) rfl (by omega)
      have wx : q.2.2.1.toNatClampNeg = k + 1 := by omega
      rw [wx] at wr
      refine ih _ _ _ _ _ _ _ _ _ _ _ _ _ _ _ (k + 1) r2 L2 e2 (by omega) (by omega) (by omega) ⟨w8.1, by omega⟩ w6 wr (Or.inr ?_) wl v1 v2 ?_ v4 (w0.trans hth) (w10.trans hfa)
      · rcases Nat.eq_zero_or_pos k with rfl | kp
        · exact wz (by omega) (by omega) hnz
        · rw [wk (by omega)]
          exact hr0.resolve_left (by omega)
      · rw [v3, show 2 * (k + 1) = 2 * k + 2 by omega, rt_two]
theorem V_ro1 {x2 : Int32} {x3 : Int32} {x4 : Int32} {x5 : Int32} {t0_0 : Int32} {t0_1 : Int32} {t0_2 : Int32} {t0_3 : Int64} {t0_4 : Int32} {t0_5 : Int32} {t0_6 : Int32} {t0_7 : Int32} {t0_8 : Int32} {t0_9 : Int32} {t0_10 : Int32} {t1_0 : (Nat → Int32)} {t2_0 : (Nat → Int32)} {t3_0 : (Nat → Int32)} {t4_0 : (Nat → Int32)} {t5_0 : (Nat → Int32)} {t6_0 : (Nat → Int32)} {t7_0 : (Nat → Int32)} {t8_0 : (Nat → Int32)} {lx48 : Int32} {a74 : Int32} {lx76 : Int64} {lx108 : Int32} {a126 : Int32} {lx128 : Int32} {lx150 : Int32} {lx151 : (Nat → Int32)} {D : Nat → Int × Int} {a : Int × Int} {S : Int} {od pa p m : Nat} (hD : dRv t1_0 t2_0 t3_0 t4_0 D) (hx2 : 0 ≤ x2.toInt ∧ x2.toInt ≤ 9) (hx3 : 0 ≤ x3.toInt ∧ x3.toInt ≤ 9) (h4 : x4.toInt = (p : Int)) (hp : 1 ≤ p ∧ p ≤ 1000) (ea : D x2.toNatClampNeg = a) (hw : lx76.toInt = a.2 / 2) (ha2 : -10000 ≤ a.2 ∧ a.2 ≤ 10000) (a0 : 0 < a.1) (hS : a.2 = 2 * S - od) (h74 : a74.toInt = a.2) (h108 : (lx108 = 0 ∧ od = 0) ∨ (lx108 = 1 ∧ od = 1)) (h150 : lx150.toInt = (pa : Int)) (hpa : pa ≤ 1) (hm : (t2_0 x2.toNatClampNeg).toInt = (m : Int)) (hm2 : 1 ≤ m ∧ m ≤ 1000) (hpar : (pa + m + od) % 2 = 0) (h151 : ∀ i, i < pa → lx151 i = 0) : ∀ (n : Nat) (lx171 : Int32) (lx172 : Int32) (lx173 : (Nat → Int32)), ∀ k : Nat, lx171.toInt = (k : Int) → k ≤ m → m < n + k → lx172.toInt = ((pa + k : Nat) : Int) → (∀ i, i < pa → lx173 i = 0) → (∀ i, i < k → lx173 (pa + i) = t1_0 (1000 * x2.toNatClampNeg + i)) → ∃ o, sRt p x5 a o ∧ dAn x3 D o lx48 2 (F_DR_root_L181 x2 x3 x4 x5 t0_0 t0_1 t0_2 t0_3 t0_4 t0_5 t0_6 t0_7 t0_8 t0_9 t0_10 t1_0 t2_0 t3_0 t4_0 t5_0 t6_0 t7_0 t8_0 lx48 a74 lx76 lx108 a126 lx128 lx150 lx151 n lx171 lx172 lx173).1 (F_DR_root_L181 x2 x3 x4 x5 t0_0 t0_1 t0_2 t0_3 t0_4 t0_5 t0_6 t0_7 t0_8 t0_9 t0_10 t1_0 t2_0 t3_0 t4_0 t5_0 t6_0 t7_0 t8_0 lx48 a74 lx76 lx108 a126 lx128 lx150 lx151 n lx171 lx172 lx173).2.2.2.2.2.2.2.2.2.2.2.1 (F_DR_root_L181 x2 x3 x4 x5 t0_0 t0_1 t0_2 t0_3 t0_4 t0_5 t0_6 t0_7 t0_8 t0_9 t0_10 t1_0 t2_0 t3_0 t4_0 t5_0 t6_0 t7_0 t8_0 lx48 a74 lx76 lx108 a126 lx128 lx150 lx151 n lx171 lx172 lx173).2.2.2.2.2.2.2.2.2.2.2.2.1 (F_DR_root_L181 x2 x3 x4 x5 t0_0 t0_1 t0_2 t0_3 t0_4 t0_5 t0_6 t0_7 t0_8 t0_9 t0_10 t1_0 t2_0 t3_0 t4_0 t5_0 t6_0 t7_0 t8_0 lx48 a74 lx76 lx108 a126 lx128 lx150 lx151 n lx171 lx172 lx173).2.2.2.2.2.2.2.2.2.2.2.2.2.1 (F_DR_root_L181 x2 x3 x4 x5 t0_0 t0_1 t0_2 t0_3 t0_4 t0_5 t0_6 t0_7 t0_8 t0_9 t0_10 t1_0 t2_0 t3_0 t4_0 t5_0 t6_0 t7_0 t8_0 lx48 a74 lx76 lx108 a126 lx128 lx150 lx151 n lx171 lx172 lx173).2.2.2.2.2.2.2.2.2.2.2.2.2.2.1 := by
  have h2c := q_clI (i := x2) rfl hx2.1
  have A := hD.2 x2.toNatClampNeg (by omega)
  have hK := hD.1
  rw [ea] at A
  obtain ⟨a1, a2, a3, a4, a5, a6⟩ := A
  have mc := q_clI hm (by omega)
  have mx : (t2_0 x2.toNatClampNeg).toNatClampNeg = m := by omega
  rw [mx] at a2 a3
  intro n
  induction n with
  | zero =>
    intro lx171 lx172 lx173 k h0 h1 h2
    omega
  | succ n ih =>
    intro lx171 lx172 lx173 k h0 h1 h2 h3 h5 h6
    have c3 := q_clI h3 (by omega)
    have x3c : lx172.toNatClampNeg = pa + k := by omega
    rw [F_DR_root_L181.eq_2]
    by_cases g1 : t2_0 x2.toNatClampNeg ≤ lx171
    · rw [if_pos g1]
      have g2 := q_leI g1
      obtain rfl : k = m := by omega
      have gd : gO lx173 (pa + k) := fun i hi => by
        by_cases c : i < pa
        · rw [h5 i c]
          decide
        · have := h6 (i - pa) (by omega)
          rw [show pa + (i - pa) = i by omega] at this
          rw [this]
          exact hK _ (by omega)
      have va : uV lx173 (pa + k) = a.1 := by
        rw [u_drop h5, u_ext (g := fun j => t1_0 (1000 * x2.toNatClampNeg + j)) (fun i hi => by rw [Nat.add_comm i pa]; exact h6 i hi), a2]
        omega
      have nz : ¬ t1_0 (1000 * x2.toNatClampNeg + 0) = 0 := u_ld (f := fun j => t1_0 (1000 * x2.toNatClampNeg + j)) (n := k) (fun i hi => hK _ (by omega)) (by omega) (by rw [a2, show (a.1.natAbs : Int) = a.1 by omega]; exact a3) (by rw [a2]; omega)
      have n1 : lx173 pa ≠ 0 := by
        have := h6 0 (by omega)
        rw [Nat.add_zero] at this
        rw [this]
        exact nz
      have n2 : lx173 0 ≠ 0 ∨ lx173 1 ≠ 0 := by
        rcases Nat.eq_zero_or_pos pa with z | z
        · rw [z] at n1
          exact Or.inl n1
        · rw [show pa = 1 by omega] at n1
          exact Or.inr n1
      rcases h108 with ⟨o1, o2⟩ | ⟨o1, o2⟩
      · rw [if_pos o1]
        unfold F_DR_root_J255
        refine V_ro2 (T := pa + k) (od := od) hD hx3 h4 hp hw ha2 a0 hS h74 (Or.inl ⟨o1, o2⟩) h3 ⟨by omega, by omega⟩ (by omega) gd ?_ n2 _ _ _ _ _ _ _ _ _ _ _ _ _ _ _ _ 0 0 0 rfl (by omega) ?_ rfl (by decide) rfl (fun i hi => by omega) (Or.inl rfl) (fun i hi => by have : (0 : Int32).toNatClampNeg = 0 := rfl; omega) rfl rfl rfl (by decide) rfl rfl
        · rw [va, o2, Int.pow_zero, Int.mul_one]
        · have : (0 : Int32).toInt = 0 := rfl
          omega
      · rw [if_neg (show ¬ lx108 = 0 by rw [o1]; decide)]
        unfold F_DR_root_J255
        have e1 : (lx172 + 1 : Int32).toInt = ((pa + k + 1 : Nat) : Int) := by
          rw [q_addI (y := 1) h3 (by decide) (by omega) (by omega)]
          omega
        rw [x3c]
        refine V_ro2 (T := pa + k + 1) (od := od) hD hx3 h4 hp hw ha2 a0 hS h74 (Or.inr ⟨o1, o2⟩) e1 ⟨by omega, by omega⟩ (by omega) ?_ ?_ ?_ _ _ _ _ _ _ _ _ _ _ _ _ _ _ _ _ 0 0 0 rfl (by omega) ?_ rfl (by decide) rfl (fun i hi => by omega) (Or.inl rfl) (fun i hi => by have : (0 : Int32).toNatClampNeg = 0 := rfl; omega) rfl rfl rfl (by decide) rfl rfl
        · intro i hi
          unfold upd
          by_cases c : i = pa + k
          · rw [if_pos c]
            decide
          · rw [if_neg c]
            exact gd i (by omega)
        · show uV (upd lx173 (pa + k) 0) (pa + k) * 10 + (upd lx173 (pa + k) 0 (pa + k)).toInt = _
          rw [u_updge (Nat.le_refl _), va, o2]
          unfold upd
          rw [if_pos rfl, show (0 : Int32).toInt = 0 from rfl]
          omega
        · rcases n2 with z | z
          · refine Or.inl ?_
            unfold upd
            rw [if_neg (by omega)]
            exact z
          · rcases Nat.lt_or_ge 1 (pa + k) with c | c
            · refine Or.inr ?_
              unfold upd
              rw [if_neg (by omega)]
              exact z
            · refine Or.inl ?_
              unfold upd
              rw [if_neg (by omega)]
              rw [show pa = 0 by omega] at n1
              exact n1
        · have : (0 : Int32).toInt = 0 := rfl
          omega
    · rw [if_neg g1]
      have g2 := q_nleI g1
      have e1 : (lx171 + 1 : Int32).toInt = ((k + 1 : Nat) : Int) := by
        rw [q_addI (y := 1) h0 (by decide) (by omega) (by omega)]
        omega
      have e2 : (lx172 + 1 : Int32).toInt = ((pa + (k + 1) : Nat) : Int) := by
        rw [q_addI (y := 1) h3 (by decide) (by omega) (by omega)]
        omega
      have e3 : ((1000 * x2) + lx171 : Int32).toInt = ((1000 * x2.toNatClampNeg + k : Nat) : Int) := by
        have m1 : (1000 * x2 : Int32).toInt = 1000 * x2.toInt := q_mulI (show (1000 : Int32).toInt = 1000 from rfl) rfl (by omega) (by omega)
        rw [q_addI m1 h0 (by omega) (by omega)]
        omega
      have e3c := q_clI e3 (by omega)
      rw [x3c, show ((1000 * x2) + lx171 : Int32).toNatClampNeg = 1000 * x2.toNatClampNeg + k by omega]
      refine ih _ _ _ (k + 1) e1 (by omega) (by omega) e2 ?_ ?_
      · intro i hi
        unfold upd
        rw [if_neg (by omega)]
        exact h5 i hi
      · intro i hi
        unfold upd
        by_cases c : i = k
        · rw [if_pos (by omega), c]
        · rw [if_neg (by omega)]
          exact h6 i (by omega)
theorem V_ro159 {x2 : Int32} {x3 : Int32} {x4 : Int32} {x5 : Int32} {t0_0 : Int32} {t0_1 : Int32} {t0_2 : Int32} {t0_3 : Int64} {t0_4 : Int32} {t0_5 : Int32} {t0_6 : Int32} {t0_7 : Int32} {t0_8 : Int32} {t0_9 : Int32} {t0_10 : Int32} {t1_0 : (Nat → Int32)} {t2_0 : (Nat → Int32)} {t3_0 : (Nat → Int32)} {t4_0 : (Nat → Int32)} {t5_0 : (Nat → Int32)} {t6_0 : (Nat → Int32)} {t7_0 : (Nat → Int32)} {t8_0 : (Nat → Int32)} {lx48 : Int32} {a74 : Int32} {lx76 : Int64} {lx108 : Int32} {a126 : Int32} {lx128 : Int32} {D : Nat → Int × Int} {a : Int × Int} {S : Int} {od p m : Nat} (hD : dRv t1_0 t2_0 t3_0 t4_0 D) (hx2 : 0 ≤ x2.toInt ∧ x2.toInt ≤ 9) (hx3 : 0 ≤ x3.toInt ∧ x3.toInt ≤ 9) (h4 : x4.toInt = (p : Int)) (hp : 1 ≤ p ∧ p ≤ 1000) (ea : D x2.toNatClampNeg = a) (hw : lx76.toInt = a.2 / 2) (ha2 : -10000 ≤ a.2 ∧ a.2 ≤ 10000) (a0 : 0 < a.1) (hS : a.2 = 2 * S - od) (h74 : a74.toInt = a.2) (h108 : (lx108 = 0 ∧ od = 0) ∨ (lx108 = 1 ∧ od = 1)) (hm : (t2_0 x2.toNatClampNeg).toInt = (m : Int)) (hm2 : 1 ≤ m ∧ m ≤ 1000) (h126 : a126.toInt = (m : Int)) (h128 : lx128.toInt = (od : Int)) : ∃ o, sRt p x5 a o ∧ dAn x3 D o lx48 2 (F_DR_root_J159 x2 x3 x4 x5 t0_0 t0_1 t0_2 t0_3 t0_4 t0_5 t0_6 t0_7 t0_8 t0_9 t0_10 t1_0 t2_0 t3_0 t4_0 t5_0 t6_0 t7_0 t8_0 lx48 a74 lx76 lx108 a126 lx128).1 (F_DR_root_J159 x2 x3 x4 x5 t0_0 t0_1 t0_2 t0_3 t0_4 t0_5 t0_6 t0_7 t0_8 t0_9 t0_10 t1_0 t2_0 t3_0 t4_0 t5_0 t6_0 t7_0 t8_0 lx48 a74 lx76 lx108 a126 lx128).2.2.2.2.2.2.2.2.2.2.2.1 (F_DR_root_J159 x2 x3 x4 x5 t0_0 t0_1 t0_2 t0_3 t0_4 t0_5 t0_6 t0_7 t0_8 t0_9 t0_10 t1_0 t2_0 t3_0 t4_0 t5_0 t6_0 t7_0 t8_0 lx48 a74 lx76 lx108 a126 lx128).2.2.2.2.2.2.2.2.2.2.2.2.1 (F_DR_root_J159 x2 x3 x4 x5 t0_0 t0_1 t0_2 t0_3 t0_4 t0_5 t0_6 t0_7 t0_8 t0_9 t0_10 t1_0 t2_0 t3_0 t4_0 t5_0 t6_0 t7_0 t8_0 lx48 a74 lx76 lx108 a126 lx128).2.2.2.2.2.2.2.2.2.2.2.2.2.1 (F_DR_root_J159 x2 x3 x4 x5 t0_0 t0_1 t0_2 t0_3 t0_4 t0_5 t0_6 t0_7 t0_8 t0_9 t0_10 t1_0 t2_0 t3_0 t4_0 t5_0 t6_0 t7_0 t8_0 lx48 a74 lx76 lx108 a126 lx128).2.2.2.2.2.2.2.2.2.2.2.2.2.2.1 := by
  have e00 : (0 : Int32).toNatClampNeg = 0 := rfl
  have e0 : (0 : Int32).toInt = 0 := rfl
  have e1 : (1 : Int32).toInt = 1 := rfl
  have pE := g_pE (a := a126) (b := lx128) ⟨by omega, by omega⟩ ⟨by omega, by omega⟩
  unfold F_DR_root_J159
  by_cases g : ((a126 + lx128) - (a126 + lx128) / 2 * 2 : Int32) = 1
  · rw [if_pos g]
    rw [g, e1] at pE
    unfold F_DR_root_J178
    refine V_ro1 (pa := 1) hD hx2 hx3 h4 hp ea hw ha2 a0 hS h74 h108 rfl (by omega) hm hm2 (by omega) (fun i hi => ?_) _ 0 1 _ 0 rfl (by omega) (by omega) rfl (fun i hi => ?_) (fun i hi => by omega)
    · unfold upd
      rw [if_pos (by omega)]
    · unfold upd
      rw [if_pos (by omega)]
  · rw [if_neg g]
    have pn : ¬ (a126.toInt + lx128.toInt) % 2 = 1 := fun h => g (Int32.toInt_inj.mp (by rw [pE, h]; rfl))
    unfold F_DR_root_J178
    exact V_ro1 (pa := 0) hD hx2 hx3 h4 hp ea hw ha2 a0 hS h74 h108 rfl (by omega) hm hm2 (by omega) (fun i hi => by omega) _ 0 0 _ 0 rfl (by omega) (by omega) rfl (fun i hi => by omega) (fun i hi => by omega)
theorem rt_par {x : Int32} (h : -10000 ≤ x.toInt ∧ x.toInt ≤ 10000) : ((x - x / 2 * 2 : Int32) = 0 ∧ x.toInt % 2 = 0) ∨ (¬ (x - x / 2 * 2 : Int32) = 0 ∧ x.toInt % 2 = 1) := by
  have e : (x / 2 : Int32).toInt = x.toInt.tdiv 2 := Int32.toInt_div_of_ne_right _ _ (by decide)
  have t1 := Int.tmod_add_mul_tdiv x.toInt 2
  have t2 : x.toInt.tmod 2 = 0 ↔ x.toInt % 2 = 0 := by
    rw [← Int.dvd_iff_tmod_eq_zero, ← Int.dvd_iff_emod_eq_zero]
  have t3 : -2 < x.toInt.tmod 2 ∧ x.toInt.tmod 2 < 2 := by
    have a1 := Int.lt_tmod_of_pos x.toInt (show (0 : Int) < 2 by decide)
    have a2 := Int.tmod_lt_of_pos x.toInt (show (0 : Int) < 2 by decide)
    exact ⟨a1, a2⟩
  have e2 : (x / 2 * 2 : Int32).toInt = x.toInt.tdiv 2 * 2 := q_mulI e rfl (by omega) (by omega)
  have e3 : (x - x / 2 * 2 : Int32).toInt = x.toInt.tmod 2 := by
    rw [q_subI rfl e2 (by omega) (by omega)]
    omega
  by_cases c : x.toInt % 2 = 0
  · exact Or.inl ⟨Int32.toInt_inj.mp (by rw [e3, t2.mpr c]; rfl), c⟩
  · refine Or.inr ⟨fun h => c (t2.mp ?_), by omega⟩
    rw [← e3, h]
    rfl
theorem V_ro98 {x2 : Int32} {x3 : Int32} {x4 : Int32} {x5 : Int32} {t0_0 : Int32} {t0_1 : Int32} {t0_2 : Int32} {t0_3 : Int64} {t0_4 : Int32} {t0_5 : Int32} {t0_6 : Int32} {t0_7 : Int32} {t0_8 : Int32} {t0_9 : Int32} {t0_10 : Int32} {t1_0 : (Nat → Int32)} {t2_0 : (Nat → Int32)} {t3_0 : (Nat → Int32)} {t4_0 : (Nat → Int32)} {t5_0 : (Nat → Int32)} {t6_0 : (Nat → Int32)} {t7_0 : (Nat → Int32)} {t8_0 : (Nat → Int32)} {lx48 : Int32} {a74 : Int32} {lx76 : Int64} {D : Nat → Int × Int} {a : Int × Int} {p : Nat} (hD : dRv t1_0 t2_0 t3_0 t4_0 D) (hx2 : 0 ≤ x2.toInt ∧ x2.toInt ≤ 9) (hx3 : 0 ≤ x3.toInt ∧ x3.toInt ≤ 9) (h4 : x4.toInt = (p : Int)) (hp : 1 ≤ p ∧ p ≤ 1000) (ea : D x2.toNatClampNeg = a) (hw : lx76.toInt = a.2 / 2) (a0 : 0 ≤ a.1) (h74 : a74.toInt = a.2) : ∃ o, sRt p x5 a o ∧ dAn x3 D o lx48 2 (F_DR_root_J98 x2 x3 x4 x5 t0_0 t0_1 t0_2 t0_3 t0_4 t0_5 t0_6 t0_7 t0_8 t0_9 t0_10 t1_0 t2_0 t3_0 t4_0 t5_0 t6_0 t7_0 t8_0 lx48 a74 lx76).1 (F_DR_root_J98 x2 x3 x4 x5 t0_0 t0_1 t0_2 t0_3 t0_4 t0_5 t0_6 t0_7 t0_8 t0_9 t0_10 t1_0 t2_0 t3_0 t4_0 t5_0 t6_0 t7_0 t8_0 lx48 a74 lx76).2.2.2.2.2.2.2.2.2.2.2.1 (F_DR_root_J98 x2 x3 x4 x5 t0_0 t0_1 t0_2 t0_3 t0_4 t0_5 t0_6 t0_7 t0_8 t0_9 t0_10 t1_0 t2_0 t3_0 t4_0 t5_0 t6_0 t7_0 t8_0 lx48 a74 lx76).2.2.2.2.2.2.2.2.2.2.2.2.1 (F_DR_root_J98 x2 x3 x4 x5 t0_0 t0_1 t0_2 t0_3 t0_4 t0_5 t0_6 t0_7 t0_8 t0_9 t0_10 t1_0 t2_0 t3_0 t4_0 t5_0 t6_0 t7_0 t8_0 lx48 a74 lx76).2.2.2.2.2.2.2.2.2.2.2.2.2.1 (F_DR_root_J98 x2 x3 x4 x5 t0_0 t0_1 t0_2 t0_3 t0_4 t0_5 t0_6 t0_7 t0_8 t0_9 t0_10 t1_0 t2_0 t3_0 t4_0 t5_0 t6_0 t7_0 t8_0 lx48 a74 lx76).2.2.2.2.2.2.2.2.2.2.2.2.2.2.1 := by
  have h2c := q_clI (i := x2) rfl hx2.1
  have A := hD.2 x2.toNatClampNeg (by omega)
  have iz := d_iz (t0_0 := lx48) (t0_1 := t0_1) (t0_2 := t0_2) (t0_3 := t0_3) (t0_4 := t0_4) (t0_5 := t0_5) (t0_6 := t0_6) (t0_7 := t0_7) (t0_8 := t0_8) (t0_9 := t0_9) (t0_10 := 2) hD hx2
  rw [ea] at A iz
  obtain ⟨a1, a2, a3, a4, a5, a6⟩ := A
  unfold F_DR_root_J98
  rw [iz]
  by_cases z : a.1 = 0
  · rw [if_pos z, if_neg (show ¬ (1 : Int32) = 0 by decide)]
    have hl := V_DR_load (x2 := x2) (t0_0 := lx48) (t0_1 := t0_1) (t0_2 := t0_2) (t0_3 := t0_3) (t0_4 := t0_4) (t0_5 := t0_5) (t0_6 := t0_6) (t0_7 := t0_7) (t0_8 := t0_8) (t0_9 := t0_9) (t0_10 := 2) (t5_0 := t5_0) hD hx2
    rw [ea] at hl
    generalize F_DR_load x2 lx48 t0_1 t0_2 t0_3 t0_4 t0_5 t0_6 t0_7 t0_8 t0_9 2 t1_0 t2_0 t3_0 t4_0 t5_0 = q at hl ⊢
    unfold F_DR_root_c110
    obtain ⟨⟨l1, l2, l3, l4⟩, l5, l6, l7, l8, l9, l10, l11, l12, l13, l14, l15⟩ := hl
    have l8' : q.2.2.2.2.2.1 = sF a.1 := l8
    have hT := (V_DR_toPrecision (x2 := x4) (x3 := lx76) (x4 := x5) (x5 := x3) (t0_0 := q.1) (t0_1 := q.2.1) (t0_2 := q.2.2.1) (t0_3 := q.2.2.2.1) (t0_4 := q.2.2.2.2.1) (t0_5 := q.2.2.2.2.2.1) (t0_6 := q.2.2.2.2.2.2.1) (t0_7 := q.2.2.2.2.2.2.2.1) (t0_8 := q.2.2.2.2.2.2.2.2.1) (t0_9 := q.2.2.2.2.2.2.2.2.2.1) (t0_10 := q.2.2.2.2.2.2.2.2.2.2.1) (t5_0 := q.2.2.2.2.2.2.2.2.2.2.2) hD hx3 h4 ⟨hp.1, by omega⟩ ⟨by omega, by omega⟩ l2 l3 ⟨by omega, by omega⟩ ⟨by omega, by omega⟩ (Or.inl l7) (by rw [l8']; exact sF_01)).1 (by rw [z]; rfl)
    generalize F_DR_toPrecision x4 lx76 x5 x3 q.1 q.2.1 q.2.2.1 q.2.2.2.1 q.2.2.2.2.1 q.2.2.2.2.2.1 q.2.2.2.2.2.2.1 q.2.2.2.2.2.2.2.1 q.2.2.2.2.2.2.2.2.1 q.2.2.2.2.2.2.2.2.2.1 q.2.2.2.2.2.2.2.2.2.2.1 t1_0 t2_0 t3_0 t4_0 q.2.2.2.2.2.2.2.2.2.2.2 = y at hT ⊢
    unfold F_DR_root_c120
    rw [l9, l15, hw] at hT
    exact ⟨_, Or.inr (Or.inl ⟨z, rfl⟩), hT⟩
  · rw [if_neg z, if_pos rfl]
    have mi := q_clI (i := t2_0 x2.toNatClampNeg) rfl (by omega)
    rcases rt_par (x := a74) ⟨by omega, by omega⟩ with ⟨c1, c2⟩ | ⟨c1, c2⟩
    · rw [if_pos c1]
      unfold F_DR_root_J141
      rw [if_pos rfl]
      exact V_ro159 (S := a.2 / 2) (od := 0) (m := (t2_0 x2.toNatClampNeg).toNatClampNeg) hD hx2 hx3 h4 hp ea hw ⟨by omega, by omega⟩ (by omega) (by omega) h74 (Or.inl ⟨rfl, rfl⟩) mi.symm ⟨by omega, by omega⟩ mi.symm rfl
    · rw [if_neg c1]
      unfold F_DR_root_J141
      rw [if_neg (show ¬ (1 : Int32) = 0 by decide)]
      exact V_ro159 (S := (a.2 + 1) / 2) (od := 1) (m := (t2_0 x2.toNatClampNeg).toNatClampNeg) hD hx2 hx3 h4 hp ea hw ⟨by omega, by omega⟩ (by omega) (by omega) h74 (Or.inr ⟨rfl, rfl⟩) mi.symm ⟨by omega, by omega⟩ mi.symm rfl
theorem V_DR_root {x2 : Int32} {x3 : Int32} {x4 : Int32} {x5 : Int32} {t0_0 : Int32} {t0_1 : Int32} {t0_2 : Int32} {t0_3 : Int64} {t0_4 : Int32} {t0_5 : Int32} {t0_6 : Int32} {t0_7 : Int32} {t0_8 : Int32} {t0_9 : Int32} {t0_10 : Int32} {t1_0 : (Nat → Int32)} {t2_0 : (Nat → Int32)} {t3_0 : (Nat → Int32)} {t4_0 : (Nat → Int32)} {t5_0 : (Nat → Int32)} {t6_0 : (Nat → Int32)} {t7_0 : (Nat → Int32)} {t8_0 : (Nat → Int32)} {D : Nat → Int × Int} (hD : dRv t1_0 t2_0 t3_0 t4_0 D) (hx2 : 0 ≤ x2.toInt ∧ x2.toInt ≤ 9) (hx3 : 0 ≤ x3.toInt ∧ x3.toInt ≤ 9) (h4 : 1 ≤ x4.toInt ∧ x4.toInt ≤ 1000) (h5 : F_DR_noMode x5 = 0) : ∃ o, sRt x4.toNatClampNeg x5 (D x2.toNatClampNeg) o ∧ dAn x3 D o 0 2 (F_DR_root x2 x3 x4 x5 t0_0 t0_1 t0_2 t0_3 t0_4 t0_5 t0_6 t0_7 t0_8 t0_9 t0_10 t1_0 t2_0 t3_0 t4_0 t5_0 t6_0 t7_0 t8_0).1 (F_DR_root x2 x3 x4 x5 t0_0 t0_1 t0_2 t0_3 t0_4 t0_5 t0_6 t0_7 t0_8 t0_9 t0_10 t1_0 t2_0 t3_0 t4_0 t5_0 t6_0 t7_0 t8_0).2.2.2.2.2.2.2.2.2.2.2.1 (F_DR_root x2 x3 x4 x5 t0_0 t0_1 t0_2 t0_3 t0_4 t0_5 t0_6 t0_7 t0_8 t0_9 t0_10 t1_0 t2_0 t3_0 t4_0 t5_0 t6_0 t7_0 t8_0).2.2.2.2.2.2.2.2.2.2.2.2.1 (F_DR_root x2 x3 x4 x5 t0_0 t0_1 t0_2 t0_3 t0_4 t0_5 t0_6 t0_7 t0_8 t0_9 t0_10 t1_0 t2_0 t3_0 t4_0 t5_0 t6_0 t7_0 t8_0).2.2.2.2.2.2.2.2.2.2.2.2.2.1 (F_DR_root x2 x3 x4 x5 t0_0 t0_1 t0_2 t0_3 t0_4 t0_5 t0_6 t0_7 t0_8 t0_9 t0_10 t1_0 t2_0 t3_0 t4_0 t5_0 t6_0 t7_0 t8_0).2.2.2.2.2.2.2.2.2.2.2.2.2.2.1 := by
  have e0 : (0 : Int32).toInt = 0 := rfl
  have e1 : (1 : Int32).toInt = 1 := rfl
  have e1000 : (1000 : Int32).toInt = 1000 := rfl
  have h2c := q_clI (i := x2) rfl hx2.1
  have h4c := q_clI (i := x4) rfl (by omega)
  have A := hD.2 x2.toNatClampNeg (by omega)
  obtain ⟨a1, a2, a3, a4, a5, a6⟩ := A
  generalize ea : D x2.toNatClampNeg = a at *
  unfold F_DR_root
  rw [if_pos (g_no0 hx2), if_pos (g_no0 hx3), if_pos h5, if_neg (fun h => by have := q_ltI h; omega), if_pos (Int32.le_iff_toInt_le.mpr (by omega))]
  by_cases c : a.1 < 0
  · rw [a4, if_pos c, if_neg (show ¬ (1 : Int32) = 0 by decide)]
    unfold F_DR_root_J53
    rw [if_neg (show ¬ (2 : Int32) ≤ 0 by decide)]
    exact ⟨none, Or.inl ⟨c, rfl⟩, Or.inr ⟨Or.inl rfl, rfl, hD⟩⟩
  · rw [a4, if_neg c, if_pos rfl]
    unfold F_DR_root_J53
    rw [if_pos (show (0 : Int32) ≤ 0 by decide)]
    by_cases c2 : t4_0 x2.toNatClampNeg < 0
    · rw [if_pos c2]
      have c3 := q_ltI c2
      refine V_ro98 hD hx2 hx3 h4c.symm ⟨by omega, by omega⟩ ea ?_ (by omega) a5
      rw [Int32.toInt_toInt64]
      have m1 : (1 - t4_0 x2.toNatClampNeg : Int32).toInt = 1 - a.2 := q_subI e1 a5 (by omega) (by omega)
      have m2 : ((1 - t4_0 x2.toNatClampNeg) / 2 : Int32).toInt = (1 - a.2) / 2 := q_divI m1 rfl (by omega) (by decide)
      have m3 : (-((1 - t4_0 x2.toNatClampNeg) / 2) : Int32).toInt = -((1 - a.2) / 2) := q_negI m2 (by omega)
      rw [m3]
      omega
    · rw [if_neg c2]
      have c3 := q_nltI c2
      refine V_ro98 hD hx2 hx3 h4c.symm ⟨by omega, by omega⟩ ea ?_ (by omega) a5
      rw [Int32.toInt_toInt64]
      exact q_divI a5 rfl (by omega) (by decide)
