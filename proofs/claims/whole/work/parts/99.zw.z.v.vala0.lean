/-! values, for whole: the reference's DecimalRows: the square root's loops -/
/-- the state of the root's loop: the root r has s figures, L is left -/
def rJ (A S : Int) (th c0 c2 : Int32) (c3 : Int64) (c8 c10 : Int32) (row le : Nat → Int32) (s i : Nat) (r L : Int) : Prop := c2.toInt = (s : Int) ∧ (1 ≤ s ∧ s ≤ 1001 ∧ i ≤ s) ∧ (0 ≤ c8.toInt ∧ c8.toInt ≤ 2 * (s : Int)) ∧ gO row s ∧ row 0 ≠ 0 ∧ gO le c8.toNatClampNeg ∧ uV row s = r ∧ uV le c8.toNatClampNeg = L ∧ r * r + L = A * 100 ^ i ∧ L ≤ 2 * r ∧ c3.toInt = S + (i : Int) ∧ c0 = th ∧ c10 = 2
theorem V_ro5 {K_F_DR_root_L181 : Int32 → Int32 → (Nat → Int32) → (Int32 × Int32 × Int32 × Int64 × Int32 × Int32 × Int32 × Int32 × Int32 × Int32 × Int32 × (Nat → Int32) × (Nat → Int32) × (Nat → Int32) × (Nat → Int32) × (Nat → Int32) × (Nat → Int32) × (Nat → Int32) × (Nat → Int32))} {K_F_DR_root_L268 : Int32 → Int32 → Int32 → Int32 → Int64 → Int32 → Int32 → Int32 → Int32 → Int32 → Int32 → Int32 → (Nat → Int32) → (Nat → Int32) → (Nat → Int32) → (Int32 × Int32 × Int32 × Int64 × Int32 × Int32 × Int32 × Int32 × Int32 × Int32 × Int32 × (Nat → Int32) × (Nat → Int32) × (Nat → Int32) × (Nat → Int32) × (Nat → Int32) × (Nat → Int32) × (Nat → Int32) × (Nat → Int32))} {K_F_DR_root_L330 : Int32 → Int32 → Int32 → Int32 → Int64 → Int32 → Int32 → Int32 → Int32 → Int32 → Int32 → Int32 → (Nat → Int32) → (Nat → Int32) → (Nat → Int32) → (Int32 × Int32 × Int32 × Int64 × Int32 × Int32 × Int32 × Int32 × Int32 × Int32 × Int32 × (Nat → Int32) × (Nat → Int32) × (Nat → Int32) × (Nat → Int32) × (Nat → Int32) × (Nat → Int32) × (Nat → Int32) × (Nat → Int32))} {x2 : Int32} {x3 : Int32} {x4 : Int32} {x5 : Int32} {t0_0 : Int32} {t0_1 : Int32} {t0_2 : Int32} {t0_3 : Int64} {t0_4 : Int32} {t0_5 : Int32} {t0_6 : Int32} {t0_7 : Int32} {t0_8 : Int32} {t0_9 : Int32} {t0_10 : Int32} {t1_0 : (Nat → Int32)} {t2_0 : (Nat → Int32)} {t3_0 : (Nat → Int32)} {t4_0 : (Nat → Int32)} {t5_0 : (Nat → Int32)} {t6_0 : (Nat → Int32)} {t7_0 : (Nat → Int32)} {t8_0 : (Nat → Int32)} {lx48 : Int32} {a74 : Int32} {lx76 : Int64} {lx108 : Int32} {a126 : Int32} {lx128 : Int32} {lx150 : Int32} {lx151 : (Nat → Int32)} {lx171 : Int32} {lx172 : Int32} {lx173 : (Nat → Int32)} {lx198 : Int32} {lx199 : (Nat → Int32)} {lx240 : Int32} {lx241 : Int32} {lx242 : Int32} {lx243 : Int32} {lx244 : Int64} {lx245 : Int32} {lx246 : Int32} {lx247 : Int32} {lx248 : Int32} {lx249 : Int32} {lx250 : Int32} {lx251 : Int32} {lx252 : (Nat → Int32)} {lx253 : (Nat → Int32)} {lx254 : (Nat → Int32)} {lx294 : Int64} {lx315 : Int32} {lx316 : Int32} {lx317 : Int32} {lx318 : Int32} {lx319 : Int64} {lx320 : Int32} {lx321 : Int32} {lx322 : Int32} {lx323 : Int32} {lx324 : Int32} {lx325 : Int32} {lx326 : Int32} {lx327 : (Nat → Int32)} {lx328 : (Nat → Int32)} {lx329 : (Nat → Int32)} {D : Nat → Int × Int} {a : Int × Int} {S r L : Int} {s i od p : Nat} (hD : dRv t1_0 t2_0 t3_0 t4_0 D) (hx3 : 0 ≤ x3.toInt ∧ x3.toInt ≤ 9) (h4 : x4.toInt = (p : Int)) (hp : 1 ≤ p ∧ p ≤ 1000) (hw : lx76.toInt = a.2 / 2) (ha2 : -10000 ≤ a.2 ∧ a.2 ≤ 10000) (a0 : 0 < a.1) (hS : a.2 = 2 * S - od) (hod : od ≤ 1) (hJ : rJ (a.1 * 10 ^ od) S lx48 lx316 lx318 lx319 lx324 lx326 lx327 lx329 s i r L) (hf : L = 0 ∨ p + 1 ≤ s) : ∀ (n : Nat) (lx384 : Int32) (lx385 : Int32), ∀ k : Nat, lx384.toInt = (k : Int) → (k : Int) ≤ lx324.toInt → lx324.toInt < (n : Int) + (k : Int) → ((lx385 = 0 ∧ ∀ j, j < k → lx329 j = 0) ∨ (lx385 = 1 ∧ L ≠ 0)) → ∃ o, sRt p x5 a o ∧ dAn x3 D o lx48 2 (F_DR_root_L418 K_F_DR_root_L181 K_F_DR_root_L268 K_F_DR_root_L330 x2 x3 x4 x5 t0_0 t0_1 t0_2 t0_3 t0_4 t0_5 t0_6 t0_7 t0_8 t0_9 t0_10 t1_0 t2_0 t3_0 t4_0 t5_0 t6_0 t7_0 t8_0 lx48 a74 lx76 lx108 a126 lx128 lx150 lx151 lx171 lx172 lx173 lx198 lx199 lx240 lx241 lx242 lx243 lx244 lx245 lx246 lx247 lx248 lx249 lx250 lx251 lx252 lx253 lx254 lx294 lx315 lx316 lx317 lx318 lx319 lx320 lx321 lx322 lx323 lx324 lx325 lx326 lx327 lx328 lx329 n lx384 lx385).1 (F_DR_root_L418 K_F_DR_root_L181 K_F_DR_root_L268 K_F_DR_root_L330 x2 x3 x4 x5 t0_0 t0_1 t0_2 t0_3 t0_4 t0_5 t0_6 t0_7 t0_8 t0_9 t0_10 t1_0 t2_0 t3_0 t4_0 t5_0 t6_0 t7_0 t8_0 lx48 a74 lx76 lx108 a126 lx128 lx150 lx151 lx171 lx172 lx173 lx198 lx199 lx240 lx241 lx242 lx243 lx244 lx245 lx246 lx247 lx248 lx249 lx250 lx251 lx252 lx253 lx254 lx294 lx315 lx316 lx317 lx318 lx319 lx320 lx321 lx322 lx323 lx324 lx325 lx326 lx327 lx328 lx329 n lx384 lx385).2.2.2.2.2.2.2.2.2.2.2.1 (F_DR_root_L418 K_F_DR_root_L181 K_F_DR_root_L268 K_F_DR_root_L330 x2 x3 x4 x5 t0_0 t0_1 t0_2 t0_3 t0_4 t0_5 t0_6 t0_7 t0_8 t0_9 t0_10 t1_0 t2_0 t3_0 t4_0 t5_0 t6_0 t7_0 t8_0 lx48 a74 lx76 lx108 a126 lx128 lx150 lx151 lx171 lx172 lx173 lx198 lx199 lx240 lx241 lx242 lx243 lx244 lx245 lx246 lx247 lx248 lx249 lx250 lx251 lx252 lx253 lx254 lx294 lx315 lx316 lx317 lx318 lx319 lx320 lx321 lx322 lx323 lx324 lx325 lx326 lx327 lx328 lx329 n lx384 lx385).2.2.2.2.2.2.2.2.2.2.2.2.1 (F_DR_root_L418 K_F_DR_root_L181 K_F_DR_root_L268 K_F_DR_root_L330 x2 x3 x4 x5 t0_0 t0_1 t0_2 t0_3 t0_4 t0_5 t0_6 t0_7 t0_8 t0_9 t0_10 t1_0 t2_0 t3_0 t4_0 t5_0 t6_0 t7_0 t8_0 lx48 a74 lx76 lx108 a126 lx128 lx150 lx151 lx171 lx172 lx173 lx198 lx199 lx240 lx241 lx242 lx243 lx244 lx245 lx246 lx247 lx248 lx249 lx250 lx251 lx252 lx253 lx254 lx294 lx315 lx316 lx317 lx318 lx319 lx320 lx321 lx322 lx323 lx324 lx325 lx326 lx327 lx328 lx329 n lx384 lx385).2.2.2.2.2.2.2.2.2.2.2.2.2.1 (F_DR_root_L418 K_F_DR_root_L181 K_F_DR_root_L268 K_F_DR_root_L330 x2 x3 x4 x5 t0_0 t0_1 t0_2 t0_3 t0_4 t0_5 t0_6 t0_7 t0_8 t0_9 t0_10 t1_0 t2_0 t3_0 t4_0 t5_0 t6_0 t7_0 t8_0 lx48 a74 lx76 lx108 a126 lx128 lx150 lx151 lx171 lx172 lx173 lx198 lx199 lx240 lx241 lx242 lx243 lx244 lx245 lx246 lx247 lx248 lx249 lx250 lx251 lx252 lx253 lx254 lx294 lx315 lx316 lx317 lx318 lx319 lx320 lx321 lx322 lx323 lx324 lx325 lx326 lx327 lx328 lx329 n lx384 lx385).2.2.2.2.2.2.2.2.2.2.2.2.2.2.1 := by
  obtain ⟨j2, j1, j8, jr, jr0, jl, jv, jL, jP, jL2, j3, j0, j10⟩ := hJ
  have c8 := q_clI (i := lx324) rfl j8.1
  have c2 := q_clI j2 (by omega)
  have x2c : lx318.toNatClampNeg = s := by omega
  intro n
  induction n with
  | zero =>
    intro lx384 lx385 k h0 h1 h2
    omega
  | succ n ih =>
    intro lx384 lx385 k h0 h1 h2 h3
    have kc := q_clI h0 (by omega)
    have kx : lx384.toNatClampNeg = k := by omega
    rw [F_DR_root_L418.eq_2, kx]
    by_cases g1 : lx324 ≤ lx384
    · rw [if_pos g1]
      have g2 := q_leI g1
      have st : (lx385 = 0 ∧ L = 0) ∨ (lx385 = 1 ∧ L ≠ 0) := by
        rcases h3 with ⟨z, hz⟩ | h
        · refine Or.inl ⟨z, ?_⟩
          rw [← jL]
          exact u_zer (fun i hi => hz i (by omega))
        · exact Or.inr h
      have hv := u_vG jr j1.1 (Or.inl jr0)
      rw [jv] at hv
      obtain ⟨m, rfl⟩ : ∃ m, s = m + 1 := ⟨s - 1, by omega⟩
      have r1 := u_hdL jr jr0
      rw [jv] at r1
      have r0 : 0 < r := Int.lt_of_lt_of_le (u_pos m) r1
      have L0 : 0 ≤ L := by
        rw [← jL]
        exact u_nn jl
      have hT := (V_DR_toPrecision (x2 := x4) (x3 := lx76) (x4 := x5) (x5 := x3) (t0_0 := lx316) (t0_1 := lx317) (t0_2 := lx318) (t0_3 := lx319) (t0_4 := lx385) (t0_5 := 0) (t0_6 := lx322) (t0_7 := lx323) (t0_8 := lx324) (t0_9 := lx325) (t0_10 := lx326) (t5_0 := lx327) hD hx3 h4 ⟨hp.1, by omega⟩ ⟨by omega, by omega⟩ (by rw [x2c]; exact jr) (by rw [x2c]; exact jv) ⟨by omega, by omega⟩ ⟨by omega, by omega⟩ (by
        rcases st with ⟨z, _⟩ | ⟨z, nz⟩
        · exact Or.inl z
        · refine Or.inr ⟨z, Int.le_trans (u_pwle ?_) r1⟩
          have := hf.resolve_left nz
          omega) (Or.inl rfl)).2 (Int.ne_of_gt r0) (m + 1) hv
      generalize F_DR_toPrecision x4 lx76 x5 x3 lx316 lx317 lx318 lx319 lx385 0 lx322 lx323 lx324 lx325 lx326 t1_0 t2_0 t3_0 t4_0 lx327 = q at hT ⊢
      unfold F_DR_root_c471
      rw [hw, j3, j0, j10] at hT
      refine ⟨_, rt_sht a0 hv r0 jP ⟨L0, jL2⟩ hS st hf, hT⟩
    · rw [if_neg g1]
      have g2 := q_nleI g1
      have e1 : (lx384 + 1 : Int32).toInt = ((k + 1 : Nat) : Int) := by
        rw [q_addI (y := 1) h0 (by decide) (by omega) (by omega)]
        omega
      by_cases g3 : lx385 = 0
      · rw [if_pos g3]
        by_cases g4 : lx329 k = 0
        · rw [if_pos g4]
          refine ih _ _ (k + 1) e1 (by omega) (by omega) (Or.inl ⟨rfl, ?_⟩)
          intro j hj
          rcases h3 with ⟨z, hz⟩ | h
          · by_cases c : j = k
            · rw [c]
              exact g4
            · exact hz j (by omega)
          · exact absurd (g3.symm.trans h.1) (by decide)
        · rw [if_neg g4]
          refine ih _ _ (k + 1) e1 (by omega) (by omega) (Or.inr ⟨rfl, ?_⟩)
          have := u_pI jl (i := k) (by omega) g4
          omega
      · rw [if_neg g3]
        refine ih _ _ (k + 1) e1 (by omega) (by omega) (Or.inr ⟨rfl, ?_⟩)
        rcases h3 with ⟨z, hz⟩ | h
        · exact absurd z g3
        · exact h.2
theorem V_ro4 {K_F_DR_root_L181 : Int32 → Int32 → (Nat → Int32) → (Int32 × Int32 × Int32 × Int64 × Int32 × Int32 × Int32 × Int32 × Int32 × Int32 × Int32 × (Nat → Int32) × (Nat → Int32) × (Nat → Int32) × (Nat → Int32) × (Nat → Int32) × (Nat → Int32) × (Nat → Int32) × (Nat → Int32))} {K_F_DR_root_L268 : Int32 → Int32 → Int32 → Int32 → Int64 → Int32 → Int32 → Int32 → Int32 → Int32 → Int32 → Int32 → (Nat → Int32) → (Nat → Int32) → (Nat → Int32) → (Int32 × Int32 × Int32 × Int64 × Int32 × Int32 × Int32 × Int32 × Int32 × Int32 × Int32 × (Nat → Int32) × (Nat → Int32) × (Nat → Int32) × (Nat → Int32) × (Nat → Int32) × (Nat → Int32) × (Nat → Int32) × (Nat → Int32))} {K_F_DR_root_L330 : Int32 → Int32 → Int32 → Int32 → Int64 → Int32 → Int32 → Int32 → Int32 → Int32 → Int32 → Int32 → (Nat → Int32) → (Nat → Int32) → (Nat → Int32) → (Int32 × Int32 × Int32 × Int64 × Int32 × Int32 × Int32 × Int32 × Int32 × Int32 × Int32 × (Nat → Int32) × (Nat → Int32) × (Nat → Int32) × (Nat → Int32) × (Nat → Int32) × (Nat → Int32) × (Nat → Int32) × (Nat → Int32))} {x2 : Int32} {x3 : Int32} {x4 : Int32} {x5 : Int32} {t0_0 : Int32} {t0_1 : Int32} {t0_2 : Int32} {t0_3 : Int64} {t0_4 : Int32} {t0_5 : Int32} {t0_6 : Int32} {t0_7 : Int32} {t0_8 : Int32} {t0_9 : Int32} {t0_10 : Int32} {t1_0 : (Nat → Int32)} {t2_0 : (Nat → Int32)} {t3_0 : (Nat → Int32)} {t4_0 : (Nat → Int32)} {t5_0 : (Nat → Int32)} {t6_0 : (Nat → Int32)} {t7_0 : (Nat → Int32)} {t8_0 : (Nat → Int32)} {lx48 : Int32} {a74 : Int32} {lx76 : Int64} {lx108 : Int32} {a126 : Int32} {lx128 : Int32} {lx150 : Int32} {lx151 : (Nat → Int32)} {lx171 : Int32} {lx172 : Int32} {lx173 : (Nat → Int32)} {lx198 : Int32} {lx199 : (Nat → Int32)} {lx240 : Int32} {lx241 : Int32} {lx242 : Int32} {lx243 : Int32} {lx244 : Int64} {lx245 : Int32} {lx246 : Int32} {lx247 : Int32} {lx248 : Int32} {lx249 : Int32} {lx250 : Int32} {lx251 : Int32} {lx252 : (Nat → Int32)} {lx253 : (Nat → Int32)} {lx254 : (Nat → Int32)} {lx294 : Int64} {lx315 : Int32} {lx316 : Int32} {lx317 : Int32} {lx318 : Int32} {lx319 : Int64} {lx320 : Int32} {lx321 : Int32} {lx322 : Int32} {lx323 : Int32} {lx324 : Int32} {lx325 : Int32} {lx326 : Int32} {lx327 : (Nat → Int32)} {lx328 : (Nat → Int32)} {lx329 : (Nat → Int32)} {P : (Int32 × Int32 × Int32 × Int64 × Int32 × Int32 × Int32 × Int32 × Int32 × Int32 × Int32 × (Nat → Int32) × (Nat → Int32) × (Nat → Int32) × (Nat → Int32) × (Nat → Int32) × (Nat → Int32) × (Nat → Int32) × (Nat → Int32)) → Prop} {A S r L : Int} {s i : Nat} (hJ : rJ A S lx48 lx316 lx318 lx319 lx324 lx326 lx327 lx329 s i r L) (hs : s ≤ 1000) (hS : -10000 ≤ S ∧ S ≤ 10000) (KK : ∀ (b c0 c1 c2 : Int32) (c3 : Int64) (c4 c5 c6 c7 c8 c9 c10 : Int32) (row un le : Nat → Int32) (r2 L2 : Int) (s2 i2 : Nat), rJ A S lx48 c0 c2 c3 c8 c10 row le s2 i2 r2 L2 → ((b = 0 ∧ L2 = 0) ∨ (b ≠ 0 ∧ s2 = s + 1)) → P (K_F_DR_root_L330 b c0 c1 c2 c3 c4 c5 c6 c7 c8 c9 c10 row un le)) : ∀ (n : Nat) (lx513 : Int32) (lx514 : Int32), ∀ k : Nat, lx513.toInt = (k : Int) → (k : Int) ≤ lx324.toInt → lx324.toInt < (n : Int) + (k : Int) → ((lx514 = 0 ∧ ∀ j, j < k → lx329 j = 0) ∨ (lx514 = 1 ∧ L ≠ 0)) → P (F_DR_root_L349 K_F_DR_root_L181 K_F_DR_root_L268 K_F_DR_root_L330 x2 x3 x4 x5 t0_0 t0_1 t0_2 t0_3 t0_4 t0_5 t0_6 t0_7 t0_8 t0_9 t0_10 t1_0 t2_0 t3_0 t4_0 t5_0 t6_0 t7_0 t8_0 lx48 a74 lx76 lx108 a126 lx128 lx150 lx151 lx171 lx172 lx173 lx198 lx199 lx240 lx241 lx242 lx243 lx244 lx245 lx246 lx247 lx248 lx249 lx250 lx251 lx252 lx253 lx254 lx294 lx315 lx316 lx317 lx318 lx319 lx320 lx321 lx322 lx323 lx324 lx325 lx326 lx327 lx328 lx329 n lx513 lx514) := by
  have hJ2 := hJ
  obtain ⟨j2, j1, j8, jr, jr0, jl, jv, jL, jP, jL2, j3, j0, j10⟩ := hJ2
  have c8 := q_clI (i := lx324) rfl j8.1
  have c2 := q_clI j2 (by omega)
  have x2c : lx318.toNatClampNeg = s := by omega
  intro n
  induction n with
  | zero =>
    intro lx513 lx514 k h0 h1 h2
    omega
  | succ n ih =>
    intro lx513 lx514 k h0 h1 h2 h3
    have kc := q_clI h0 (by omega)
    have kx : lx513.toNatClampNeg = k := by omega
    rw [F_DR_root_L349.eq_2, kx]
    by_cases g1 : lx324 ≤ lx513
    · rw [if_pos g1]
      have g2 := q_leI g1
      by_cases g3 : lx514 = 0
      · rw [if_pos g3]
        refine KK _ _ _ _ _ _ _ _ _ _ _ _ _ _ _ r L s i hJ (Or.inl ⟨g3, ?_⟩)
        rcases h3 with ⟨z, hz⟩ | h
        · rw [← jL]
          exact u_zer (fun i hi => hz i (by omega))
        · exact absurd (g3.symm.trans h.1) (by decide)
      · rw [if_neg g3]
        have hq := (T_DR_nextRoot (x2 := 0) (x3 := 0) (t0_0 := lx316) (t0_1 := lx317) (t0_2 := lx318) (t0_3 := lx319) (t0_4 := lx320) (t0_5 := lx321) (t0_6 := lx322) (t0_7 := lx323) (t0_8 := lx324) (t0_9 := lx325) (t0_10 := lx326) (t1_0 := lx327) (t2_0 := lx328) (t3_0 := lx329) ⟨by omega, by omega⟩ ⟨by omega, by omega⟩ (by rw [x2c]; exact jr) jl (by decide) (by decide)).2
        have hv := V_nextRoot (x2 := 0) (x3 := 0) (t0_0 := lx316) (t0_1 := lx317) (t0_2 := lx318) (t0_3 := lx319) (t0_4 := lx320) (t0_5 := lx321) (t0_6 := lx322) (t0_7 := lx323) (t0_8 := lx324) (t0_9 := lx325) (t0_10 := lx326) (t1_0 := lx327) (t2_0 := lx328) (t3_0 := lx329) (Z := lx324.toNatClampNeg) (x := 0) (y := 0) j2 hs jr jv (Or.inr jr0) (by omega) (by omega) jl jL jP jL2 rfl rfl (by decide) (by decide)
        generalize F_DR_nextRoot 0 0 lx316 lx317 lx318 lx319 lx320 lx321 lx322 lx323 lx324 lx325 lx326 lx327 lx328 lx329 = p at hq hv ⊢
        unfold F_DR_root_c394
        obtain ⟨⟨w0, w1, w3, w4, w5, w6, w9, w10⟩, w2, w8, wr, wl, wk, -⟩ := hq
        obtain ⟨r2, L2, v1, v2, v3, v4, -⟩ := hv
        have wc := q_clI (i := p.2.2.1) rfl (by omega)
        have wx : p.2.2.1.toNatClampNeg = s + 1 := by omega
        rw [wx] at wr
        refine KK _ _ _ _ _ _ _ _ _ _ _ _ _ _ _ r2 L2 (s + 1) (i + 1) ⟨by omega, ⟨by omega, by omega, by omega⟩, ⟨w8.1, by omega⟩, wr, ?_, wl, v1, v2, ?_, v4, ?_, w0.trans j0, w10.trans j10⟩ (Or.inr ⟨g3, rfl⟩)
        · rw [wk (by omega)]
          exact jr0
        · rw [v3, Int.pow_succ]
          grind
        · rw [q_addL (y := 1) ((congrArg Int64.toInt w3).trans j3) rfl (by omega) (by omega)]
          omega
    · rw [if_neg g1]
      have g2 := q_nleI g1
      have e1 : (lx513 + 1 : Int32).toInt = ((k + 1 : Nat) : Int) := by
        rw [q_addI (y := 1) h0 (by decide) (by omega) (by omega)]
        omega
      by_cases g3 : lx514 = 0
      · rw [if_pos g3]
        by_cases g4 : lx329 k = 0
        · rw [if_pos g4]
          refine ih _ _ (k + 1) e1 (by omega) (by omega) (Or.inl ⟨rfl, ?_⟩)
          intro j hj
          rcases h3 with ⟨z, hz⟩ | h
          · by_cases c : j = k
            · rw [c]
              exact g4
            · exact hz j (by omega)
          · exact absurd (g3.symm.trans h.1) (by decide)
        · rw [if_neg g4]
          refine ih _ _ (k + 1) e1 (by omega) (by omega) (Or.inr ⟨rfl, ?_⟩)
          have := u_pI jl (i := k) (by omega) g4
          omega
      · rw [if_neg g3]
        refine ih _ _ (k + 1) e1 (by omega) (by omega) (Or.inr ⟨rfl, ?_⟩)
        rcases h3 with ⟨z, hz⟩ | h
        · exact absurd z g3
        · exact h.2
theorem V_ro3 {K_F_DR_root_L181 : Int32 → Int32 → (Nat → Int32) → (Int32 × Int32 × Int32 × Int64 × Int32 × Int32 × Int32 × Int32 × Int32 × Int32 × Int32 × (Nat → Int32) × (Nat → Int32) × (Nat → Int32) × (Nat → Int32) × (Nat → Int32) × (Nat → Int32) × (Nat → Int32) × (Nat → Int32))} {K_F_DR_root_L268 : Int32 → Int32 → Int32 → Int32 → Int64 → Int32 → Int32 → Int32 → Int32 → Int32 → Int32 → Int32 → (Nat → Int32) → (Nat → Int32) → (Nat → Int32) → (Int32 × Int32 × Int32 × Int64 × Int32 × Int32 × Int32 × Int32 × Int32 × Int32 × Int32 × (Nat → Int32) × (Nat → Int32) × (Nat → Int32) × (Nat → Int32) × (Nat → Int32) × (Nat → Int32) × (Nat → Int32) × (Nat → Int32))} {x2 : Int32} {x3 : Int32} {x4 : Int32} {x5 : Int32} {t0_0 : Int32} {t0_1 : Int32} {t0_2 : Int32} {t0_3 : Int64} {t0_4 : Int32} {t0_5 : Int32} {t0_6 : Int32} {t0_7 : Int32} {t0_8 : Int32} {t0_9 : Int32} {t0_10 : Int32} {t1_0 : (Nat → Int32)} {t2_0 : (Nat → Int32)} {t3_0 : (Nat → Int32)} {t4_0 : (Nat → Int32)} {t5_0 : (Nat → Int32)} {t6_0 : (Nat → Int32)} {t7_0 : (Nat → Int32)} {t8_0 : (Nat → Int32)} {lx48 : Int32} {a74 : Int32} {lx76 : Int64} {lx108 : Int32} {a126 : Int32} {lx128 : Int32} {lx150 : Int32} {lx151 : (Nat → Int32)} {lx171 : Int32} {lx172 : Int32} {lx173 : (Nat → Int32)} {lx198 : Int32} {lx199 : (Nat → Int32)} {lx240 : Int32} {lx241 : Int32} {lx242 : Int32} {lx243 : Int32} {lx244 : Int64} {lx245 : Int32} {lx246 : Int32} {lx247 : Int32} {lx248 : Int32} {lx249 : Int32} {lx250 : Int32} {lx251 : Int32} {lx252 : (Nat → Int32)} {lx253 : (Nat → Int32)} {lx254 : (Nat → Int32)} {lx294 : Int64} {D : Nat → Int × Int} {a : Int × Int} {S : Int} {od p : Nat} (hD : dRv t1_0 t2_0 t3_0 t4_0 D) (hx3 : 0 ≤ x3.toInt ∧ x3.toInt ≤ 9) (h4 : x4.toInt = (p : Int)) (hp : 1 ≤ p ∧ p ≤ 1000) (hw : lx76.toInt = a.2 / 2) (ha2 : -10000 ≤ a.2 ∧ a.2 ≤ 10000) (a0 : 0 < a.1) (hS : a.2 = 2 * S - od) (hod : od ≤ 1) : ∀ (n : Nat) (lx315 : Int32) (lx316 : Int32) (lx317 : Int32) (lx318 : Int32) (lx319 : Int64) (lx320 : Int32) (lx321 : Int32) (lx322 : Int32) (lx323 : Int32) (lx324 : Int32) (lx325 : Int32) (lx326 : Int32) (lx327 : (Nat → Int32)) (lx328 : (Nat → Int32)) (lx329 : (Nat → Int32)), ∀ (r L : Int) (s i : Nat), rJ (a.1 * 10 ^ od) S lx48 lx316 lx318 lx319 lx324 lx326 lx327 lx329 s i r L → (lx315 = 0 → L = 0) → 0 < n → (lx315 ≠ 0 → 1003 < n + s) → ∃ o, sRt p x5 a o ∧ dAn x3 D o lx48 2 (F_DR_root_L330 K_F_DR_root_L181 K_F_DR_root_L268 x2 x3 x4 x5 t0_0 t0_1 t0_2 t0_3 t0_4 t0_5 t0_6 t0_7 t0_8 t0_9 t0_10 t1_0 t2_0 t3_0 t4_0 t5_0 t6_0 t7_0 t8_0 lx48 a74 lx76 lx108 a126 lx128 lx150 lx151 lx171 lx172 lx173 lx198 lx199 lx240 lx241 lx242 lx243 lx244 lx245 lx246 lx247 lx248 lx249 lx250 lx251 lx252 lx253 lx254 lx294 n lx315 lx316 lx317 lx318 lx319 lx320 lx321 lx322 lx323 lx324 lx325 lx326 lx327 lx328 lx329).1 (F_DR_root_L330 K_F_DR_root_L181 K_F_DR_root_L268 x2 x3 x4 x5 t0_0 t0_1 t0_2 t0_3 t0_4 t0_5 t0_6 t0_7 t0_8 t0_9 t0_10 t1_0 t2_0 t3_0 t4_0 t5_0 t6_0 t7_0 t8_0 lx48 a74 lx76 lx108 a126 lx128 lx150 lx151 lx171 lx172 lx173 lx198 lx199 lx240 lx241 lx242 lx243 lx244 lx245 lx246 lx247 lx248 lx249 lx250 lx251 lx252 lx253 lx254 lx294 n lx315 lx316 lx317 lx318 lx319 lx320 lx321 lx322 lx323 lx324 lx325 lx326 lx327 lx328 lx329).2.2.2.2.2.2.2.2.2.2.2.1 (F_DR_root_L330 K_F_DR_root_L181 K_F_DR_root_L268 x2 x3 x4 x5 t0_0 t0_1 t0_2 t0_3 t0_4 t0_5 t0_6 t0_7 t0_8 t0_9 t0_10 t1_0 t2_0 t3_0 t4_0 t5_0 t6_0 t7_0 t8_0 lx48 a74 lx76 lx108 a126 lx128 lx150 lx151 lx171 lx172 lx173 lx198 lx199 lx240 lx241 lx242 lx243 lx244 lx245 lx246 lx247 lx248 lx249 lx250 lx251 lx252 lx253 lx254 lx294 n lx315 lx316 lx317 lx318 lx319 lx320 lx321 lx322 lx323 lx324 lx325 lx326 lx327 lx328 lx329).2.2.2.2.2.2.2.2.2.2.2.2.1 (F_DR_root_L330 K_F_DR_root_L181 K_F_DR_root_L268 x2 x3 x4 x5 t0_0 t0_1 t0_2 t0_3 t0_4 t0_5 t0_6 t0_7 t0_8 t0_9 t0_10 t1_0 t2_0 t3_0 t4_0 t5_0 t6_0 t7_0 t8_0 lx48 a74 lx76 lx108 a126 lx128 lx150 lx151 lx171 lx172 lx173 lx198 lx199 lx240 lx241 lx242 lx243 lx244 lx245 lx246 lx247 lx248 lx249 lx250 lx251 lx252 lx253 lx254 lx294 n lx315 lx316 lx317 lx318 lx319 lx320 lx321 lx322 lx323 lx324 lx325 lx326 lx327 lx328 lx329).2.2.2.2.2.2.2.2.2.2.2.2.2.1 (F_DR_root_L330 K_F_DR_root_L181 K_F_DR_root_L268 x2 x3 x4 x5 t0_0 t0_1 t0_2 t0_3 t0_4 t0_5 t0_6 t0_7 t0_8 t0_9 t0_10 t1_0 t2_0 t3_0 t4_0 t5_0 t6_0 t7_0 t8_0 lx48 a74 lx76 lx108 a126 lx128 lx150 lx151 lx171 lx172 lx173 lx198 lx199 lx240 lx241 lx242 lx243 lx244 lx245 lx246 lx247 lx248 lx249 lx250 lx251 lx252 lx253 lx254 lx294 n lx315 lx316 lx317 lx318 lx319 lx320 lx321 lx322 lx323 lx324 lx325 lx326 lx327 lx328 lx329).2.2.2.2.2.2.2.2.2.2.2.2.2.2.1 := by
  intro n
  induction n with
  | zero =>
    intro lx315 lx316 lx317 lx318 lx319 lx320 lx321 lx322 lx323 lx324 lx325 lx326 lx327 lx328 lx329 r L s i hJ hb h0
    omega
  | succ n ih =>
    intro lx315 lx316 lx317 lx318 lx319 lx320 lx321 lx322 lx323 lx324 lx325 lx326 lx327 lx328 lx329 r L s i hJ hb h0 hm
    have hJ2 := hJ
    obtain ⟨j2, j1, j8, jr, jr0, jl, jv, jL, jP, jL2, j3, j0, j10⟩ := hJ2
    rw [F_DR_root_L330.eq_2]
    by_cases g1 : lx315 = 0
    · rw [if_pos g1]
      unfold F_DR_root_J410
      exact V_ro5 hD hx3 h4 hp hw ha2 a0 hS hod hJ (Or.inl (hb g1)) _ 0 0 0 rfl (by omega) (by have : (0 : Int32).toInt = 0 := rfl; omega) (Or.inl ⟨rfl, fun j hj => by omega⟩)
    · rw [if_neg g1]
      have m2 := hm g1
      by_cases g2 : x4 < lx318
      · rw [if_pos g2]
        have g3 := q_ltI g2
        unfold F_DR_root_J410
        exact V_ro5 hD hx3 h4 hp hw ha2 a0 hS hod hJ (Or.inr (by omega)) _ 0 0 0 rfl (by omega) (by have : (0 : Int32).toInt = 0 := rfl; omega) (Or.inl ⟨rfl, fun j hj => by omega⟩)
      · rw [if_neg g2]
        have g3 := q_nltI g2
        refine V_ro4 (P := fun q => ∃ o, sRt p x5 a o ∧ dAn x3 D o lx48 2 q.1 q.2.2.2.2.2.2.2.2.2.2.2.1 q.2.2.2.2.2.2.2.2.2.2.2.2.1 q.2.2.2.2.2.2.2.2.2.2.2.2.2.1 q.2.2.2.2.2.2.2.2.2.2.2.2.2.2.1) hJ (by omega) ⟨by omega, by omega⟩ (fun b c0 c1 c2 c3 c4 c5 c6 c7 c8 c9 c10 row un le r2 L2 s2 i2 k1 k2 => ?_) _ 0 0 0 rfl (by omega) (by have : (0 : Int32).toInt = 0 := rfl; omega) (Or.inl ⟨rfl, fun j hj => by omega⟩)
        refine ih _ _ _ _ _ _ _ _ _ _ _ _ _ _ _ r2 L2 s2 i2 k1 (fun z => ?_) (by omega) (fun nb => ?_)
        · rcases k2 with ⟨_, z2⟩ | ⟨z2, _⟩
          · exact z2
          · exact absurd z z2
        · rcases k2 with ⟨z, _⟩ | ⟨_, z⟩
          · exact absurd z nb
          · omega
